/-! AGENDAS: all orders of the reference -/
theorem ag_t {B : Nat → Nat → Int32} {s kd w0 : Nat → Int32} {q : Int32} {n mm : Nat} (h : RS_279 B s kd w0 q n mm) {N : Nat} {l l' : List Nat} {y : Int32} (hN : N < 6) (hr : ∀ j, j < N → B 292 j = nI (gl l j)) (no : ∀ X : Nat → Nat → Int32, (∀ j, j < N → X 292 j = nI (gl l j)) → q_X9_nextOrder_274 X (nI N) ∧ f_X9_nextOrder_274 X (nI N) = y ∧ ∀ j, j < N → g_X9_nextOrder_274 X (nI N) 292 j = nI (gl l' j)) (a w c4 c5 c6 : Int32) : qi_X9_agenda_274_46 B a w (nI N) c4 c5 c6 ∧ e_X9_agenda_274_46_c4 B a w (nI N) c4 c5 c6 = (if (fs kd w0 q n mm (gl l) s N).2.1 ≤ c4 then c4 else (fs kd w0 q n mm (gl l) s N).2.1) ∧ e_X9_agenda_274_46_c5 B a w (nI N) c4 c5 c6 = (if (fs kd w0 q n mm (gl l) s N).2.1 ≤ c4 then c5 else (fs kd w0 q n mm (gl l) s N).1) ∧ e_X9_agenda_274_46_c6 B a w (nI N) c4 c5 c6 = y ∧ RS_279 (e_X9_agenda_274_46_M B a w (nI N) c4 c5 c6) s kd w0 q n mm ∧ ∀ j, j < N → e_X9_agenda_274_46_M B a w (nI N) c4 c5 c6 292 j = nI (gl l' j) := by
  obtain ⟨q1, h4⟩ := RS_as h
  have fA : g_X9_asItIs_274 B 292 = B 292 := fr_g_X9_asItIs_274 B 292 (by decide)
  obtain ⟨k0, k1, k2, k3⟩ := ag_64 (l := gl l) h4 hN (fun j hj => by rw [fA]; exact hr j hj) a w (nI N) c4 c5 N (Nat.le_refl _)
  have f6 : (s_X9_agenda_274_64 (g_X9_asItIs_274 B) a w (nI N) c4 c5 0 0 N).2.2 292 = B 292 := (fr_s_X9_agenda_274_64 (g_X9_asItIs_274 B) a w (nI N) c4 c5 0 0 N 292 (by decide) (by decide)).trans fA
  obtain ⟨n1, n2, n3⟩ := no (s_X9_agenda_274_64 (g_X9_asItIs_274 B) a w (nI N) c4 c5 0 0 N).2.2 (fun j hj => by rw [f6]; exact hr j hj)
  have hR := RS_cong_279 (M' := e_X9_agenda_274_46_M B a w (nI N) c4 c5 c6) h (congrFun (fr_e_X9_agenda_274_46_M B a w (nI N) c4 c5 c6 274 (by decide) (by decide) (by decide)) 3) (congrFun (fr_e_X9_agenda_274_46_M B a w (nI N) c4 c5 c6 274 (by decide) (by decide) (by decide)) 4) (fr_e_X9_agenda_274_46_M B a w (nI N) c4 c5 c6 276 (by decide) (by decide) (by decide)) (fr_e_X9_agenda_274_46_M B a w (nI N) c4 c5 c6 278 (by decide) (by decide) (by decide)) (fr_e_X9_agenda_274_46_M B a w (nI N) c4 c5 c6 279 (by decide) (by decide) (by decide))
  refine ⟨?_, ?_, ?_, ?_, hR, ?_⟩
  · unfold qi_X9_agenda_274_46
    rw [nI_clamp (by omega)]
    exact ⟨fun _ => q1, fun _ => k0, fun _ _ => n1, fun _ _ => n1, trivial⟩
  · unfold e_X9_agenda_274_46_c4
    rw [nI_clamp (by omega), k1]
  · unfold e_X9_agenda_274_46_c5
    rw [nI_clamp (by omega), k1, k2]
  · unfold e_X9_agenda_274_46_c6
    rw [nI_clamp (by omega)]
    exact n2
  · intro j hj
    unfold e_X9_agenda_274_46_M
    rw [nI_clamp (by omega)]
    exact n3 j hj
theorem ok_all {st : Nat} (h : st < 256) (h5 : pc st < 6) : okS st = true := by
  have key : ∀ c, (∀ x, x < 32 → 5 < pc (x + c) ∨ okS (x + c) = true) → c ≤ st → st < c + 32 → okS st = true := fun c hc h1 h2 => by
    have := hc (st - c) (by omega)
    rw [show st - c + c = st by omega] at this
    rcases this with z | z
    · omega
    · exact z
  by_cases a1 : st < 32
  · exact key 0 ok_0 (by omega) (by omega)
  · by_cases a2 : st < 64
    · exact key 32 ok_1 (by omega) (by omega)
    · by_cases a3 : st < 96
      · exact key 64 ok_2 (by omega) (by omega)
      · by_cases a4 : st < 128
        · exact key 96 ok_3 (by omega) (by omega)
        · by_cases a5 : st < 160
          · exact key 128 ok_4 (by omega) (by omega)
          · by_cases a6 : st < 192
            · exact key 160 ok_5 (by omega) (by omega)
            · by_cases a7 : st < 224
              · exact key 192 ok_6 (by omega) (by omega)
              · exact key 224 ok_7 (by omega) (by omega)
theorem fct_b : ∀ b, b < 6 → 1 ≤ fct b ∧ fct b ≤ 120 := by decide
theorem ag_46 {A : Nat → Nat → Int32} {s kd w0 : Nat → Int32} {q : Int32} {n mm : Nat} (h : RS_279 A s kd w0 q n mm) {N st : Nat} (hN : N < 6) (hr : ∀ j, j < N → A 292 j = nI (gl (unr N st 0) j)) (hd : dsc N (unr N st (fct N - 1)) = true) (hk : ∀ K, K < fct N - 1 → chkk N (unr N st K) (unr N st (K + 1)) (pvt (unr N st K) N) (scc (unr N st K) N (pvt (unr N st K) N)) = true) (a w : Int32) : ∀ K, (∀ i, i < K → qi_X9_agenda_274_46 (s_X9_agenda_274_46 A a w (nI N) (-1) 0 1 i).2.2.2 a w (nI N) (s_X9_agenda_274_46 A a w (nI N) (-1) 0 1 i).1 (s_X9_agenda_274_46 A a w (nI N) (-1) 0 1 i).2.1 (s_X9_agenda_274_46 A a w (nI N) (-1) 0 1 i).2.2.1) ∧ RS_279 (s_X9_agenda_274_46 A a w (nI N) (-1) 0 1 K).2.2.2 s kd w0 q n mm ∧ (∀ j, j < N → (s_X9_agenda_274_46 A a w (nI N) (-1) 0 1 K).2.2.2 292 j = nI (gl (unr N st (if K < fct N then K else fct N - 1)) j)) ∧ (s_X9_agenda_274_46 A a w (nI N) (-1) 0 1 K).2.2.1 = (if K < fct N then 1 else 0) ∧ (K ≤ fct N → (s_X9_agenda_274_46 A a w (nI N) (-1) 0 1 K).1 = (bst kd w0 q n mm s N st K).1 ∧ (s_X9_agenda_274_46 A a w (nI N) (-1) 0 1 K).2.1 = (bst kd w0 q n mm s N st K).2) := by
  have hf := fct_b N hN
  intro K
  induction K with
  | zero => exact ⟨fun i hi => absurd hi (by omega), h, by rw [if_pos (by omega)]; exact hr, by rw [if_pos (by omega)]; rfl, fun _ => ⟨rfl, rfl⟩⟩
  | succ K ih =>
    obtain ⟨i0, i1, i2, i3, i4⟩ := ih
    have hs : s_X9_agenda_274_46 A a w (nI N) (-1) 0 1 (K + 1) = (e_X9_agenda_274_46_c4 (s_X9_agenda_274_46 A a w (nI N) (-1) 0 1 K).2.2.2 a w (nI N) (s_X9_agenda_274_46 A a w (nI N) (-1) 0 1 K).1 (s_X9_agenda_274_46 A a w (nI N) (-1) 0 1 K).2.1 (s_X9_agenda_274_46 A a w (nI N) (-1) 0 1 K).2.2.1, e_X9_agenda_274_46_c5 (s_X9_agenda_274_46 A a w (nI N) (-1) 0 1 K).2.2.2 a w (nI N) (s_X9_agenda_274_46 A a w (nI N) (-1) 0 1 K).1 (s_X9_agenda_274_46 A a w (nI N) (-1) 0 1 K).2.1 (s_X9_agenda_274_46 A a w (nI N) (-1) 0 1 K).2.2.1, e_X9_agenda_274_46_c6 (s_X9_agenda_274_46 A a w (nI N) (-1) 0 1 K).2.2.2 a w (nI N) (s_X9_agenda_274_46 A a w (nI N) (-1) 0 1 K).1 (s_X9_agenda_274_46 A a w (nI N) (-1) 0 1 K).2.1 (s_X9_agenda_274_46 A a w (nI N) (-1) 0 1 K).2.2.1, e_X9_agenda_274_46_M (s_X9_agenda_274_46 A a w (nI N) (-1) 0 1 K).2.2.2 a w (nI N) (s_X9_agenda_274_46 A a w (nI N) (-1) 0 1 K).1 (s_X9_agenda_274_46 A a w (nI N) (-1) 0 1 K).2.1 (s_X9_agenda_274_46 A a w (nI N) (-1) 0 1 K).2.2.1) := rfl
    have no : ∀ X : Nat → Nat → Int32, (∀ j, j < N → X 292 j = nI (gl (unr N st (if K < fct N then K else fct N - 1)) j)) → q_X9_nextOrder_274 X (nI N) ∧ f_X9_nextOrder_274 X (nI N) = (if K + 1 < fct N then 1 else 0) ∧ ∀ j, j < N → g_X9_nextOrder_274 X (nI N) 292 j = nI (gl (unr N st (if K + 1 < fct N then K + 1 else fct N - 1)) j) := fun X hX => by
      by_cases c : K + 1 < fct N
      · rw [if_pos (show K < fct N by omega)] at hX
        rw [if_pos c, if_pos c]
        exact no_k (by omega) hX (hk K (by omega))
      · rw [if_neg c, if_neg c]
        have e : (if K < fct N then K else fct N - 1) = fct N - 1 := by
          by_cases c2 : K < fct N
          · rw [if_pos c2]; omega
          · rw [if_neg c2]
        rw [e] at hX
        obtain ⟨z1, z2, z3⟩ := no_d (M := X) (by omega) hX hd
        exact ⟨z1, z2, fun j hj => by rw [z3]; exact hX j hj⟩
    obtain ⟨t1, t2, t3, t4, t5, t6⟩ := ag_t i1 hN i2 no a w (s_X9_agenda_274_46 A a w (nI N) (-1) 0 1 K).1 (s_X9_agenda_274_46 A a w (nI N) (-1) 0 1 K).2.1 (s_X9_agenda_274_46 A a w (nI N) (-1) 0 1 K).2.2.1
    refine ⟨fun i hi => ?_, ?_⟩
    · by_cases c : i = K
      · subst c; exact t1
      · exact i0 i (by omega)
    · rw [hs]
      clear hs i0 t1 i2 i3 no
      refine ⟨t5, t6, t4, fun hK => ?_⟩
      obtain ⟨j1, j2⟩ := i4 (by omega)
      dsimp only
      rw [t2, t3, bst_s, if_pos (show K < fct N by omega), j1, j2]
      by_cases c : (fs kd w0 q n mm (gl (unr N st K)) s N).2.1 ≤ (bst kd w0 q n mm s N st K).1
      · rw [if_pos c, if_pos c, if_pos c]; exact ⟨rfl, rfl⟩
      · rw [if_neg c, if_neg c, if_neg c]; exact ⟨rfl, rfl⟩
theorem ag_r {M : Nat → Nat → Int32} {s kd w0 : Nat → Int32} {q : Int32} {n mm : Nat} (h : RS_279 M s kd w0 q n mm) {st : Nat} (hst : st < 256) (h5 : pc st < 6) {w : Int32} (a1 : ¬ f_X9_in M (nI st) 0 255 = 0) (a2 : ¬ f_X9_in M w 0 1 = 0) : q_X9_agenda_274 M (nI st) w ∧ f_X9_agenda_274 M (nI st) w = if ¬ w = 0 then (bst kd w0 q n mm s (pc st) st (fct (pc st))).2 else (bst kd w0 q n mm s (pc st) st (fct (pc st))).1 := by
  obtain ⟨b1, b2⟩ := bc_r M (x := st) (by omega)
  have b3 : ¬ (5 : Int32) < nI (pc st) := fun z => by
    have := (nI_ltI (a := 5) (by decide) (by omega)).mp z
    omega
  obtain ⟨o1, o2, o3, o4⟩ := okS_h (ok_all hst h5)
  obtain ⟨k0, _, k2, k3⟩ := rk_r M hst 8 (Nat.le_refl _)
  have r1 : q_X9_ranks_274 M (nI st) := ⟨k0, trivial⟩
  have r2 : f_X9_ranks_274 M (nI st) = nI (pc st) := by rw [← o1]; exact k2
  have r3 : ∀ j, j < pc st → g_X9_ranks_274 M (nI st) 292 j = nI (gl (unr (pc st) st 0) j) := fun j hj => by
    rw [← o2]; exact k3 j (by omega)
  have rf : ∀ c, c ≠ 292 → g_X9_ranks_274 M (nI st) c = M c := fun c hc => fr_g_X9_ranks_274 M (nI st) c hc
  have hA := RS_cong_279 (M' := g_X9_ranks_274 M (nI st)) h (congrFun (rf 274 (by decide)) 3) (congrFun (rf 274 (by decide)) 4) (rf 276 (by decide)) (rf 278 (by decide)) (rf 279 (by decide))
  unfold q_X9_agenda_274 f_X9_agenda_274
  rw [b2, if_neg a1, if_neg b3, if_pos a2, r2]
  clear k0 k2 k3 rf o1 o2
  generalize g_X9_ranks_274 M (nI st) = A at *
  generalize pc st = N at *
  have hf := fct_b N h5
  have AG := ag_46 hA h5 r3 o3 o4 (nI st) w
  have tt : ∀ K, t_X9_agenda_274_46 (s_X9_agenda_274_46 A (nI st) w (nI N) (-1) 0 1 K).2.2.2 (nI st) w (nI N) (s_X9_agenda_274_46 A (nI st) w (nI N) (-1) 0 1 K).1 (s_X9_agenda_274_46 A (nI st) w (nI N) (-1) 0 1 K).2.1 (s_X9_agenda_274_46 A (nI st) w (nI N) (-1) 0 1 K).2.2.1 = decide (K < fct N) := fun K => by
    unfold t_X9_agenda_274_46
    rw [(AG K).2.2.2.1]
    by_cases c : K < fct N
    · rw [if_pos c, decide_eq_true c, if_neg (by decide)]
    · rw [if_neg c, decide_eq_false c, if_pos rfl]
  have eN : n_X9_agenda_274_46 A (nI st) w (nI N) (-1) 0 1 = fct N := by
    unfold n_X9_agenda_274_46
    refine z_fst_eq (by omega) (fun k hk => ?_) ?_
    · rw [tt k]; exact decide_eq_true hk
    · rw [tt]; exact decide_eq_false (by omega)
  rw [eN]
  clear eN
  obtain ⟨y0, y1, y2, y3, y4⟩ := AG (fct N)
  have y3' : (s_X9_agenda_274_46 A (nI st) w (nI N) (-1) 0 1 (fct N)).2.2.1 = 0 := by rw [y3, if_neg (by omega)]
  refine ⟨⟨fun _ => b1, fun _ _ _ => r1, fun _ _ _ => y0, fun _ _ _ => ?_, fun _ _ _ c => absurd y3' c, fun _ _ _ c => absurd y3' c, fun _ _ _ c => absurd y3' c, fun _ _ _ c => absurd y3' c, trivial⟩, ?_⟩
  · rw [tt]; exact decide_eq_false (by omega)
  · rw [(y4 (Nat.le_refl _)).1, (y4 (Nat.le_refl _)).2]
theorem s_agenda {bd : Nat} {M : Nat → Nat → Int32} {L : Nat → Nat → Int64} (h : RR (bd + 20) M L) (a yy : Int32) : ST bd 91 168 [.int a, .int yy] M L := by
  have h0 := h
  obtain ⟨s, kd, sd, w, q, n, mm, cnt, e, P, ns, kp, I, nj, sj, seed, len, tx, fl, sc, ec, pp, h1, h2, h3⟩ := h
  have e1 : ∀ N, f_X9_in N a 0 255 = if f_X8_isOutside M a 256 = 0 then 1 else 0 := fun N => io_eq N M a 255 (by decide)
  have e2 : ∀ N, f_X9_in N yy 0 1 = if f_X8_isOutside M yy 2 = 0 then 1 else 0 := fun N => io_eq N M yy 1 (by decide)
  have out : f_X8_agenda_0 M a yy = -1000000002 → g_X8_agenda_0 M a yy = M → q_X8_agenda_0 M a yy → f_X9_agenda_274 M a yy = -1000000002 → g_X9_agenda_274 M a yy = M → q_X9_agenda_274 M a yy → ST bd 91 168 [.int a, .int yy] M L := fun f8 g8 q8 f9 g9 q9 => by
    have c8 := c_X8_agenda_0 (d := 3) (L := L) M a yy q8
    have c9 := c_X9_agenda_274 (d := 2) (L := L) M a yy q9
    rw [g8] at c8
    rw [g9] at c9
    exact ST_q h0 c8 c9 (by rw [f8, f9]) (fun c _ => rfl) (fun c _ => rfl)
  by_cases a1 : f_X8_isOutside M a 256 = 0
  · obtain ⟨st, hst, rfl⟩ := oi_k (N := 256) (by decide) a1
    obtain ⟨b1, b2⟩ := bc_r M (x := st) (by omega)
    by_cases a3 : (5 : Int32) < nI (pc st)
    · refine out ?_ ?_ ⟨fun _ z => absurd (by rw [bc_c M (by omega)]; exact a3) z, trivial⟩ ?_ ?_ ?_
      · unfold f_X8_agenda_0; rw [a1, if_neg (not_not_intro rfl), bc_c M (by omega), if_pos a3]
      · unfold g_X8_agenda_0; rw [a1, if_neg (not_not_intro rfl), bc_c M (by omega), if_pos a3]
      · unfold f_X9_agenda_274; rw [e1, if_pos a1, if_neg c10, b2, if_pos a3]
      · unfold g_X9_agenda_274; rw [e1, if_pos a1, if_neg c10, b2, if_pos a3]
      · unfold q_X9_agenda_274
        rw [b2]
        exact ⟨fun _ => b1, fun _ z => absurd a3 z, fun _ z => absurd a3 z, fun _ z => absurd a3 z, fun _ z => absurd a3 z, fun _ z => absurd a3 z, fun _ z => absurd a3 z, fun _ z => absurd a3 z, trivial⟩
    · by_cases a2 : f_X8_isOutside M yy 2 = 0
      · have h5 : pc st < 6 := by
          have hp : pc st < 4096 := Nat.lt_of_le_of_lt (pc_12 st) (by decide)
          have := mt (nI_ltI (a := 5) (b := pc st) (by decide) (by omega)).mpr a3
          omega
        obtain ⟨p1, p2, p3⟩ := fa_c h1.1 hst h5
        have q8 : q_X8_agenda_0 M (nI st) yy := ⟨fun _ _ _ => p1, trivial⟩
        have f8 : f_X8_agenda_0 M (nI st) yy = if ¬ yy = 0 then (bst kd w q n mm s (pc st) st (fct (pc st))).2 else (bst kd w q n mm s (pc st) st (fct (pc st))).1 := by
          unfold f_X8_agenda_0
          rw [a1, if_neg (not_not_intro rfl), bc_c M (by omega), if_neg a3, if_pos a2, p2, p3]
        have fr : ∀ c, (c < 28 ∨ 48 < c) ∧ (c < 268 ∨ 273 < c) → g_X8_agenda_0 M (nI st) yy c = M c := fun c hc => fr_g_X8_agenda_0 M (nI st) yy c (by omega) (by omega) (by omega) (by omega) (by omega) (by omega) (by omega) (by omega) (by omega) (by omega) (by omega) (by omega) (by omega) (by omega) (by omega) (by omega)
        have c8 := c_X8_agenda_0 (d := 3) (L := L) M (nI st) yy q8
        have h2' := Rr_c (M' := g_X8_agenda_0 M (nI st) yy) h2 (fun c hc => fr c (by omega))
        generalize g_X8_agenda_0 M (nI st) yy = N at *
        obtain ⟨r1, r2⟩ := ag_r h2'.1 hst h5 (w := yy) (by rw [e1, if_pos a1]; exact c10) (by rw [e2, if_pos a2]; exact c10)
        exact ST_q h0 c8 (c_X9_agenda_274 (d := 2) (L := L) N (nI st) yy r1) (by rw [f8, r2]) (fun c hc => fr c (by omega)) (fun c hc => fr_g_X9_agenda_274 N (nI st) yy c (by omega) (by omega) (by omega))
      · have z2 : f_X9_in M yy 0 1 = 0 := by rw [e2, if_neg a2]
        refine out ?_ ?_ ⟨fun _ _ z => absurd z a2, trivial⟩ ?_ ?_ ?_
        · unfold f_X8_agenda_0; rw [a1, if_neg (not_not_intro rfl), bc_c M (by omega), if_neg a3, if_neg a2]
        · unfold g_X8_agenda_0; rw [a1, if_neg (not_not_intro rfl), bc_c M (by omega), if_neg a3, if_neg a2]
        · unfold f_X9_agenda_274; rw [e1, if_pos a1, if_neg c10, b2, if_neg a3, z2, if_neg (not_not_intro rfl)]
        · unfold g_X9_agenda_274; rw [e1, if_pos a1, if_neg c10, b2, if_neg a3, z2, if_neg (not_not_intro rfl)]
        · exact ⟨fun _ => b1, fun _ _ z => absurd z2 z, fun _ _ z => absurd z2 z, fun _ _ z => absurd z2 z, fun _ _ z => absurd z2 z, fun _ _ z => absurd z2 z, fun _ _ z => absurd z2 z, fun _ _ z => absurd z2 z, trivial⟩
  · have z1 : f_X9_in M a 0 255 = 0 := by rw [e1, if_neg a1]
    refine out ?_ ?_ ⟨fun z => absurd z a1, trivial⟩ ?_ ?_ ?_
    · unfold f_X8_agenda_0; rw [if_pos a1]
    · unfold g_X8_agenda_0; rw [if_pos a1]
    · unfold f_X9_agenda_274; rw [z1, if_pos rfl]
    · unfold g_X9_agenda_274; rw [z1, if_pos rfl]
    · exact ⟨fun z => absurd z1 z, fun z => absurd z1 z, fun z => absurd z1 z, fun z => absurd z1 z, fun z => absurd z1 z, fun z => absurd z1 z, fun z => absurd z1 z, fun z => absurd z1 z, trivial⟩
