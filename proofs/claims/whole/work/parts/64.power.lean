/-! WHO TURNS THE ORDERS: both -/
theorem pc63 : ∀ F, F < 63 → pc F < 6 := by decide +kernel
theorem okS_64 {F : Nat} (h : F < 64) : okS F = true := by
  by_cases c : F < 63
  · exact ok_all (by omega) (pc63 F c)
  · rw [show F = 63 by omega]; exact ok_63
theorem po_r {M : Nat → Nat → Int32} {s kd w : Nat → Int32} {q : Int32} {n mm : Nat} (h : RS_279 M s kd w q n mm) {m : Nat} (hm : m < mm) (t : Int32) (a1 : ¬ f_X9_isMember_274 M (nI m) = 0) (a2 : ¬ f_X9_isMatter M t = 0) : q_X9_power_274 M (nI m) t ∧ f_X9_power_274 M (nI m) t = pwr kd w s n mm t m := by
  have h6 := h.1.2.2
  obtain ⟨k0, k1, k2⟩ := po_29 h (nI m) t mm (Nat.le_refl _)
  have k2' : (s_X9_power_274_29 M (nI m) t 0 0 mm).2 = nI (Fs w s n mm t) := k2
  clear k2
  have hF := Fs_lt w s n h6 t
  have tb : (Fs w s n mm t).testBit m = decide (gos w s n m t = 1) := by unfold Fs; rw [bN_tb, decide_eq_true hm, Bool.true_and]
  obtain ⟨o1, o2, o3, o4⟩ := okS_h (okS_64 hF)
  have hp := pc6 _ hF
  obtain ⟨z0, _, z2, z3⟩ := rk_r M (st := Fs w s n mm t) (by omega) 8 (Nat.le_refl _)
  have r1 : q_X9_ranks_274 M (nI (Fs w s n mm t)) := ⟨z0, trivial⟩
  have r2 : f_X9_ranks_274 M (nI (Fs w s n mm t)) = nI (pc (Fs w s n mm t)) := by rw [← o1]; exact z2
  have r3 : ∀ j, j < pc (Fs w s n mm t) → g_X9_ranks_274 M (nI (Fs w s n mm t)) 292 j = nI (gl (unr (pc (Fs w s n mm t)) (Fs w s n mm t) 0) j) := fun j hj => by
    rw [← o2]; exact z3 j (by omega)
  have rf : ∀ c, c ≠ 292 → g_X9_ranks_274 M (nI (Fs w s n mm t)) c = M c := fun c hc => fr_g_X9_ranks_274 M _ c hc
  have hA := RS_cong_279 (M' := g_X9_ranks_274 M (nI (Fs w s n mm t))) h (congrFun (rf 274 (by decide)) 3) (congrFun (rf 274 (by decide)) 4) (rf 276 (by decide)) (rf 278 (by decide)) (rf 279 (by decide))
  have pw : (Fs w s n mm t).testBit m = true → sm (fct (pc (Fs w s n mm t))) (fun K => ps (v8 kd w s n t) mm (sm mm (v8 kd w s n t)) (v8 kd w s n t m) (amk (Fs w s n mm t) m K)) = sm 64 (fun A => nI (wtA (Fs w s n mm t) m A) * ps (v8 kd w s n t) mm (sm mm (v8 kd w s n t)) (v8 kd w s n t m) A) ∧ ∀ K', K' < fct (pc (Fs w s n mm t)) → okp (Fs w s n mm t) m (pc (Fs w s n mm t)) (unr (pc (Fs w s n mm t)) (Fs w s n mm t) K') = true := fun ht => by
    refine ⟨pw_eq hF (by omega) ht _, ?_⟩
    have hh := okP_all hF (show m < 6 by omega) ht
    unfold okP at hh
    rw [Bool.and_eq_true, List.all_eq_true] at hh
    intro K' hK'
    have := hh.1 K' (List.mem_range.mpr hK')
    rw [Bool.and_eq_true] at this
    exact this.1
  have h4 := h.1.2.1
  unfold q_X9_power_274 f_X9_power_274 pwr
  rw [h4, nI_clamp (by omega), k1, k2', r2, hasr_tb M (by omega) (by omega), if_pos a1, if_pos a2]
  clear z0 z2 z3 o1 o2 rf r2 k1 k2' h4
  generalize g_X9_ranks_274 M (nI (Fs w s n mm t)) = A at *
  generalize hal : sm mm (v8 kd w s n t) = al at *
  have PO := fun c60 => po_118 hA hm hp rfl rfl r3 o3 o4 al c60
  generalize hFe : Fs w s n mm t = F at *
  generalize hNe : pc F = N at *
  have hf := fct_720 N hp
  by_cases c : gos w s n m t = 1
  · rw [decide_eq_true c] at tb
    obtain ⟨pw1, pw2⟩ := pw tb
    rw [tb, if_pos rfl, if_pos c, ← pw1]
    have PO1 := PO 1
    clear PO pw
    have tt : ∀ K, t_X9_power_274_118 (s_X9_power_274_118 A (nI m) t al (nI N) 0 1 K).2.2 (nI m) t al (nI N) (s_X9_power_274_118 A (nI m) t al (nI N) 0 1 K).1 (s_X9_power_274_118 A (nI m) t al (nI N) 0 1 K).2.1 = decide (K < fct N) := fun K => by
      unfold t_X9_power_274_118
      rw [(PO1 K).2.2.1]
      by_cases c1 : K < fct N
      · rw [if_pos c1, decide_eq_true c1]
        by_cases c2 : K = 0
        · rw [if_pos c2, if_neg c10]
        · rw [if_neg c2, if_neg c10]
      · rw [if_neg (show ¬ K = 0 by omega), if_neg c1, decide_eq_false c1, if_pos rfl]
    have eN : n_X9_power_274_118 A (nI m) t al (nI N) 0 1 = fct N := by
      unfold n_X9_power_274_118
      refine z_fst_eq (by omega) (fun k hk => ?_) ?_
      · rw [tt k]; exact decide_eq_true hk
      · rw [tt]; exact decide_eq_false (by omega)
    rw [eN]
    clear eN
    obtain ⟨y1, y2, y3, y4⟩ := PO1 (fct N)
    obtain ⟨y5, y6⟩ := y4 pw2
    have y3' : (s_X9_power_274_118 A (nI m) t al (nI N) 0 1 (fct N)).2.1 = 0 := by rw [y3, if_neg (by omega), if_neg (by omega)]
    exact ⟨⟨fun _ _ => k0, fun _ _ => r1, fun _ _ => y5, fun _ _ => by rw [tt]; exact decide_eq_false (by omega), fun _ _ z => absurd y3' z, fun _ _ z => absurd y3' z, fun _ _ z => absurd y3' z, trivial⟩, y6 (Nat.le_refl _)⟩
  · rw [decide_eq_false c] at tb
    rw [tb, if_neg (by decide), if_neg c]
    have PO1 := PO 0
    clear PO pw
    have eN : n_X9_power_274_118 A (nI m) t al (nI N) 0 0 = 0 := by
      unfold n_X9_power_274_118
      refine z_fst_eq (by omega) (fun k hk => absurd hk (by omega)) ?_
      unfold t_X9_power_274_118
      rw [(PO1 0).2.2.1, if_pos rfl, if_pos rfl]
    rw [eN]
    clear eN
    have y3' : (s_X9_power_274_118 A (nI m) t al (nI N) 0 0 0).2.1 = 0 := rfl
    refine ⟨⟨fun _ _ => k0, fun _ _ => r1, fun _ _ k hk => absurd hk (by omega), fun _ _ => ?_, fun _ _ z => absurd y3' z, fun _ _ z => absurd y3' z, fun _ _ z => absurd y3' z, trivial⟩, rfl⟩
    unfold t_X9_power_274_118
    rw [(PO1 721).2.2.1, if_neg (show ¬ (721 : Nat) = 0 by decide), if_neg (show ¬ 721 < fct N by omega), if_pos rfl]
theorem s_power {bd : Nat} {M : Nat → Nat → Int32} {L : Nat → Nat → Int64} (h : RR (bd + 20) M L) (m t : Int32) : ST bd 92 169 [.int m, .int t] M L := by
  have h0 := h
  obtain ⟨s, kd, sd, w, q, n, mm, cnt, e, P, ns, kp, I, nj, sj, seed, len, tx, fl, sc, ec, pp, h1, h2, h3⟩ := h
  have h6 := h1.1.1.2.1
  have h15 := h1.1.1.1
  have e1 : ∀ N : Nat → Nat → Int32, N 274 4 = nI mm → f_X9_isMember_274 N m = if f_X8_isOutside M m (nI mm) = 0 then 1 else 0 := fun N hN => mb_eq m hN (by omega)
  have e2 : ∀ N, f_X9_isMatter N t = if f_X8_isOutside M t 8 = 0 then 1 else 0 := fun N => mt_eq N M t
  have h4 := h2.1.1.2.1
  have out : ∀ v, f_X8_power_0 M m t = v → g_X8_power_0 M m t = M → q_X8_power_0 M m t → f_X9_power_274 M m t = v → g_X9_power_274 M m t = M → q_X9_power_274 M m t → ST bd 92 169 [.int m, .int t] M L := fun v f8 g8 q8 f9 g9 q9 => by
    have c8 := c_X8_power_0 (d := 5) (L := L) M m t q8
    have c9 := c_X9_power_274 (d := 5) (L := L) M m t q9
    rw [g8] at c8
    rw [g9] at c9
    exact ST_q h0 c8 c9 (by rw [f8, f9]) (fun c _ => rfl) (fun c _ => rfl)
  by_cases a1 : f_X8_isOutside M m (nI mm) = 0
  · have b1 : ¬ f_X9_isMember_274 M m = 0 := by rw [e1 M h4, if_pos a1]; exact c10
    by_cases a2 : f_X8_isOutside M t 8 = 0
    · obtain ⟨k, hk, rfl⟩ := oi_k (N := mm) (by omega) a1
      obtain ⟨p1, p2⟩ := po_c h1.1 hk t
      have q8 : q_X8_power_0 M (nI k) t := ⟨fun _ _ => p1, trivial⟩
      have f8 : f_X8_power_0 M (nI k) t = pwr kd w s n mm t k := by
        unfold f_X8_power_0
        rw [h15, if_pos a1, if_pos a2, p2]
      have fr : ∀ c, (c < 28 ∨ 48 < c) ∧ (c < 268 ∨ 273 < c) → g_X8_power_0 M (nI k) t c = M c := fun c hc => fr_g_X8_power_0 M (nI k) t c (by omega) (by omega) (by omega) (by omega) (by omega) (by omega) (by omega)
      have c8 := c_X8_power_0 (d := 5) (L := L) M (nI k) t q8
      have h2' := Rr_c (M' := g_X8_power_0 M (nI k) t) h2 (fun c hc => fr c (by omega))
      generalize g_X8_power_0 M (nI k) t = N at *
      obtain ⟨r1, r2⟩ := po_r h2'.1 hk t (by rw [e1 N h2'.1.1.2.1, if_pos a1]; exact c10) (by rw [e2, if_pos a2]; exact c10)
      exact ST_q h0 c8 (c_X9_power_274 (d := 5) (L := L) N (nI k) t r1) (by rw [f8, r2]) (fun c hc => fr c (by omega)) (fun c hc => fr_g_X9_power_274 N (nI k) t c (by omega))
    · have z2 : f_X9_isMatter M t = 0 := by rw [e2, if_neg a2]
      refine out (-1000000002) ?_ ?_ ⟨fun _ z => absurd z a2, trivial⟩ ?_ ?_ ?_
      · unfold f_X8_power_0; rw [h15, if_pos a1, if_neg a2]
      · unfold g_X8_power_0; rw [h15, if_pos a1, if_neg a2]
      · unfold f_X9_power_274; rw [if_pos b1, z2, if_neg (not_not_intro rfl)]
      · unfold g_X9_power_274; rw [if_pos b1, z2, if_neg (not_not_intro rfl)]
      · exact ⟨fun _ z => absurd z2 z, fun _ z => absurd z2 z, fun _ z => absurd z2 z, fun _ z => absurd z2 z, fun _ z => absurd z2 z, fun _ z => absurd z2 z, fun _ z => absurd z2 z, trivial⟩
  · have z1 : f_X9_isMember_274 M m = 0 := by rw [e1 M h4, if_neg a1]
    refine out (-1000000001) ?_ ?_ ⟨fun z => absurd (by rw [← h15]; exact z) a1, trivial⟩ ?_ ?_ ?_
    · unfold f_X8_power_0; rw [h15, if_neg a1]
    · unfold g_X8_power_0; rw [h15, if_neg a1]
    · unfold f_X9_power_274; rw [z1, if_neg (not_not_intro rfl)]
    · unfold g_X9_power_274; rw [z1, if_neg (not_not_intro rfl)]
    · exact ⟨fun z => absurd z1 z, fun z => absurd z1 z, fun z => absurd z1 z, fun z => absurd z1 z, fun z => absurd z1 z, fun z => absurd z1 z, fun z => absurd z1 z, trivial⟩
