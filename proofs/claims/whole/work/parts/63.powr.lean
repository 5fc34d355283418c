/-! WHO TURNS THE ORDERS: the reference -/
theorem po_29 {M : Nat → Nat → Int32} {s kd w : Nat → Int32} {q : Int32} {n mm : Nat} (h : RS_279 M s kd w q n mm) (m t : Int32) : ∀ k, k ≤ mm → (∀ i, i < k → qi_X9_power_274_29 M m t (nI i) (s_X9_power_274_29 M m t 0 0 i).1 (s_X9_power_274_29 M m t 0 0 i).2) ∧ (s_X9_power_274_29 M m t 0 0 k).1 = sm k (v8 kd w s n t) ∧ (s_X9_power_274_29 M m t 0 0 k).2 = nI (bN k (fun j => decide (gos w s n j t = 1))) := by
  have h6 := h.1.2.2
  intro k
  induction k with
  | zero => exact fun _ => ⟨fun i hi => absurd hi (by omega), rfl, rfl⟩
  | succ k ih =>
    intro hk
    obtain ⟨i0, i1, i2⟩ := ih (by omega)
    obtain ⟨g1, g2⟩ := go_279 h (m := k) (by omega) t
    obtain ⟨v1, v2⟩ := vo_279 h (m := k) (by omega)
    have hs : s_X9_power_274_29 M m t 0 0 (k + 1) = (e_X9_power_274_29_c3 M m t (nI k) (s_X9_power_274_29 M m t 0 0 k).1 (s_X9_power_274_29 M m t 0 0 k).2, e_X9_power_274_29_c4 M m t (nI k) (s_X9_power_274_29 M m t 0 0 k).1 (s_X9_power_274_29 M m t 0 0 k).2) := rfl
    refine ⟨fun i hi => ?_, ?_⟩
    · by_cases c : i = k
      · subst c; exact ⟨g1, fun _ => v1, trivial⟩
      · exact i0 i (by omega)
    · rw [hs]
      unfold e_X9_power_274_29_c3 e_X9_power_274_29_c4
      have hb := bN_lt k (fun j => decide (gos w s n j t = 1))
      have hb2 := p2_7 k (by omega)
      rw [g2, v2, i1, i2, sm_s, bN_s, sh1 k (by omega)]
      (try dsimp only)
      unfold v8
      by_cases c1 : gos w s n k t = 1
      · have c2 : ¬ gos w s n k t = 2 := by rw [c1]; decide
        rw [if_pos c2, if_pos c2, if_neg c2, if_neg (not_not_intro c1), if_pos (decide_eq_true c1), i_or (by omega) (by omega)]
        exact ⟨rfl, rfl⟩
      · rw [if_pos c1, if_neg (fun z => c1 (of_decide_eq_true z))]
        have z : ∀ x : Int32, x ||| 0 = x := fun x => Int32.or_zero
        by_cases c2 : gos w s n k t = 2
        · rw [if_neg (not_not_intro c2), if_neg (not_not_intro c2), if_pos c2, z]
          exact ⟨rfl, rfl⟩
        · rw [if_pos c2, if_pos c2, if_neg c2, z]
          exact ⟨rfl, rfl⟩
theorem okp_h {F m N : Nat} {l : List Nat} (h : okp F m N l = true) : posn m l < N ∧ ∀ i, i < N → F.testBit (gl l i) = true ∧ (gl l i = m ↔ i = posn m l) ∧ (amr l i).testBit (gl l i) = false := by
  unfold okp at h
  simp only [Bool.and_eq_true, decide_eq_true_eq, List.all_eq_true, List.mem_range, beq_iff_eq, decide_eq_decide, Bool.not_eq_true'] at h
  exact ⟨h.1, fun i hi => ⟨(h.2 i hi).1, (h.2 i hi).2.1, (h.2 i hi).2.2⟩⟩
theorem vS_or (v : Nat → Int32) {mm A x : Nat} (hx : x < mm) (hA : A.testBit x = false) : vS v mm (A ||| 2 ^ x) = vS v mm A + v x := by
  unfold vS
  have e : sm mm (fun j => if j = x then v x else 0) = v x := by
    rw [sm_one mm x _ hx (fun k _ hk => if_neg hk)]
    exact if_pos rfl
  rw [← e, ← sm_add]
  refine sm_congr (fun j _ => ?_)
  (try dsimp only)
  rw [Nat.testBit_or, Nat.testBit_two_pow]
  by_cases c : j = x
  · subst c
    rw [hA, if_pos rfl, decide_eq_true rfl]
    exact (Int32.zero_add _).symm
  · rw [if_neg c, decide_eq_false (fun z => c z.symm), Bool.or_false]
    exact (Int32.add_zero _).symm
theorem vS_0 (v : Nat → Int32) (mm : Nat) : vS v mm 0 = 0 := sm_zero mm _ (fun k _ => by (try dsimp only); rw [Nat.zero_testBit]; exact if_neg (by decide))
theorem po_132 {B : Nat → Nat → Int32} {s kd w : Nat → Int32} {q : Int32} {n mm : Nat} (h : RS_279 B s kd w q n mm) {m N : Nat} {t : Int32} (hm : m < mm) (hN : N < 7) {l : List Nat} (hr : ∀ j, j < N → B 292 j = nI (gl l j)) (ok : okp (Fs w s n mm t) m N l = true) (al c5 : Int32) : (∀ i, i < N → qi_X9_power_274_132 B (nI m) t al c5 (nI N) (nI i) (s_X9_power_274_132 B (nI m) t al c5 (nI N) 0 0 i).1 (s_X9_power_274_132 B (nI m) t al c5 (nI N) 0 0 i).2) ∧ (s_X9_power_274_132 B (nI m) t al c5 (nI N) 0 0 N).2 = ps (v8 kd w s n t) mm al (v8 kd w s n t m) (amr l (posn m l)) := by
  obtain ⟨o1, o2⟩ := okp_h ok
  have h6 := h.1.2.2
  have tb : ∀ i, i < N → gl l i < mm ∧ gos w s n (gl l i) t = 1 := fun i hi => by
    have := (o2 i hi).1
    unfold Fs at this
    rw [bN_tb, Bool.and_eq_true, decide_eq_true_eq, decide_eq_true_eq] at this
    exact this
  have ve : ∀ i, i < N → vt kd s n (gl l i) = v8 kd w s n t (gl l i) := fun i hi => by
    unfold v8
    rw [(tb i hi).2, if_neg (by decide)]
  have sa : ∀ i, i ≤ N → sm i (fun j => vt kd s n (gl l j)) = vS (v8 kd w s n t) mm (amr l i) := by
    intro i
    induction i with
    | zero => exact fun _ => (vS_0 _ _).symm
    | succ i ih =>
      intro hi
      have e : amr l (i + 1) = amr l i ||| 2 ^ gl l i := rfl
      rw [sm_s, ih (by omega), e, vS_or _ (tb i hi).1 (o2 i hi).2.2, ve i hi]
  have key : ∀ k, k ≤ N → (∀ i, i < k → qi_X9_power_274_132 B (nI m) t al c5 (nI N) (nI i) (s_X9_power_274_132 B (nI m) t al c5 (nI N) 0 0 i).1 (s_X9_power_274_132 B (nI m) t al c5 (nI N) 0 0 i).2) ∧ (s_X9_power_274_132 B (nI m) t al c5 (nI N) 0 0 k).1 = sm k (fun j => vt kd s n (gl l j)) ∧ (s_X9_power_274_132 B (nI m) t al c5 (nI N) 0 0 k).2 = if posn m l < k then ps (v8 kd w s n t) mm al (v8 kd w s n t m) (amr l (posn m l)) else 0 := by
    intro k
    induction k with
    | zero => exact fun _ => ⟨fun i hi => absurd hi (by omega), rfl, by rw [if_neg (by omega)]; rfl⟩
    | succ k ih =>
      intro hk
      obtain ⟨i0, i1, i2⟩ := ih (by omega)
      obtain ⟨v1, v2⟩ := vo_279 h (tb k hk).1
      have r6 : B 292 (nI k).toNatClampNeg = nI (gl l k) := by rw [nI_clamp (by omega)]; exact hr k hk
      have hs : s_X9_power_274_132 B (nI m) t al c5 (nI N) 0 0 (k + 1) = (e_X9_power_274_132_c8 B (nI m) t al c5 (nI N) (nI k) (s_X9_power_274_132 B (nI m) t al c5 (nI N) 0 0 k).1 (s_X9_power_274_132 B (nI m) t al c5 (nI N) 0 0 k).2, e_X9_power_274_132_c9 B (nI m) t al c5 (nI N) (nI k) (s_X9_power_274_132 B (nI m) t al c5 (nI N) 0 0 k).1 (s_X9_power_274_132 B (nI m) t al c5 (nI N) 0 0 k).2) := rfl
      refine ⟨fun i hi => ?_, ?_⟩
      · by_cases c : i = k
        · subst c
          unfold qi_X9_power_274_132
          rw [r6]
          exact ⟨vi (by omega) (by decide), v1, trivial⟩
        · exact i0 i (by omega)
      · rw [hs]
        clear hs i0
        generalize s_X9_power_274_132 B (nI m) t al c5 (nI N) 0 0 k = r at *
        unfold e_X9_power_274_132_c8 e_X9_power_274_132_c9
        rw [r6, v2, i1, i2, sm_s]
        refine ⟨rfl, ?_⟩
        (try dsimp only)
        have hme : (nI (gl l k) = nI m) ↔ gl l k = m := nI_eq (by have := (tb k hk).1; omega) (by omega)
        have hm2 : (nI (gl l k) = nI m) ↔ k = posn m l := hme.trans (o2 k hk).2.1
        by_cases c1 : posn m l < k
        · rw [if_pos c1, if_pos (show posn m l < k + 1 by omega), if_pos (show ¬ nI (gl l k) = nI m from fun z => absurd (hm2.mp z) (by omega))]
          unfold ps
          split
          · rfl
          · split <;> rfl
        · rw [if_neg c1, if_neg (not_not_intro rfl)]
          by_cases c2 : k = posn m l
          · have em : gl l k = m := (o2 k hk).2.1.mpr c2
            rw [if_neg (not_not_intro (hm2.mpr c2)), if_pos (show posn m l < k + 1 by omega), sa k (by omega), ve k hk, em, ← c2]
            rfl
          · rw [if_pos (show ¬ nI (gl l k) = nI m from fun z => c2 (hm2.mp z)), if_neg (show ¬ posn m l < k + 1 by omega)]
  obtain ⟨k0, _, k2⟩ := key N (Nat.le_refl _)
  exact ⟨k0, by rw [k2, if_pos o1]⟩
theorem po_118 {A : Nat → Nat → Int32} {s kd w : Nat → Int32} {q : Int32} {n mm : Nat} (h : RS_279 A s kd w q n mm) {m N F : Nat} {t : Int32} (hm : m < mm) (hN : N < 7) (hF : F = Fs w s n mm t) (hNF : N = pc F) (hr : ∀ j, j < N → A 292 j = nI (gl (unr N F 0) j)) (hd : dsc N (unr N F (fct N - 1)) = true) (hk : ∀ K, K < fct N - 1 → chkk N (unr N F K) (unr N F (K + 1)) (pvt (unr N F K) N) (scc (unr N F K) N (pvt (unr N F K) N)) = true) (al c60 : Int32) : ∀ K, RS_279 (s_X9_power_274_118 A (nI m) t al (nI N) 0 c60 K).2.2 s kd w q n mm ∧ (∀ j, j < N → (s_X9_power_274_118 A (nI m) t al (nI N) 0 c60 K).2.2 292 j = nI (gl (unr N F (if K < fct N then K else fct N - 1)) j)) ∧ (s_X9_power_274_118 A (nI m) t al (nI N) 0 c60 K).2.1 = (if K = 0 then c60 else if K < fct N then 1 else 0) ∧ ((∀ K', K' < fct N → okp F m N (unr N F K') = true) → (∀ i, i < K → qi_X9_power_274_118 (s_X9_power_274_118 A (nI m) t al (nI N) 0 c60 i).2.2 (nI m) t al (nI N) (s_X9_power_274_118 A (nI m) t al (nI N) 0 c60 i).1 (s_X9_power_274_118 A (nI m) t al (nI N) 0 c60 i).2.1) ∧ (K ≤ fct N → (s_X9_power_274_118 A (nI m) t al (nI N) 0 c60 K).1 = sm K (fun K' => ps (v8 kd w s n t) mm al (v8 kd w s n t m) (amk F m K')))) := by
  have hf := fct_720 N hN
  intro K
  induction K with
  | zero => exact ⟨h, by rw [if_pos (by omega)]; exact hr, by rw [if_pos rfl]; rfl, fun _ => ⟨fun i hi => absurd hi (by omega), fun _ => rfl⟩⟩
  | succ K ih =>
    obtain ⟨i1, i2, i3, i4⟩ := ih
    have hs : s_X9_power_274_118 A (nI m) t al (nI N) 0 c60 (K + 1) = (e_X9_power_274_118_c5 (s_X9_power_274_118 A (nI m) t al (nI N) 0 c60 K).2.2 (nI m) t al (nI N) (s_X9_power_274_118 A (nI m) t al (nI N) 0 c60 K).1 (s_X9_power_274_118 A (nI m) t al (nI N) 0 c60 K).2.1, f_X9_nextOrder_274 (s_X9_power_274_118 A (nI m) t al (nI N) 0 c60 K).2.2 (nI N), g_X9_nextOrder_274 (s_X9_power_274_118 A (nI m) t al (nI N) 0 c60 K).2.2 (nI N)) := rfl
    have no : q_X9_nextOrder_274 (s_X9_power_274_118 A (nI m) t al (nI N) 0 c60 K).2.2 (nI N) ∧ f_X9_nextOrder_274 (s_X9_power_274_118 A (nI m) t al (nI N) 0 c60 K).2.2 (nI N) = (if K + 1 < fct N then 1 else 0) ∧ ∀ j, j < N → g_X9_nextOrder_274 (s_X9_power_274_118 A (nI m) t al (nI N) 0 c60 K).2.2 (nI N) 292 j = nI (gl (unr N F (if K + 1 < fct N then K + 1 else fct N - 1)) j) := by
      by_cases c : K + 1 < fct N
      · rw [if_pos (show K < fct N by omega)] at i2
        rw [if_pos c, if_pos c]
        exact no_k (by omega) i2 (hk K (by omega))
      · rw [if_neg c, if_neg c]
        have e : (if K < fct N then K else fct N - 1) = fct N - 1 := by
          by_cases c2 : K < fct N
          · rw [if_pos c2]; omega
          · rw [if_neg c2]
        rw [e] at i2
        obtain ⟨z1, z2, z3⟩ := no_d (M := (s_X9_power_274_118 A (nI m) t al (nI N) 0 c60 K).2.2) (by omega) i2 hd
        exact ⟨z1, z2, fun j hj => by rw [z3]; exact i2 j hj⟩
    obtain ⟨n1, n2, n3⟩ := no
    have fr : ∀ c, c ≠ 292 → g_X9_nextOrder_274 (s_X9_power_274_118 A (nI m) t al (nI N) 0 c60 K).2.2 (nI N) c = (s_X9_power_274_118 A (nI m) t al (nI N) 0 c60 K).2.2 c := fun c hc => fr_g_X9_nextOrder_274 _ _ c hc
    have hR := RS_cong_279 (M' := g_X9_nextOrder_274 (s_X9_power_274_118 A (nI m) t al (nI N) 0 c60 K).2.2 (nI N)) i1 (congrFun (fr 274 (by decide)) 3) (congrFun (fr 274 (by decide)) 4) (fr 276 (by decide)) (fr 278 (by decide)) (fr 279 (by decide))
    refine ⟨by rw [hs]; exact hR, by rw [hs]; exact n3, by rw [hs, if_neg (by omega)]; exact n2, fun ok => ?_⟩
    obtain ⟨i5, i6⟩ := i4 ok
    have ok1 : okp (Fs w s n mm t) m N (unr N F (if K < fct N then K else fct N - 1)) = true := by
      rw [← hF]
      by_cases c2 : K < fct N
      · rw [if_pos c2]; exact ok K c2
      · rw [if_neg c2]; exact ok _ (by omega)
    obtain ⟨p0, p1⟩ := po_132 i1 hm hN i2 ok1 al (s_X9_power_274_118 A (nI m) t al (nI N) 0 c60 K).1
    refine ⟨fun i hi => ?_, fun hK => ?_⟩
    · by_cases c : i = K
      · subst c
        unfold qi_X9_power_274_118
        rw [nI_clamp (by omega)]
        exact ⟨fun _ => p0, fun _ _ => n1, fun _ _ => n1, trivial⟩
      · exact i5 i (by omega)
    · rw [hs]
      (try dsimp only)
      unfold e_X9_power_274_118_c5
      rw [nI_clamp (by omega), p1, i6 (by omega), sm_s, if_pos (show K < fct N by omega)]
      have ea : amk F m K = amr (unr N F K) (posn m (unr N F K)) := by unfold amk; rw [← hNF]
      rw [ea]
      unfold ps
      split
      · rw [if_pos rfl]
      · split
        · rw [if_pos rfl]
        · rw [if_neg c10]
