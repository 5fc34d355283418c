/-! SETS AND SUMS, as both sides form them -/
theorem or0 (x : Int32) : x ||| 0 = x := Int32.or_zero
theorem hd_c {M : Nat → Nat → Int32} {s : Nat → Int32} {n k : Nat} (h1 : M 20 1 = nI n) (hn : n ≤ 12) (hk : k < n) (e : M 27 k = s (71 + k)) : q_X0_holds_20 M (nI k) ∧ f_X0_holds_20 M (nI k) = if s (71 + k) = 0 then 1 else 0 := by
  refine ⟨qho_20 M (by omega), ?_⟩
  rw [ho_20 h1 hk hn, e]
theorem en_c {M : Nat → Nat → Int32} {s kd w : Nat → Int32} {q : Int32} {n mm : Nat} (h : CS_28 M s kd w q n mm) : (M 20 1).toNatClampNeg = n := cn_n (h.2.2.1.1.1.trans h.2.2.2.1) (by have := h.2.2.2.2.1; omega)
theorem em_c {M : Nat → Nat → Int32} {s kd w : Nat → Int32} {q : Int32} {n mm : Nat} (h : CS_28 M s kd w q n mm) : (M 15 1).toNatClampNeg = mm := cn_n h.1.1 (by have := h.1.2.1; omega)
theorem sh_c {M : Nat → Nat → Int32} {s kd w : Nat → Int32} {q : Int32} {n mm : Nat} (h : CS_28 M s kd w q n mm) : q_X0_setOfHolding_20 M ∧ f_X0_setOfHolding_20 M = bs n (fun k => decide (s (71 + k) = 0)) := by
  have hn := h.2.2.2.2.1
  have lp : ∀ k, k ≤ n → s_setOfHolding_20 M 0 k = bs k (fun k => decide (s (71 + k) = 0)) := by
    intro k
    induction k with
    | zero => intro _; rfl
    | succ k ih =>
      intro hk
      have hs : s_setOfHolding_20 M 0 (k + 1) = e_setOfHolding_20_acc M (nI k) (s_setOfHolding_20 M 0 k) := rfl
      rw [hs, bs_s, ih (by omega)]
      unfold e_setOfHolding_20_acc
      rw [(hd_c (s := s) (h.2.2.1.1.1.trans h.2.2.2.1) hn (by omega) (h.2.2.1.2.2 k (by omega)).2.2.2.2.2).2]
      by_cases c : s (71 + k) = 0 <;> simp [c]
  unfold q_X0_setOfHolding_20 f_X0_setOfHolding_20
  rw [en_c h]
  exact ⟨⟨fun k hk => ⟨(hd_c (s := s) (h.2.2.1.1.1.trans h.2.2.2.1) hn (by omega) (h.2.2.1.2.2 k (by omega)).2.2.2.2.2).1, trivial⟩, trivial⟩, lp n (Nat.le_refl n)⟩
theorem so_c {M : Nat → Nat → Int32} {s kd w : Nat → Int32} {q : Int32} {n mm : Nat} (h : CS_28 M s kd w q n mm) (o : Int32) : q_X0_setHoldingOf_20 M o ∧ f_X0_setHoldingOf_20 M o = bs n (fun k => decide (s (71 + k) = 0 ∧ s (11 + k) = o)) := by
  have hn := h.2.2.2.2.1
  have lp : ∀ k, k ≤ n → s_setHoldingOf_20 M o 0 k = bs k (fun k => decide (s (71 + k) = 0 ∧ s (11 + k) = o)) := by
    intro k
    induction k with
    | zero => intro _; rfl
    | succ k ih =>
      intro hk
      have hs : s_setHoldingOf_20 M o 0 (k + 1) = e_setHoldingOf_20_acc M o (nI k) (s_setHoldingOf_20 M o 0 k) := rfl
      obtain ⟨a1, a2, a3, a4, a5, a6⟩ := h.2.2.1.2.2 k (by omega)
      rw [hs, bs_s, ih (by omega)]
      unfold e_setHoldingOf_20_acc
      rw [(hd_c (s := s) (h.2.2.1.1.1.trans h.2.2.2.1) hn (by omega) a6).2, nI_clamp (by omega), a1]
      by_cases c : s (71 + k) = 0 <;> by_cases c2 : s (11 + k) = o <;> simp [c, c2]
  unfold q_X0_setHoldingOf_20 f_X0_setHoldingOf_20
  rw [en_c h]
  exact ⟨⟨fun k hk => ⟨(hd_c (s := s) (h.2.2.1.1.1.trans h.2.2.2.1) hn (by omega) (h.2.2.1.2.2 k (by omega)).2.2.2.2.2).1, fun _ => vi (by omega) (by decide), trivial⟩, trivial⟩, lp n (Nat.le_refl n)⟩
theorem ha_c {M : Nat → Nat → Int32} {s kd w : Nat → Int32} {q : Int32} {n mm : Nat} (h : CS_28 M s kd w q n mm) : q_X6_setOfHanging_19 M ∧ f_X6_setOfHanging_19 M = bs mm (fun m => hng s n m) := by
  obtain ⟨k1, dv, fr, hc⟩ := dv_28 h 0
  have hm := hc.1.2.1
  have em := em_c hc
  unfold q_X6_setOfHanging_19 f_X6_setOfHanging_19
  generalize g_X1_take_28 M 0 = A at *
  rw [em]
  have lp : ∀ k, k ≤ mm → s_X6_setOfHanging_19_12 A 0 k = bs k (fun m => hng s n m) := by
    intro k
    induction k with
    | zero => intro _; rfl
    | succ k ih =>
      intro hk
      have hs : s_X6_setOfHanging_19_12 A 0 (k + 1) = e_X6_setOfHanging_19_12_c1 A (nI k) (s_X6_setOfHanging_19_12 A 0 k) := rfl
      rw [hs, bs_s, ih (by omega)]
      unfold e_X6_setOfHanging_19_12_c1
      rw [nI_clamp (by omega), (dv.2.2 k (by omega)).2.2.2.1]
      cases hng s n k <;> simp
  exact ⟨⟨k1, fun k hk => ⟨vi (by omega) (by decide), trivial⟩, trivial⟩, lp mm (Nat.le_refl mm)⟩
theorem mo_c {M : Nat → Nat → Int32} {s kd w : Nat → Int32} {q : Int32} {n mm : Nat} (h : CS_28 M s kd w q n mm) (t : Int32) : q_X6_marginOn_19 M t ∧ f_X6_marginOn_19 M t = mg kd w s n mm t := by
  obtain ⟨k1, dv, fr, hc⟩ := dv_28 h t
  have hma := ma_28 dv (fun j hj => (hc.2.1 j hj).1) hc.1.1
  exact ⟨⟨k1, hma.1, trivial⟩, hma.2⟩
theorem pa_c {M : Nat → Nat → Int32} {s kd w : Nat → Int32} {q : Int32} {n mm : Nat} (h : CS_28 M s kd w q n mm) : q_X6_setOfPassing_19 M ∧ f_X6_setOfPassing_19 M = bs 8 (fun t => decide (0 < mg kd w s n mm (nI t))) ∧ ∀ c, (c < 28 ∨ 31 < c) ∧ (c < 268 ∨ 273 < c) → g_X6_setOfPassing_19 M c = M c := by
  have lp : ∀ k, (∀ i, i < k → qi_X6_setOfPassing_19_4 (s_X6_setOfPassing_19_4 M 0 i).2 (nI i) (s_X6_setOfPassing_19_4 M 0 i).1) ∧ (s_X6_setOfPassing_19_4 M 0 k).1 = bs k (fun t => decide (0 < mg kd w s n mm (nI t))) ∧ CS_28 (s_X6_setOfPassing_19_4 M 0 k).2 s kd w q n mm ∧ ∀ c, (c < 28 ∨ 31 < c) ∧ (c < 268 ∨ 273 < c) → (s_X6_setOfPassing_19_4 M 0 k).2 c = M c := by
    intro k
    induction k with
    | zero => exact ⟨fun i hi => absurd hi (by omega), rfl, h, fun c _ => rfl⟩
    | succ k ih =>
      obtain ⟨i1, i2, i3, i4⟩ := ih
      have hs : s_X6_setOfPassing_19_4 M 0 (k + 1) = (e_X6_setOfPassing_19_4_c1 (s_X6_setOfPassing_19_4 M 0 k).2 (nI k) (s_X6_setOfPassing_19_4 M 0 k).1, e_X6_setOfPassing_19_4_M (s_X6_setOfPassing_19_4 M 0 k).2 (nI k) (s_X6_setOfPassing_19_4 M 0 k).1) := rfl
      obtain ⟨m1, m2⟩ := mo_c i3 (nI k)
      obtain ⟨k1, dv, fr, hc⟩ := dv_28 i3 (nI k)
      rw [hs]
      clear hs
      generalize hr : s_X6_setOfPassing_19_4 M 0 k = r at *
      have eM : e_X6_setOfPassing_19_4_M r.2 (nI k) r.1 = g_X1_take_28 r.2 (nI k) := by unfold e_X6_setOfPassing_19_4_M g_X6_marginOn_19; rfl
      dsimp only
      rw [eM]
      refine ⟨fun i hi => ?_, ?_, hc, fun c hc' => (fr c hc').trans (i4 c hc')⟩
      · by_cases c : i = k
        · subst c; rw [hr]; exact ⟨m1, trivial⟩
        · exact i1 i (by omega)
      · unfold e_X6_setOfPassing_19_4_c1
        rw [m2, i2, bs_s]
        by_cases c : 0 < mg kd w s n mm (nI k)
        · rw [if_neg (i_nle.mpr c), if_pos (decide_eq_true c)]
        · rw [if_pos (i_nlt.mp c), if_neg (fun z => c (of_decide_eq_true z))]
  obtain ⟨i1, i2, i3, i4⟩ := lp 8
  unfold q_X6_setOfPassing_19 f_X6_setOfPassing_19 g_X6_setOfPassing_19
  exact ⟨⟨i1, trivial⟩, i2, i4⟩
theorem he_c {M : Nat → Nat → Int32} {s kd w : Nat → Int32} {q : Int32} {n mm : Nat} (h : CS_28 M s kd w q n mm) {m : Nat} (hm : m < mm) : q_X6_setOfHeldOn_19 M (nI m) ∧ f_X6_setOfHeldOn_19 M (nI m) = bs 8 (fun t => hel w s n m (nI t)) ∧ ∀ c, (c < 28 ∨ 31 < c) ∧ (c < 268 ∨ 273 < c) → g_X6_setOfHeldOn_19 M (nI m) c = M c := by
  have h6 : m < 6 := by have := h.1.2.1; omega
  have lp : ∀ k, (∀ i, i < k → qi_X6_setOfHeldOn_19_4 (s_X6_setOfHeldOn_19_4 M (nI m) 0 i).2 (nI m) (nI i) (s_X6_setOfHeldOn_19_4 M (nI m) 0 i).1) ∧ (s_X6_setOfHeldOn_19_4 M (nI m) 0 k).1 = bs k (fun t => hel w s n m (nI t)) ∧ CS_28 (s_X6_setOfHeldOn_19_4 M (nI m) 0 k).2 s kd w q n mm ∧ ∀ c, (c < 28 ∨ 31 < c) ∧ (c < 268 ∨ 273 < c) → (s_X6_setOfHeldOn_19_4 M (nI m) 0 k).2 c = M c := by
    intro k
    induction k with
    | zero => exact ⟨fun i hi => absurd hi (by omega), rfl, h, fun c _ => rfl⟩
    | succ k ih =>
      obtain ⟨i1, i2, i3, i4⟩ := ih
      have hs : s_X6_setOfHeldOn_19_4 M (nI m) 0 (k + 1) = (e_X6_setOfHeldOn_19_4_c2 (s_X6_setOfHeldOn_19_4 M (nI m) 0 k).2 (nI m) (nI k) (s_X6_setOfHeldOn_19_4 M (nI m) 0 k).1, e_X6_setOfHeldOn_19_4_M (s_X6_setOfHeldOn_19_4 M (nI m) 0 k).2 (nI m) (nI k) (s_X6_setOfHeldOn_19_4 M (nI m) 0 k).1) := rfl
      obtain ⟨k1, dv, fr, hc⟩ := dv_28 i3 (nI k)
      rw [hs]
      clear hs
      generalize hr : s_X6_setOfHeldOn_19_4 M (nI m) 0 k = r at *
      have eM : e_X6_setOfHeldOn_19_4_M r.2 (nI m) (nI k) r.1 = g_X1_take_28 r.2 (nI k) := by unfold e_X6_setOfHeldOn_19_4_M; rfl
      dsimp only
      rw [eM]
      refine ⟨fun i hi => ?_, ?_, hc, fun c hc' => (fr c hc').trans (i4 c hc')⟩
      · by_cases c : i = k
        · subst c; rw [hr]; exact ⟨k1, ⟨vi h6 (by decide), trivial⟩, trivial⟩
        · exact i1 i (by omega)
      · unfold e_X6_setOfHeldOn_19_4_c2
        rw [hd_28 dv hm, i2, bs_s]
        cases hel w s n m (nI k) <;> simp
  obtain ⟨i1, i2, i3, i4⟩ := lp 8
  unfold q_X6_setOfHeldOn_19 f_X6_setOfHeldOn_19 g_X6_setOfHeldOn_19
  exact ⟨⟨i1, trivial⟩, i2, i4⟩
theorem cr_c {M : Nat → Nat → Int32} {s kd w : Nat → Int32} {q : Int32} {n mm : Nat} (h : CS_28 M s kd w q n mm) (t : Int32) : q_X6_setOfCreaking_19 M t ∧ f_X6_setOfCreaking_19 M t = bs n (fun k => decide (0 < sn kd w s n k t)) := by
  obtain ⟨k1, dv, fr, hc⟩ := dv_28 h t
  have hn := h.2.2.2.2.1
  have en := en_c hc
  unfold q_X6_setOfCreaking_19 f_X6_setOfCreaking_19
  generalize g_X1_take_28 M t = A at *
  rw [en]
  have so : ∀ k, k < n → q_X1_strainOn_28 A (nI k) ∧ f_X1_strainOn_28 A (nI k) = sn kd w s n k t := fun k hk => by
    obtain ⟨a1, a2, a3, a4, a5, a6⟩ := hc.2.2.1.2.2 k hk
    obtain ⟨o, ho, eo⟩ := hc.2.2.2.2.2.1 k hk
    exact so_28 dv hc.1.1 (hc.2.2.1.1.1.trans hc.2.2.2.1) hn (kd := kd) (fun j hj => (hc.2.1 j hj).1) (by omega) ho a1 eo a2 a3 a6
  have lp : ∀ k, k ≤ n → s_X6_setOfCreaking_19_12 A t 0 k = bs k (fun k => decide (0 < sn kd w s n k t)) := by
    intro k
    induction k with
    | zero => intro _; rfl
    | succ k ih =>
      intro hk
      have hs : s_X6_setOfCreaking_19_12 A t 0 (k + 1) = e_X6_setOfCreaking_19_12_c2 A t (nI k) (s_X6_setOfCreaking_19_12 A t 0 k) := rfl
      rw [hs, bs_s, ih (by omega)]
      unfold e_X6_setOfCreaking_19_12_c2
      rw [(so k (by omega)).2]
      by_cases c : 0 < sn kd w s n k t
      · rw [if_neg (i_nle.mpr c), if_pos (decide_eq_true c)]
      · rw [if_pos (i_nlt.mp c), if_neg (fun z => c (of_decide_eq_true z))]
  exact ⟨⟨k1, fun k hk => ⟨(so k hk).1, trivial⟩, trivial⟩, lp n (Nat.le_refl n)⟩
/-! the reference -/
theorem st_r {M : Nat → Nat → Int32} {s kd w : Nat → Int32} {q : Int32} {n mm : Nat} (h : RS_279 M s kd w q n mm) (a : Int32) : q_X9_strapsThat_279 M a ∧ f_X9_strapsThat_279 M a = bs n (fun k => decide (s (71 + k) = 0 ∧ (a < 0 ∨ s (11 + k) = a))) := by
  have hn := h.2.2.2.2.1
  have hr := h.2.2.1
  have lp : ∀ k, k ≤ n → s_X9_strapsThat_279_4 M a 0 k = bs k (fun k => decide (s (71 + k) = 0 ∧ (a < 0 ∨ s (11 + k) = a))) := by
    intro k
    induction k with
    | zero => intro _; rfl
    | succ k ih =>
      intro hk
      have hs : s_X9_strapsThat_279_4 M a 0 (k + 1) = e_X9_strapsThat_279_4_c2 M a (nI k) (s_X9_strapsThat_279_4 M a 0 k) := rfl
      rw [hs, bs_s, ih (by omega)]
      unfold e_X9_strapsThat_279_4_c2
      rw [(rh_279 (s := s) (show k < 12 by omega) (hr _ (by omega))).2, ix_11 (by omega), hr _ (by omega)]
      by_cases c : s (71 + k) = 0 <;> by_cases c2 : a < 0 <;> by_cases c3 : s (11 + k) = a <;> simp [c, c2, c3]
  unfold q_X9_strapsThat_279 f_X9_strapsThat_279
  rw [rn_279 h]
  exact ⟨⟨fun k hk => ⟨⟨vx_71 (by omega), trivial⟩, fun _ _ => vx_11 (by omega), trivial⟩, trivial⟩, lp n (Nat.le_refl n)⟩
theorem ha_r {M : Nat → Nat → Int32} {s kd w : Nat → Int32} {q : Int32} {n mm : Nat} (h : RS_279 M s kd w q n mm) : q_X9_whoHangs_274 M ∧ f_X9_whoHangs_274 M = bs mm (fun m => hng s n m) := by
  have hm := h.1.2.2
  have lp : ∀ k, k ≤ mm → s_X9_whoHangs_274_4 M 0 k = bs k (fun m => hng s n m) := by
    intro k
    induction k with
    | zero => intro _; rfl
    | succ k ih =>
      intro hk
      have hs : s_X9_whoHangs_274_4 M 0 (k + 1) = e_X9_whoHangs_274_4_c1 M (nI k) (s_X9_whoHangs_274_4 M 0 k) := rfl
      rw [hs, bs_s, ih (by omega)]
      unfold e_X9_whoHangs_274_4_c1
      rw [(hg_279 h (show k < 6 by omega)).2]
      cases hng s n k <;> simp
  unfold q_X9_whoHangs_274 f_X9_whoHangs_274
  rw [rm_279 h]
  exact ⟨⟨fun k hk => ⟨(hg_279 h (by omega)).1, trivial⟩, trivial⟩, lp mm (Nat.le_refl mm)⟩
theorem pa_r {M : Nat → Nat → Int32} {s kd w : Nat → Int32} {q : Int32} {n mm : Nat} (h : RS_279 M s kd w q n mm) : q_X9_wouldPass_274 M ∧ f_X9_wouldPass_274 M = bs 8 (fun t => decide (0 < mg kd w s n mm (nI t))) := by
  have lp : ∀ k, s_X9_wouldPass_274_4 M 0 k = bs k (fun t => decide (0 < mg kd w s n mm (nI t))) := by
    intro k
    induction k with
    | zero => rfl
    | succ k ih =>
      have hs : s_X9_wouldPass_274_4 M 0 (k + 1) = e_X9_wouldPass_274_4_c1 M (nI k) (s_X9_wouldPass_274_4 M 0 k) := rfl
      rw [hs, bs_s, ih]
      unfold e_X9_wouldPass_274_4_c1
      rw [(mr_279 h (nI k)).2]
      by_cases c : 0 < mg kd w s n mm (nI k)
      · rw [if_neg (i_nle.mpr c), if_pos (decide_eq_true c)]
      · rw [if_pos (i_nlt.mp c), if_neg (fun z => c (of_decide_eq_true z)), or0]
  unfold q_X9_wouldPass_274 f_X9_wouldPass_274
  exact ⟨⟨fun k hk => ⟨(mr_279 h (nI k)).1, trivial⟩, trivial⟩, lp 8⟩
theorem he_r {M : Nat → Nat → Int32} {s kd w : Nat → Int32} {q : Int32} {n mm : Nat} (h : RS_279 M s kd w q n mm) {m : Nat} (hm : m < mm) : q_X9_heldOn_274 M (nI m) ∧ f_X9_heldOn_274 M (nI m) = bs 8 (fun t => hel w s n m (nI t)) := by
  have lp : ∀ k, s_X9_heldOn_274_4 M (nI m) 0 k = bs k (fun t => hel w s n m (nI t)) := by
    intro k
    induction k with
    | zero => rfl
    | succ k ih =>
      have hs : s_X9_heldOn_274_4 M (nI m) 0 (k + 1) = e_X9_heldOn_274_4_c2 M (nI m) (nI k) (s_X9_heldOn_274_4 M (nI m) 0 k) := rfl
      rw [hs, bs_s, ih]
      unfold e_X9_heldOn_274_4_c2
      rw [(he_279 h hm (nI k)).2]
      cases hel w s n m (nI k) <;> simp
  unfold q_X9_heldOn_274 f_X9_heldOn_274
  exact ⟨⟨fun k hk => ⟨(he_279 h hm (nI k)).1, trivial⟩, trivial⟩, lp 8⟩
theorem cr_r {M : Nat → Nat → Int32} {s kd w : Nat → Int32} {q : Int32} {n mm : Nat} (h : RS_279 M s kd w q n mm) (t : Int32) : q_X9_creaksOf_274 M t ∧ f_X9_creaksOf_274 M t = bs n (fun k => decide (0 < sn kd w s n k t)) := by
  have lp : ∀ k, k ≤ n → s_X9_creaksOf_274_4 M t 0 k = bs k (fun k => decide (0 < sn kd w s n k t)) := by
    intro k
    induction k with
    | zero => intro _; rfl
    | succ k ih =>
      intro hk
      have hs : s_X9_creaksOf_274_4 M t 0 (k + 1) = e_X9_creaksOf_274_4_c2 M t (nI k) (s_X9_creaksOf_274_4 M t 0 k) := rfl
      rw [hs, bs_s, ih (by omega)]
      unfold e_X9_creaksOf_274_4_c2
      rw [(sb_279 h (show k < n by omega) t).2]
      by_cases c : 0 < sn kd w s n k t
      · rw [if_neg (i_nle.mpr c), if_pos (decide_eq_true c)]
      · rw [if_pos (i_nlt.mp c), if_neg (fun z => c (of_decide_eq_true z)), or0]
  unfold q_X9_creaksOf_274 f_X9_creaksOf_274
  rw [rn_279 h]
  exact ⟨⟨fun k hk => ⟨(sb_279 h hk t).1, trivial⟩, trivial⟩, lp n (Nat.le_refl n)⟩
/-! the side that most straps hold -/
def sgn (sd : Nat → Int32) (m : Nat) (x : Int32) : Int32 := if sd m = 1 then x else -x
theorem sgn_add (sd : Nat → Int32) (m : Nat) (x y : Int32) : sgn sd m (x + y) = sgn sd m x + sgn sd m y := by
  unfold sgn
  by_cases c : sd m = 1
  · rw [if_pos c, if_pos c, if_pos c]
  · rw [if_neg c, if_neg c, if_neg c, Int32.neg_add, Int32.sub_eq_add_neg]
theorem sgn_0 (sd : Nat → Int32) (m : Nat) : sgn sd m 0 = 0 := by
  unfold sgn
  by_cases c : sd m = 1
  · rw [if_pos c]
  · rw [if_neg c]; rfl
theorem sm_zero (n : Nat) (f : Nat → Int32) (h : ∀ k, k < n → f k = 0) : sm n f = 0 := by
  induction n with
  | zero => rfl
  | succ n ih => rw [sm_s, ih (fun k hk => h k (by omega)), h n (by omega), Int32.add_zero]
theorem sm_one (n o : Nat) (f : Nat → Int32) (ho : o < n) (h : ∀ k, k < n → k ≠ o → f k = 0) : sm n f = f o := by
  induction n with
  | zero => omega
  | succ n ih =>
    rw [sm_s]
    by_cases c : o = n
    · subst c
      rw [sm_zero o f (fun k hk => h k (by omega) (by omega)), Int32.zero_add]
    · rw [ih (by omega) (fun k hk => h k (by omega)), h n (by omega) (fun z => c z.symm), Int32.add_zero]
def sid (s sd : Nat → Int32) (k : Nat) : Int32 := if s (71 + k) = 0 then sgn sd (s (11 + k)).toNatClampNeg (s (47 + k)) else 0
theorem sid_eq {s sd : Nat → Int32} {mm : Nat} (hm : mm ≤ 6) (n : Nat) (ho : ∀ k, k < n → ∃ o, o < mm ∧ s (11 + k) = nI o) : sm n (sid s sd) = sm mm (fun m => sgn sd m (lod s n (nI m))) := by
  induction n with
  | zero => exact (sm_zero mm _ (fun k _ => sgn_0 sd k)).symm
  | succ n ih =>
    obtain ⟨o, ho1, ho2⟩ := ho n (by omega)
    have e : sm mm (fun m => sgn sd m (lod s (n + 1) (nI m))) = sm mm (fun m => sgn sd m (lod s n (nI m)) + sgn sd m (lk s n (nI m))) := sm_congr (fun m _ => by
      have hp : lod s (n + 1) (nI m) = lod s n (nI m) + lk s n (nI m) := rfl
      rw [hp, sgn_add])
    rw [sm_s, ih (fun k hk => ho k (by omega)), e, sm_add]
    congr 1
    rw [sm_one mm o _ ho1 (fun k hk hko => ?_)]
    · unfold sid lk
      rw [ho2, nI_clamp (by omega)]
      by_cases c : s (71 + n) = 0
      · rw [if_pos c, if_pos ⟨c, rfl⟩]
      · rw [if_neg c, if_neg (fun z => c z.1), sgn_0]
    · show sgn sd k (lk s n (nI k)) = 0
      unfold lk
      rw [if_neg, sgn_0]
      intro z
      rw [ho2] at z
      exact hko ((nI_eq (by omega) (by omega)).mp z.2).symm
theorem si_c {M : Nat → Nat → Int32} {s kd sd w : Nat → Int32} {q : Int32} {n mm : Nat} (h : CS_28 M s kd w q n mm) (h17 : ∀ k, k < mm → M 17 k = sd k) : q_X6_sideHeldMost_19 M ∧ f_X6_sideHeldMost_19 M = if 0 < sm n (sid s sd) then 1 else 0 := by
  have hm := h.1.2.1
  rw [sid_eq hm n h.2.2.2.2.2.1]
  obtain ⟨k1, dv, fr, hc⟩ := dv_28 h 0
  have em := em_c hc
  have g17 : ∀ k, k < mm → g_X1_take_28 M 0 17 k = sd k := fun k hk => by rw [fr 17 (by decide)]; exact h17 k hk
  unfold q_X6_sideHeldMost_19 f_X6_sideHeldMost_19
  generalize g_X1_take_28 M 0 = A at *
  rw [em]
  have lp : ∀ k, k ≤ mm → s_X6_sideHeldMost_19_12 A 0 k = sm k (fun m => sgn sd m (lod s n (nI m))) := by
    intro k
    induction k with
    | zero => intro _; rfl
    | succ k ih =>
      intro hk
      have hs : s_X6_sideHeldMost_19_12 A 0 (k + 1) = e_X6_sideHeldMost_19_12_c1 A (nI k) (s_X6_sideHeldMost_19_12 A 0 k) := rfl
      rw [hs, sm_s, ih (by omega)]
      unfold e_X6_sideHeldMost_19_12_c1 sgn
      rw [nI_clamp (by omega), g17 k (by omega), (dv.2.2 k (by omega)).2.1]
      by_cases c2 : sd k = 1 <;> simp [c2]
  refine ⟨⟨k1, fun k hk => ⟨vi (by omega) (by decide), trivial⟩, trivial⟩, ?_⟩
  rw [lp mm (Nat.le_refl mm)]
  by_cases c : 0 < sm mm (fun m => sgn sd m (lod s n (nI m)))
  · rw [if_neg (i_nle.mpr c), if_pos c]
  · rw [if_pos (i_nlt.mp c), if_neg c]
theorem si_r {M : Nat → Nat → Int32} {s kd sd w : Nat → Int32} {q : Int32} {n mm : Nat} (h : RS_279 M s kd w q n mm) (h17 : ∀ k, k < mm → M 277 k = sd k) : q_X9_holdsMost_274 M ∧ f_X9_holdsMost_274 M = if 0 < sm n (sid s sd) then 1 else 0 := by
  have hm := h.1.2.2
  rw [sid_eq hm n h.2.2.2.2.2.1]
  have lp : ∀ k, k ≤ mm → s_X9_holdsMost_274_4 M 0 k = sm k (fun m => sgn sd m (lod s n (nI m))) := by
    intro k
    induction k with
    | zero => intro _; rfl
    | succ k ih =>
      intro hk
      have hs : s_X9_holdsMost_274_4 M 0 (k + 1) = e_X9_holdsMost_274_4_c1 M (nI k) (s_X9_holdsMost_274_4 M 0 k) := rfl
      rw [hs, sm_s, ih (by omega)]
      unfold e_X9_holdsMost_274_4_c1 sgn
      rw [nI_clamp (by omega), h17 k (by omega), (no_279 h (nI k)).2]
      by_cases c2 : sd k = 1 <;> simp [c2]
  unfold q_X9_holdsMost_274 f_X9_holdsMost_274
  rw [rm_279 h]
  refine ⟨⟨fun k hk => ⟨vi (by omega) (by decide), fun _ => (no_279 h (nI k)).1, fun _ => (no_279 h (nI k)).1, trivial⟩, trivial⟩, ?_⟩
  rw [lp mm (Nat.le_refl mm)]
  by_cases c : 0 < sm mm (fun m => sgn sd m (lod s n (nI m)))
  · rw [if_neg (i_nle.mpr c), if_pos c]
  · rw [if_pos (i_nlt.mp c), if_neg c]
