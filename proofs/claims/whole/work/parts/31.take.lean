/-! THE CLASS: take -/
theorem tk_step_28 (A : Nat → Nat → Int32) (t l : Int32) (k j o : Nat) (u : Nat → Int32) (hk : k < 12) (hj : j < 6) (ho6 : o < 6) (h2 : A 28 2 = t) (f11 : A 22 k = nI o) (e11 : u (11 + k) = nI o) (e23 : A 23 k = u (23 + k)) (e35 : A 24 k = u (35 + k)) (e47 : A 25 k = u (47 + k)) (e71 : u (71 + k) = 0 ↔ (A 27 k = 0 ∧ f_X8_isIn A l (nI k) = 0)) : e_X1_take_28_40_M A t l (nI k) 29 j = A 29 j + wk u k (nI j) t ∧ e_X1_take_28_40_M A t l (nI k) 30 j = A 30 j + lk u k (nI j) := by
  have hoj : (nI o = nI j) ↔ o = j := nI_eq (by omega) (by omega)
  have ck : (nI k).toNatClampNeg = k := nI_clamp (by omega)
  have co : (nI o).toNatClampNeg = o := nI_clamp (by omega)
  unfold e_X1_take_28_40_M f_X0_holds_20 g_X1_weigh_28 wk lk
  simp only [ck, h2, f11, e11, e23, e35, e47, co, hoj]
  by_cases c1 : A 27 k = 0
  · by_cases c2 : f_X8_isIn A l (nI k) = 0
    · have c0 : u (71 + k) = 0 := e71.mpr ⟨c1, c2⟩
      by_cases c5 : o = j
      · subst c5
        by_cases c3 : u (23 + k) = t <;> by_cases c4 : u (35 + k) = 1 <;> simp [c0, c1, c2, c3, c4, zr_if, ud_if]
      · have c6 : ¬ j = o := fun q => c5 q.symm
        by_cases c3 : u (23 + k) = t <;> by_cases c4 : u (35 + k) = 1 <;> simp [c0, c1, c2, c3, c4, c5, c6, zr_if, ud_if]
    · have c0 : ¬ u (71 + k) = 0 := fun q => c2 (e71.mp q).2
      simp [c0, c1, c2]
  · have c0 : ¬ u (71 + k) = 0 := fun q => c1 (e71.mp q).1
    simp [c0, c1]
theorem tk7_28 (M : Nat → Nat → Int32) (t l : Int32) (k : Nat) (hk : k ≤ 6) : ∀ j, j < k → s_X1_take_28_7 M t l k 29 j = 0 ∧ s_X1_take_28_7 M t l k 30 j = 0 := by
  induction k with
  | zero => intro j hj; omega
  | succ k ih =>
    intro j hj
    have hs : s_X1_take_28_7 M t l (k + 1) = e_X1_take_28_7_M (s_X1_take_28_7 M t l k) t l (nI k) := rfl
    have ck : (nI k).toNatClampNeg = k := nI_clamp (by omega)
    rw [hs]
    unfold e_X1_take_28_7_M
    simp only [ck]
    by_cases c : j = k
    · subst c
      simp [zr_if, ud_if]
    · have := ih (by omega) j (by omega)
      simp [zr_if, ud_if, c, this.1, this.2]
def TK_28 (M : Nat → Nat → Int32) (u : Nat → Int32) (n mm : Nat) (l : Int32) : Prop := (M 15 1 = nI mm ∧ mm ≤ 6 ∧ M 20 1 = nI n ∧ n ≤ 12) ∧ (∀ k, k < mm → M 21 k = u (4 + k)) ∧ (∀ k, k < n → ∃ o, o < mm ∧ M 22 k = nI o ∧ u (11 + k) = nI o) ∧ (∀ k, k < n → M 23 k = u (23 + k) ∧ M 24 k = u (35 + k) ∧ M 25 k = u (47 + k) ∧ (u (71 + k) = 0 ↔ (M 27 k = 0 ∧ f_X8_isIn M l (nI k) = 0)))
theorem tk40_28 (M : Nat → Nat → Int32) (t l : Int32) (u : Nat → Int32) (n mm : Nat) (h : TK_28 M u n mm l) (h2 : M 28 2 = t) (hz : ∀ j, j < mm → M 29 j = 0 ∧ M 30 j = 0) (k : Nat) (hk : k ≤ n) : ∀ j, j < mm → s_X1_take_28_40 M t l k 29 j = pul u k (nI j) t ∧ s_X1_take_28_40 M t l k 30 j = lod u k (nI j) := by
  obtain ⟨⟨h15, hm6, hn, hn12⟩, hwt, how, hst⟩ := h
  induction k with
  | zero => intro j hj; exact hz j hj
  | succ k ih =>
    intro j hj
    have hs : s_X1_take_28_40 M t l (k + 1) = e_X1_take_28_40_M (s_X1_take_28_40 M t l k) t l (nI k) := rfl
    have fr : ∀ c, c ≠ 29 → c ≠ 30 → s_X1_take_28_40 M t l k c = M c := fun c a b => fr_s_X1_take_28_40 M t l k c a b
    obtain ⟨o, ho, e1, e2⟩ := how k (by omega)
    obtain ⟨e3, e4, e5, e6⟩ := hst k (by omega)
    obtain ⟨i1, i2⟩ := ih (by omega) j hj
    rw [hs]
    obtain ⟨r1, r2⟩ := tk_step_28 (s_X1_take_28_40 M t l k) t l k j o u (by omega) (by omega) (by omega) (by rw [fr _ (by decide) (by decide)]; exact h2) (by rw [fr _ (by decide) (by decide)]; exact e1) e2 (by rw [fr _ (by decide) (by decide)]; exact e3) (by rw [fr _ (by decide) (by decide)]; exact e4) (by rw [fr _ (by decide) (by decide)]; exact e5) (by rw [fr _ (by decide) (by decide)]; exact e6)
    rw [r1, r2, i1, i2]
    exact ⟨rfl, rfl⟩
theorem tk83_28 (M : Nat → Nat → Int32) (t l : Int32) (k : Nat) (hk : k ≤ 6) : ∀ j, j < k → s_X1_take_28_83 M t l k 31 j = f_X1_wayOf_28 M (nI j) := by
  induction k with
  | zero => intro j hj; omega
  | succ k ih =>
    intro j hj
    have hs : s_X1_take_28_83 M t l (k + 1) = e_X1_take_28_83_M (s_X1_take_28_83 M t l k) t l (nI k) := rfl
    have fr : ∀ c, c ≠ 31 → s_X1_take_28_83 M t l k c = M c := fun c a => fr_s_X1_take_28_83 M t l k c a
    have ck : (nI k).toNatClampNeg = k := nI_clamp (by omega)
    rw [hs]
    unfold e_X1_take_28_83_M
    rw [z_row_eq, ck]
    by_cases c : j = k
    · subst c
      rw [ud_eq]
      unfold f_X1_wayOf_28 f_X1_hangs_28 f_X1_ownWayOf_28
      rw [fr 28 (by decide), fr 29 (by decide), fr 30 (by decide), fr 21 (by decide), fr 18 (by decide)]
    · rw [ud_ne c]
      exact ih (by omega) j (by omega)
theorem way_28 (M : Nat → Nat → Int32) (u w : Nat → Int32) (n j : Nat) (t : Int32) (hj : j < 6) (h2 : M 28 2 = t) (e1 : M 29 j = pul u n (nI j) t) (e2 : M 30 j = lod u n (nI j)) (e3 : M 21 j = u (4 + j)) (e4 : M 18 j = w j) : f_X1_wayOf_28 M (nI j) = gos w u n j t := by
  have cj : (nI j).toNatClampNeg = j := nI_clamp (by omega)
  unfold f_X1_wayOf_28 f_X1_hangs_28 f_X1_ownWayOf_28
  rw [gos_way]
  unfold hng ow
  simp only [cj, h2, e1, e2, e3, e4]
  by_cases c : lod u n (nI j) ≤ u (4 + j)
  · have c2 : ¬ u (4 + j) < lod u n (nI j) := i_nlt.mpr c
    simp [c, c2]
  · have c2 : u (4 + j) < lod u n (nI j) := i_nle.mp c
    simp [c, c2]
theorem tk_28 (M : Nat → Nat → Int32) (u w : Nat → Int32) (n mm : Nat) (t l : Int32) (h : TK_28 M u n mm l) (hw : ∀ k, k < mm → M 18 k = w k) : q_X1_take_28 M t l ∧ g_X1_take_28 M t l 28 2 = t ∧ ∀ j, j < mm → g_X1_take_28 M t l 29 j = pul u n (nI j) t ∧ g_X1_take_28 M t l 30 j = lod u n (nI j) ∧ g_X1_take_28 M t l 31 j = gos w u n j t := by
  have h0 := h
  obtain ⟨⟨h15, hm6, hn, hn12⟩, hwt, how, hst⟩ := h0
  have cmm : (nI mm).toNatClampNeg = mm := nI_clamp (by omega)
  have cn : (nI n).toNatClampNeg = n := nI_clamp (by omega)
  unfold q_X1_take_28 g_X1_take_28
  obtain ⟨M0, hM0⟩ : ∃ x, x = z_row M 28 (upd (M 28) 2 t) := ⟨_, rfl⟩
  have f0 : ∀ c, c ≠ 28 → M0 c = M c := fun c hc => by rw [hM0]; exact z_row_ne hc
  have t0 : M0 28 2 = t := by rw [hM0, z_row_eq, ud_eq]
  rw [← hM0]
  have e0 : (M0 15 1).toNatClampNeg = mm := by rw [f0 _ (by decide), h15, cmm]
  rw [e0]
  obtain ⟨M1, hM1⟩ : ∃ x, x = s_X1_take_28_7 M0 t l mm := ⟨_, rfl⟩
  have f1 : ∀ c, c ≠ 29 → c ≠ 30 → M1 c = M0 c := fun c a b => by rw [hM1]; exact fr_s_X1_take_28_7 M0 t l mm c a b
  have z1 : ∀ j, j < mm → M1 29 j = 0 ∧ M1 30 j = 0 := by rw [hM1]; exact tk7_28 M0 t l mm hm6
  rw [← hM1]
  have e1 : (M1 20 1).toNatClampNeg = n := by rw [f1 _ (by decide) (by decide), f0 _ (by decide), hn, cn]
  rw [e1]
  have h1 : TK_28 M1 u n mm l := by
    unfold TK_28 at h ⊢
    rw [f1 15 (by decide) (by decide), f0 15 (by decide), f1 20 (by decide) (by decide), f0 20 (by decide), f1 21 (by decide) (by decide), f0 21 (by decide), f1 22 (by decide) (by decide), f0 22 (by decide), f1 23 (by decide) (by decide), f0 23 (by decide), f1 24 (by decide) (by decide), f0 24 (by decide), f1 25 (by decide) (by decide), f0 25 (by decide), f1 27 (by decide) (by decide), f0 27 (by decide)]
    exact h
  have t1 : M1 28 2 = t := by rw [f1 _ (by decide) (by decide)]; exact t0
  obtain ⟨M2, hM2⟩ : ∃ x, x = s_X1_take_28_40 M1 t l n := ⟨_, rfl⟩
  have f2 : ∀ k c, c ≠ 29 → c ≠ 30 → s_X1_take_28_40 M1 t l k c = M1 c := fun k c a b => fr_s_X1_take_28_40 M1 t l k c a b
  have z2 : ∀ j, j < mm → M2 29 j = pul u n (nI j) t ∧ M2 30 j = lod u n (nI j) := by rw [hM2]; exact tk40_28 M1 t l u n mm h1 t1 z1 n (Nat.le_refl _)
  have g2 : ∀ c, c ≠ 29 → c ≠ 30 → M2 c = M1 c := fun c a b => by rw [hM2]; exact f2 n c a b
  rw [← hM2]
  have e2 : (M2 15 1).toNatClampNeg = mm := by rw [g2 _ (by decide) (by decide), f1 _ (by decide) (by decide)]; exact e0
  rw [e2]
  refine ⟨⟨?_, ?_, ?_, trivial⟩, ?_, ?_⟩
  · intro k hk
    exact ⟨vi (by omega) (by decide), trivial⟩
  · intro k hk
    obtain ⟨o, ho, p1, p2⟩ := h1.2.2.1 k hk
    have v12 : z_vin (nI k) 12 = true := vi (by omega) (by decide)
    refine ⟨⟨v12, trivial⟩, fun _ _ => ⟨v12, ?_, trivial⟩, trivial⟩
    rw [f2 k _ (by decide) (by decide), nI_clamp (by omega), p1]
    exact vi (by omega) (by decide)
  · intro k hk
    have v6 : z_vin (nI k) 6 = true := vi (by omega) (by decide)
    exact ⟨⟨v6, fun _ => ⟨v6, trivial⟩, fun _ _ => ⟨v6, trivial⟩, trivial⟩, v6, trivial⟩
  · rw [fr_s_X1_take_28_83 M2 t l mm 28 (by decide), g2 _ (by decide) (by decide)]
    exact t1
  · intro j hj
    rw [fr_s_X1_take_28_83 M2 t l mm 29 (by decide), fr_s_X1_take_28_83 M2 t l mm 30 (by decide)]
    refine ⟨(z2 j hj).1, (z2 j hj).2, ?_⟩
    rw [tk83_28 M2 t l mm hm6 j hj]
    refine way_28 M2 u w n j t (by omega) (by rw [g2 _ (by decide) (by decide)]; exact t1) (z2 j hj).1 (z2 j hj).2 ?_ ?_
    · rw [g2 _ (by decide) (by decide)]; exact h1.2.1 j hj
    · rw [g2 _ (by decide) (by decide), f1 _ (by decide) (by decide), f0 _ (by decide)]; exact hw j hj

theorem tk_step_42 (A : Nat → Nat → Int32) (t l : Int32) (k j o : Nat) (u : Nat → Int32) (hk : k < 12) (hj : j < 6) (ho6 : o < 6) (h2 : A 42 2 = t) (f11 : A 36 k = nI o) (e11 : u (11 + k) = nI o) (e23 : A 37 k = u (23 + k)) (e35 : A 38 k = u (35 + k)) (e47 : A 39 k = u (47 + k)) (e71 : u (71 + k) = 0 ↔ (A 41 k = 0 ∧ f_X8_isIn A l (nI k) = 0)) : e_X1_take_42_40_M A t l (nI k) 43 j = A 43 j + wk u k (nI j) t ∧ e_X1_take_42_40_M A t l (nI k) 44 j = A 44 j + lk u k (nI j) := by
  have hoj : (nI o = nI j) ↔ o = j := nI_eq (by omega) (by omega)
  have ck : (nI k).toNatClampNeg = k := nI_clamp (by omega)
  have co : (nI o).toNatClampNeg = o := nI_clamp (by omega)
  unfold e_X1_take_42_40_M f_X0_holds_34 g_X1_weigh_42 wk lk
  simp only [ck, h2, f11, e11, e23, e35, e47, co, hoj]
  by_cases c1 : A 41 k = 0
  · by_cases c2 : f_X8_isIn A l (nI k) = 0
    · have c0 : u (71 + k) = 0 := e71.mpr ⟨c1, c2⟩
      by_cases c5 : o = j
      · subst c5
        by_cases c3 : u (23 + k) = t <;> by_cases c4 : u (35 + k) = 1 <;> simp [c0, c1, c2, c3, c4, zr_if, ud_if]
      · have c6 : ¬ j = o := fun q => c5 q.symm
        by_cases c3 : u (23 + k) = t <;> by_cases c4 : u (35 + k) = 1 <;> simp [c0, c1, c2, c3, c4, c5, c6, zr_if, ud_if]
    · have c0 : ¬ u (71 + k) = 0 := fun q => c2 (e71.mp q).2
      simp [c0, c1, c2]
  · have c0 : ¬ u (71 + k) = 0 := fun q => c1 (e71.mp q).1
    simp [c0, c1]
theorem tk7_42 (M : Nat → Nat → Int32) (t l : Int32) (k : Nat) (hk : k ≤ 6) : ∀ j, j < k → s_X1_take_42_7 M t l k 43 j = 0 ∧ s_X1_take_42_7 M t l k 44 j = 0 := by
  induction k with
  | zero => intro j hj; omega
  | succ k ih =>
    intro j hj
    have hs : s_X1_take_42_7 M t l (k + 1) = e_X1_take_42_7_M (s_X1_take_42_7 M t l k) t l (nI k) := rfl
    have ck : (nI k).toNatClampNeg = k := nI_clamp (by omega)
    rw [hs]
    unfold e_X1_take_42_7_M
    simp only [ck]
    by_cases c : j = k
    · subst c
      simp [zr_if, ud_if]
    · have := ih (by omega) j (by omega)
      simp [zr_if, ud_if, c, this.1, this.2]
def TK_42 (M : Nat → Nat → Int32) (u : Nat → Int32) (n mm : Nat) (l : Int32) : Prop := (M 15 1 = nI mm ∧ mm ≤ 6 ∧ M 34 1 = nI n ∧ n ≤ 12) ∧ (∀ k, k < mm → M 35 k = u (4 + k)) ∧ (∀ k, k < n → ∃ o, o < mm ∧ M 36 k = nI o ∧ u (11 + k) = nI o) ∧ (∀ k, k < n → M 37 k = u (23 + k) ∧ M 38 k = u (35 + k) ∧ M 39 k = u (47 + k) ∧ (u (71 + k) = 0 ↔ (M 41 k = 0 ∧ f_X8_isIn M l (nI k) = 0)))
theorem tk40_42 (M : Nat → Nat → Int32) (t l : Int32) (u : Nat → Int32) (n mm : Nat) (h : TK_42 M u n mm l) (h2 : M 42 2 = t) (hz : ∀ j, j < mm → M 43 j = 0 ∧ M 44 j = 0) (k : Nat) (hk : k ≤ n) : ∀ j, j < mm → s_X1_take_42_40 M t l k 43 j = pul u k (nI j) t ∧ s_X1_take_42_40 M t l k 44 j = lod u k (nI j) := by
  obtain ⟨⟨h15, hm6, hn, hn12⟩, hwt, how, hst⟩ := h
  induction k with
  | zero => intro j hj; exact hz j hj
  | succ k ih =>
    intro j hj
    have hs : s_X1_take_42_40 M t l (k + 1) = e_X1_take_42_40_M (s_X1_take_42_40 M t l k) t l (nI k) := rfl
    have fr : ∀ c, c ≠ 43 → c ≠ 44 → s_X1_take_42_40 M t l k c = M c := fun c a b => fr_s_X1_take_42_40 M t l k c a b
    obtain ⟨o, ho, e1, e2⟩ := how k (by omega)
    obtain ⟨e3, e4, e5, e6⟩ := hst k (by omega)
    obtain ⟨i1, i2⟩ := ih (by omega) j hj
    rw [hs]
    obtain ⟨r1, r2⟩ := tk_step_42 (s_X1_take_42_40 M t l k) t l k j o u (by omega) (by omega) (by omega) (by rw [fr _ (by decide) (by decide)]; exact h2) (by rw [fr _ (by decide) (by decide)]; exact e1) e2 (by rw [fr _ (by decide) (by decide)]; exact e3) (by rw [fr _ (by decide) (by decide)]; exact e4) (by rw [fr _ (by decide) (by decide)]; exact e5) (by rw [fr _ (by decide) (by decide)]; exact e6)
    rw [r1, r2, i1, i2]
    exact ⟨rfl, rfl⟩
theorem tk83_42 (M : Nat → Nat → Int32) (t l : Int32) (k : Nat) (hk : k ≤ 6) : ∀ j, j < k → s_X1_take_42_83 M t l k 45 j = f_X1_wayOf_42 M (nI j) := by
  induction k with
  | zero => intro j hj; omega
  | succ k ih =>
    intro j hj
    have hs : s_X1_take_42_83 M t l (k + 1) = e_X1_take_42_83_M (s_X1_take_42_83 M t l k) t l (nI k) := rfl
    have fr : ∀ c, c ≠ 45 → s_X1_take_42_83 M t l k c = M c := fun c a => fr_s_X1_take_42_83 M t l k c a
    have ck : (nI k).toNatClampNeg = k := nI_clamp (by omega)
    rw [hs]
    unfold e_X1_take_42_83_M
    rw [z_row_eq, ck]
    by_cases c : j = k
    · subst c
      rw [ud_eq]
      unfold f_X1_wayOf_42 f_X1_hangs_42 f_X1_ownWayOf_42
      rw [fr 42 (by decide), fr 43 (by decide), fr 44 (by decide), fr 35 (by decide), fr 18 (by decide)]
    · rw [ud_ne c]
      exact ih (by omega) j (by omega)
theorem way_42 (M : Nat → Nat → Int32) (u w : Nat → Int32) (n j : Nat) (t : Int32) (hj : j < 6) (h2 : M 42 2 = t) (e1 : M 43 j = pul u n (nI j) t) (e2 : M 44 j = lod u n (nI j)) (e3 : M 35 j = u (4 + j)) (e4 : M 18 j = w j) : f_X1_wayOf_42 M (nI j) = gos w u n j t := by
  have cj : (nI j).toNatClampNeg = j := nI_clamp (by omega)
  unfold f_X1_wayOf_42 f_X1_hangs_42 f_X1_ownWayOf_42
  rw [gos_way]
  unfold hng ow
  simp only [cj, h2, e1, e2, e3, e4]
  by_cases c : lod u n (nI j) ≤ u (4 + j)
  · have c2 : ¬ u (4 + j) < lod u n (nI j) := i_nlt.mpr c
    simp [c, c2]
  · have c2 : u (4 + j) < lod u n (nI j) := i_nle.mp c
    simp [c, c2]
theorem tk_42 (M : Nat → Nat → Int32) (u w : Nat → Int32) (n mm : Nat) (t l : Int32) (h : TK_42 M u n mm l) (hw : ∀ k, k < mm → M 18 k = w k) : q_X1_take_42 M t l ∧ g_X1_take_42 M t l 42 2 = t ∧ ∀ j, j < mm → g_X1_take_42 M t l 43 j = pul u n (nI j) t ∧ g_X1_take_42 M t l 44 j = lod u n (nI j) ∧ g_X1_take_42 M t l 45 j = gos w u n j t := by
  have h0 := h
  obtain ⟨⟨h15, hm6, hn, hn12⟩, hwt, how, hst⟩ := h0
  have cmm : (nI mm).toNatClampNeg = mm := nI_clamp (by omega)
  have cn : (nI n).toNatClampNeg = n := nI_clamp (by omega)
  unfold q_X1_take_42 g_X1_take_42
  obtain ⟨M0, hM0⟩ : ∃ x, x = z_row M 42 (upd (M 42) 2 t) := ⟨_, rfl⟩
  have f0 : ∀ c, c ≠ 42 → M0 c = M c := fun c hc => by rw [hM0]; exact z_row_ne hc
  have t0 : M0 42 2 = t := by rw [hM0, z_row_eq, ud_eq]
  rw [← hM0]
  have e0 : (M0 15 1).toNatClampNeg = mm := by rw [f0 _ (by decide), h15, cmm]
  rw [e0]
  obtain ⟨M1, hM1⟩ : ∃ x, x = s_X1_take_42_7 M0 t l mm := ⟨_, rfl⟩
  have f1 : ∀ c, c ≠ 43 → c ≠ 44 → M1 c = M0 c := fun c a b => by rw [hM1]; exact fr_s_X1_take_42_7 M0 t l mm c a b
  have z1 : ∀ j, j < mm → M1 43 j = 0 ∧ M1 44 j = 0 := by rw [hM1]; exact tk7_42 M0 t l mm hm6
  rw [← hM1]
  have e1 : (M1 34 1).toNatClampNeg = n := by rw [f1 _ (by decide) (by decide), f0 _ (by decide), hn, cn]
  rw [e1]
  have h1 : TK_42 M1 u n mm l := by
    unfold TK_42 at h ⊢
    rw [f1 15 (by decide) (by decide), f0 15 (by decide), f1 34 (by decide) (by decide), f0 34 (by decide), f1 35 (by decide) (by decide), f0 35 (by decide), f1 36 (by decide) (by decide), f0 36 (by decide), f1 37 (by decide) (by decide), f0 37 (by decide), f1 38 (by decide) (by decide), f0 38 (by decide), f1 39 (by decide) (by decide), f0 39 (by decide), f1 41 (by decide) (by decide), f0 41 (by decide)]
    exact h
  have t1 : M1 42 2 = t := by rw [f1 _ (by decide) (by decide)]; exact t0
  obtain ⟨M2, hM2⟩ : ∃ x, x = s_X1_take_42_40 M1 t l n := ⟨_, rfl⟩
  have f2 : ∀ k c, c ≠ 43 → c ≠ 44 → s_X1_take_42_40 M1 t l k c = M1 c := fun k c a b => fr_s_X1_take_42_40 M1 t l k c a b
  have z2 : ∀ j, j < mm → M2 43 j = pul u n (nI j) t ∧ M2 44 j = lod u n (nI j) := by rw [hM2]; exact tk40_42 M1 t l u n mm h1 t1 z1 n (Nat.le_refl _)
  have g2 : ∀ c, c ≠ 43 → c ≠ 44 → M2 c = M1 c := fun c a b => by rw [hM2]; exact f2 n c a b
  rw [← hM2]
  have e2 : (M2 15 1).toNatClampNeg = mm := by rw [g2 _ (by decide) (by decide), f1 _ (by decide) (by decide)]; exact e0
  rw [e2]
  refine ⟨⟨?_, ?_, ?_, trivial⟩, ?_, ?_⟩
  · intro k hk
    exact ⟨vi (by omega) (by decide), trivial⟩
  · intro k hk
    obtain ⟨o, ho, p1, p2⟩ := h1.2.2.1 k hk
    have v12 : z_vin (nI k) 12 = true := vi (by omega) (by decide)
    refine ⟨⟨v12, trivial⟩, fun _ _ => ⟨v12, ?_, trivial⟩, trivial⟩
    rw [f2 k _ (by decide) (by decide), nI_clamp (by omega), p1]
    exact vi (by omega) (by decide)
  · intro k hk
    have v6 : z_vin (nI k) 6 = true := vi (by omega) (by decide)
    exact ⟨⟨v6, fun _ => ⟨v6, trivial⟩, fun _ _ => ⟨v6, trivial⟩, trivial⟩, v6, trivial⟩
  · rw [fr_s_X1_take_42_83 M2 t l mm 42 (by decide), g2 _ (by decide) (by decide)]
    exact t1
  · intro j hj
    rw [fr_s_X1_take_42_83 M2 t l mm 43 (by decide), fr_s_X1_take_42_83 M2 t l mm 44 (by decide)]
    refine ⟨(z2 j hj).1, (z2 j hj).2, ?_⟩
    rw [tk83_42 M2 t l mm hm6 j hj]
    refine way_42 M2 u w n j t (by omega) (by rw [g2 _ (by decide) (by decide)]; exact t1) (z2 j hj).1 (z2 j hj).2 ?_ ?_
    · rw [g2 _ (by decide) (by decide)]; exact h1.2.1 j hj
    · rw [g2 _ (by decide) (by decide), f1 _ (by decide) (by decide), f0 _ (by decide)]; exact hw j hj
