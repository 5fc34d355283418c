/-! THE CLASS: the division -/
/-- the division as taken -/
def DV_28 (A : Nat → Nat → Int32) (u w : Nat → Int32) (n mm : Nat) (t : Int32) : Prop := (0 < mm → A 28 2 = t) ∧ mm ≤ 6 ∧ (∀ j, j < mm → A 29 j = pul u n (nI j) t ∧ A 30 j = lod u n (nI j) ∧ A 31 j = gos w u n j t ∧ A 268 j = (if hng u n j = true then 1 else 0) ∧ A 269 j = ow w j t ∧ A 270 j = if gos w u n j t = 2 then 0 else vt (A 16) u n j)
theorem hd_28 {A : Nat → Nat → Int32} {u w : Nat → Int32} {n mm : Nat} {t : Int32} (h : DV_28 A u w n mm t) {j : Nat} (hj : j < mm) : f_X1_isHeld_28 A (nI j) = if hel w u n j t = true then 1 else 0 := by
  obtain ⟨h2, hm, h⟩ := h
  obtain ⟨e1, e2, e3, e4, e5, e6⟩ := h j hj
  have cj : (nI j).toNatClampNeg = j := nI_clamp (by omega)
  unfold f_X1_isHeld_28 hel
  rw [cj, e3, e5]
  by_cases c1 : gos w u n j t = 2
  · simp [c1]
  · by_cases c2 : gos w u n j t = ow w j t
    · simp [c1, c2]
    · simp [c1, c2]
theorem vo_28 {A : Nat → Nat → Int32} {u w kd : Nat → Int32} {n mm : Nat} {t : Int32} (h : DV_28 A u w n mm t) (hk : ∀ j, j < mm → A 16 j = kd j) {j : Nat} (hj : j < mm) : A 270 j = if gos w u n j t = 2 then 0 else vt kd u n j := by
  obtain ⟨h2, hm, h⟩ := h
  obtain ⟨e1, e2, e3, e4, e5, e6⟩ := h j hj
  rw [e6]
  unfold vt
  rw [hk j hj]
theorem ga_28 {A : Nat → Nat → Int32} {u w kd : Nat → Int32} {n mm : Nat} {t : Int32} (h : DV_28 A u w n mm t) (hk : ∀ j, j < mm → A 16 j = kd j) {j : Nat} (hj : j < mm) : f_X1_gainBy_28 A (nI j) = gn kd w u n j t := by
  have o := vo_28 h hk hj
  obtain ⟨h2, hm, h⟩ := h
  obtain ⟨e1, e2, e3, e4, e5, e6⟩ := h j hj
  have cj : (nI j).toNatClampNeg = j := nI_clamp (by omega)
  unfold f_X1_gainBy_28 gn
  rw [cj, e3, o]
  by_cases c1 : gos w u n j t = 2
  · simp [c1]
  · by_cases c2 : gos w u n j t = 1
    · simp [c2]
    · simp [c1, c2]
theorem qga_28 (A : Nat → Nat → Int32) {j : Nat} (hj : j < 6) : q_X1_gainBy_28 A (nI j) := ⟨vi hj (by decide), trivial⟩
theorem ma_28 {A : Nat → Nat → Int32} {u w kd : Nat → Int32} {n mm : Nat} {t : Int32} (h : DV_28 A u w n mm t) (hk : ∀ j, j < mm → A 16 j = kd j) (h15 : A 15 1 = nI mm) : q_X1_margin_28 A ∧ f_X1_margin_28 A = mg kd w u n mm t := by
  have hm : mm ≤ 6 := h.2.1
  have cm : (A 15 1).toNatClampNeg = mm := by rw [h15]; exact nI_clamp (by omega)
  unfold q_X1_margin_28 f_X1_margin_28 mg
  rw [cm]
  refine ⟨⟨fun k hk' => ⟨qga_28 A (by omega), trivial⟩, trivial⟩, ?_⟩
  have : ∀ k, k ≤ mm → s_margin_28 A 0 k = sm k (fun m => gn kd w u n m t) := by
    intro k
    induction k with
    | zero => intro _; rfl
    | succ k ih =>
      intro hk'
      have hs : s_margin_28 A 0 (k + 1) = s_margin_28 A 0 k + f_X1_gainBy_28 A (nI k) := rfl
      rw [hs, ih (by omega), ga_28 h hk (by omega), sm_s]
  exact this mm (Nat.le_refl _)
/-- the sitting: its braces are the row s -/
def CS_28 (M : Nat → Nat → Int32) (s kd w : Nat → Int32) (q : Int32) (n mm : Nat) : Prop := (M 15 1 = nI mm ∧ mm ≤ 6 ∧ M 15 0 = q) ∧ (∀ k, k < mm → M 16 k = kd k ∧ M 18 k = w k) ∧ rp M 20 s n mm ∧ wf s n mm
theorem isIn0_28 (M : Nat → Nat → Int32) (k : Nat) : f_X8_isIn M 0 (nI k) = 0 := by
  unfold f_X8_isIn
  rw [if_pos]
  intro q
  have : (0 : Int32) >>> (nI k &&& 31) = 0 := Int32.zero_shiftRight
  rw [this] at q
  exact absurd q (by decide)
theorem tkc_28 {M : Nat → Nat → Int32} {s kd w : Nat → Int32} {q : Int32} {n mm : Nat} (h : CS_28 M s kd w q n mm) : TK_28 M s n mm 0 := by
  obtain ⟨⟨h1, h2, h3⟩, hk, ⟨⟨r1, r2⟩, r3, r4⟩, w1, w2, w3, w4, w5⟩ := h
  refine ⟨⟨h1, h2, r1.trans w1, w2⟩, r3, ?_, ?_⟩
  · intro k hk'
    obtain ⟨o, ho, e⟩ := w3 k hk'
    exact ⟨o, ho, (r4 k hk').1.trans e, e⟩
  · intro k hk'
    obtain ⟨a1, a2, a3, a4, a5, a6⟩ := r4 k hk'
    refine ⟨a2, a3, a4, ?_⟩
    rw [a6]
    exact ⟨fun z => ⟨z, isIn0_28 M k⟩, fun z => z.1⟩
theorem CS_cong_28 {M M' : Nat → Nat → Int32} {s kd w : Nat → Int32} {q : Int32} {n mm : Nat} (h : CS_28 M s kd w q n mm) (f : ∀ c, c < 28 → M' c = M c) : CS_28 M' s kd w q n mm := by
  obtain ⟨h1, hk, hr, hw⟩ := h
  refine ⟨?_, ?_, rp_cong hr (fun c _ hc => f c (by omega)), hw⟩
  · rw [f 15 (by decide)]; exact h1
  · rw [f 16 (by decide), f 18 (by decide)]; exact hk
theorem dv_28 {M : Nat → Nat → Int32} {s kd w : Nat → Int32} {q : Int32} {n mm : Nat} (h : CS_28 M s kd w q n mm) (t : Int32) : q_X1_take_28 M t ∧ DV_28 (g_X1_take_28 M t) s w n mm t ∧ (∀ c, (c < 28 ∨ 31 < c) ∧ (c < 268 ∨ 273 < c) → g_X1_take_28 M t c = M c) ∧ CS_28 (g_X1_take_28 M t) s kd w q n mm := by
  obtain ⟨p1, p2, p3⟩ := tk_28 M s w n mm t (tkc_28 h) (fun k hk => (h.2.1 k hk).2)
  have fr : ∀ c, (c < 28 ∨ 31 < c) ∧ (c < 268 ∨ 273 < c) → g_X1_take_28 M t c = M c := fun c hc => fr_g_X1_take_28 M t c (by omega) (by omega) (by omega) (by omega) (by omega) (by omega) (by omega)
  exact ⟨p1, ⟨p2, h.1.2.1, p3⟩, fr, CS_cong_28 h (fun c hc => fr c (by omega))⟩
theorem io_28 {A : Nat → Nat → Int32} {s : Nat → Int32} {t : Int32} {n k : Nat} (hb : A 20 1 = nI n) (hn : n ≤ 12) (hk : k < n) (h2 : A 28 2 = t) (a2 : A 23 k = s (23 + k)) (a6 : A 27 k = s (71 + k)) : f_X1_isOn_28 A (nI k) = if s (71 + k) = 0 ∧ s (23 + k) = t then 1 else 0 := by
  have ck : (nI k).toNatClampNeg = k := nI_clamp (by omega)
  unfold f_X1_isOn_28
  rw [ho_20 hb hk hn, ck, a2, a6, h2]
  by_cases c1 : s (71 + k) = 0 <;> by_cases c2 : s (23 + k) = t <;> simp [c1, c2]
theorem so_28 {A : Nat → Nat → Int32} {s w kd : Nat → Int32} {n mm : Nat} {t : Int32} (h : DV_28 A s w n mm t) (h15 : A 15 1 = nI mm) (hb : A 20 1 = nI n) (hn : n ≤ 12) (hkd : ∀ j, j < mm → A 16 j = kd j) {k o : Nat} (hk : k < n) (ho : o < mm) (a1 : A 22 k = s (11 + k)) (eo : s (11 + k) = nI o) (a2 : A 23 k = s (23 + k)) (a3 : A 24 k = s (35 + k)) (a6 : A 27 k = s (71 + k)) : q_X1_strainOn_28 A (nI k) ∧ f_X1_strainOn_28 A (nI k) = sn kd w s n k t := by
  have hm := h.2.1
  have ck : (nI k).toNatClampNeg = k := nI_clamp (by omega)
  have co : (nI o).toNatClampNeg = o := nI_clamp (by omega)
  have v12 : z_vin (nI k) 12 = true := vi (by omega) (by decide)
  have v6 : z_vin (nI o) 6 = true := vi (by omega) (by decide)
  constructor
  · unfold q_X1_strainOn_28
    rw [ck, a1, eo]
    exact ⟨⟨qho_20 A (by omega), fun _ => v12, trivial⟩, fun _ => v12, fun _ _ => v6, fun _ _ _ _ => ⟨v6, trivial⟩, fun _ _ _ _ _ => ⟨v6, trivial⟩, trivial⟩
  · have i1 := io_28 (s := s) hb hn hk (h.1 (by omega)) a2 a6
    have i2 := hd_28 h ho
    obtain ⟨e1, e2, e3, e4, e5, e6⟩ := h.2.2 o ho
    have i4 : f_X8_isOutside A (nI o) (nI mm) = 0 := by
      unfold f_X8_isOutside
      rw [if_neg (nI_pos (by omega)), if_pos (nI_lt ho (by omega))]
    unfold f_X1_strainOn_28 f_X1_strainByKind_28 sn
    rw [ck, a1, eo, co, i1, i2, h15, i4, e3, e4, hkd o ho, a3]
    by_cases c1 : s (71 + k) = 0 ∧ s (23 + k) = t
    · by_cases c2 : gos w s n o t = 2
      · simp [c1, c2]
      · by_cases c3 : gos w s n o t = s (35 + k)
        · have c4 : s (35 + k) = gos w s n o t := c3.symm
          cases ch : hel w s n o t
          · simp [c1, c2, c3]
          · by_cases c5 : kd o = 1
            · simp [c1, c2, c5, ← c3]
            · by_cases c6 : kd o = 2 <;> cases hng s n o <;> simp [c1, c2, c5, c6, ← c3]
        · have c4 : ¬ s (35 + k) = gos w s n o t := fun z => c3 z.symm
          simp [c1, c2, c3, c4]
    · simp [c1]

/-- the division as taken -/
def DV_42 (A : Nat → Nat → Int32) (u w : Nat → Int32) (n mm : Nat) (t : Int32) : Prop := (0 < mm → A 42 2 = t) ∧ mm ≤ 6 ∧ (∀ j, j < mm → A 43 j = pul u n (nI j) t ∧ A 44 j = lod u n (nI j) ∧ A 45 j = gos w u n j t ∧ A 271 j = (if hng u n j = true then 1 else 0) ∧ A 272 j = ow w j t ∧ A 273 j = if gos w u n j t = 2 then 0 else vt (A 16) u n j)
theorem hd_42 {A : Nat → Nat → Int32} {u w : Nat → Int32} {n mm : Nat} {t : Int32} (h : DV_42 A u w n mm t) {j : Nat} (hj : j < mm) : f_X1_isHeld_42 A (nI j) = if hel w u n j t = true then 1 else 0 := by
  obtain ⟨h2, hm, h⟩ := h
  obtain ⟨e1, e2, e3, e4, e5, e6⟩ := h j hj
  have cj : (nI j).toNatClampNeg = j := nI_clamp (by omega)
  unfold f_X1_isHeld_42 hel
  rw [cj, e3, e5]
  by_cases c1 : gos w u n j t = 2
  · simp [c1]
  · by_cases c2 : gos w u n j t = ow w j t
    · simp [c1, c2]
    · simp [c1, c2]
theorem vo_42 {A : Nat → Nat → Int32} {u w kd : Nat → Int32} {n mm : Nat} {t : Int32} (h : DV_42 A u w n mm t) (hk : ∀ j, j < mm → A 16 j = kd j) {j : Nat} (hj : j < mm) : A 273 j = if gos w u n j t = 2 then 0 else vt kd u n j := by
  obtain ⟨h2, hm, h⟩ := h
  obtain ⟨e1, e2, e3, e4, e5, e6⟩ := h j hj
  rw [e6]
  unfold vt
  rw [hk j hj]
theorem ga_42 {A : Nat → Nat → Int32} {u w kd : Nat → Int32} {n mm : Nat} {t : Int32} (h : DV_42 A u w n mm t) (hk : ∀ j, j < mm → A 16 j = kd j) {j : Nat} (hj : j < mm) : f_X1_gainBy_42 A (nI j) = gn kd w u n j t := by
  have o := vo_42 h hk hj
  obtain ⟨h2, hm, h⟩ := h
  obtain ⟨e1, e2, e3, e4, e5, e6⟩ := h j hj
  have cj : (nI j).toNatClampNeg = j := nI_clamp (by omega)
  unfold f_X1_gainBy_42 gn
  rw [cj, e3, o]
  by_cases c1 : gos w u n j t = 2
  · simp [c1]
  · by_cases c2 : gos w u n j t = 1
    · simp [c2]
    · simp [c1, c2]
theorem qga_42 (A : Nat → Nat → Int32) {j : Nat} (hj : j < 6) : q_X1_gainBy_42 A (nI j) := ⟨vi hj (by decide), trivial⟩
theorem ma_42 {A : Nat → Nat → Int32} {u w kd : Nat → Int32} {n mm : Nat} {t : Int32} (h : DV_42 A u w n mm t) (hk : ∀ j, j < mm → A 16 j = kd j) (h15 : A 15 1 = nI mm) : q_X1_margin_42 A ∧ f_X1_margin_42 A = mg kd w u n mm t := by
  have hm : mm ≤ 6 := h.2.1
  have cm : (A 15 1).toNatClampNeg = mm := by rw [h15]; exact nI_clamp (by omega)
  unfold q_X1_margin_42 f_X1_margin_42 mg
  rw [cm]
  refine ⟨⟨fun k hk' => ⟨qga_42 A (by omega), trivial⟩, trivial⟩, ?_⟩
  have : ∀ k, k ≤ mm → s_margin_42 A 0 k = sm k (fun m => gn kd w u n m t) := by
    intro k
    induction k with
    | zero => intro _; rfl
    | succ k ih =>
      intro hk'
      have hs : s_margin_42 A 0 (k + 1) = s_margin_42 A 0 k + f_X1_gainBy_42 A (nI k) := rfl
      rw [hs, ih (by omega), ga_42 h hk (by omega), sm_s]
  exact this mm (Nat.le_refl _)
/-- the sitting: its braces are the row s -/
def CS_42 (M : Nat → Nat → Int32) (s kd w : Nat → Int32) (q : Int32) (n mm : Nat) : Prop := (M 15 1 = nI mm ∧ mm ≤ 6 ∧ M 15 0 = q) ∧ (∀ k, k < mm → M 16 k = kd k ∧ M 18 k = w k) ∧ rp M 34 s n mm ∧ wf s n mm
theorem isIn0_42 (M : Nat → Nat → Int32) (k : Nat) : f_X8_isIn M 0 (nI k) = 0 := by
  unfold f_X8_isIn
  rw [if_pos]
  intro q
  have : (0 : Int32) >>> (nI k &&& 31) = 0 := Int32.zero_shiftRight
  rw [this] at q
  exact absurd q (by decide)
theorem tkc_42 {M : Nat → Nat → Int32} {s kd w : Nat → Int32} {q : Int32} {n mm : Nat} (h : CS_42 M s kd w q n mm) : TK_42 M s n mm 0 := by
  obtain ⟨⟨h1, h2, h3⟩, hk, ⟨⟨r1, r2⟩, r3, r4⟩, w1, w2, w3, w4, w5⟩ := h
  refine ⟨⟨h1, h2, r1.trans w1, w2⟩, r3, ?_, ?_⟩
  · intro k hk'
    obtain ⟨o, ho, e⟩ := w3 k hk'
    exact ⟨o, ho, (r4 k hk').1.trans e, e⟩
  · intro k hk'
    obtain ⟨a1, a2, a3, a4, a5, a6⟩ := r4 k hk'
    refine ⟨a2, a3, a4, ?_⟩
    rw [a6]
    exact ⟨fun z => ⟨z, isIn0_42 M k⟩, fun z => z.1⟩
theorem CS_cong_42 {M M' : Nat → Nat → Int32} {s kd w : Nat → Int32} {q : Int32} {n mm : Nat} (h : CS_42 M s kd w q n mm) (f : ∀ c, c < 42 → M' c = M c) : CS_42 M' s kd w q n mm := by
  obtain ⟨h1, hk, hr, hw⟩ := h
  refine ⟨?_, ?_, rp_cong hr (fun c _ hc => f c (by omega)), hw⟩
  · rw [f 15 (by decide)]; exact h1
  · rw [f 16 (by decide), f 18 (by decide)]; exact hk
theorem dv_42 {M : Nat → Nat → Int32} {s kd w : Nat → Int32} {q : Int32} {n mm : Nat} (h : CS_42 M s kd w q n mm) (t : Int32) : q_X1_take_42 M t ∧ DV_42 (g_X1_take_42 M t) s w n mm t ∧ (∀ c, (c < 42 ∨ 45 < c) ∧ (c < 268 ∨ 273 < c) → g_X1_take_42 M t c = M c) ∧ CS_42 (g_X1_take_42 M t) s kd w q n mm := by
  obtain ⟨p1, p2, p3⟩ := tk_42 M s w n mm t (tkc_42 h) (fun k hk => (h.2.1 k hk).2)
  have fr : ∀ c, (c < 42 ∨ 45 < c) ∧ (c < 268 ∨ 273 < c) → g_X1_take_42 M t c = M c := fun c hc => fr_g_X1_take_42 M t c (by omega) (by omega) (by omega) (by omega) (by omega) (by omega) (by omega)
  exact ⟨p1, ⟨p2, h.1.2.1, p3⟩, fr, CS_cong_42 h (fun c hc => fr c (by omega))⟩
theorem io_42 {A : Nat → Nat → Int32} {s : Nat → Int32} {t : Int32} {n k : Nat} (hb : A 34 1 = nI n) (hn : n ≤ 12) (hk : k < n) (h2 : A 42 2 = t) (a2 : A 37 k = s (23 + k)) (a6 : A 41 k = s (71 + k)) : f_X1_isOn_42 A (nI k) = if s (71 + k) = 0 ∧ s (23 + k) = t then 1 else 0 := by
  have ck : (nI k).toNatClampNeg = k := nI_clamp (by omega)
  unfold f_X1_isOn_42
  rw [ho_34 hb hk hn, ck, a2, a6, h2]
  by_cases c1 : s (71 + k) = 0 <;> by_cases c2 : s (23 + k) = t <;> simp [c1, c2]
theorem so_42 {A : Nat → Nat → Int32} {s w kd : Nat → Int32} {n mm : Nat} {t : Int32} (h : DV_42 A s w n mm t) (h15 : A 15 1 = nI mm) (hb : A 34 1 = nI n) (hn : n ≤ 12) (hkd : ∀ j, j < mm → A 16 j = kd j) {k o : Nat} (hk : k < n) (ho : o < mm) (a1 : A 36 k = s (11 + k)) (eo : s (11 + k) = nI o) (a2 : A 37 k = s (23 + k)) (a3 : A 38 k = s (35 + k)) (a6 : A 41 k = s (71 + k)) : q_X1_strainOn_42 A (nI k) ∧ f_X1_strainOn_42 A (nI k) = sn kd w s n k t := by
  have hm := h.2.1
  have ck : (nI k).toNatClampNeg = k := nI_clamp (by omega)
  have co : (nI o).toNatClampNeg = o := nI_clamp (by omega)
  have v12 : z_vin (nI k) 12 = true := vi (by omega) (by decide)
  have v6 : z_vin (nI o) 6 = true := vi (by omega) (by decide)
  constructor
  · unfold q_X1_strainOn_42
    rw [ck, a1, eo]
    exact ⟨⟨qho_34 A (by omega), fun _ => v12, trivial⟩, fun _ => v12, fun _ _ => v6, fun _ _ _ _ => ⟨v6, trivial⟩, fun _ _ _ _ _ => ⟨v6, trivial⟩, trivial⟩
  · have i1 := io_42 (s := s) hb hn hk (h.1 (by omega)) a2 a6
    have i2 := hd_42 h ho
    obtain ⟨e1, e2, e3, e4, e5, e6⟩ := h.2.2 o ho
    have i4 : f_X8_isOutside A (nI o) (nI mm) = 0 := by
      unfold f_X8_isOutside
      rw [if_neg (nI_pos (by omega)), if_pos (nI_lt ho (by omega))]
    unfold f_X1_strainOn_42 f_X1_strainByKind_42 sn
    rw [ck, a1, eo, co, i1, i2, h15, i4, e3, e4, hkd o ho, a3]
    by_cases c1 : s (71 + k) = 0 ∧ s (23 + k) = t
    · by_cases c2 : gos w s n o t = 2
      · simp [c1, c2]
      · by_cases c3 : gos w s n o t = s (35 + k)
        · have c4 : s (35 + k) = gos w s n o t := c3.symm
          cases ch : hel w s n o t
          · simp [c1, c2, c3]
          · by_cases c5 : kd o = 1
            · simp [c1, c2, c5, ← c3]
            · by_cases c6 : kd o = 2 <;> cases hng s n o <;> simp [c1, c2, c5, c6, ← c3]
        · have c4 : ¬ s (35 + k) = gos w s n o t := fun z => c3 z.symm
          simp [c1, c2, c3, c4]
    · simp [c1]
