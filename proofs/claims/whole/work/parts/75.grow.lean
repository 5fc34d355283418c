/-! THE TEXT: the house grows by a member -/
theorem H_mem {M G M' G' : Nat → Nat → Int32} {s kd sd w : Nat → Int32} {q v1 v2 v3 v4 : Int32} {n mm : Nat} (h1 : HC M s kd sd w q n mm) (h2 : HX G s kd sd w q mm) (h3 : HW s q n mm) (h6 : mm < 6) (c3 : M' 3 = upd (M 3) 1 (nI (mm + 1))) (c4 : M' 4 = upd (M 4) mm v1) (c5 : M' 5 = upd (M 5) mm v2) (c8 : M' 8 = upd (M 8) mm v3) (c6 : M' 6 = upd (M 6) mm v4) (cf : ∀ c, c ≠ 2 → c ≠ 3 → c ≠ 4 → c ≠ 5 → c ≠ 6 → c ≠ 8 → M' c = M c) (x24 : G' 274 24 = nI (mm + 1)) (x23 : G' 274 23 = G 274 23) (x1 : G' 287 = upd (G 287) mm v1) (x2 : G' 288 = upd (G 288) mm v2) (x4 : G' 290 = upd (G 290) (4 + mm) v3) (x3 : G' 289 = upd (G 289) mm v4) (hv : 1 ≤ v3) : HC M' (upd s (4 + mm) v3) (upd kd mm v1) (upd sd mm v2) (upd w mm v4) q n (mm + 1) ∧ HX G' (upd s (4 + mm) v3) (upd kd mm v1) (upd sd mm v2) (upd w mm v4) q (mm + 1) ∧ HW (upd s (4 + mm) v3) q n (mm + 1) := by
  have us : ∀ j, j ≠ 4 + mm → upd s (4 + mm) v3 j = s j := fun j hj => by rw [ud_if, if_neg hj]
  obtain ⟨a1, a2, a3, a4, a5, a6⟩ := h1
  obtain ⟨b1, b2, b3, b4⟩ := h2
  obtain ⟨w1, ⟨w2, w3, w4, w5, w6, w7, w8⟩, w9, w10⟩ := h3
  have f7 := cf 7 (by decide) (by decide) (by decide) (by decide) (by decide) (by decide)
  refine ⟨⟨?_, ?_, fun k hk => ?_, ⟨?_, ?_, ?_, ?_, ?_⟩, fun k hk => ?_, fun k hk => ?_⟩, ⟨?_, x24, fun k hk => ?_, fun j hj => ?_⟩, ⟨by omega, ⟨?_, w3, fun k hk => ?_, fun k hk => ?_, fun k hk => ?_, fun k hk => ?_, ?_⟩, fun k hk => ?_, w10⟩⟩
  · rw [c3, ud_if, if_neg (by decide)]; exact a1
  · rw [c3, ud_if, if_pos rfl]
  · rw [c4, c5, c6, ud_if, ud_if, ud_if, ud_if, ud_if, ud_if]
    by_cases c : k = mm
    · rw [if_pos c, if_pos c, if_pos c, if_pos c, if_pos c, if_pos c]; exact ⟨rfl, rfl, rfl⟩
    · rw [if_neg c, if_neg c, if_neg c, if_neg c, if_neg c, if_neg c]; exact a3 k (by omega)
  · rw [f7, us _ (by omega)]; exact a4.1
  · rw [f7, us _ (by omega)]; exact a4.2.1
  · rw [f7, us _ (by omega)]; exact a4.2.2.1
  · rw [f7, us _ (by omega)]; exact a4.2.2.2.1
  · rw [f7, us _ (by omega)]; exact a4.2.2.2.2
  · have e8 : M' (7 + 1) = upd (M 8) mm v3 := c8
    rw [e8, ud_if, ud_if]
    by_cases c : k = mm
    · rw [if_pos c, if_pos (by omega)]
    · rw [if_neg c, if_neg (by omega)]; exact a5 k (by omega)
  · have e : ∀ d, 2 ≤ d → d ≤ 7 → M' (7 + d) = M (7 + d) := fun d h2 h7 => cf (7 + d) (by omega) (by omega) (by omega) (by omega) (by omega) (by omega)
    rw [e 2 (by decide) (by decide), e 3 (by decide) (by decide), e 4 (by decide) (by decide), e 5 (by decide) (by decide), e 6 (by decide) (by decide), e 7 (by decide) (by decide), us _ (by omega), us _ (by omega), us _ (by omega), us _ (by omega), us _ (by omega), us _ (by omega)]
    exact a6 k hk
  · rw [x23]; exact b1
  · rw [x1, x2, x3, ud_if, ud_if, ud_if, ud_if, ud_if, ud_if]
    by_cases c : k = mm
    · rw [if_pos c, if_pos c, if_pos c, if_pos c, if_pos c, if_pos c]; exact ⟨rfl, rfl, rfl⟩
    · rw [if_neg c, if_neg c, if_neg c, if_neg c, if_neg c, if_neg c]; exact b3 k (by omega)
  · rw [x4, ud_if, ud_if]
    by_cases c : j = 4 + mm
    · rw [if_pos c, if_pos c]
    · rw [if_neg c, if_neg c]; exact b4 j hj
  · rw [us _ (by omega)]; exact w2
  · rw [us _ (by omega)]
    obtain ⟨o, ho, eo⟩ := w4 k hk
    exact ⟨o, by omega, eo⟩
  · rw [us _ (by omega)]; exact w5 k hk
  · rw [us _ (by omega)]; exact w6 k hk
  · rw [ud_if]
    by_cases c : k = mm
    · rw [if_pos (by omega)]; exact hv
    · rw [if_neg (by omega)]; exact w7 k (by omega)
  · rw [us _ (by omega), w8]
    exact sm_congr (fun k hk => by unfold g1; rw [us _ (by omega)])
  · rw [us _ (by omega), us _ (by omega)]; exact w9 k hk
