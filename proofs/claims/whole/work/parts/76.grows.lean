/-! THE TEXT: the house grows by a strap -/
def ns5 (s : Nat → Int32) (n : Nat) (v1 v2 v3 v4 : Int32) : Nat → Int32 := upd (upd (upd (upd (upd s (11 + n) v1) (23 + n) v2) (35 + n) v3) (47 + n) v4) 10 (nI (n + 1))
theorem ns5_o {s : Nat → Int32} {n : Nat} {v1 v2 v3 v4 : Int32} {j : Nat} (h0 : j ≠ 10) (h1 : j ≠ 11 + n) (h2 : j ≠ 23 + n) (h3 : j ≠ 35 + n) (h4 : j ≠ 47 + n) : ns5 s n v1 v2 v3 v4 j = s j := by
  unfold ns5
  rw [ud_if, if_neg h0, ud_if, if_neg h4, ud_if, if_neg h3, ud_if, if_neg h2, ud_if, if_neg h1]
theorem ns5_1 (s : Nat → Int32) (n : Nat) (v1 v2 v3 v4 : Int32) : ns5 s n v1 v2 v3 v4 (11 + n) = v1 := by
  unfold ns5
  rw [ud_if, if_neg (by omega), ud_if, if_neg (by omega), ud_if, if_neg (by omega), ud_if, if_neg (by omega), ud_if, if_pos rfl]
theorem ns5_2 (s : Nat → Int32) (n : Nat) (v1 v2 v3 v4 : Int32) : ns5 s n v1 v2 v3 v4 (23 + n) = v2 := by
  unfold ns5
  rw [ud_if, if_neg (by omega), ud_if, if_neg (by omega), ud_if, if_neg (by omega), ud_if, if_pos rfl]
theorem ns5_3 (s : Nat → Int32) (n : Nat) (v1 v2 v3 v4 : Int32) : ns5 s n v1 v2 v3 v4 (35 + n) = v3 := by
  unfold ns5
  rw [ud_if, if_neg (by omega), ud_if, if_neg (by omega), ud_if, if_pos rfl]
theorem ns5_4 (s : Nat → Int32) (n : Nat) (v1 v2 v3 v4 : Int32) : ns5 s n v1 v2 v3 v4 (47 + n) = v4 := by
  unfold ns5
  rw [ud_if, if_neg (by omega), ud_if, if_pos rfl]
theorem ns5_c {a b : Nat → Int32} {n : Nat} (v1 v2 v3 v4 : Int32) {j : Nat} (h : a j = b j) : ns5 a n v1 v2 v3 v4 j = ns5 b n v1 v2 v3 v4 j := by
  unfold ns5
  rw [ud_if, ud_if, ud_if, ud_if, ud_if, ud_if, ud_if, ud_if, ud_if, ud_if, h]
theorem H_str {M G M' G' : Nat → Nat → Int32} {s kd sd w : Nat → Int32} {q v1 v2 v3 v4 : Int32} {n mm : Nat} (h1 : HC M s kd sd w q n mm) (h2 : HX G s kd sd w q mm) (h3 : HW s q n mm) (h12 : n < 12) (c7 : M' 7 = upd (M 7) 1 (nI (n + 1))) (c9 : M' 9 = upd (M 9) n v1) (c10' : M' 10 = upd (M 10) n v2) (c11 : M' 11 = upd (M 11) n v3) (c12 : M' 12 = upd (M 12) n v4) (c13 : M' 13 = upd (M 13) n 0) (c14 : M' 14 = upd (M 14) n 0) (cf : ∀ c, c ≠ 2 → c ≠ 7 → c ≠ 9 → c ≠ 10 → c ≠ 11 → c ≠ 12 → c ≠ 13 → c ≠ 14 → M' c = M c) (x24 : G' 274 24 = G 274 24) (x23 : G' 274 23 = G 274 23) (xf : ∀ c, c ≠ 274 → c ≠ 290 → G' c = G c) (x4 : G' 290 = ns5 (G 290) n v1 v2 v3 v4) (hv1 : ∃ o, o < mm ∧ v1 = nI o) (hv2 : ∃ t, t < 8 ∧ v2 = nI t) (hv3 : v3 = 0 ∨ v3 = 1) : HC M' (ns5 s n v1 v2 v3 v4) kd sd w q (n + 1) mm ∧ HX G' (ns5 s n v1 v2 v3 v4) kd sd w q mm ∧ HW (ns5 s n v1 v2 v3 v4) q (n + 1) mm := by
  obtain ⟨a1, a2, a3, a4, a5, a6⟩ := h1
  obtain ⟨b1, b2, b3, b4⟩ := h2
  obtain ⟨w1, ⟨w2, w3, w4, w5, w6, w7, w8⟩, w9, w10⟩ := h3
  have f3 := cf 3 (by decide) (by decide) (by decide) (by decide) (by decide) (by decide) (by decide) (by decide)
  have f4 := cf 4 (by decide) (by decide) (by decide) (by decide) (by decide) (by decide) (by decide) (by decide)
  have f5 := cf 5 (by decide) (by decide) (by decide) (by decide) (by decide) (by decide) (by decide) (by decide)
  have f6 := cf 6 (by decide) (by decide) (by decide) (by decide) (by decide) (by decide) (by decide) (by decide)
  have f8 : M' (7 + 1) = M (7 + 1) := cf 8 (by decide) (by decide) (by decide) (by decide) (by decide) (by decide) (by decide) (by decide)
  have r7 : ∀ j, j ≠ 1 → M' 7 j = M 7 j := fun j hj => by rw [c7, ud_if, if_neg hj]
  have lo : ∀ j, j < 10 → ns5 s n v1 v2 v3 v4 j = s j := fun j hj => ns5_o (by omega) (by omega) (by omega) (by omega) (by omega)
  have hi : ∀ j, 59 ≤ j → ns5 s n v1 v2 v3 v4 j = s j := fun j hj => ns5_o (by omega) (by omega) (by omega) (by omega) (by omega)
  have p1 : ∀ k, k < n → ns5 s n v1 v2 v3 v4 (11 + k) = s (11 + k) := fun k hk => ns5_o (by omega) (by omega) (by omega) (by omega) (by omega)
  have p2 : ∀ k, k < n → ns5 s n v1 v2 v3 v4 (23 + k) = s (23 + k) := fun k hk => ns5_o (by omega) (by omega) (by omega) (by omega) (by omega)
  have p3 : ∀ k, k < n → ns5 s n v1 v2 v3 v4 (35 + k) = s (35 + k) := fun k hk => ns5_o (by omega) (by omega) (by omega) (by omega) (by omega)
  have p4 : ∀ k, k < n → ns5 s n v1 v2 v3 v4 (47 + k) = s (47 + k) := fun k hk => ns5_o (by omega) (by omega) (by omega) (by omega) (by omega)
  refine ⟨⟨?_, ?_, fun k hk => ?_, ⟨?_, ?_, ?_, ?_, ?_⟩, fun k hk => ?_, fun k hk => ?_⟩, ⟨?_, ?_, fun k hk => ?_, fun j hj => ?_⟩, ⟨w1, ⟨rfl, by omega, fun k hk => ?_, fun k hk => ?_, fun k hk => ?_, fun k hk => ?_, ?_⟩, fun k hk => ?_, w10⟩⟩
  · rw [f3]; exact a1
  · rw [f3]; exact a2
  · rw [f4, f5, f6]; exact a3 k hk
  · rw [c7]; rfl
  · rw [r7 8 (by decide), lo 0 (by decide)]; exact a4.2.1
  · rw [r7 9 (by decide), lo 1 (by decide)]; exact a4.2.2.1
  · rw [r7 10 (by decide), lo 2 (by decide)]; exact a4.2.2.2.1
  · rw [r7 11 (by decide), lo 3 (by decide)]; exact a4.2.2.2.2
  · rw [f8, lo _ (by omega)]; exact a5 k hk
  · have e2 : M' (7 + 2) = upd (M 9) n v1 := c9
    have e3 : M' (7 + 3) = upd (M 10) n v2 := c10'
    have e4 : M' (7 + 4) = upd (M 11) n v3 := c11
    have e5 : M' (7 + 5) = upd (M 12) n v4 := c12
    have e6 : M' (7 + 6) = upd (M 13) n 0 := c13
    have e7 : M' (7 + 7) = upd (M 14) n 0 := c14
    rw [e2, e3, e4, e5, e6, e7, ud_if, ud_if, ud_if, ud_if, ud_if, ud_if, hi (59 + k) (by omega), hi (71 + k) (by omega)]
    by_cases c : k = n
    · rw [if_pos c, if_pos c, if_pos c, if_pos c, if_pos c, if_pos c, c, ns5_1, ns5_2, ns5_3, ns5_4, (w9 n h12).1, (w9 n h12).2]
      exact ⟨rfl, rfl, rfl, rfl, rfl, rfl⟩
    · rw [if_neg c, if_neg c, if_neg c, if_neg c, if_neg c, if_neg c, p1 k (by omega), p2 k (by omega), p3 k (by omega), p4 k (by omega)]
      exact a6 k (by omega)
  · rw [x23]; exact b1
  · rw [x24]; exact b2
  · rw [xf 287 (by decide) (by decide), xf 288 (by decide) (by decide), xf 289 (by decide) (by decide)]; exact b3 k hk
  · rw [x4]; exact ns5_c v1 v2 v3 v4 (b4 j hj)
  · by_cases c : k = n
    · rw [c, ns5_1]; exact hv1
    · rw [p1 k (by omega)]; exact w4 k (by omega)
  · by_cases c : k = n
    · rw [c, ns5_2]; exact hv2
    · rw [p2 k (by omega)]; exact w5 k (by omega)
  · by_cases c : k = n
    · rw [c, ns5_3]; exact hv3
    · rw [p3 k (by omega)]; exact w6 k (by omega)
  · rw [lo _ (by omega)]; exact w7 k hk
  · rw [lo 2 (by decide), sm_s, w8]
    have e : g1 (ns5 s n v1 v2 v3 v4) n = 0 := by unfold g1; rw [hi (71 + n) (by omega), (w9 n h12).2, if_neg (by decide)]
    rw [e, Int32.add_zero]
    exact sm_congr (fun k hk => by unfold g1; rw [hi (71 + k) (by omega)])
  · rw [hi (59 + k) (by omega), hi (71 + k) (by omega)]; exact w9 k hk
theorem btw {x : Int32} {b : Nat} (hb : b + 1 < 2147483648) (h1 : ¬ x < 0) (h2 : x ≤ nI b) : ∃ k, k < b + 1 ∧ x = nI k := by
  rcases rng x (N := b + 1) hb with z | z | z
  · exact z
  · exact absurd z h1
  · exfalso
    have := Int32.le_trans z h2
    have := (nI_leI (by omega) (by omega)).mp this
    omega
