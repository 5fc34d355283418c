/-! COPIES: of braces, of rows of the reference -/
theorem nI_mul (a b : Nat) : nI a * nI b = nI (a * b) := (Int32.ofNat_mul a b).symm
theorem cy_in {f g : Nat → Int32} {N j : Nat} (h : j < N) : va_cpy f g 0 0 N j = f j := by
  unfold va_cpy
  rw [if_pos (by omega), Nat.zero_add, Nat.sub_zero]
theorem cpB_fr {a b c : Nat} {M : Nat → Nat → Int32} (h : c < a ∨ a + 8 ≤ c) : cpB a b M c = M c := by
  unfold cpB
  rw [z_row_ne (by omega), z_row_ne (by omega), z_row_ne (by omega), z_row_ne (by omega), z_row_ne (by omega), z_row_ne (by omega), z_row_ne (by omega), z_row_ne (by omega), z_row_ne (by omega), z_row_ne (by omega), z_row_ne (by omega), z_row_ne (by omega)]
theorem cpB_0 {a b : Nat} {M : Nat → Nat → Int32} : cpB a b M a = upd (upd (upd (upd (upd (M a) 1 (M b 1)) 8 (M b 8)) 9 (M b 9)) 10 (M b 10)) 11 (M b 11) := by
  unfold cpB
  rw [z_row_ne (by omega), z_row_ne (by omega), z_row_ne (by omega), z_row_ne (by omega), z_row_ne (by omega), z_row_ne (by omega), z_row_ne (by omega), z_row_eq]
theorem cpB_1 {a b : Nat} {M : Nat → Nat → Int32} : cpB a b M (a + 1) = va_cpy (M (b + 1)) (M (a + 1)) 0 0 6 := by
  unfold cpB
  rw [z_row_ne (by omega), z_row_ne (by omega), z_row_ne (by omega), z_row_ne (by omega), z_row_ne (by omega), z_row_ne (by omega), z_row_eq]
theorem cpB_2 {a b : Nat} {M : Nat → Nat → Int32} : cpB a b M (a + 2) = va_cpy (M (b + 2)) (M (a + 2)) 0 0 12 := by
  unfold cpB
  rw [z_row_ne (by omega), z_row_ne (by omega), z_row_ne (by omega), z_row_ne (by omega), z_row_ne (by omega), z_row_eq]
theorem cpB_3 {a b : Nat} {M : Nat → Nat → Int32} : cpB a b M (a + 3) = va_cpy (M (b + 3)) (M (a + 3)) 0 0 12 := by
  unfold cpB
  rw [z_row_ne (by omega), z_row_ne (by omega), z_row_ne (by omega), z_row_ne (by omega), z_row_eq]
theorem cpB_4 {a b : Nat} {M : Nat → Nat → Int32} : cpB a b M (a + 4) = va_cpy (M (b + 4)) (M (a + 4)) 0 0 12 := by
  unfold cpB
  rw [z_row_ne (by omega), z_row_ne (by omega), z_row_ne (by omega), z_row_eq]
theorem cpB_5 {a b : Nat} {M : Nat → Nat → Int32} : cpB a b M (a + 5) = va_cpy (M (b + 5)) (M (a + 5)) 0 0 12 := by
  unfold cpB
  rw [z_row_ne (by omega), z_row_ne (by omega), z_row_eq]
theorem cpB_6 {a b : Nat} {M : Nat → Nat → Int32} : cpB a b M (a + 6) = va_cpy (M (b + 6)) (M (a + 6)) 0 0 12 := by
  unfold cpB
  rw [z_row_ne (by omega), z_row_eq]
theorem cpB_7 {a b : Nat} {M : Nat → Nat → Int32} : cpB a b M (a + 7) = va_cpy (M (b + 7)) (M (a + 7)) 0 0 12 := by
  unfold cpB
  rw [z_row_eq]
theorem cpB_rp {a b n mm : Nat} {M : Nat → Nat → Int32} {s : Nat → Int32} (hr : rp M b s n mm) (hn : n ≤ 12) (hm : mm ≤ 6) : rp (cpB a b M) a s n mm := by
  obtain ⟨⟨r1, r2, r3, r4, r5⟩, r6, r7⟩ := hr
  refine ⟨⟨?_, ?_, ?_, ?_, ?_⟩, ?_, ?_⟩
  · rw [cpB_0, ud_ne (by decide), ud_ne (by decide), ud_ne (by decide), ud_ne (by decide), ud_eq]; exact r1
  · rw [cpB_0, ud_ne (by decide), ud_ne (by decide), ud_ne (by decide), ud_eq]; exact r2
  · rw [cpB_0, ud_ne (by decide), ud_ne (by decide), ud_eq]; exact r3
  · rw [cpB_0, ud_ne (by decide), ud_eq]; exact r4
  · rw [cpB_0, ud_eq]; exact r5
  · intro k hk
    rw [cpB_1, cy_in (by omega)]; exact r6 k hk
  · intro k hk
    rw [cpB_2, cpB_3, cpB_4, cpB_5, cpB_6, cpB_7, cy_in (by omega), cy_in (by omega), cy_in (by omega), cy_in (by omega), cy_in (by omega), cy_in (by omega)]; exact r7 k hk
theorem rp_cs {M : Nat → Nat → Int32} {b n mm : Nat} {s s' : Nat → Int32} (h : rp M b s n mm) (hn : n ≤ 12) (hm : mm ≤ 6) (e : ∀ j, j < 83 → s' j = s j) : rp M b s' n mm := by
  obtain ⟨⟨r1, r2, r3, r4, r5⟩, r6, r7⟩ := h
  refine ⟨⟨?_, ?_, ?_, ?_, ?_⟩, ?_, ?_⟩
  · rw [e _ (by decide)]; exact r1
  · rw [e _ (by decide)]; exact r2
  · rw [e _ (by decide)]; exact r3
  · rw [e _ (by decide)]; exact r4
  · rw [e _ (by decide)]; exact r5
  · intro k hk; rw [e _ (by omega)]; exact r6 k hk
  · intro k hk; rw [e _ (by omega), e _ (by omega), e _ (by omega), e _ (by omega), e _ (by omega), e _ (by omega)]; exact r7 k hk
theorem br_279_281 {M : Nat → Nat → Int32} {a b N : Nat} (ha : a + N ≤ 83) (hb : b + N ≤ 1992) : q_X9_bring_279_281 M (nI a) (nI b) (nI N) ∧ ∀ j, g_X9_bring_279_281 M (nI a) (nI b) (nI N) 281 j = if b ≤ j ∧ j < b + N then M 279 (a + (j - b)) else M 281 j := by
  have lp : ∀ k, k ≤ N → ∀ j, s_X9_bring_279_281_3 M (nI a) (nI b) (nI N) k 281 j = if b ≤ j ∧ j < b + k then M 279 (a + (j - b)) else M 281 j := by
    intro k
    induction k with
    | zero => intro _ j; rw [if_neg (by omega)]; rfl
    | succ k ih =>
      intro hk j
      have hs : s_X9_bring_279_281_3 M (nI a) (nI b) (nI N) (k + 1) = e_X9_bring_279_281_3_M (s_X9_bring_279_281_3 M (nI a) (nI b) (nI N) k) (nI a) (nI b) (nI N) (nI k) := rfl
      rw [hs]
      unfold e_X9_bring_279_281_3_M
      rw [cl_add (by omega), cl_add (by omega), z_row_eq, ud_if, fr_s_X9_bring_279_281_3 M (nI a) (nI b) (nI N) k 279 (by decide), ih (by omega) j]
      by_cases c : j = b + k
      · subst c
        rw [if_pos rfl, if_pos (by omega), Nat.add_sub_cancel_left]
      · rw [if_neg c]
        by_cases c2 : b ≤ j ∧ j < b + k
        · rw [if_pos c2, if_pos (by omega)]
        · rw [if_neg c2, if_neg (by omega)]
  have cN : (nI N).toNatClampNeg = N := nI_clamp (by omega)
  unfold q_X9_bring_279_281 g_X9_bring_279_281
  rw [cN]
  refine ⟨⟨fun k hk => ?_, trivial⟩, lp N (Nat.le_refl N)⟩
  unfold qi_X9_bring_279_281_3
  rw [nI_add, nI_add]
  exact ⟨vi (by omega) (by decide), vi (by omega) (by decide), trivial⟩
theorem br_281_279 {M : Nat → Nat → Int32} {a b N : Nat} (ha : a + N ≤ 1992) (hb : b + N ≤ 83) : q_X9_bring_281_279 M (nI a) (nI b) (nI N) ∧ ∀ j, g_X9_bring_281_279 M (nI a) (nI b) (nI N) 279 j = if b ≤ j ∧ j < b + N then M 281 (a + (j - b)) else M 279 j := by
  have lp : ∀ k, k ≤ N → ∀ j, s_X9_bring_281_279_3 M (nI a) (nI b) (nI N) k 279 j = if b ≤ j ∧ j < b + k then M 281 (a + (j - b)) else M 279 j := by
    intro k
    induction k with
    | zero => intro _ j; rw [if_neg (by omega)]; rfl
    | succ k ih =>
      intro hk j
      have hs : s_X9_bring_281_279_3 M (nI a) (nI b) (nI N) (k + 1) = e_X9_bring_281_279_3_M (s_X9_bring_281_279_3 M (nI a) (nI b) (nI N) k) (nI a) (nI b) (nI N) (nI k) := rfl
      rw [hs]
      unfold e_X9_bring_281_279_3_M
      rw [cl_add (by omega), cl_add (by omega), z_row_eq, ud_if, fr_s_X9_bring_281_279_3 M (nI a) (nI b) (nI N) k 281 (by decide), ih (by omega) j]
      by_cases c : j = b + k
      · subst c
        rw [if_pos rfl, if_pos (by omega), Nat.add_sub_cancel_left]
      · rw [if_neg c]
        by_cases c2 : b ≤ j ∧ j < b + k
        · rw [if_pos c2, if_pos (by omega)]
        · rw [if_neg c2, if_neg (by omega)]
  have cN : (nI N).toNatClampNeg = N := nI_clamp (by omega)
  unfold q_X9_bring_281_279 g_X9_bring_281_279
  rw [cN]
  refine ⟨⟨fun k hk => ?_, trivial⟩, lp N (Nat.le_refl N)⟩
  unfold qi_X9_bring_281_279_3
  rw [nI_add, nI_add]
  exact ⟨vi (by omega) (by decide), vi (by omega) (by decide), trivial⟩
theorem br_279_280 {M : Nat → Nat → Int32} {a b N : Nat} (ha : a + N ≤ 83) (hb : b + N ≤ 83) : q_X9_bring_279_280 M (nI a) (nI b) (nI N) ∧ ∀ j, g_X9_bring_279_280 M (nI a) (nI b) (nI N) 280 j = if b ≤ j ∧ j < b + N then M 279 (a + (j - b)) else M 280 j := by
  have lp : ∀ k, k ≤ N → ∀ j, s_X9_bring_279_280_3 M (nI a) (nI b) (nI N) k 280 j = if b ≤ j ∧ j < b + k then M 279 (a + (j - b)) else M 280 j := by
    intro k
    induction k with
    | zero => intro _ j; rw [if_neg (by omega)]; rfl
    | succ k ih =>
      intro hk j
      have hs : s_X9_bring_279_280_3 M (nI a) (nI b) (nI N) (k + 1) = e_X9_bring_279_280_3_M (s_X9_bring_279_280_3 M (nI a) (nI b) (nI N) k) (nI a) (nI b) (nI N) (nI k) := rfl
      rw [hs]
      unfold e_X9_bring_279_280_3_M
      rw [cl_add (by omega), cl_add (by omega), z_row_eq, ud_if, fr_s_X9_bring_279_280_3 M (nI a) (nI b) (nI N) k 279 (by decide), ih (by omega) j]
      by_cases c : j = b + k
      · subst c
        rw [if_pos rfl, if_pos (by omega), Nat.add_sub_cancel_left]
      · rw [if_neg c]
        by_cases c2 : b ≤ j ∧ j < b + k
        · rw [if_pos c2, if_pos (by omega)]
        · rw [if_neg c2, if_neg (by omega)]
  have cN : (nI N).toNatClampNeg = N := nI_clamp (by omega)
  unfold q_X9_bring_279_280 g_X9_bring_279_280
  rw [cN]
  refine ⟨⟨fun k hk => ?_, trivial⟩, lp N (Nat.le_refl N)⟩
  unfold qi_X9_bring_279_280_3
  rw [nI_add, nI_add]
  exact ⟨vi (by omega) (by decide), vi (by omega) (by decide), trivial⟩
theorem br_279_282 {M : Nat → Nat → Int32} {a b N : Nat} (ha : a + N ≤ 83) (hb : b + N ≤ 166) : q_X9_bring_279_282 M (nI a) (nI b) (nI N) ∧ ∀ j, g_X9_bring_279_282 M (nI a) (nI b) (nI N) 282 j = if b ≤ j ∧ j < b + N then M 279 (a + (j - b)) else M 282 j := by
  have lp : ∀ k, k ≤ N → ∀ j, s_X9_bring_279_282_3 M (nI a) (nI b) (nI N) k 282 j = if b ≤ j ∧ j < b + k then M 279 (a + (j - b)) else M 282 j := by
    intro k
    induction k with
    | zero => intro _ j; rw [if_neg (by omega)]; rfl
    | succ k ih =>
      intro hk j
      have hs : s_X9_bring_279_282_3 M (nI a) (nI b) (nI N) (k + 1) = e_X9_bring_279_282_3_M (s_X9_bring_279_282_3 M (nI a) (nI b) (nI N) k) (nI a) (nI b) (nI N) (nI k) := rfl
      rw [hs]
      unfold e_X9_bring_279_282_3_M
      rw [cl_add (by omega), cl_add (by omega), z_row_eq, ud_if, fr_s_X9_bring_279_282_3 M (nI a) (nI b) (nI N) k 279 (by decide), ih (by omega) j]
      by_cases c : j = b + k
      · subst c
        rw [if_pos rfl, if_pos (by omega), Nat.add_sub_cancel_left]
      · rw [if_neg c]
        by_cases c2 : b ≤ j ∧ j < b + k
        · rw [if_pos c2, if_pos (by omega)]
        · rw [if_neg c2, if_neg (by omega)]
  have cN : (nI N).toNatClampNeg = N := nI_clamp (by omega)
  unfold q_X9_bring_279_282 g_X9_bring_279_282
  rw [cN]
  refine ⟨⟨fun k hk => ?_, trivial⟩, lp N (Nat.le_refl N)⟩
  unfold qi_X9_bring_279_282_3
  rw [nI_add, nI_add]
  exact ⟨vi (by omega) (by decide), vi (by omega) (by decide), trivial⟩
theorem br_282_279 {M : Nat → Nat → Int32} {a b N : Nat} (ha : a + N ≤ 166) (hb : b + N ≤ 83) : q_X9_bring_282_279 M (nI a) (nI b) (nI N) ∧ ∀ j, g_X9_bring_282_279 M (nI a) (nI b) (nI N) 279 j = if b ≤ j ∧ j < b + N then M 282 (a + (j - b)) else M 279 j := by
  have lp : ∀ k, k ≤ N → ∀ j, s_X9_bring_282_279_3 M (nI a) (nI b) (nI N) k 279 j = if b ≤ j ∧ j < b + k then M 282 (a + (j - b)) else M 279 j := by
    intro k
    induction k with
    | zero => intro _ j; rw [if_neg (by omega)]; rfl
    | succ k ih =>
      intro hk j
      have hs : s_X9_bring_282_279_3 M (nI a) (nI b) (nI N) (k + 1) = e_X9_bring_282_279_3_M (s_X9_bring_282_279_3 M (nI a) (nI b) (nI N) k) (nI a) (nI b) (nI N) (nI k) := rfl
      rw [hs]
      unfold e_X9_bring_282_279_3_M
      rw [cl_add (by omega), cl_add (by omega), z_row_eq, ud_if, fr_s_X9_bring_282_279_3 M (nI a) (nI b) (nI N) k 282 (by decide), ih (by omega) j]
      by_cases c : j = b + k
      · subst c
        rw [if_pos rfl, if_pos (by omega), Nat.add_sub_cancel_left]
      · rw [if_neg c]
        by_cases c2 : b ≤ j ∧ j < b + k
        · rw [if_pos c2, if_pos (by omega)]
        · rw [if_neg c2, if_neg (by omega)]
  have cN : (nI N).toNatClampNeg = N := nI_clamp (by omega)
  unfold q_X9_bring_282_279 g_X9_bring_282_279
  rw [cN]
  refine ⟨⟨fun k hk => ?_, trivial⟩, lp N (Nat.le_refl N)⟩
  unfold qi_X9_bring_282_279_3
  rw [nI_add, nI_add]
  exact ⟨vi (by omega) (by decide), vi (by omega) (by decide), trivial⟩
theorem br_287_276 {M : Nat → Nat → Int32} {a b N : Nat} (ha : a + N ≤ 6) (hb : b + N ≤ 6) : q_X9_bring_287_276 M (nI a) (nI b) (nI N) ∧ ∀ j, g_X9_bring_287_276 M (nI a) (nI b) (nI N) 276 j = if b ≤ j ∧ j < b + N then M 287 (a + (j - b)) else M 276 j := by
  have lp : ∀ k, k ≤ N → ∀ j, s_X9_bring_287_276_3 M (nI a) (nI b) (nI N) k 276 j = if b ≤ j ∧ j < b + k then M 287 (a + (j - b)) else M 276 j := by
    intro k
    induction k with
    | zero => intro _ j; rw [if_neg (by omega)]; rfl
    | succ k ih =>
      intro hk j
      have hs : s_X9_bring_287_276_3 M (nI a) (nI b) (nI N) (k + 1) = e_X9_bring_287_276_3_M (s_X9_bring_287_276_3 M (nI a) (nI b) (nI N) k) (nI a) (nI b) (nI N) (nI k) := rfl
      rw [hs]
      unfold e_X9_bring_287_276_3_M
      rw [cl_add (by omega), cl_add (by omega), z_row_eq, ud_if, fr_s_X9_bring_287_276_3 M (nI a) (nI b) (nI N) k 287 (by decide), ih (by omega) j]
      by_cases c : j = b + k
      · subst c
        rw [if_pos rfl, if_pos (by omega), Nat.add_sub_cancel_left]
      · rw [if_neg c]
        by_cases c2 : b ≤ j ∧ j < b + k
        · rw [if_pos c2, if_pos (by omega)]
        · rw [if_neg c2, if_neg (by omega)]
  have cN : (nI N).toNatClampNeg = N := nI_clamp (by omega)
  unfold q_X9_bring_287_276 g_X9_bring_287_276
  rw [cN]
  refine ⟨⟨fun k hk => ?_, trivial⟩, lp N (Nat.le_refl N)⟩
  unfold qi_X9_bring_287_276_3
  rw [nI_add, nI_add]
  exact ⟨vi (by omega) (by decide), vi (by omega) (by decide), trivial⟩
theorem br_288_277 {M : Nat → Nat → Int32} {a b N : Nat} (ha : a + N ≤ 6) (hb : b + N ≤ 6) : q_X9_bring_288_277 M (nI a) (nI b) (nI N) ∧ ∀ j, g_X9_bring_288_277 M (nI a) (nI b) (nI N) 277 j = if b ≤ j ∧ j < b + N then M 288 (a + (j - b)) else M 277 j := by
  have lp : ∀ k, k ≤ N → ∀ j, s_X9_bring_288_277_3 M (nI a) (nI b) (nI N) k 277 j = if b ≤ j ∧ j < b + k then M 288 (a + (j - b)) else M 277 j := by
    intro k
    induction k with
    | zero => intro _ j; rw [if_neg (by omega)]; rfl
    | succ k ih =>
      intro hk j
      have hs : s_X9_bring_288_277_3 M (nI a) (nI b) (nI N) (k + 1) = e_X9_bring_288_277_3_M (s_X9_bring_288_277_3 M (nI a) (nI b) (nI N) k) (nI a) (nI b) (nI N) (nI k) := rfl
      rw [hs]
      unfold e_X9_bring_288_277_3_M
      rw [cl_add (by omega), cl_add (by omega), z_row_eq, ud_if, fr_s_X9_bring_288_277_3 M (nI a) (nI b) (nI N) k 288 (by decide), ih (by omega) j]
      by_cases c : j = b + k
      · subst c
        rw [if_pos rfl, if_pos (by omega), Nat.add_sub_cancel_left]
      · rw [if_neg c]
        by_cases c2 : b ≤ j ∧ j < b + k
        · rw [if_pos c2, if_pos (by omega)]
        · rw [if_neg c2, if_neg (by omega)]
  have cN : (nI N).toNatClampNeg = N := nI_clamp (by omega)
  unfold q_X9_bring_288_277 g_X9_bring_288_277
  rw [cN]
  refine ⟨⟨fun k hk => ?_, trivial⟩, lp N (Nat.le_refl N)⟩
  unfold qi_X9_bring_288_277_3
  rw [nI_add, nI_add]
  exact ⟨vi (by omega) (by decide), vi (by omega) (by decide), trivial⟩
theorem br_289_278 {M : Nat → Nat → Int32} {a b N : Nat} (ha : a + N ≤ 6) (hb : b + N ≤ 6) : q_X9_bring_289_278 M (nI a) (nI b) (nI N) ∧ ∀ j, g_X9_bring_289_278 M (nI a) (nI b) (nI N) 278 j = if b ≤ j ∧ j < b + N then M 289 (a + (j - b)) else M 278 j := by
  have lp : ∀ k, k ≤ N → ∀ j, s_X9_bring_289_278_3 M (nI a) (nI b) (nI N) k 278 j = if b ≤ j ∧ j < b + k then M 289 (a + (j - b)) else M 278 j := by
    intro k
    induction k with
    | zero => intro _ j; rw [if_neg (by omega)]; rfl
    | succ k ih =>
      intro hk j
      have hs : s_X9_bring_289_278_3 M (nI a) (nI b) (nI N) (k + 1) = e_X9_bring_289_278_3_M (s_X9_bring_289_278_3 M (nI a) (nI b) (nI N) k) (nI a) (nI b) (nI N) (nI k) := rfl
      rw [hs]
      unfold e_X9_bring_289_278_3_M
      rw [cl_add (by omega), cl_add (by omega), z_row_eq, ud_if, fr_s_X9_bring_289_278_3 M (nI a) (nI b) (nI N) k 289 (by decide), ih (by omega) j]
      by_cases c : j = b + k
      · subst c
        rw [if_pos rfl, if_pos (by omega), Nat.add_sub_cancel_left]
      · rw [if_neg c]
        by_cases c2 : b ≤ j ∧ j < b + k
        · rw [if_pos c2, if_pos (by omega)]
        · rw [if_neg c2, if_neg (by omega)]
  have cN : (nI N).toNatClampNeg = N := nI_clamp (by omega)
  unfold q_X9_bring_289_278 g_X9_bring_289_278
  rw [cN]
  refine ⟨⟨fun k hk => ?_, trivial⟩, lp N (Nat.le_refl N)⟩
  unfold qi_X9_bring_289_278_3
  rw [nI_add, nI_add]
  exact ⟨vi (by omega) (by decide), vi (by omega) (by decide), trivial⟩
theorem br_290_279 {M : Nat → Nat → Int32} {a b N : Nat} (ha : a + N ≤ 83) (hb : b + N ≤ 83) : q_X9_bring_290_279 M (nI a) (nI b) (nI N) ∧ ∀ j, g_X9_bring_290_279 M (nI a) (nI b) (nI N) 279 j = if b ≤ j ∧ j < b + N then M 290 (a + (j - b)) else M 279 j := by
  have lp : ∀ k, k ≤ N → ∀ j, s_X9_bring_290_279_3 M (nI a) (nI b) (nI N) k 279 j = if b ≤ j ∧ j < b + k then M 290 (a + (j - b)) else M 279 j := by
    intro k
    induction k with
    | zero => intro _ j; rw [if_neg (by omega)]; rfl
    | succ k ih =>
      intro hk j
      have hs : s_X9_bring_290_279_3 M (nI a) (nI b) (nI N) (k + 1) = e_X9_bring_290_279_3_M (s_X9_bring_290_279_3 M (nI a) (nI b) (nI N) k) (nI a) (nI b) (nI N) (nI k) := rfl
      rw [hs]
      unfold e_X9_bring_290_279_3_M
      rw [cl_add (by omega), cl_add (by omega), z_row_eq, ud_if, fr_s_X9_bring_290_279_3 M (nI a) (nI b) (nI N) k 290 (by decide), ih (by omega) j]
      by_cases c : j = b + k
      · subst c
        rw [if_pos rfl, if_pos (by omega), Nat.add_sub_cancel_left]
      · rw [if_neg c]
        by_cases c2 : b ≤ j ∧ j < b + k
        · rw [if_pos c2, if_pos (by omega)]
        · rw [if_neg c2, if_neg (by omega)]
  have cN : (nI N).toNatClampNeg = N := nI_clamp (by omega)
  unfold q_X9_bring_290_279 g_X9_bring_290_279
  rw [cN]
  refine ⟨⟨fun k hk => ?_, trivial⟩, lp N (Nat.le_refl N)⟩
  unfold qi_X9_bring_290_279_3
  rw [nI_add, nI_add]
  exact ⟨vi (by omega) (by decide), vi (by omega) (by decide), trivial⟩
theorem br_281_281 {M : Nat → Nat → Int32} : q_X9_bring_281_281 M 83 0 1909 ∧ ∀ j, g_X9_bring_281_281 M 83 0 1909 281 j = if j < 1909 then M 281 (83 + j) else M 281 j := by
  have lp : ∀ k, k ≤ 1909 → ∀ j, s_X9_bring_281_281_3 M (nI 83) (nI 0) (nI 1909) k 281 j = if j < k then M 281 (83 + j) else M 281 j := by
    intro k
    induction k with
    | zero => intro _ j; rw [if_neg (by omega)]; rfl
    | succ k ih =>
      intro hk j
      have hs : s_X9_bring_281_281_3 M (nI 83) (nI 0) (nI 1909) (k + 1) = e_X9_bring_281_281_3_M (s_X9_bring_281_281_3 M (nI 83) (nI 0) (nI 1909) k) (nI 83) (nI 0) (nI 1909) (nI k) := rfl
      rw [hs]
      unfold e_X9_bring_281_281_3_M
      rw [cl_add (by omega), cl_add (by omega), z_row_eq, ud_if, ih (by omega) j, ih (by omega) (83 + k), if_neg (show ¬ 83 + k < k by omega), Nat.zero_add]
      by_cases c : j = k
      · subst c
        rw [if_pos rfl, if_pos (by omega)]
      · rw [if_neg c]
        by_cases c2 : j < k
        · rw [if_pos c2, if_pos (by omega)]
        · rw [if_neg c2, if_neg (by omega)]
  have cN : (nI 1909).toNatClampNeg = 1909 := nI_clamp (by omega)
  show q_X9_bring_281_281 M (nI 83) (nI 0) (nI 1909) ∧ ∀ j, g_X9_bring_281_281 M (nI 83) (nI 0) (nI 1909) 281 j = if j < 1909 then M 281 (83 + j) else M 281 j
  unfold q_X9_bring_281_281 g_X9_bring_281_281
  rw [cN]
  refine ⟨⟨fun k hk => ?_, trivial⟩, lp 1909 (Nat.le_refl _)⟩
  unfold qi_X9_bring_281_281_3
  rw [nI_add, nI_add]
  exact ⟨vi (by omega) (by decide), vi (by omega) (by decide), trivial⟩
/-! THE PAST -/
def PSc (M : Nat → Nat → Int32) (cnt e bd mm : Nat) (P : Nat → Nat → Int32) (ns : Nat → Nat) : Prop := M 49 1 = nI e ∧ (e + bd ≤ 22000 ∧ cnt ≤ e) ∧ M 49 2 = nI cnt ∧ cnt ≤ 24 ∧ ∀ i, i < cnt → rp M (51 + 8 * ((e - cnt + i) % 24)) (P i) (ns i) mm
def PSr (M : Nat → Nat → Int32) (cnt : Nat) (P : Nat → Nat → Int32) : Prop := M 274 11 = nI cnt ∧ cnt ≤ 24 ∧ ∀ i, i < cnt → ∀ j, j < 83 → M 281 (83 * i + j) = P i j
def PSw (cnt mm : Nat) (P : Nat → Nat → Int32) (ns : Nat → Nat) : Prop := ∀ i, i < cnt → wf (P i) (ns i) mm
/-- one row more -/
def pnC (cnt : Nat) : Nat := if cnt < 24 then cnt + 1 else 24
def pnP {α : Type} (cnt : Nat) (P : Nat → α) (s : α) : Nat → α := fun i => if cnt < 24 then (if i < cnt then P i else s) else (if i < 23 then P (i + 1) else s)
theorem fm_ab : ∀ a, a < 150 → ∀ b, b < 150 → fm24 (nI (150 * a + b)) = nI ((150 * a + b) % 24) := by decide +kernel
theorem fm_n (e : Nat) (h : e < 22500) : fm24 (nI e) = nI (e % 24) := by
  have := fm_ab (e / 150) (by omega) (e % 150) (by omega)
  rwa [Nat.div_add_mod] at this
theorem nI_sb {a b : Nat} (h : b ≤ a) : nI a - nI b = nI (a - b) := by
  have e : nI a = nI (a - b) + nI b := by rw [nI_add, Nat.sub_add_cancel h]
  rw [e, Int32.add_sub_cancel]
theorem mn24 : ∀ c, c < 25 → (if (24 : Int32) < nI c + 1 then (24 : Int32) else nI c + 1) = nI (pnC c) := by decide +kernel
theorem PSw_n {cnt mm n : Nat} {P : Nat → Nat → Int32} {ns : Nat → Nat} {s : Nat → Int32} (hc : cnt ≤ 24) (h : PSw cnt mm P ns) (hs : wf s n mm) : PSw (pnC cnt) mm (pnP cnt P s) (pnP cnt ns n) := by
  intro i hi
  unfold pnC at hi
  unfold pnP
  by_cases c : cnt < 24
  · rw [if_pos c] at hi
    rw [if_pos c, if_pos c]
    by_cases c2 : i < cnt
    · rw [if_pos c2, if_pos c2]; exact h i c2
    · rw [if_neg c2, if_neg c2]; exact hs
  · rw [if_neg c] at hi
    rw [if_neg c, if_neg c]
    by_cases c2 : i < 23
    · rw [if_pos c2, if_pos c2]; exact h (i + 1) (by omega)
    · rw [if_neg c2, if_neg c2]; exact hs
theorem rem_c {M : Nat → Nat → Int32} {cnt e bd mm n : Nat} {P : Nat → Nat → Int32} {ns : Nat → Nat} {s : Nat → Int32} (h : PSc M cnt e (bd + 1) mm P ns) (hw : PSw cnt mm P ns) (hm : mm ≤ 6) (hr : rp M 20 s n mm) (hn : n ≤ 12) : q_X4_remember_49_20 M ∧ (∀ c, c < 49 ∨ 242 < c → g_X4_remember_49_20 M c = M c) ∧ PSc (g_X4_remember_49_20 M) (pnC cnt) (e + 1) bd mm (pnP cnt P s) (pnP cnt ns n) := by
  obtain ⟨h1, ⟨h2, h6⟩, h3, h4, h5⟩ := h
  have fe : fm24 (M 49 1) = nI (e % 24) := by rw [h1]; exact fm_n e (by omega)
  have ce : (fm24 (M 49 1)).toNatClampNeg = e % 24 := by rw [fe]; exact nI_clamp (by omega)
  have c49 : cpB (51 + 8 * (e % 24)) 20 M 49 = M 49 := cpB_fr (by omega)
  have eg : g_X4_remember_49_20 M = z_row (z_row (cpB (51 + 8 * (e % 24)) 20 M) 49 (upd (M 49) 1 (nI (e + 1)))) 49 (upd (upd (M 49) 1 (nI (e + 1))) 2 (nI (pnC cnt))) := by
    unfold g_X4_remember_49_20
    rw [ce]
    show z_row (z_row (cpB (51 + 8 * (e % 24)) 20 M) 49 (upd (cpB (51 + 8 * (e % 24)) 20 M 49) 1 (cpB (51 + 8 * (e % 24)) 20 M 49 1 + 1))) 49 (upd (upd (cpB (51 + 8 * (e % 24)) 20 M 49) 1 (cpB (51 + 8 * (e % 24)) 20 M 49 1 + 1)) 2 (if (24 : Int32) < cpB (51 + 8 * (e % 24)) 20 M 49 2 + 1 then (24 : Int32) else cpB (51 + 8 * (e % 24)) 20 M 49 2 + 1)) = _
    rw [c49, h1, h3, nI_1, mn24 cnt (by omega)]
  have hc : ∀ c, c ≠ 49 → g_X4_remember_49_20 M c = cpB (51 + 8 * (e % 24)) 20 M c := fun c hc => by rw [eg, z_row_ne hc, z_row_ne hc]
  refine ⟨by unfold q_X4_remember_49_20; rw [fe]; exact vi (by omega) (by decide), fun c hc' => by rw [hc c (by omega), cpB_fr (by omega)], ?_, ⟨by omega, by unfold pnC; split <;> omega⟩, ?_, ?_, ?_⟩
  · rw [eg, z_row_eq, ud_ne (by decide), ud_eq]
  · rw [eg, z_row_eq, ud_eq]
  · unfold pnC; split <;> omega
  · have old : ∀ p, p < 24 → p ≠ e % 24 → ∀ (s' : Nat → Int32) (n' : Nat), rp M (51 + 8 * p) s' n' mm → rp (g_X4_remember_49_20 M) (51 + 8 * p) s' n' mm := by
      intro p hp hpe s' n' hr'
      exact rp_cong hr' (fun c x1 x2 => by rw [hc c (by omega), cpB_fr (by omega)])
    have new : rp (g_X4_remember_49_20 M) (51 + 8 * (e % 24)) s n mm := rp_cong (cpB_rp hr hn hm) (fun c x1 x2 => hc c (by omega))
    intro i hi
    unfold pnC at hi ⊢
    unfold pnP
    by_cases c : cnt < 24
    · rw [if_pos c] at hi
      rw [if_pos c, if_pos c, if_pos c]
      by_cases c2 : i < cnt
      · rw [if_pos c2, if_pos c2, show (e + 1 - (cnt + 1) + i) % 24 = (e - cnt + i) % 24 by omega]
        exact old _ (by omega) (by omega) _ _ (h5 i c2)
      · rw [if_neg c2, if_neg c2, show (e + 1 - (cnt + 1) + i) % 24 = e % 24 by omega]
        exact new
    · rw [if_neg c] at hi
      rw [if_neg c, if_neg c, if_neg c]
      have c24 : cnt = 24 := by omega
      subst c24
      by_cases c2 : i < 23
      · rw [if_pos c2, if_pos c2, show (e + 1 - 24 + i) % 24 = (e - 24 + (i + 1)) % 24 by omega]
        exact old _ (by omega) (by omega) _ _ (h5 (i + 1) (by omega))
      · rw [if_neg c2, if_neg c2, show (e + 1 - 24 + i) % 24 = e % 24 by omega]
        exact new
theorem no_r {M : Nat → Nat → Int32} {cnt : Nat} {P : Nat → Nat → Int32} {s : Nat → Int32} (h : PSr M cnt P) (hr : ∀ j, j < 83 → M 279 j = s j) : q_X9_notes_274 M ∧ (∀ c, c ≠ 274 → c ≠ 281 → g_X9_notes_274 M c = M c) ∧ (∀ j, j ≠ 11 → g_X9_notes_274 M 274 j = M 274 j) ∧ PSr (g_X9_notes_274 M) (pnC cnt) (pnP cnt P s) := by
  obtain ⟨h1, h2, h3⟩ := h
  have fr : ∀ c, c ≠ 274 → c ≠ 281 → g_X9_notes_274 M c = M c := fun c a b => fr_g_X9_notes_274 M c a b
  by_cases c : cnt < 24
  · have hne : ¬ M 274 11 = 24 := by rw [h1]; exact fun z => absurd ((nI_eq (b := 24) (by omega) (by decide)).mp z) (by omega)
    have e83 : (83 : Int32) * M 274 11 = nI (83 * cnt) := by rw [h1]; exact nI_mul 83 cnt
    have b := br_279_281 (M := M) (a := 0) (b := 83 * cnt) (N := 83) (by omega) (by omega)
    have eg : g_X9_notes_274 M = z_row (g_X9_bring_279_281 M (nI 0) (nI (83 * cnt)) (nI 83)) 274 (upd (M 274) 11 (nI (cnt + 1))) := by
      unfold g_X9_notes_274
      rw [if_pos hne, e83]
      show z_row (g_X9_bring_279_281 M (nI 0) (nI (83 * cnt)) (nI 83)) 274 (upd (g_X9_bring_279_281 M (nI 0) (nI (83 * cnt)) (nI 83) 274) 11 (g_X9_bring_279_281 M (nI 0) (nI (83 * cnt)) (nI 83) 274 11 + 1)) = _
      rw [fr_g_X9_bring_279_281 M (nI 0) (nI (83 * cnt)) (nI 83) 274 (by decide), h1, nI_1]
    refine ⟨⟨fun _ => by rw [e83]; exact b.1, fun z => absurd z hne, fun z => absurd z hne, trivial⟩, fr, fun j hj => by rw [eg, z_row_eq, ud_ne hj], ?_, ?_, ?_⟩
    · rw [eg, z_row_eq, ud_eq]; unfold pnC; rw [if_pos c]
    · unfold pnC; rw [if_pos c]; omega
    · intro i hi j hj
      unfold pnC at hi
      rw [if_pos c] at hi
      unfold pnP
      rw [if_pos c, eg, z_row_ne (by decide), b.2]
      by_cases c2 : i < cnt
      · rw [if_pos c2, if_neg (by omega)]; exact h3 i c2 j hj
      · have : i = cnt := by omega
        subst this
        rw [if_neg c2, if_pos (by omega), Nat.zero_add, Nat.add_sub_cancel_left]; exact hr j hj
  · have c24 : cnt = 24 := by omega
    subst c24
    have heq : M 274 11 = 24 := h1
    have b0 := br_281_281 (M := M)
    obtain ⟨A, hA⟩ : ∃ x, x = g_X9_bring_281_281 M 83 0 1909 := ⟨_, rfl⟩
    have fA : ∀ c, c ≠ 281 → A c = M c := fun c a => by rw [hA]; exact fr_g_X9_bring_281_281 M 83 0 1909 c a
    rw [← hA] at b0
    obtain ⟨B, hB⟩ : ∃ x, x = z_row A 274 (upd (M 274) 11 23) := ⟨_, rfl⟩
    have e23 : A 274 11 - 1 = 23 := by rw [fA 274 (by decide), heq]; decide
    have b := br_279_281 (M := B) (a := 0) (b := 1909) (N := 83) (by omega) (by omega)
    have fB : ∀ c, c ≠ 274 → B c = A c := fun c a => by rw [hB, z_row_ne a]
    have eB : z_row A 274 (upd (A 274) 11 (A 274 11 - 1)) = B := by rw [e23, fA 274 (by decide), hB]
    have e9 : (83 : Int32) * (A 274 11 - 1) = nI 1909 := by rw [e23]; decide
    have e274 : g_X9_bring_279_281 B (nI 0) (nI 1909) (nI 83) 274 = upd (M 274) 11 23 := by rw [fr_g_X9_bring_279_281 B (nI 0) (nI 1909) (nI 83) 274 (by decide), hB, z_row_eq]
    have eg : g_X9_notes_274 M = z_row (g_X9_bring_279_281 B (nI 0) (nI 1909) (nI 83)) 274 (upd (upd (M 274) 11 23) 11 24) := by
      unfold g_X9_notes_274
      rw [if_neg (not_not_intro heq), ← hA, eB, e9]
      show z_row (g_X9_bring_279_281 B (nI 0) (nI 1909) (nI 83)) 274 (upd (g_X9_bring_279_281 B (nI 0) (nI 1909) (nI 83) 274) 11 (g_X9_bring_279_281 B (nI 0) (nI 1909) (nI 83) 274 11 + 1)) = _
      rw [e274, ud_eq]
      rfl
    refine ⟨⟨fun z => absurd heq z, fun _ => ?_, fun _ => ?_, trivial⟩, fr, fun j hj => by rw [eg, z_row_eq, ud_ne hj, ud_ne hj], ?_, ?_, ?_⟩
    · exact (br_281_281 (M := M)).1
    · rw [← hA, eB, e9]; exact b.1
    · rw [eg, z_row_eq, ud_eq]; rfl
    · unfold pnC; rw [if_neg c]; omega
    · intro i hi j hj
      unfold pnC at hi
      rw [if_neg c] at hi
      unfold pnP
      rw [if_neg c, eg, z_row_ne (by decide), b.2, fB 281 (by decide), fB 279 (by decide), fA 279 (by decide), b0.2]
      by_cases c2 : i < 23
      · rw [if_pos c2, if_neg (by omega), if_pos (by omega), show 83 + (83 * i + j) = 83 * (i + 1) + j by omega]; exact h3 (i + 1) (by omega) j hj
      · have : i = 23 := by omega
        subst this
        rw [if_neg c2, if_pos (by omega), Nat.zero_add, show 83 * 23 + j - 1909 = j by omega]; exact hr j hj
