/-! COPIES: of braces, of rows of the reference -/
theorem nI_mul (a b : Nat) : nI a * nI b = nI (a * b) := (Int32.ofNat_mul a b).symm
theorem cy_in {f g : Nat → Int32} {N j : Nat} (h : j < N) : va_cpy f g 0 0 N j = f j := by
  unfold va_cpy
  rw [if_pos (by omega), Nat.zero_add, Nat.sub_zero]
theorem cpB_fr {a b c : Nat} {M : Nat → Nat → Int32} (h : c < a ∨ a + 8 ≤ c) : cpB a b M c = M c := by
  unfold cpB
  rw [z_row_ne (by omega), z_row_ne (by omega), z_row_ne (by omega), z_row_ne (by omega), z_row_ne (by omega), z_row_ne (by omega), z_row_ne (by omega), z_row_ne (by omega), z_row_ne (by omega), z_row_ne (by omega), z_row_ne (by omega), z_row_ne (by omega)]
theorem cpB_0 {a b : Nat} {M : Nat → Nat → Int32} : cpB a b M a = upd (upd (upd (upd (upd (M a) 1 (M b 1)) 8 (M b 8)) 9 (M b 9)) 10 (M b 10)) 11 (M b 11) := by
  unfold cpB
  rw [z_row_ne (by omega), z_row_ne (by omega), z_row_ne (by omega), z_row_ne (by omega), z_row_ne (by omega), z_row_ne (by omega), z_row_ne (by omega), z_row_eq]
theorem cpB_1 {a b : Nat} {M : Nat → Nat → Int32} : cpB a b M (a + 1) = va_cpy (M (b + 1)) (M (a + 1)) 0 0 6 := by
  unfold cpB
  rw [z_row_ne (by omega), z_row_ne (by omega), z_row_ne (by omega), z_row_ne (by omega), z_row_ne (by omega), z_row_ne (by omega), z_row_eq]
theorem cpB_2 {a b : Nat} {M : Nat → Nat → Int32} : cpB a b M (a + 2) = va_cpy (M (b + 2)) (M (a + 2)) 0 0 12 := by
  unfold cpB
  rw [z_row_ne (by omega), z_row_ne (by omega), z_row_ne (by omega), z_row_ne (by omega), z_row_ne (by omega), z_row_eq]
theorem cpB_3 {a b : Nat} {M : Nat → Nat → Int32} : cpB a b M (a + 3) = va_cpy (M (b + 3)) (M (a + 3)) 0 0 12 := by
  unfold cpB
  rw [z_row_ne (by omega), z_row_ne (by omega), z_row_ne (by omega), z_row_ne (by omega), z_row_eq]
theorem cpB_4 {a b : Nat} {M : Nat → Nat → Int32} : cpB a b M (a + 4) = va_cpy (M (b + 4)) (M (a + 4)) 0 0 12 := by
  unfold cpB
  rw [z_row_ne (by omega), z_row_ne (by omega), z_row_ne (by omega), z_row_eq]
theorem cpB_5 {a b : Nat} {M : Nat → Nat → Int32} : cpB a b M (a + 5) = va_cpy (M (b + 5)) (M (a + 5)) 0 0 12 := by
  unfold cpB
  rw [z_row_ne (by omega), z_row_ne (by omega), z_row_eq]
theorem cpB_6 {a b : Nat} {M : Nat → Nat → Int32} : cpB a b M (a + 6) = va_cpy (M (b + 6)) (M (a + 6)) 0 0 12 := by
  unfold cpB
  rw [z_row_ne (by omega), z_row_eq]
theorem cpB_7 {a b : Nat} {M : Nat → Nat → Int32} : cpB a b M (a + 7) = va_cpy (M (b + 7)) (M (a + 7)) 0 0 12 := by
  unfold cpB
  rw [z_row_eq]
theorem cpB_rp {a b n mm : Nat} {M : Nat → Nat → Int32} {s : Nat → Int32} (hr : rp M b s n mm) (hn : n ≤ 12) (hm : mm ≤ 6) : rp (cpB a b M) a s n mm := by
  obtain ⟨⟨r1, r2, r3, r4, r5⟩, r6, r7⟩ := hr
  refine ⟨⟨?_, ?_, ?_, ?_, ?_⟩, ?_, ?_⟩
  · rw [cpB_0, ud_ne (by decide), ud_ne (by decide), ud_ne (by decide), ud_ne (by decide), ud_eq]; exact r1
  · rw [cpB_0, ud_ne (by decide), ud_ne (by decide), ud_ne (by decide), ud_eq]; exact r2
  · rw [cpB_0, ud_ne (by decide), ud_ne (by decide), ud_eq]; exact r3
  · rw [cpB_0, ud_ne (by decide), ud_eq]; exact r4
  · rw [cpB_0, ud_eq]; exact r5
  · intro k hk
    rw [cpB_1, cy_in (by omega)]; exact r6 k hk
  · intro k hk
    rw [cpB_2, cpB_3, cpB_4, cpB_5, cpB_6, cpB_7, cy_in (by omega), cy_in (by omega), cy_in (by omega), cy_in (by omega), cy_in (by omega), cy_in (by omega)]; exact r7 k hk
theorem rp_cs {M : Nat → Nat → Int32} {b n mm : Nat} {s s' : Nat → Int32} (h : rp M b s n mm) (hn : n ≤ 12) (hm : mm ≤ 6) (e : ∀ j, j < 83 → s' j = s j) : rp M b s' n mm := by
  obtain ⟨⟨r1, r2, r3, r4, r5⟩, r6, r7⟩ := h
  refine ⟨⟨?_, ?_, ?_, ?_, ?_⟩, ?_, ?_⟩
  · rw [e _ (by decide)]; exact r1
  · rw [e _ (by decide)]; exact r2
  · rw [e _ (by decide)]; exact r3
  · rw [e _ (by decide)]; exact r4
  · rw [e _ (by decide)]; exact r5
  · intro k hk; rw [e _ (by omega)]; exact r6 k hk
  · intro k hk; rw [e _ (by omega), e _ (by omega), e _ (by omega), e _ (by omega), e _ (by omega), e _ (by omega)]; exact r7 k hk
theorem br_273_275 {M : Nat → Nat → Int32} {a b N : Nat} (ha : a + N ≤ 83) (hb : b + N ≤ 1992) : q_X9_bring_273_275 M (nI a) (nI b) (nI N) ∧ ∀ j, g_X9_bring_273_275 M (nI a) (nI b) (nI N) 275 j = if b ≤ j ∧ j < b + N then M 273 (a + (j - b)) else M 275 j := by
  have lp : ∀ k, k ≤ N → ∀ j, s_X9_bring_273_275_3 M (nI a) (nI b) (nI N) k 275 j = if b ≤ j ∧ j < b + k then M 273 (a + (j - b)) else M 275 j := by
    intro k
    induction k with
    | zero => intro _ j; rw [if_neg (by omega)]; rfl
    | succ k ih =>
      intro hk j
      have hs : s_X9_bring_273_275_3 M (nI a) (nI b) (nI N) (k + 1) = e_X9_bring_273_275_3_M (s_X9_bring_273_275_3 M (nI a) (nI b) (nI N) k) (nI a) (nI b) (nI N) (nI k) := rfl
      rw [hs]
      unfold e_X9_bring_273_275_3_M
      rw [cl_add (by omega), cl_add (by omega), z_row_eq, ud_if, fr_s_X9_bring_273_275_3 M (nI a) (nI b) (nI N) k 273 (by decide), ih (by omega) j]
      by_cases c : j = b + k
      · subst c
        rw [if_pos rfl, if_pos (by omega), Nat.add_sub_cancel_left]
      · rw [if_neg c]
        by_cases c2 : b ≤ j ∧ j < b + k
        · rw [if_pos c2, if_pos (by omega)]
        · rw [if_neg c2, if_neg (by omega)]
  have cN : (nI N).toNatClampNeg = N := nI_clamp (by omega)
  unfold q_X9_bring_273_275 g_X9_bring_273_275
  rw [cN]
  refine ⟨⟨fun k hk => ?_, trivial⟩, lp N (Nat.le_refl N)⟩
  unfold qi_X9_bring_273_275_3
  rw [nI_add, nI_add]
  exact ⟨vi (by omega) (by decide), vi (by omega) (by decide), trivial⟩
theorem br_275_273 {M : Nat → Nat → Int32} {a b N : Nat} (ha : a + N ≤ 1992) (hb : b + N ≤ 83) : q_X9_bring_275_273 M (nI a) (nI b) (nI N) ∧ ∀ j, g_X9_bring_275_273 M (nI a) (nI b) (nI N) 273 j = if b ≤ j ∧ j < b + N then M 275 (a + (j - b)) else M 273 j := by
  have lp : ∀ k, k ≤ N → ∀ j, s_X9_bring_275_273_3 M (nI a) (nI b) (nI N) k 273 j = if b ≤ j ∧ j < b + k then M 275 (a + (j - b)) else M 273 j := by
    intro k
    induction k with
    | zero => intro _ j; rw [if_neg (by omega)]; rfl
    | succ k ih =>
      intro hk j
      have hs : s_X9_bring_275_273_3 M (nI a) (nI b) (nI N) (k + 1) = e_X9_bring_275_273_3_M (s_X9_bring_275_273_3 M (nI a) (nI b) (nI N) k) (nI a) (nI b) (nI N) (nI k) := rfl
      rw [hs]
      unfold e_X9_bring_275_273_3_M
      rw [cl_add (by omega), cl_add (by omega), z_row_eq, ud_if, fr_s_X9_bring_275_273_3 M (nI a) (nI b) (nI N) k 275 (by decide), ih (by omega) j]
      by_cases c : j = b + k
      · subst c
        rw [if_pos rfl, if_pos (by omega), Nat.add_sub_cancel_left]
      · rw [if_neg c]
        by_cases c2 : b ≤ j ∧ j < b + k
        · rw [if_pos c2, if_pos (by omega)]
        · rw [if_neg c2, if_neg (by omega)]
  have cN : (nI N).toNatClampNeg = N := nI_clamp (by omega)
  unfold q_X9_bring_275_273 g_X9_bring_275_273
  rw [cN]
  refine ⟨⟨fun k hk => ?_, trivial⟩, lp N (Nat.le_refl N)⟩
  unfold qi_X9_bring_275_273_3
  rw [nI_add, nI_add]
  exact ⟨vi (by omega) (by decide), vi (by omega) (by decide), trivial⟩
theorem br_273_274 {M : Nat → Nat → Int32} {a b N : Nat} (ha : a + N ≤ 83) (hb : b + N ≤ 83) : q_X9_bring_273_274 M (nI a) (nI b) (nI N) ∧ ∀ j, g_X9_bring_273_274 M (nI a) (nI b) (nI N) 274 j = if b ≤ j ∧ j < b + N then M 273 (a + (j - b)) else M 274 j := by
  have lp : ∀ k, k ≤ N → ∀ j, s_X9_bring_273_274_3 M (nI a) (nI b) (nI N) k 274 j = if b ≤ j ∧ j < b + k then M 273 (a + (j - b)) else M 274 j := by
    intro k
    induction k with
    | zero => intro _ j; rw [if_neg (by omega)]; rfl
    | succ k ih =>
      intro hk j
      have hs : s_X9_bring_273_274_3 M (nI a) (nI b) (nI N) (k + 1) = e_X9_bring_273_274_3_M (s_X9_bring_273_274_3 M (nI a) (nI b) (nI N) k) (nI a) (nI b) (nI N) (nI k) := rfl
      rw [hs]
      unfold e_X9_bring_273_274_3_M
      rw [cl_add (by omega), cl_add (by omega), z_row_eq, ud_if, fr_s_X9_bring_273_274_3 M (nI a) (nI b) (nI N) k 273 (by decide), ih (by omega) j]
      by_cases c : j = b + k
      · subst c
        rw [if_pos rfl, if_pos (by omega), Nat.add_sub_cancel_left]
      · rw [if_neg c]
        by_cases c2 : b ≤ j ∧ j < b + k
        · rw [if_pos c2, if_pos (by omega)]
        · rw [if_neg c2, if_neg (by omega)]
  have cN : (nI N).toNatClampNeg = N := nI_clamp (by omega)
  unfold q_X9_bring_273_274 g_X9_bring_273_274
  rw [cN]
  refine ⟨⟨fun k hk => ?_, trivial⟩, lp N (Nat.le_refl N)⟩
  unfold qi_X9_bring_273_274_3
  rw [nI_add, nI_add]
  exact ⟨vi (by omega) (by decide), vi (by omega) (by decide), trivial⟩
theorem br_273_276 {M : Nat → Nat → Int32} {a b N : Nat} (ha : a + N ≤ 83) (hb : b + N ≤ 166) : q_X9_bring_273_276 M (nI a) (nI b) (nI N) ∧ ∀ j, g_X9_bring_273_276 M (nI a) (nI b) (nI N) 276 j = if b ≤ j ∧ j < b + N then M 273 (a + (j - b)) else M 276 j := by
  have lp : ∀ k, k ≤ N → ∀ j, s_X9_bring_273_276_3 M (nI a) (nI b) (nI N) k 276 j = if b ≤ j ∧ j < b + k then M 273 (a + (j - b)) else M 276 j := by
    intro k
    induction k with
    | zero => intro _ j; rw [if_neg (by omega)]; rfl
    | succ k ih =>
      intro hk j
      have hs : s_X9_bring_273_276_3 M (nI a) (nI b) (nI N) (k + 1) = e_X9_bring_273_276_3_M (s_X9_bring_273_276_3 M (nI a) (nI b) (nI N) k) (nI a) (nI b) (nI N) (nI k) := rfl
      rw [hs]
      unfold e_X9_bring_273_276_3_M
      rw [cl_add (by omega), cl_add (by omega), z_row_eq, ud_if, fr_s_X9_bring_273_276_3 M (nI a) (nI b) (nI N) k 273 (by decide), ih (by omega) j]
      by_cases c : j = b + k
      · subst c
        rw [if_pos rfl, if_pos (by omega), Nat.add_sub_cancel_left]
      · rw [if_neg c]
        by_cases c2 : b ≤ j ∧ j < b + k
        · rw [if_pos c2, if_pos (by omega)]
        · rw [if_neg c2, if_neg (by omega)]
  have cN : (nI N).toNatClampNeg = N := nI_clamp (by omega)
  unfold q_X9_bring_273_276 g_X9_bring_273_276
  rw [cN]
  refine ⟨⟨fun k hk => ?_, trivial⟩, lp N (Nat.le_refl N)⟩
  unfold qi_X9_bring_273_276_3
  rw [nI_add, nI_add]
  exact ⟨vi (by omega) (by decide), vi (by omega) (by decide), trivial⟩
theorem br_276_273 {M : Nat → Nat → Int32} {a b N : Nat} (ha : a + N ≤ 166) (hb : b + N ≤ 83) : q_X9_bring_276_273 M (nI a) (nI b) (nI N) ∧ ∀ j, g_X9_bring_276_273 M (nI a) (nI b) (nI N) 273 j = if b ≤ j ∧ j < b + N then M 276 (a + (j - b)) else M 273 j := by
  have lp : ∀ k, k ≤ N → ∀ j, s_X9_bring_276_273_3 M (nI a) (nI b) (nI N) k 273 j = if b ≤ j ∧ j < b + k then M 276 (a + (j - b)) else M 273 j := by
    intro k
    induction k with
    | zero => intro _ j; rw [if_neg (by omega)]; rfl
    | succ k ih =>
      intro hk j
      have hs : s_X9_bring_276_273_3 M (nI a) (nI b) (nI N) (k + 1) = e_X9_bring_276_273_3_M (s_X9_bring_276_273_3 M (nI a) (nI b) (nI N) k) (nI a) (nI b) (nI N) (nI k) := rfl
      rw [hs]
      unfold e_X9_bring_276_273_3_M
      rw [cl_add (by omega), cl_add (by omega), z_row_eq, ud_if, fr_s_X9_bring_276_273_3 M (nI a) (nI b) (nI N) k 276 (by decide), ih (by omega) j]
      by_cases c : j = b + k
      · subst c
        rw [if_pos rfl, if_pos (by omega), Nat.add_sub_cancel_left]
      · rw [if_neg c]
        by_cases c2 : b ≤ j ∧ j < b + k
        · rw [if_pos c2, if_pos (by omega)]
        · rw [if_neg c2, if_neg (by omega)]
  have cN : (nI N).toNatClampNeg = N := nI_clamp (by omega)
  unfold q_X9_bring_276_273 g_X9_bring_276_273
  rw [cN]
  refine ⟨⟨fun k hk => ?_, trivial⟩, lp N (Nat.le_refl N)⟩
  unfold qi_X9_bring_276_273_3
  rw [nI_add, nI_add]
  exact ⟨vi (by omega) (by decide), vi (by omega) (by decide), trivial⟩
theorem br_281_270 {M : Nat → Nat → Int32} {a b N : Nat} (ha : a + N ≤ 6) (hb : b + N ≤ 6) : q_X9_bring_281_270 M (nI a) (nI b) (nI N) ∧ ∀ j, g_X9_bring_281_270 M (nI a) (nI b) (nI N) 270 j = if b ≤ j ∧ j < b + N then M 281 (a + (j - b)) else M 270 j := by
  have lp : ∀ k, k ≤ N → ∀ j, s_X9_bring_281_270_3 M (nI a) (nI b) (nI N) k 270 j = if b ≤ j ∧ j < b + k then M 281 (a + (j - b)) else M 270 j := by
    intro k
    induction k with
    | zero => intro _ j; rw [if_neg (by omega)]; rfl
    | succ k ih =>
      intro hk j
      have hs : s_X9_bring_281_270_3 M (nI a) (nI b) (nI N) (k + 1) = e_X9_bring_281_270_3_M (s_X9_bring_281_270_3 M (nI a) (nI b) (nI N) k) (nI a) (nI b) (nI N) (nI k) := rfl
      rw [hs]
      unfold e_X9_bring_281_270_3_M
      rw [cl_add (by omega), cl_add (by omega), z_row_eq, ud_if, fr_s_X9_bring_281_270_3 M (nI a) (nI b) (nI N) k 281 (by decide), ih (by omega) j]
      by_cases c : j = b + k
      · subst c
        rw [if_pos rfl, if_pos (by omega), Nat.add_sub_cancel_left]
      · rw [if_neg c]
        by_cases c2 : b ≤ j ∧ j < b + k
        · rw [if_pos c2, if_pos (by omega)]
        · rw [if_neg c2, if_neg (by omega)]
  have cN : (nI N).toNatClampNeg = N := nI_clamp (by omega)
  unfold q_X9_bring_281_270 g_X9_bring_281_270
  rw [cN]
  refine ⟨⟨fun k hk => ?_, trivial⟩, lp N (Nat.le_refl N)⟩
  unfold qi_X9_bring_281_270_3
  rw [nI_add, nI_add]
  exact ⟨vi (by omega) (by decide), vi (by omega) (by decide), trivial⟩
theorem br_282_271 {M : Nat → Nat → Int32} {a b N : Nat} (ha : a + N ≤ 6) (hb : b + N ≤ 6) : q_X9_bring_282_271 M (nI a) (nI b) (nI N) ∧ ∀ j, g_X9_bring_282_271 M (nI a) (nI b) (nI N) 271 j = if b ≤ j ∧ j < b + N then M 282 (a + (j - b)) else M 271 j := by
  have lp : ∀ k, k ≤ N → ∀ j, s_X9_bring_282_271_3 M (nI a) (nI b) (nI N) k 271 j = if b ≤ j ∧ j < b + k then M 282 (a + (j - b)) else M 271 j := by
    intro k
    induction k with
    | zero => intro _ j; rw [if_neg (by omega)]; rfl
    | succ k ih =>
      intro hk j
      have hs : s_X9_bring_282_271_3 M (nI a) (nI b) (nI N) (k + 1) = e_X9_bring_282_271_3_M (s_X9_bring_282_271_3 M (nI a) (nI b) (nI N) k) (nI a) (nI b) (nI N) (nI k) := rfl
      rw [hs]
      unfold e_X9_bring_282_271_3_M
      rw [cl_add (by omega), cl_add (by omega), z_row_eq, ud_if, fr_s_X9_bring_282_271_3 M (nI a) (nI b) (nI N) k 282 (by decide), ih (by omega) j]
      by_cases c : j = b + k
      · subst c
        rw [if_pos rfl, if_pos (by omega), Nat.add_sub_cancel_left]
      · rw [if_neg c]
        by_cases c2 : b ≤ j ∧ j < b + k
        · rw [if_pos c2, if_pos (by omega)]
        · rw [if_neg c2, if_neg (by omega)]
  have cN : (nI N).toNatClampNeg = N := nI_clamp (by omega)
  unfold q_X9_bring_282_271 g_X9_bring_282_271
  rw [cN]
  refine ⟨⟨fun k hk => ?_, trivial⟩, lp N (Nat.le_refl N)⟩
  unfold qi_X9_bring_282_271_3
  rw [nI_add, nI_add]
  exact ⟨vi (by omega) (by decide), vi (by omega) (by decide), trivial⟩
theorem br_283_272 {M : Nat → Nat → Int32} {a b N : Nat} (ha : a + N ≤ 6) (hb : b + N ≤ 6) : q_X9_bring_283_272 M (nI a) (nI b) (nI N) ∧ ∀ j, g_X9_bring_283_272 M (nI a) (nI b) (nI N) 272 j = if b ≤ j ∧ j < b + N then M 283 (a + (j - b)) else M 272 j := by
  have lp : ∀ k, k ≤ N → ∀ j, s_X9_bring_283_272_3 M (nI a) (nI b) (nI N) k 272 j = if b ≤ j ∧ j < b + k then M 283 (a + (j - b)) else M 272 j := by
    intro k
    induction k with
    | zero => intro _ j; rw [if_neg (by omega)]; rfl
    | succ k ih =>
      intro hk j
      have hs : s_X9_bring_283_272_3 M (nI a) (nI b) (nI N) (k + 1) = e_X9_bring_283_272_3_M (s_X9_bring_283_272_3 M (nI a) (nI b) (nI N) k) (nI a) (nI b) (nI N) (nI k) := rfl
      rw [hs]
      unfold e_X9_bring_283_272_3_M
      rw [cl_add (by omega), cl_add (by omega), z_row_eq, ud_if, fr_s_X9_bring_283_272_3 M (nI a) (nI b) (nI N) k 283 (by decide), ih (by omega) j]
      by_cases c : j = b + k
      · subst c
        rw [if_pos rfl, if_pos (by omega), Nat.add_sub_cancel_left]
      · rw [if_neg c]
        by_cases c2 : b ≤ j ∧ j < b + k
        · rw [if_pos c2, if_pos (by omega)]
        · rw [if_neg c2, if_neg (by omega)]
  have cN : (nI N).toNatClampNeg = N := nI_clamp (by omega)
  unfold q_X9_bring_283_272 g_X9_bring_283_272
  rw [cN]
  refine ⟨⟨fun k hk => ?_, trivial⟩, lp N (Nat.le_refl N)⟩
  unfold qi_X9_bring_283_272_3
  rw [nI_add, nI_add]
  exact ⟨vi (by omega) (by decide), vi (by omega) (by decide), trivial⟩
theorem br_284_273 {M : Nat → Nat → Int32} {a b N : Nat} (ha : a + N ≤ 83) (hb : b + N ≤ 83) : q_X9_bring_284_273 M (nI a) (nI b) (nI N) ∧ ∀ j, g_X9_bring_284_273 M (nI a) (nI b) (nI N) 273 j = if b ≤ j ∧ j < b + N then M 284 (a + (j - b)) else M 273 j := by
  have lp : ∀ k, k ≤ N → ∀ j, s_X9_bring_284_273_3 M (nI a) (nI b) (nI N) k 273 j = if b ≤ j ∧ j < b + k then M 284 (a + (j - b)) else M 273 j := by
    intro k
    induction k with
    | zero => intro _ j; rw [if_neg (by omega)]; rfl
    | succ k ih =>
      intro hk j
      have hs : s_X9_bring_284_273_3 M (nI a) (nI b) (nI N) (k + 1) = e_X9_bring_284_273_3_M (s_X9_bring_284_273_3 M (nI a) (nI b) (nI N) k) (nI a) (nI b) (nI N) (nI k) := rfl
      rw [hs]
      unfold e_X9_bring_284_273_3_M
      rw [cl_add (by omega), cl_add (by omega), z_row_eq, ud_if, fr_s_X9_bring_284_273_3 M (nI a) (nI b) (nI N) k 284 (by decide), ih (by omega) j]
      by_cases c : j = b + k
      · subst c
        rw [if_pos rfl, if_pos (by omega), Nat.add_sub_cancel_left]
      · rw [if_neg c]
        by_cases c2 : b ≤ j ∧ j < b + k
        · rw [if_pos c2, if_pos (by omega)]
        · rw [if_neg c2, if_neg (by omega)]
  have cN : (nI N).toNatClampNeg = N := nI_clamp (by omega)
  unfold q_X9_bring_284_273 g_X9_bring_284_273
  rw [cN]
  refine ⟨⟨fun k hk => ?_, trivial⟩, lp N (Nat.le_refl N)⟩
  unfold qi_X9_bring_284_273_3
  rw [nI_add, nI_add]
  exact ⟨vi (by omega) (by decide), vi (by omega) (by decide), trivial⟩
theorem br_275_275 {M : Nat → Nat → Int32} : q_X9_bring_275_275 M 83 0 1909 ∧ ∀ j, g_X9_bring_275_275 M 83 0 1909 275 j = if j < 1909 then M 275 (83 + j) else M 275 j := by
  have lp : ∀ k, k ≤ 1909 → ∀ j, s_X9_bring_275_275_3 M (nI 83) (nI 0) (nI 1909) k 275 j = if j < k then M 275 (83 + j) else M 275 j := by
    intro k
    induction k with
    | zero => intro _ j; rw [if_neg (by omega)]; rfl
    | succ k ih =>
      intro hk j
      have hs : s_X9_bring_275_275_3 M (nI 83) (nI 0) (nI 1909) (k + 1) = e_X9_bring_275_275_3_M (s_X9_bring_275_275_3 M (nI 83) (nI 0) (nI 1909) k) (nI 83) (nI 0) (nI 1909) (nI k) := rfl
      rw [hs]
      unfold e_X9_bring_275_275_3_M
      rw [cl_add (by omega), cl_add (by omega), z_row_eq, ud_if, ih (by omega) j, ih (by omega) (83 + k), if_neg (show ¬ 83 + k < k by omega), Nat.zero_add]
      by_cases c : j = k
      · subst c
        rw [if_pos rfl, if_pos (by omega)]
      · rw [if_neg c]
        by_cases c2 : j < k
        · rw [if_pos c2, if_pos (by omega)]
        · rw [if_neg c2, if_neg (by omega)]
  have cN : (nI 1909).toNatClampNeg = 1909 := nI_clamp (by omega)
  show q_X9_bring_275_275 M (nI 83) (nI 0) (nI 1909) ∧ ∀ j, g_X9_bring_275_275 M (nI 83) (nI 0) (nI 1909) 275 j = if j < 1909 then M 275 (83 + j) else M 275 j
  unfold q_X9_bring_275_275 g_X9_bring_275_275
  rw [cN]
  refine ⟨⟨fun k hk => ?_, trivial⟩, lp 1909 (Nat.le_refl _)⟩
  unfold qi_X9_bring_275_275_3
  rw [nI_add, nI_add]
  exact ⟨vi (by omega) (by decide), vi (by omega) (by decide), trivial⟩
/-! THE PAST -/
def PSc (M : Nat → Nat → Int32) (cnt e mm : Nat) (P : Nat → Nat → Int32) (ns : Nat → Nat) : Prop := M 49 1 = nI e ∧ e < 24 ∧ M 49 2 = nI cnt ∧ cnt ≤ 24 ∧ ∀ i, i < cnt → rp M (51 + 8 * ((e + 24 - cnt + i) % 24)) (P i) (ns i) mm
def PSr (M : Nat → Nat → Int32) (cnt : Nat) (P : Nat → Nat → Int32) : Prop := M 268 11 = nI cnt ∧ cnt ≤ 24 ∧ ∀ i, i < cnt → ∀ j, j < 83 → M 275 (83 * i + j) = P i j
def PSw (cnt mm : Nat) (P : Nat → Nat → Int32) (ns : Nat → Nat) : Prop := ∀ i, i < cnt → wf (P i) (ns i) mm
/-- one row more -/
def pnC (cnt : Nat) : Nat := if cnt < 24 then cnt + 1 else 24
def pnP {α : Type} (cnt : Nat) (P : Nat → α) (s : α) : Nat → α := fun i => if cnt < 24 then (if i < cnt then P i else s) else (if i < 23 then P (i + 1) else s)
theorem m24 : ∀ e, e < 24 → (nI e + 1) - (nI e + 1) / 24 * 24 = nI ((e + 1) % 24) := by decide +kernel
theorem m24r : ∀ e, e < 24 → ∀ m, m < 25 → ((nI e + 24) - nI m) - ((nI e + 24) - nI m) / 24 * 24 = nI ((e + 24 - m) % 24) := by decide +kernel
theorem mn24 : ∀ c, c < 25 → (if (24 : Int32) < nI c + 1 then (24 : Int32) else nI c + 1) = nI (pnC c) := by decide +kernel
theorem PSw_n {cnt mm n : Nat} {P : Nat → Nat → Int32} {ns : Nat → Nat} {s : Nat → Int32} (hc : cnt ≤ 24) (h : PSw cnt mm P ns) (hs : wf s n mm) : PSw (pnC cnt) mm (pnP cnt P s) (pnP cnt ns n) := by
  intro i hi
  unfold pnC at hi
  unfold pnP
  by_cases c : cnt < 24
  · rw [if_pos c] at hi
    rw [if_pos c, if_pos c]
    by_cases c2 : i < cnt
    · rw [if_pos c2, if_pos c2]; exact h i c2
    · rw [if_neg c2, if_neg c2]; exact hs
  · rw [if_neg c] at hi
    rw [if_neg c, if_neg c]
    by_cases c2 : i < 23
    · rw [if_pos c2, if_pos c2]; exact h (i + 1) (by omega)
    · rw [if_neg c2, if_neg c2]; exact hs
theorem rem_c {M : Nat → Nat → Int32} {cnt e mm n : Nat} {P : Nat → Nat → Int32} {ns : Nat → Nat} {s : Nat → Int32} (h : PSc M cnt e mm P ns) (hw : PSw cnt mm P ns) (hm : mm ≤ 6) (hr : rp M 20 s n mm) (hn : n ≤ 12) : q_X4_remember_49_20 M ∧ (∀ c, c < 49 ∨ 242 < c → g_X4_remember_49_20 M c = M c) ∧ PSc (g_X4_remember_49_20 M) (pnC cnt) ((e + 1) % 24) mm (pnP cnt P s) (pnP cnt ns n) := by
  obtain ⟨h1, h2, h3, h4, h5⟩ := h
  have ce : (M 49 1).toNatClampNeg = e := cn_n h1 (by omega)
  have c49 : cpB (51 + 8 * e) 20 M 49 = M 49 := cpB_fr (by omega)
  have eg : g_X4_remember_49_20 M = z_row (z_row (cpB (51 + 8 * e) 20 M) 49 (upd (M 49) 1 (nI ((e + 1) % 24)))) 49 (upd (upd (M 49) 1 (nI ((e + 1) % 24))) 2 (nI (pnC cnt))) := by
    unfold g_X4_remember_49_20
    rw [ce]
    show z_row (z_row (cpB (51 + 8 * e) 20 M) 49 (upd (cpB (51 + 8 * e) 20 M 49) 1 ((cpB (51 + 8 * e) 20 M 49 1 + 1) - (cpB (51 + 8 * e) 20 M 49 1 + 1) / 24 * 24))) 49 (upd (upd (cpB (51 + 8 * e) 20 M 49) 1 ((cpB (51 + 8 * e) 20 M 49 1 + 1) - (cpB (51 + 8 * e) 20 M 49 1 + 1) / 24 * 24)) 2 (if (24 : Int32) < cpB (51 + 8 * e) 20 M 49 2 + 1 then (24 : Int32) else cpB (51 + 8 * e) 20 M 49 2 + 1)) = _
    rw [c49, h1, h3, m24 e h2, mn24 cnt (by omega)]
  have hc : ∀ c, c ≠ 49 → g_X4_remember_49_20 M c = cpB (51 + 8 * e) 20 M c := fun c hc => by rw [eg, z_row_ne hc, z_row_ne hc]
  refine ⟨by unfold q_X4_remember_49_20; rw [h1]; exact vi h2 (by decide), fun c hc' => by rw [hc c (by omega), cpB_fr (by omega)], ?_, by omega, ?_, ?_, ?_⟩
  · rw [eg, z_row_eq, ud_ne (by decide), ud_eq]
  · rw [eg, z_row_eq, ud_eq]
  · unfold pnC; split <;> omega
  · have old : ∀ p, p < 24 → p ≠ e → ∀ (s' : Nat → Int32) (n' : Nat), rp M (51 + 8 * p) s' n' mm → rp (g_X4_remember_49_20 M) (51 + 8 * p) s' n' mm := by
      intro p hp hpe s' n' hr'
      exact rp_cong hr' (fun c x1 x2 => by rw [hc c (by omega), cpB_fr (by omega)])
    have new : rp (g_X4_remember_49_20 M) (51 + 8 * e) s n mm := rp_cong (cpB_rp hr hn hm) (fun c x1 x2 => hc c (by omega))
    intro i hi
    unfold pnC at hi ⊢
    unfold pnP
    by_cases c : cnt < 24
    · rw [if_pos c] at hi
      rw [if_pos c, if_pos c, if_pos c]
      by_cases c2 : i < cnt
      · rw [if_pos c2, if_pos c2, show ((e + 1) % 24 + 24 - (cnt + 1) + i) % 24 = (e + 24 - cnt + i) % 24 by omega]
        exact old _ (by omega) (by omega) _ _ (h5 i c2)
      · rw [if_neg c2, if_neg c2, show ((e + 1) % 24 + 24 - (cnt + 1) + i) % 24 = e by omega]
        exact new
    · rw [if_neg c] at hi
      rw [if_neg c, if_neg c, if_neg c]
      have c24 : cnt = 24 := by omega
      subst c24
      by_cases c2 : i < 23
      · rw [if_pos c2, if_pos c2, show ((e + 1) % 24 + 24 - 24 + i) % 24 = (e + 24 - 24 + (i + 1)) % 24 by omega]
        exact old _ (by omega) (by omega) _ _ (h5 (i + 1) (by omega))
      · rw [if_neg c2, if_neg c2, show ((e + 1) % 24 + 24 - 24 + i) % 24 = e by omega]
        exact new
theorem no_r {M : Nat → Nat → Int32} {cnt : Nat} {P : Nat → Nat → Int32} {s : Nat → Int32} (h : PSr M cnt P) (hr : ∀ j, j < 83 → M 273 j = s j) : q_X9_notes_268 M ∧ (∀ c, c ≠ 268 → c ≠ 275 → g_X9_notes_268 M c = M c) ∧ (∀ j, j ≠ 11 → g_X9_notes_268 M 268 j = M 268 j) ∧ PSr (g_X9_notes_268 M) (pnC cnt) (pnP cnt P s) := by
  obtain ⟨h1, h2, h3⟩ := h
  have fr : ∀ c, c ≠ 268 → c ≠ 275 → g_X9_notes_268 M c = M c := fun c a b => fr_g_X9_notes_268 M c a b
  by_cases c : cnt < 24
  · have hne : ¬ M 268 11 = 24 := by rw [h1]; exact fun z => absurd ((nI_eq (b := 24) (by omega) (by decide)).mp z) (by omega)
    have e83 : (83 : Int32) * M 268 11 = nI (83 * cnt) := by rw [h1]; exact nI_mul 83 cnt
    have b := br_273_275 (M := M) (a := 0) (b := 83 * cnt) (N := 83) (by omega) (by omega)
    have eg : g_X9_notes_268 M = z_row (g_X9_bring_273_275 M (nI 0) (nI (83 * cnt)) (nI 83)) 268 (upd (M 268) 11 (nI (cnt + 1))) := by
      unfold g_X9_notes_268
      rw [if_pos hne, e83]
      show z_row (g_X9_bring_273_275 M (nI 0) (nI (83 * cnt)) (nI 83)) 268 (upd (g_X9_bring_273_275 M (nI 0) (nI (83 * cnt)) (nI 83) 268) 11 (g_X9_bring_273_275 M (nI 0) (nI (83 * cnt)) (nI 83) 268 11 + 1)) = _
      rw [fr_g_X9_bring_273_275 M (nI 0) (nI (83 * cnt)) (nI 83) 268 (by decide), h1, nI_1]
    refine ⟨⟨fun _ => by rw [e83]; exact b.1, fun z => absurd z hne, fun z => absurd z hne, trivial⟩, fr, fun j hj => by rw [eg, z_row_eq, ud_ne hj], ?_, ?_, ?_⟩
    · rw [eg, z_row_eq, ud_eq]; unfold pnC; rw [if_pos c]
    · unfold pnC; rw [if_pos c]; omega
    · intro i hi j hj
      unfold pnC at hi
      rw [if_pos c] at hi
      unfold pnP
      rw [if_pos c, eg, z_row_ne (by decide), b.2]
      by_cases c2 : i < cnt
      · rw [if_pos c2, if_neg (by omega)]; exact h3 i c2 j hj
      · have : i = cnt := by omega
        subst this
        rw [if_neg c2, if_pos (by omega), Nat.zero_add, Nat.add_sub_cancel_left]; exact hr j hj
  · have c24 : cnt = 24 := by omega
    subst c24
    have heq : M 268 11 = 24 := h1
    have b0 := br_275_275 (M := M)
    obtain ⟨A, hA⟩ : ∃ x, x = g_X9_bring_275_275 M 83 0 1909 := ⟨_, rfl⟩
    have fA : ∀ c, c ≠ 275 → A c = M c := fun c a => by rw [hA]; exact fr_g_X9_bring_275_275 M 83 0 1909 c a
    rw [← hA] at b0
    obtain ⟨B, hB⟩ : ∃ x, x = z_row A 268 (upd (M 268) 11 23) := ⟨_, rfl⟩
    have e23 : A 268 11 - 1 = 23 := by rw [fA 268 (by decide), heq]; decide
    have b := br_273_275 (M := B) (a := 0) (b := 1909) (N := 83) (by omega) (by omega)
    have fB : ∀ c, c ≠ 268 → B c = A c := fun c a => by rw [hB, z_row_ne a]
    have eB : z_row A 268 (upd (A 268) 11 (A 268 11 - 1)) = B := by rw [e23, fA 268 (by decide), hB]
    have e9 : (83 : Int32) * (A 268 11 - 1) = nI 1909 := by rw [e23]; decide
    have e268 : g_X9_bring_273_275 B (nI 0) (nI 1909) (nI 83) 268 = upd (M 268) 11 23 := by rw [fr_g_X9_bring_273_275 B (nI 0) (nI 1909) (nI 83) 268 (by decide), hB, z_row_eq]
    have eg : g_X9_notes_268 M = z_row (g_X9_bring_273_275 B (nI 0) (nI 1909) (nI 83)) 268 (upd (upd (M 268) 11 23) 11 24) := by
      unfold g_X9_notes_268
      rw [if_neg (not_not_intro heq), ← hA, eB, e9]
      show z_row (g_X9_bring_273_275 B (nI 0) (nI 1909) (nI 83)) 268 (upd (g_X9_bring_273_275 B (nI 0) (nI 1909) (nI 83) 268) 11 (g_X9_bring_273_275 B (nI 0) (nI 1909) (nI 83) 268 11 + 1)) = _
      rw [e268, ud_eq]
      rfl
    refine ⟨⟨fun z => absurd heq z, fun _ => ?_, fun _ => ?_, trivial⟩, fr, fun j hj => by rw [eg, z_row_eq, ud_ne hj, ud_ne hj], ?_, ?_, ?_⟩
    · exact (br_275_275 (M := M)).1
    · rw [← hA, eB, e9]; exact b.1
    · rw [eg, z_row_eq, ud_eq]; rfl
    · unfold pnC; rw [if_neg c]; omega
    · intro i hi j hj
      unfold pnC at hi
      rw [if_neg c] at hi
      unfold pnP
      rw [if_neg c, eg, z_row_ne (by decide), b.2, fB 275 (by decide), fB 273 (by decide), fA 273 (by decide), b0.2]
      by_cases c2 : i < 23
      · rw [if_pos c2, if_neg (by omega), if_pos (by omega), show 83 + (83 * i + j) = 83 * (i + 1) + j by omega]; exact h3 (i + 1) (by omega) j hj
      · have : i = 23 := by omega
        subst this
        rw [if_neg c2, if_pos (by omega), Nat.zero_add, show 83 * 23 + j - 1909 = j by omega]; exact hr j hj
