/-! THE TEXT: what the reference's reader leaves of its own row -/
def lwr (M G : Nat → Nat → Int32) : Prop := ∀ j, j < 20 → G 274 j = M 274 j
theorem lwr_r (M : Nat → Nat → Int32) : lwr M M := fun _ _ => rfl
theorem lwr_t {M G H : Nat → Nat → Int32} (a : lwr M G) (b : lwr G H) : lwr M H := fun j hj => (b j hj).trans (a j hj)
theorem lwr_up {M : Nat → Nat → Int32} {k : Nat} {x : Int32} (h : 20 ≤ k) : lwr M (z_row M 274 (upd (M 274) k x)) := fun j hj => by rw [z_row_eq, ud_if, if_neg (by omega)]
theorem lwr_row {M : Nat → Nat → Int32} {c : Nat} {f : Nat → Int32} (h : 274 ≠ c) : lwr M (z_row M c f) := fun j _ => by rw [z_row_ne h]
theorem lwr_f (M : Nat → Nat → Int32) (a : Int32) : lwr M (g_X9_fails_274 M a) := by
  unfold g_X9_fails_274
  split
  · exact lwr_r M
  · intro j hj
    rw [z_row_eq, ud_if, if_neg (by omega), ud_if, if_neg (by omega)]
theorem lwr_sk (M : Nat → Nat → Int32) : lwr M (g_X9_skips_274 M) := by
  have sl : ∀ k, lwr M (s_X9_skips_274_0 M k) := by
    intro k
    induction k with
    | zero => exact lwr_r M
    | succ k ih =>
      have hs : s_X9_skips_274_0 M (k + 1) = z_row (s_X9_skips_274_0 M k) 274 (upd (s_X9_skips_274_0 M k 274) 20 (s_X9_skips_274_0 M k 274 20 + 1)) := rfl
      rw [hs]
      exact lwr_t ih (lwr_up (by decide))
  exact sl _
theorem lwr_ed (M : Nat → Nat → Int32) : lwr M (g_X9_ends_274 M) := by
  unfold g_X9_ends_274
  have A := lwr_sk M
  generalize g_X9_skips_274 M = S at *
  have B := lwr_f S 1
  generalize g_X9_fails_274 S 1 = F at *
  split
  · split
    · exact lwr_t A B
    · exact lwr_t A (lwr_up (by decide))
  · exact lwr_r M
theorem lwr_nu (M : Nat → Nat → Int32) (a b : Int32) : lwr M (g_X9_number_274 M a b) := by
  unfold g_X9_number_274
  have A := lwr_sk M
  generalize g_X9_skips_274 M = S at *
  have B1 := lwr_f S 1
  have B2 := lwr_f S 2
  generalize g_X9_fails_274 S 1 = F1 at *
  generalize g_X9_fails_274 S 2 = F2 at *
  generalize s_X9_number_274_18 S a b 0 0 (n_X9_number_274_18 S a b 0 0) = r at *
  repeat' split
  all_goals first
    | exact lwr_r M
    | exact lwr_t (lwr_t A B1) (lwr_up (by decide))
    | exact lwr_t (lwr_t A B2) (lwr_up (by decide))
    | exact lwr_t A (lwr_up (by decide))
theorem lwr_mem (M : Nat → Nat → Int32) : lwr M (g_X9_readMember_274 M) := by
  unfold g_X9_readMember_274
  generalize ((4 : Int32) + M 274 24).toNatClampNeg = j3
  generalize (M 274 24).toNatClampNeg = j1
  have a1 := lwr_nu M 0 3
  generalize g_X9_number_274 M 0 3 = N1 at *
  generalize f_X9_number_274 M 0 3 = w1 at *
  have b1 := lwr_t a1 (lwr_row (M := N1) (c := 287) (f := upd (N1 287) j1 w1) (by decide))
  generalize z_row N1 287 (upd (N1 287) j1 w1) = M1 at *
  have a2 := lwr_t b1 (lwr_nu M1 0 1)
  generalize g_X9_number_274 M1 0 1 = N2 at *
  generalize f_X9_number_274 M1 0 1 = w2 at *
  have b2 := lwr_t a2 (lwr_row (M := N2) (c := 288) (f := upd (N2 288) j1 w2) (by decide))
  generalize z_row N2 288 (upd (N2 288) j1 w2) = M2 at *
  have a3 := lwr_t b2 (lwr_nu M2 1 99)
  generalize g_X9_number_274 M2 1 99 = N3 at *
  generalize f_X9_number_274 M2 1 99 = w3 at *
  have b3 := lwr_t a3 (lwr_row (M := N3) (c := 290) (f := upd (N3 290) j3 w3) (by decide))
  generalize z_row N3 290 (upd (N3 290) j3 w3) = M3 at *
  have a4 := lwr_t b3 (lwr_nu M3 0 255)
  generalize g_X9_number_274 M3 0 255 = N4 at *
  generalize f_X9_number_274 M3 0 255 = w4 at *
  have b4 : lwr M (z_row (z_row N4 289 (upd (N4 289) j1 w4)) 274 (upd (N4 274) 24 (N4 274 24 + 1))) := fun j hj => by rw [z_row_eq, ud_if, if_neg (by omega)]; exact a4 j hj
  generalize z_row (z_row N4 289 (upd (N4 289) j1 w4)) 274 (upd (N4 274) 24 (N4 274 24 + 1)) = M4 at *
  exact lwr_t b4 (lwr_ed M4)
theorem lwr_str (M : Nat → Nat → Int32) : lwr M (g_X9_readStrap_274 M) := by
  unfold g_X9_readStrap_274
  generalize ((11 : Int32) + M 290 10).toNatClampNeg = i1
  generalize ((23 : Int32) + M 290 10).toNatClampNeg = i2
  generalize ((35 : Int32) + M 290 10).toNatClampNeg = i3
  generalize ((47 : Int32) + M 290 10).toNatClampNeg = i4
  generalize M 274 24 - 1 = v
  have a1 := lwr_nu M 0 v
  generalize g_X9_number_274 M 0 v = N1 at *
  generalize f_X9_number_274 M 0 v = w1 at *
  have b1 := lwr_t a1 (lwr_row (M := N1) (c := 290) (f := upd (N1 290) i1 w1) (by decide))
  generalize z_row N1 290 (upd (N1 290) i1 w1) = M1 at *
  have a2 := lwr_t b1 (lwr_nu M1 0 7)
  generalize g_X9_number_274 M1 0 7 = N2 at *
  generalize f_X9_number_274 M1 0 7 = w2 at *
  have b2 := lwr_t a2 (lwr_row (M := N2) (c := 290) (f := upd (N2 290) i2 w2) (by decide))
  generalize z_row N2 290 (upd (N2 290) i2 w2) = M2 at *
  have a3 := lwr_t b2 (lwr_nu M2 0 1)
  generalize g_X9_number_274 M2 0 1 = N3 at *
  generalize f_X9_number_274 M2 0 1 = w3 at *
  have b3 := lwr_t a3 (lwr_row (M := N3) (c := 290) (f := upd (N3 290) i3 w3) (by decide))
  generalize z_row N3 290 (upd (N3 290) i3 w3) = M3 at *
  have a4 := lwr_t b3 (lwr_nu M3 1 9)
  generalize g_X9_number_274 M3 1 9 = N4 at *
  generalize f_X9_number_274 M3 1 9 = w4 at *
  have b4 : lwr M (z_row (z_row N4 290 (upd (N4 290) i4 w4)) 290 (upd (upd (N4 290) i4 w4) 10 (upd (N4 290) i4 w4 10 + 1))) := lwr_t a4 (lwr_t (lwr_row (by decide)) (lwr_row (by decide)))
  generalize z_row (z_row N4 290 (upd (N4 290) i4 w4)) 290 (upd (upd (N4 290) i4 w4) 10 (upd (N4 290) i4 w4 10 + 1)) = M4 at *
  exact lwr_t b4 (lwr_ed M4)
theorem lwr_cl (M : Nat → Nat → Int32) : lwr M (g_X9_readClause_274 M) := by
  unfold g_X9_readClause_274
  have f1 := lwr_f M 1
  have f3 := lwr_f M 3
  generalize g_X9_fails_274 M 1 = F1 at *
  generalize g_X9_fails_274 M 3 = F3 at *
  have u : lwr M (z_row M 274 (upd (M 274) 20 (M 274 20 + 1))) := lwr_up (by decide)
  generalize z_row M 274 (upd (M 274) 20 (M 274 20 + 1)) = A at *
  have g1 := lwr_t u (lwr_str A)
  have g2 := lwr_t u (lwr_mem A)
  generalize g_X9_readStrap_274 A = G1 at *
  generalize g_X9_readMember_274 A = G2 at *
  have n1 := lwr_t u (lwr_nu A 1 9)
  generalize g_X9_number_274 A 1 9 = N at *
  generalize f_X9_number_274 A 1 9 = w at *
  have n2 := lwr_t n1 (lwr_up (M := N) (k := 23) (x := w) (by decide))
  generalize z_row N 274 (upd (N 274) 23 w) = B at *
  have n3 := lwr_t n2 (lwr_ed B)
  generalize g_X9_ends_274 B = E at *
  repeat' split
  all_goals assumption
theorem lwr_lp (M : Nat → Nat → Int32) (k : Nat) : lwr M (s_X9_readHouse_274_45 M k) := by
  induction k with
  | zero => exact lwr_r M
  | succ k ih =>
    have hs : s_X9_readHouse_274_45 M (k + 1) = e_X9_readHouse_274_45_M (s_X9_readHouse_274_45 M k) := rfl
    rw [hs]
    refine lwr_t ih ?_
    generalize s_X9_readHouse_274_45 M k = S
    unfold e_X9_readHouse_274_45_M
    have c := lwr_cl S
    generalize g_X9_readClause_274 S = C at *
    split
    · exact c
    · exact lwr_t c (lwr_sk C)
