/-! THE TEXT: a strap's clause -/
theorem C_str {M : Nat → Nat → Int32} {tx : Nat → Int32} {len mm n : Nat} {t : Nat × Int32 × Int32} (h : C3 M tx len t) (hm : M 3 1 = nI mm) (hn : M 7 1 = nI n) (h12 : n < 12) (a : Int32) : q_X5_readStrap_2 M a ∧ C3 (g_X5_readStrap_2 M a) tx len (s4 tx len 0 (nI mm - 1) 0 7 0 1 1 9 t) ∧ (∀ c, c ≠ 2 → c ≠ 7 → c ≠ 9 → c ≠ 10 → c ≠ 11 → c ≠ 12 → c ≠ 13 → c ≠ 14 → g_X5_readStrap_2 M a c = M c) ∧ ((s4 tx len 0 (nI mm - 1) 0 7 0 1 1 9 t).2.1 = 0 → g_X5_readStrap_2 M a 7 = upd (M 7) 1 (nI (n + 1)) ∧ g_X5_readStrap_2 M a 9 = upd (M 9) n (y1 tx len t.1) ∧ g_X5_readStrap_2 M a 10 = upd (M 10) n (y2 tx len t.1) ∧ g_X5_readStrap_2 M a 11 = upd (M 11) n (y3 tx len t.1) ∧ g_X5_readStrap_2 M a 12 = upd (M 12) n (y4 tx len t.1) ∧ g_X5_readStrap_2 M a 13 = upd (M 13) n 0 ∧ g_X5_readStrap_2 M a 14 = upd (M 14) n 0) := by
  have lt12 : nI n < 12 := (nI_ltI (b := 12) (by omega) (by decide)).mpr h12
  have z0 := s4_0 (tx := tx) (len := len) (a1 := 0) (b1 := nI mm - 1) (a2 := 0) (b2 := 7) (a3 := 0) (b3 := 1) (a4 := 1) (b4 := 9) (t := t)
  unfold q_X5_readStrap_2 g_X5_readStrap_2
  rw [hn, if_pos lt12, hm]
  obtain ⟨q1, c1, f1, v1⟩ := C3_nu h 0 (nI mm - 1)
  generalize g_X5_readNumber_2 M 0 (nI mm - 1) = N1 at *
  generalize f_X5_readNumber_2 M 0 (nI mm - 1) = w1 at *
  obtain ⟨q2, c2, f2, v2⟩ := C3_nu c1 0 7
  generalize g_X5_readNumber_2 N1 0 7 = N2 at *
  generalize f_X5_readNumber_2 N1 0 7 = w2 at *
  obtain ⟨q3, c3, f3, v3⟩ := C3_nu c2 0 1
  generalize g_X5_readNumber_2 N2 0 1 = N3 at *
  generalize f_X5_readNumber_2 N2 0 1 = w3 at *
  obtain ⟨q4, c4, f4, v4⟩ := C3_nu c3 1 9
  generalize g_X5_readNumber_2 N3 1 9 = N4 at *
  generalize f_X5_readNumber_2 N3 1 9 = w4 at *
  obtain ⟨q5, c5, f5⟩ := C3_ed c4
  generalize g_X5_readEnd_2 N4 = E at *
  have ef : ∀ c, c ≠ 2 → E c = M c := fun c hc => by rw [f5 c hc, f4 c hc, f3 c hc, f2 c hc, f1 c hc]
  have e71 : E 7 1 = nI n := by rw [ef 7 (by decide)]; exact hn
  have e23 : E 2 3 = (s4 tx len 0 (nI mm - 1) 0 7 0 1 1 9 t).2.1 := c5.1.2.2.2.2.1
  have c5' : C3 E tx len (s4 tx len 0 (nI mm - 1) 0 7 0 1 1 9 t) := c5
  refine ⟨⟨fun _ => q1, fun _ => q2, fun _ => q3, fun _ => q4, fun _ => q5, fun _ _ => ⟨fun _ => by rw [e71]; exact vi h12 (by decide), trivial⟩, trivial⟩, ?_⟩
  rw [e23]
  by_cases c : (s4 tx len 0 (nI mm - 1) 0 7 0 1 1 9 t).2.1 = 0
  · obtain ⟨a1, a2, a3, a4, _⟩ := z0 c
    rw [if_neg (not_not_intro c), v1 a1, v2 a2, v3 a3, v4 a4]
    unfold g_X0_button_7
    rw [e71, if_pos lt12, nI_clamp (by omega), ef 7 (by decide), ef 9 (by decide), ef 10 (by decide), ef 11 (by decide), ef 12 (by decide), ef 13 (by decide), ef 14 (by decide), nI_1]
    refine ⟨C3_row (C3_row (C3_row (C3_row (C3_row (C3_row (C3_row c5' (by decide) (by decide)) (by decide) (by decide)) (by decide) (by decide)) (by decide) (by decide)) (by decide) (by decide)) (by decide) (by decide)) (by decide) (by decide), fun x h2 h7 h9 h10 h11 h12 h13 h14 => ?_, fun _ => ⟨rfl, rfl, rfl, rfl, rfl, rfl, rfl⟩⟩
    rw [z_row_ne h7, z_row_ne h14, z_row_ne h13, z_row_ne h12, z_row_ne h11, z_row_ne h10, z_row_ne h9, ef x h2]
  · rw [if_pos c]
    exact ⟨c5', fun x h2 _ _ _ _ _ _ _ => ef x h2, fun z => absurd z c⟩
theorem X_str {M : Nat → Nat → Int32} {tx : Nat → Int32} {len mm n : Nat} {t : Nat × Int32 × Int32} (h : X3 M tx len t) (hm : M 274 24 = nI mm) (hn : M 290 10 = nI n) (h12 : n < 12) : q_X9_readStrap_274 M ∧ X3 (g_X9_readStrap_274 M) tx len (s4 tx len 0 (nI mm - 1) 0 7 0 1 1 9 t) ∧ (∀ c, c ≠ 274 → c ≠ 290 → g_X9_readStrap_274 M c = M c) ∧ (∀ j, j ≠ 20 → j ≠ 21 → j ≠ 22 → g_X9_readStrap_274 M 274 j = M 274 j) ∧ ((s4 tx len 0 (nI mm - 1) 0 7 0 1 1 9 t).2.1 = 0 → g_X9_readStrap_274 M 290 = upd (upd (upd (upd (upd (M 290) (11 + n) (y1 tx len t.1)) (23 + n) (y2 tx len t.1)) (35 + n) (y3 tx len t.1)) (47 + n) (y4 tx len t.1)) 10 (nI (n + 1))) := by
  have z0 := s4_0 (tx := tx) (len := len) (a1 := 0) (b1 := nI mm - 1) (a2 := 0) (b2 := 7) (a3 := 0) (b3 := 1) (a4 := 1) (b4 := 9) (t := t)
  have kk : ∀ b : Nat, b < 48 → (nI b + nI n).toNatClampNeg = b + n ∧ z_vin (nI b + nI n) 83 = true := fun b hb => ⟨cl_add (by omega), by rw [nI_add]; exact vi (by omega) (by decide)⟩
  have k11 := kk 11 (by decide)
  have k23 := kk 23 (by decide)
  have k35 := kk 35 (by decide)
  have k47 := kk 47 (by decide)
  clear kk
  unfold q_X9_readStrap_274 g_X9_readStrap_274
  rw [hn, hm, show ((11 : Int32) + nI n).toNatClampNeg = 11 + n from k11.1, show ((23 : Int32) + nI n).toNatClampNeg = 23 + n from k23.1, show ((35 : Int32) + nI n).toNatClampNeg = 35 + n from k35.1, show ((47 : Int32) + nI n).toNatClampNeg = 47 + n from k47.1]
  obtain ⟨q1, c1, f1, v1⟩ := X3_nu h 0 (nI mm - 1)
  generalize g_X9_number_274 M 0 (nI mm - 1) = N1 at *
  generalize f_X9_number_274 M 0 (nI mm - 1) = w1 at *
  have d1 := X3_row c1 (x := 290) (f := upd (N1 290) (11 + n) w1) (by decide) (by decide)
  have g1 : ∀ c, c ≠ 274 → c ≠ 290 → z_row N1 290 (upd (N1 290) (11 + n) w1) c = M c := fun c h2 h4 => (z_row_ne h4).trans (f1.1 c h2)
  have k1 : ∀ j, j ≠ 20 → j ≠ 21 → j ≠ 22 → z_row N1 290 (upd (N1 290) (11 + n) w1) 274 j = M 274 j := fun j a b c => by rw [z_row_ne (by decide)]; exact f1.2 j a b c
  have r1 : z_row N1 290 (upd (N1 290) (11 + n) w1) 290 = upd (M 290) (11 + n) w1 := by rw [z_row_eq, f1.1 290 (by decide)]
  generalize z_row N1 290 (upd (N1 290) (11 + n) w1) = M1 at *
  obtain ⟨q2, c2, f2, v2⟩ := X3_nu d1 0 7
  generalize g_X9_number_274 M1 0 7 = N2 at *
  generalize f_X9_number_274 M1 0 7 = w2 at *
  have d2 := X3_row c2 (x := 290) (f := upd (N2 290) (23 + n) w2) (by decide) (by decide)
  have g2 : ∀ c, c ≠ 274 → c ≠ 290 → z_row N2 290 (upd (N2 290) (23 + n) w2) c = M1 c := fun c h2 h4 => (z_row_ne h4).trans (f2.1 c h2)
  have k2 : ∀ j, j ≠ 20 → j ≠ 21 → j ≠ 22 → z_row N2 290 (upd (N2 290) (23 + n) w2) 274 j = M1 274 j := fun j a b c => by rw [z_row_ne (by decide)]; exact f2.2 j a b c
  have r2 : z_row N2 290 (upd (N2 290) (23 + n) w2) 290 = upd (M1 290) (23 + n) w2 := by rw [z_row_eq, f2.1 290 (by decide)]
  generalize z_row N2 290 (upd (N2 290) (23 + n) w2) = M2 at *
  obtain ⟨q3, c3, f3, v3⟩ := X3_nu d2 0 1
  generalize g_X9_number_274 M2 0 1 = N3 at *
  generalize f_X9_number_274 M2 0 1 = w3 at *
  have d3 := X3_row c3 (x := 290) (f := upd (N3 290) (35 + n) w3) (by decide) (by decide)
  have g3 : ∀ c, c ≠ 274 → c ≠ 290 → z_row N3 290 (upd (N3 290) (35 + n) w3) c = M2 c := fun c h2 h4 => (z_row_ne h4).trans (f3.1 c h2)
  have k3 : ∀ j, j ≠ 20 → j ≠ 21 → j ≠ 22 → z_row N3 290 (upd (N3 290) (35 + n) w3) 274 j = M2 274 j := fun j a b c => by rw [z_row_ne (by decide)]; exact f3.2 j a b c
  have r3 : z_row N3 290 (upd (N3 290) (35 + n) w3) 290 = upd (M2 290) (35 + n) w3 := by rw [z_row_eq, f3.1 290 (by decide)]
  generalize z_row N3 290 (upd (N3 290) (35 + n) w3) = M3 at *
  obtain ⟨q4, c4, f4, v4⟩ := X3_nu d3 1 9
  generalize g_X9_number_274 M3 1 9 = N4 at *
  generalize f_X9_number_274 M3 1 9 = w4 at *
  have e10 : upd (N4 290) (47 + n) w4 10 = nI n := by
    rw [ud_if, if_neg (by omega), f4.1 290 (by decide), r3, ud_if, if_neg (by omega), r2, ud_if, if_neg (by omega), r1, ud_if, if_neg (by omega), hn]
  have d4 := X3_row (X3_row c4 (x := 290) (f := upd (N4 290) (47 + n) w4) (by decide) (by decide)) (x := 290) (f := upd (upd (N4 290) (47 + n) w4) 10 (upd (N4 290) (47 + n) w4 10 + 1)) (by decide) (by decide)
  have g4 : ∀ c, c ≠ 274 → c ≠ 290 → z_row (z_row N4 290 (upd (N4 290) (47 + n) w4)) 290 (upd (upd (N4 290) (47 + n) w4) 10 (upd (N4 290) (47 + n) w4 10 + 1)) c = M3 c := fun c h2 h4 => (z_row_ne h4).trans ((z_row_ne h4).trans (f4.1 c h2))
  have k4 : ∀ j, j ≠ 20 → j ≠ 21 → j ≠ 22 → z_row (z_row N4 290 (upd (N4 290) (47 + n) w4)) 290 (upd (upd (N4 290) (47 + n) w4) 10 (upd (N4 290) (47 + n) w4 10 + 1)) 274 j = M3 274 j := fun j a b c => by rw [z_row_ne (by decide), z_row_ne (by decide)]; exact f4.2 j a b c
  have r4 : z_row (z_row N4 290 (upd (N4 290) (47 + n) w4)) 290 (upd (upd (N4 290) (47 + n) w4) 10 (upd (N4 290) (47 + n) w4 10 + 1)) 290 = upd (upd (M3 290) (47 + n) w4) 10 (nI (n + 1)) := by rw [z_row_eq, e10, nI_1, f4.1 290 (by decide)]
  generalize z_row (z_row N4 290 (upd (N4 290) (47 + n) w4)) 290 (upd (upd (N4 290) (47 + n) w4) 10 (upd (N4 290) (47 + n) w4 10 + 1)) = M4 at *
  obtain ⟨q5, c5, f5⟩ := X3_ed d4
  generalize g_X9_ends_274 M4 = E at *
  refine ⟨⟨q1, k11.2, q2, k23.2, q3, k35.2, q4, k47.2, q5, trivial⟩, c5, fun c h8 h4 => ?_, fun j j0 j1 j2 => ?_, fun hz => ?_⟩
  · rw [f5.1 c h8, g4 c h8 h4, g3 c h8 h4, g2 c h8 h4, g1 c h8 h4]
  · rw [f5.2 j j0 j1 j2, k4 j j0 j1 j2, k3 j j0 j1 j2, k2 j j0 j1 j2, k1 j j0 j1 j2]
  · obtain ⟨a1, a2, a3, a4, _⟩ := z0 hz
    rw [f5.1 290 (by decide), r4, r3, r2, r1, v1 a1, v2 a2, v3 a3, v4 a4]
    rfl
