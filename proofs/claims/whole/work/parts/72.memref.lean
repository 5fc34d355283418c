/-! THE TEXT: a member's clause, the reference -/
theorem X_mem {M : Nat → Nat → Int32} {tx : Nat → Int32} {len mm : Nat} {t : Nat × Int32 × Int32} (h : X3 M tx len t) (hm : M 274 24 = nI mm) (h6 : mm < 6) : q_X9_readMember_274 M ∧ X3 (g_X9_readMember_274 M) tx len (s4 tx len 0 3 0 1 1 99 0 255 t) ∧ (∀ c, c ≠ 274 → c ≠ 287 → c ≠ 288 → c ≠ 289 → c ≠ 290 → g_X9_readMember_274 M c = M c) ∧ g_X9_readMember_274 M 274 24 = nI (mm + 1) ∧ (∀ j, j ≠ 20 → j ≠ 21 → j ≠ 22 → j ≠ 24 → g_X9_readMember_274 M 274 j = M 274 j) ∧ ((s4 tx len 0 3 0 1 1 99 0 255 t).2.1 = 0 → g_X9_readMember_274 M 287 = upd (M 287) mm (y1 tx len t.1) ∧ g_X9_readMember_274 M 288 = upd (M 288) mm (y2 tx len t.1) ∧ g_X9_readMember_274 M 290 = upd (M 290) (4 + mm) (y3 tx len t.1) ∧ g_X9_readMember_274 M 289 = upd (M 289) mm (y4 tx len t.1)) := by
  have z0 := s4_0 (tx := tx) (len := len) (a1 := 0) (b1 := 3) (a2 := 0) (b2 := 1) (a3 := 1) (b3 := 99) (a4 := 0) (b4 := 255) (t := t)
  have k4 : ((4 : Int32) + nI mm).toNatClampNeg = 4 + mm := cl_add (a := 4) (by omega)
  have v4' : z_vin ((4 : Int32) + nI mm) 83 = true := by
    have e : (4 : Int32) + nI mm = nI (4 + mm) := nI_add 4 mm
    rw [e]; exact vi (by omega) (by decide)
  unfold q_X9_readMember_274 g_X9_readMember_274
  rw [hm, nI_clamp (by omega), k4]
  obtain ⟨q1, c1, f1, v1⟩ := X3_nu h 0 3
  generalize g_X9_number_274 M 0 3 = N1 at *
  generalize f_X9_number_274 M 0 3 = w1 at *
  have d1 := X3_row c1 (x := 287) (f := upd (N1 287) mm w1) (by decide) (by decide)
  have g1 : ∀ c, c ≠ 274 → c ≠ 287 → z_row N1 287 (upd (N1 287) mm w1) c = M c := fun c h2 h4 => (z_row_ne h4).trans (f1.1 c h2)
  have k1 : ∀ j, j ≠ 20 → j ≠ 21 → j ≠ 22 → z_row N1 287 (upd (N1 287) mm w1) 274 j = M 274 j := fun j a b c => by rw [z_row_ne (by decide)]; exact f1.2 j a b c
  have r1 : z_row N1 287 (upd (N1 287) mm w1) 287 = upd (M 287) mm w1 := by rw [z_row_eq, f1.1 287 (by decide)]
  generalize z_row N1 287 (upd (N1 287) mm w1) = M1 at *
  obtain ⟨q2, c2, f2, v2⟩ := X3_nu d1 0 1
  generalize g_X9_number_274 M1 0 1 = N2 at *
  generalize f_X9_number_274 M1 0 1 = w2 at *
  have d2 := X3_row c2 (x := 288) (f := upd (N2 288) mm w2) (by decide) (by decide)
  have g2 : ∀ c, c ≠ 274 → c ≠ 288 → z_row N2 288 (upd (N2 288) mm w2) c = M1 c := fun c h2 h4 => (z_row_ne h4).trans (f2.1 c h2)
  have k2 : ∀ j, j ≠ 20 → j ≠ 21 → j ≠ 22 → z_row N2 288 (upd (N2 288) mm w2) 274 j = M1 274 j := fun j a b c => by rw [z_row_ne (by decide)]; exact f2.2 j a b c
  have r2 : z_row N2 288 (upd (N2 288) mm w2) 288 = upd (M1 288) mm w2 := by rw [z_row_eq, f2.1 288 (by decide)]
  generalize z_row N2 288 (upd (N2 288) mm w2) = M2 at *
  obtain ⟨q3, c3, f3, v3⟩ := X3_nu d2 1 99
  generalize g_X9_number_274 M2 1 99 = N3 at *
  generalize f_X9_number_274 M2 1 99 = w3 at *
  have d3 := X3_row c3 (x := 290) (f := upd (N3 290) (4 + mm) w3) (by decide) (by decide)
  have g3 : ∀ c, c ≠ 274 → c ≠ 290 → z_row N3 290 (upd (N3 290) (4 + mm) w3) c = M2 c := fun c h2 h4 => (z_row_ne h4).trans (f3.1 c h2)
  have k3 : ∀ j, j ≠ 20 → j ≠ 21 → j ≠ 22 → z_row N3 290 (upd (N3 290) (4 + mm) w3) 274 j = M2 274 j := fun j a b c => by rw [z_row_ne (by decide)]; exact f3.2 j a b c
  have r3 : z_row N3 290 (upd (N3 290) (4 + mm) w3) 290 = upd (M2 290) (4 + mm) w3 := by rw [z_row_eq, f3.1 290 (by decide)]
  generalize z_row N3 290 (upd (N3 290) (4 + mm) w3) = M3 at *
  obtain ⟨q4, c4, f4, v4⟩ := X3_nu d3 0 255
  generalize g_X9_number_274 M3 0 255 = N4 at *
  generalize f_X9_number_274 M3 0 255 = w4 at *
  have d4 := X3_row c4 (x := 289) (f := upd (N4 289) mm w4) (by decide) (by decide)
  have g4 : ∀ c, c ≠ 274 → c ≠ 289 → z_row N4 289 (upd (N4 289) mm w4) c = M3 c := fun c h2 h4 => (z_row_ne h4).trans (f4.1 c h2)
  have eA : z_row N4 289 (upd (N4 289) mm w4) 274 = N4 274 := z_row_ne (by decide)
  have k4' : ∀ j, j ≠ 20 → j ≠ 21 → j ≠ 22 → N4 274 j = M3 274 j := fun j a b c => f4.2 j a b c
  have r4 : z_row N4 289 (upd (N4 289) mm w4) 289 = upd (M3 289) mm w4 := by rw [z_row_eq, f4.1 289 (by decide)]
  generalize z_row N4 289 (upd (N4 289) mm w4) = M4 at *
  rw [← eA]
  rw [← eA] at k4'
  have d5 := X3_up d4 (j := 24) (x := M4 274 24 + 1) (by decide) (by decide) (by decide) (by decide)
  have n24 : M4 274 24 = nI mm := by rw [k4' 24 (by decide) (by decide) (by decide), k3 24 (by decide) (by decide) (by decide), k2 24 (by decide) (by decide) (by decide), k1 24 (by decide) (by decide) (by decide), hm]
  have g5 : ∀ c, c ≠ 274 → z_row M4 274 (upd (M4 274) 24 (M4 274 24 + 1)) c = M4 c := fun c h2 => z_row_ne h2
  have k5 : ∀ j, j ≠ 24 → z_row M4 274 (upd (M4 274) 24 (M4 274 24 + 1)) 274 j = M4 274 j := fun j a => by rw [z_row_eq, ud_if, if_neg a]
  have k24 : z_row M4 274 (upd (M4 274) 24 (M4 274 24 + 1)) 274 24 = nI (mm + 1) := by rw [z_row_eq, ud_if, if_pos rfl, n24, nI_1]
  generalize z_row M4 274 (upd (M4 274) 24 (M4 274 24 + 1)) = M5 at *
  obtain ⟨q5, c5, f5⟩ := X3_ed d5
  generalize g_X9_ends_274 M5 = E at *
  refine ⟨⟨q1, vi h6 (by decide), q2, q3, v4', q4, q5, trivial⟩, c5, fun c h8 h1 h2 h3 h4 => ?_, ?_, fun j j0 j1 j2 j4 => ?_, fun hz => ?_⟩
  · rw [f5.1 c h8, g5 c h8, g4 c h8 h3, g3 c h8 h4, g2 c h8 h2, g1 c h8 h1]
  · rw [f5.2 24 (by decide) (by decide) (by decide), k24]
  · rw [f5.2 j j0 j1 j2, k5 j j4, k4' j j0 j1 j2, k3 j j0 j1 j2, k2 j j0 j1 j2, k1 j j0 j1 j2]
  · obtain ⟨a1, a2, a3, a4, _⟩ := z0 hz
    refine ⟨?_, ?_, ?_, ?_⟩
    · rw [f5.1 287 (by decide), g5 287 (by decide), g4 287 (by decide) (by decide), g3 287 (by decide) (by decide), g2 287 (by decide) (by decide), r1, v1 a1]; rfl
    · rw [f5.1 288 (by decide), g5 288 (by decide), g4 288 (by decide) (by decide), g3 288 (by decide) (by decide), r2, g1 288 (by decide) (by decide), v2 a2]; rfl
    · rw [f5.1 290 (by decide), g5 290 (by decide), g4 290 (by decide) (by decide), r3, g2 290 (by decide) (by decide), g1 290 (by decide) (by decide), v3 a3]; rfl
    · rw [f5.1 289 (by decide), g5 289 (by decide), r4, g3 289 (by decide) (by decide), g2 289 (by decide) (by decide), g1 289 (by decide) (by decide), v4 a4]; rfl
