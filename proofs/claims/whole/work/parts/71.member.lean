/-! THE TEXT: a member's clause -/
def sNu (tx : Nat → Int32) (len : Nat) (a b : Int32) (t : Nat × Int32 × Int32) : Nat × Int32 × Int32 := (nx tx len t.1, lt_e t.2.1 (fn tx len a b t.1), lt_l t.2.1 (fn tx len a b t.1) t.2.2 (xl tx len t.1))
def sEd (tx : Nat → Int32) (len : Nat) (t : Nat × Int32 × Int32) : Nat × Int32 × Int32 := (xe tx len t.1, lt_e t.2.1 (fe tx len t.1), lt_l t.2.1 (fe tx len t.1) t.2.2 (xl tx len t.1))
def C3 (M : Nat → Nat → Int32) (tx : Nat → Int32) (len : Nat) (t : Nat × Int32 × Int32) : Prop := CR M tx len t.1 t.2.1 t.2.2 ∧ t.1 ≤ 240
def X3 (M : Nat → Nat → Int32) (tx : Nat → Int32) (len : Nat) (t : Nat × Int32 × Int32) : Prop := RX M tx len t.1 t.2.1 t.2.2 ∧ t.1 ≤ 240
theorem C3_nu {M : Nat → Nat → Int32} {tx : Nat → Int32} {len : Nat} {t : Nat × Int32 × Int32} (h : C3 M tx len t) (a b : Int32) : q_X5_readNumber_2 M a b ∧ C3 (g_X5_readNumber_2 M a b) tx len (sNu tx len a b t) ∧ (∀ c, c ≠ 2 → g_X5_readNumber_2 M a b c = M c) ∧ ((sNu tx len a b t).2.1 = 0 → f_X5_readNumber_2 M a b = vv tx len t.1) := by
  obtain ⟨h1, h2, h3, h4⟩ := C_nu h.1 h.2 a b
  exact ⟨h1, ⟨h2, (nx_b tx h.1.2.1 h.2).2⟩, h3, fun z => h4 (lt_e0 z).2⟩
theorem C3_ed {M : Nat → Nat → Int32} {tx : Nat → Int32} {len : Nat} {t : Nat × Int32 × Int32} (h : C3 M tx len t) : q_X5_readEnd_2 M ∧ C3 (g_X5_readEnd_2 M) tx len (sEd tx len t) ∧ ∀ c, c ≠ 2 → g_X5_readEnd_2 M c = M c := by
  obtain ⟨h1, h2, h3⟩ := C_ed h.1 h.2
  exact ⟨h1, ⟨h2, (xe_b tx h.1.2.1 h.2).2⟩, h3⟩
theorem C3_row {M : Nat → Nat → Int32} {tx : Nat → Int32} {len : Nat} {t : Nat × Int32 × Int32} (h : C3 M tx len t) {x : Nat} {f : Nat → Int32} (h1 : x ≠ 1) (h2 : x ≠ 2) : C3 (z_row M x f) tx len t := ⟨C_row h.1 h1 h2, h.2⟩
theorem X3_nu {M : Nat → Nat → Int32} {tx : Nat → Int32} {len : Nat} {t : Nat × Int32 × Int32} (h : X3 M tx len t) (a b : Int32) : q_X9_number_274 M a b ∧ X3 (g_X9_number_274 M a b) tx len (sNu tx len a b t) ∧ R8 M (g_X9_number_274 M a b) ∧ ((sNu tx len a b t).2.1 = 0 → f_X9_number_274 M a b = vv tx len t.1) := by
  obtain ⟨h1, h2, h3, h4⟩ := R_nu h.1 h.2 a b
  exact ⟨h1, ⟨h2, (nx_b tx h.1.2.1 h.2).2⟩, h3, h4⟩
theorem X3_ed {M : Nat → Nat → Int32} {tx : Nat → Int32} {len : Nat} {t : Nat × Int32 × Int32} (h : X3 M tx len t) : q_X9_ends_274 M ∧ X3 (g_X9_ends_274 M) tx len (sEd tx len t) ∧ R8 M (g_X9_ends_274 M) := by
  obtain ⟨h1, h2, h3⟩ := R_ed h.1 h.2
  exact ⟨h1, ⟨h2, (xe_b tx h.1.2.1 h.2).2⟩, h3⟩
theorem X3_row {M : Nat → Nat → Int32} {tx : Nat → Int32} {len : Nat} {t : Nat × Int32 × Int32} (h : X3 M tx len t) {x : Nat} {f : Nat → Int32} (h1 : x ≠ 274) (h2 : x ≠ 275) : X3 (z_row M x f) tx len t := ⟨R_row h.1 h1 h2, h.2⟩
theorem X3_up {M : Nat → Nat → Int32} {tx : Nat → Int32} {len : Nat} {t : Nat × Int32 × Int32} (h : X3 M tx len t) {j : Nat} {x : Int32} (h1 : j ≠ 1) (h2 : j ≠ 20) (h3 : j ≠ 21) (h4 : j ≠ 22) : X3 (z_row M 274 (upd (M 274) j x)) tx len t := ⟨R_up h.1 h1 h2 h3 h4, h.2⟩
/-- four numbers and an end -/
def s4 (tx : Nat → Int32) (len : Nat) (a1 b1 a2 b2 a3 b3 a4 b4 : Int32) (t : Nat × Int32 × Int32) : Nat × Int32 × Int32 := sEd tx len (sNu tx len a4 b4 (sNu tx len a3 b3 (sNu tx len a2 b2 (sNu tx len a1 b1 t))))
def y1 (tx : Nat → Int32) (len p : Nat) : Int32 := vv tx len p
def y2 (tx : Nat → Int32) (len p : Nat) : Int32 := vv tx len (nx tx len p)
def y3 (tx : Nat → Int32) (len p : Nat) : Int32 := vv tx len (nx tx len (nx tx len p))
def y4 (tx : Nat → Int32) (len p : Nat) : Int32 := vv tx len (nx tx len (nx tx len (nx tx len p)))
theorem s4_0 {tx : Nat → Int32} {len : Nat} {a1 b1 a2 b2 a3 b3 a4 b4 : Int32} {t : Nat × Int32 × Int32} (h : (s4 tx len a1 b1 a2 b2 a3 b3 a4 b4 t).2.1 = 0) : (sNu tx len a1 b1 t).2.1 = 0 ∧ (sNu tx len a2 b2 (sNu tx len a1 b1 t)).2.1 = 0 ∧ (sNu tx len a3 b3 (sNu tx len a2 b2 (sNu tx len a1 b1 t))).2.1 = 0 ∧ (sNu tx len a4 b4 (sNu tx len a3 b3 (sNu tx len a2 b2 (sNu tx len a1 b1 t)))).2.1 = 0 ∧ (¬ y1 tx len t.1 < a1 ∧ y1 tx len t.1 ≤ b1) ∧ (¬ y2 tx len t.1 < a2 ∧ y2 tx len t.1 ≤ b2) ∧ (¬ y3 tx len t.1 < a3 ∧ y3 tx len t.1 ≤ b3) ∧ (¬ y4 tx len t.1 < a4 ∧ y4 tx len t.1 ≤ b4) := by
  have e5 := lt_e0 h
  have e4 := lt_e0 e5.1
  have e3 := lt_e0 e4.1
  have e2 := lt_e0 e3.1
  have e1 := lt_e0 e2.1
  exact ⟨e2.1, e3.1, e4.1, e5.1, (fn_0 e1.2).2, (fn_0 e2.2).2, (fn_0 e3.2).2, (fn_0 e4.2).2⟩
theorem s4_b {tx : Nat → Int32} {len : Nat} {a1 b1 a2 b2 a3 b3 a4 b4 : Int32} {t : Nat × Int32 × Int32} (hl : len ≤ 240) (h : t.1 ≤ 240) : t.1 ≤ (s4 tx len a1 b1 a2 b2 a3 b3 a4 b4 t).1 := by
  have n1 := nx_b tx hl h
  have n2 := nx_b tx hl n1.2
  have n3 := nx_b tx hl n2.2
  have n4 := nx_b tx hl n3.2
  have n5 := xe_b tx hl n4.2
  exact Nat.le_trans n1.1 (Nat.le_trans n2.1 (Nat.le_trans n3.1 (Nat.le_trans n4.1 n5.1)))
theorem C_mem {M : Nat → Nat → Int32} {tx : Nat → Int32} {len mm : Nat} {t : Nat × Int32 × Int32} (h : C3 M tx len t) (hm : M 3 1 = nI mm) (h6 : mm < 6) (a : Int32) : q_X5_readMember_2 M a ∧ C3 (g_X5_readMember_2 M a) tx len (s4 tx len 0 3 0 1 1 99 0 255 t) ∧ (∀ c, c ≠ 2 → c ≠ 3 → c ≠ 4 → c ≠ 5 → c ≠ 6 → c ≠ 8 → g_X5_readMember_2 M a c = M c) ∧ g_X5_readMember_2 M a 3 = upd (M 3) 1 (nI (mm + 1)) ∧ ((s4 tx len 0 3 0 1 1 99 0 255 t).2.1 = 0 → g_X5_readMember_2 M a 4 = upd (M 4) mm (y1 tx len t.1) ∧ g_X5_readMember_2 M a 5 = upd (M 5) mm (y2 tx len t.1) ∧ g_X5_readMember_2 M a 8 = upd (M 8) mm (y3 tx len t.1) ∧ g_X5_readMember_2 M a 6 = upd (M 6) mm (y4 tx len t.1)) := by
  have lt6 : nI mm < 6 := (nI_ltI (b := 6) (by omega) (by decide)).mpr h6
  have z0 := s4_0 (tx := tx) (len := len) (a1 := 0) (b1 := 3) (a2 := 0) (b2 := 1) (a3 := 1) (b3 := 99) (a4 := 0) (b4 := 255) (t := t)
  unfold q_X5_readMember_2 g_X5_readMember_2
  rw [hm, if_pos lt6, nI_clamp (by omega)]
  obtain ⟨q1, c1, f1, v1⟩ := C3_nu h 0 3
  generalize g_X5_readNumber_2 M 0 3 = N1 at *
  generalize f_X5_readNumber_2 M 0 3 = w1 at *
  have d1 := C3_row c1 (x := 4) (f := upd (N1 4) mm w1) (by decide) (by decide)
  have g1 : ∀ c, c ≠ 2 → c ≠ 4 → z_row N1 4 (upd (N1 4) mm w1) c = M c := fun c h2 h4 => (z_row_ne h4).trans (f1 c h2)
  have r1 : z_row N1 4 (upd (N1 4) mm w1) 4 = upd (M 4) mm w1 := by rw [z_row_eq, f1 4 (by decide)]
  generalize z_row N1 4 (upd (N1 4) mm w1) = M1 at *
  obtain ⟨q2, c2, f2, v2⟩ := C3_nu d1 0 1
  generalize g_X5_readNumber_2 M1 0 1 = N2 at *
  generalize f_X5_readNumber_2 M1 0 1 = w2 at *
  have d2 := C3_row c2 (x := 5) (f := upd (N2 5) mm w2) (by decide) (by decide)
  have g2 : ∀ c, c ≠ 2 → c ≠ 5 → z_row N2 5 (upd (N2 5) mm w2) c = M1 c := fun c h2 h4 => (z_row_ne h4).trans (f2 c h2)
  have r2 : z_row N2 5 (upd (N2 5) mm w2) 5 = upd (M1 5) mm w2 := by rw [z_row_eq, f2 5 (by decide)]
  generalize z_row N2 5 (upd (N2 5) mm w2) = M2 at *
  obtain ⟨q3, c3, f3, v3⟩ := C3_nu d2 1 99
  generalize g_X5_readNumber_2 M2 1 99 = N3 at *
  generalize f_X5_readNumber_2 M2 1 99 = w3 at *
  have d3 := C3_row c3 (x := 8) (f := upd (N3 8) mm w3) (by decide) (by decide)
  have g3 : ∀ c, c ≠ 2 → c ≠ 8 → z_row N3 8 (upd (N3 8) mm w3) c = M2 c := fun c h2 h4 => (z_row_ne h4).trans (f3 c h2)
  have r3 : z_row N3 8 (upd (N3 8) mm w3) 8 = upd (M2 8) mm w3 := by rw [z_row_eq, f3 8 (by decide)]
  generalize z_row N3 8 (upd (N3 8) mm w3) = M3 at *
  obtain ⟨q4, c4, f4, v4⟩ := C3_nu d3 0 255
  generalize g_X5_readNumber_2 M3 0 255 = N4 at *
  generalize f_X5_readNumber_2 M3 0 255 = w4 at *
  have d4 := C3_row c4 (x := 6) (f := upd (N4 6) mm w4) (by decide) (by decide)
  have g4 : ∀ c, c ≠ 2 → c ≠ 6 → z_row N4 6 (upd (N4 6) mm w4) c = M3 c := fun c h2 h4 => (z_row_ne h4).trans (f4 c h2)
  have r4 : z_row N4 6 (upd (N4 6) mm w4) 6 = upd (M3 6) mm w4 := by rw [z_row_eq, f4 6 (by decide)]
  generalize z_row N4 6 (upd (N4 6) mm w4) = M4 at *
  obtain ⟨q5, c5, f5⟩ := C3_ed d4
  generalize g_X5_readEnd_2 M4 = E at *
  have e3 : E 3 = M 3 := by rw [f5 3 (by decide), g4 3 (by decide) (by decide), g3 3 (by decide) (by decide), g2 3 (by decide) (by decide), g1 3 (by decide) (by decide)]
  refine ⟨⟨fun _ => q1, fun _ => vi h6 (by decide), fun _ => q2, fun _ => q3, fun _ => q4, fun _ => q5, trivial⟩, C3_row c5 (by decide) (by decide), fun c h2 h3 h4 h5 h6 h8 => ?_, ?_, fun hz => ?_⟩
  · rw [z_row_ne h3, f5 c h2, g4 c h2 h6, g3 c h2 h8, g2 c h2 h5, g1 c h2 h4]
  · rw [z_row_eq, e3, hm, nI_1]
  · obtain ⟨a1, a2, a3, a4, _⟩ := z0 hz
    rw [z_row_ne (by decide), z_row_ne (by decide), z_row_ne (by decide), z_row_ne (by decide)]
    refine ⟨?_, ?_, ?_, ?_⟩
    · rw [f5 4 (by decide), g4 4 (by decide) (by decide), g3 4 (by decide) (by decide), g2 4 (by decide) (by decide), r1, v1 a1]; rfl
    · rw [f5 5 (by decide), g4 5 (by decide) (by decide), g3 5 (by decide) (by decide), r2, g1 5 (by decide) (by decide), v2 a2]; rfl
    · rw [f5 8 (by decide), g4 8 (by decide) (by decide), r3, g2 8 (by decide) (by decide), g1 8 (by decide) (by decide), v3 a3]; rfl
    · rw [f5 6 (by decide), r4, g3 6 (by decide) (by decide), g2 6 (by decide) (by decide), g1 6 (by decide) (by decide), v4 a4]; rfl
