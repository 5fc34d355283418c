/-! THE TEXT: a clause's word, and the clause of the strains -/
/-- the house as the class has read it, and as the reference has -/
def HC (M : Nat → Nat → Int32) (s kd sd w : Nat → Int32) (q : Int32) (n mm : Nat) : Prop := M 3 0 = q ∧ M 3 1 = nI mm ∧ (∀ k, k < mm → M 4 k = kd k ∧ M 5 k = sd k ∧ M 6 k = w k) ∧ rp M 7 s n mm
def HX (M : Nat → Nat → Int32) (s kd sd w : Nat → Int32) (q : Int32) (mm : Nat) : Prop := M 274 23 = q ∧ M 274 24 = nI mm ∧ (∀ k, k < mm → M 287 k = kd k ∧ M 288 k = sd k ∧ M 289 k = w k) ∧ ∀ j, j < 83 → M 290 j = s j
def HW (s : Nat → Int32) (q : Int32) (n mm : Nat) : Prop := mm ≤ 6 ∧ wf s n mm ∧ (∀ k, k < 12 → s (59 + k) = 0 ∧ s (71 + k) = 0) ∧ ∃ qn, qn < 10 ∧ q = nI qn
theorem C3_at {M : Nat → Nat → Int32} {tx : Nat → Int32} {len p : Nat} {e l : Int32} (h : C3 M tx len (p, e, l)) (hp : p < len) : C3 (z_row M 2 (upd (M 2) 2 (M 2 2 + 1))) tx len (p + 1, e, l) ∧ ∀ c, c ≠ 2 → z_row M 2 (upd (M 2) 2 (M 2 2 + 1)) c = M c := by
  have hl := h.1.2.1
  have h2 : M 2 2 = nI p := h.1.2.2.2.1
  obtain ⟨a1, a2⟩ := CR_at (p' := p + 1) h.1 (x := M 2 2 + 1) (by rw [h2, nI_1])
  exact ⟨⟨a1, show p + 1 ≤ 240 by omega⟩, a2⟩
theorem X3_at {M : Nat → Nat → Int32} {tx : Nat → Int32} {len p : Nat} {l : Int32} (h : X3 M tx len (p, 0, l)) (hp : p < len) : X3 (z_row M 274 (upd (M 274) 20 (M 274 20 + 1))) tx len (p + 1, 0, l) ∧ R8 M (z_row M 274 (upd (M 274) 20 (M 274 20 + 1))) := by
  have hl := h.1.2.1
  have hD := RX_D h.1
  have h2 : M 274 20 = nI p := hD.2.2.2.1
  obtain ⟨a1, a2⟩ := RD_at (p' := p + 1) hD (x := M 274 20 + 1) (by rw [h2, nI_1])
  exact ⟨⟨RD_X a1 (fun z => absurd rfl z), show p + 1 ≤ 240 by omega⟩, a2⟩
theorem C3_bl {M : Nat → Nat → Int32} {tx : Nat → Int32} {len p : Nat} {l x : Int32} (h : C3 M tx len (p, 0, l)) (k : Int32) : C3 (g_X5_blame_2 M k x) tx len (p, k, x) ∧ ∀ c, c ≠ 2 → g_X5_blame_2 M k x c = M c := by
  obtain ⟨a1, a2⟩ := CR_bl h.1 k x
  exact ⟨⟨a1, h.2⟩, a2⟩
theorem X3_f {M : Nat → Nat → Int32} {tx : Nat → Int32} {len p : Nat} {l : Int32} (h : X3 M tx len (p, 0, l)) (hp : p < len) (k : Int32) (hk : ¬ k = 0) : X3 (g_X9_fails_274 M k) tx len (p + 1, k, nI p) ∧ R8 M (g_X9_fails_274 M k) := by
  have hl := h.1.2.1
  obtain ⟨a1, a2⟩ := RD_f (RX_D h.1) k
  exact ⟨⟨⟨a1.1, a1.2.1, a1.2.2.1, fun z => absurd z hk, a1.2.2.2.2.1, fun _ => a1.2.2.2.2.2⟩, show p + 1 ≤ 240 by omega⟩, a2⟩
def s1 (tx : Nat → Int32) (len : Nat) (t : Nat × Int32 × Int32) : Nat × Int32 × Int32 := sEd tx len (sNu tx len 1 9 t)
theorem s1_0 {tx : Nat → Int32} {len : Nat} {t : Nat × Int32 × Int32} (h : (s1 tx len t).2.1 = 0) : (sNu tx len 1 9 t).2.1 = 0 ∧ ¬ vv tx len t.1 < 1 ∧ vv tx len t.1 ≤ 9 := by
  have e2 := lt_e0 h
  have e1 := lt_e0 e2.1
  exact ⟨e2.1, (fn_0 e1.2).2⟩
theorem s1_b {tx : Nat → Int32} {len : Nat} {t : Nat × Int32 × Int32} (hl : len ≤ 240) (h : t.1 ≤ 240) : t.1 ≤ (s1 tx len t).1 := by
  have n1 := nx_b tx hl h
  have n5 := xe_b tx hl n1.2
  exact Nat.le_trans n1.1 n5.1
theorem C_q {M : Nat → Nat → Int32} {tx : Nat → Int32} {len : Nat} {t : Nat × Int32 × Int32} (h : C3 M tx len t) (h0 : M 3 0 = 0) (a : Int32) : q_X5_readStrains_2 M a ∧ C3 (g_X5_readStrains_2 M a) tx len (s1 tx len t) ∧ (∀ c, c ≠ 2 → c ≠ 3 → g_X5_readStrains_2 M a c = M c) ∧ ((s1 tx len t).2.1 = 0 → g_X5_readStrains_2 M a 3 = upd (M 3) 0 (vv tx len t.1)) := by
  have hst : f_X2_stands_3 M = 0 := by unfold f_X2_stands_3; rw [h0, if_pos (by decide)]
  have z0 := s1_0 (tx := tx) (len := len) (t := t)
  unfold q_X5_readStrains_2 g_X5_readStrains_2
  rw [if_pos hst]
  obtain ⟨q1, c1, f1, v1⟩ := C3_nu h 1 9
  generalize g_X5_readNumber_2 M 1 9 = N1 at *
  generalize f_X5_readNumber_2 M 1 9 = w1 at *
  obtain ⟨q5, c5, f5⟩ := C3_ed c1
  generalize g_X5_readEnd_2 N1 = E at *
  have ef : ∀ c, c ≠ 2 → E c = M c := fun c hc => by rw [f5 c hc, f1 c hc]
  have e23 : E 2 3 = (s1 tx len t).2.1 := c5.1.2.2.2.2.1
  have c5' : C3 E tx len (s1 tx len t) := c5
  refine ⟨⟨fun _ => q1, fun _ => q5, trivial⟩, ?_⟩
  rw [e23]
  by_cases c : (s1 tx len t).2.1 = 0
  · rw [if_neg (not_not_intro c), v1 (z0 c).1]
    exact ⟨C3_row c5' (by decide) (by decide), fun x h2 h3 => by rw [z_row_ne h3, ef x h2], fun _ => by rw [z_row_eq, ef 3 (by decide)]⟩
  · rw [if_pos c]
    exact ⟨c5', fun x h2 _ => ef x h2, fun z => absurd z c⟩
theorem X_q {M : Nat → Nat → Int32} {tx : Nat → Int32} {len : Nat} {t : Nat × Int32 × Int32} (h : X3 M tx len t) : q_X9_number_274 M 1 9 ∧ q_X9_ends_274 (z_row (g_X9_number_274 M 1 9) 274 (upd (g_X9_number_274 M 1 9 274) 23 (f_X9_number_274 M 1 9))) ∧ X3 (g_X9_ends_274 (z_row (g_X9_number_274 M 1 9) 274 (upd (g_X9_number_274 M 1 9 274) 23 (f_X9_number_274 M 1 9)))) tx len (s1 tx len t) ∧ (∀ c, c ≠ 274 → g_X9_ends_274 (z_row (g_X9_number_274 M 1 9) 274 (upd (g_X9_number_274 M 1 9 274) 23 (f_X9_number_274 M 1 9))) c = M c) ∧ (∀ j, j ≠ 20 → j ≠ 21 → j ≠ 22 → j ≠ 23 → g_X9_ends_274 (z_row (g_X9_number_274 M 1 9) 274 (upd (g_X9_number_274 M 1 9 274) 23 (f_X9_number_274 M 1 9))) 274 j = M 274 j) ∧ ((s1 tx len t).2.1 = 0 → g_X9_ends_274 (z_row (g_X9_number_274 M 1 9) 274 (upd (g_X9_number_274 M 1 9 274) 23 (f_X9_number_274 M 1 9))) 274 23 = vv tx len t.1) := by
  have z0 := s1_0 (tx := tx) (len := len) (t := t)
  obtain ⟨q1, c1, f1, v1⟩ := X3_nu h 1 9
  generalize g_X9_number_274 M 1 9 = N1 at *
  generalize f_X9_number_274 M 1 9 = w1 at *
  have d1 := X3_up c1 (j := 23) (x := w1) (by decide) (by decide) (by decide) (by decide)
  have g1 : ∀ c, c ≠ 274 → z_row N1 274 (upd (N1 274) 23 w1) c = N1 c := fun c hc => z_row_ne hc
  have k1 : ∀ j, j ≠ 23 → z_row N1 274 (upd (N1 274) 23 w1) 274 j = N1 274 j := fun j a => by rw [z_row_eq, ud_if, if_neg a]
  have k23 : z_row N1 274 (upd (N1 274) 23 w1) 274 23 = w1 := by rw [z_row_eq, ud_if, if_pos rfl]
  generalize z_row N1 274 (upd (N1 274) 23 w1) = M1 at *
  obtain ⟨q5, c5, f5⟩ := X3_ed d1
  generalize g_X9_ends_274 M1 = E at *
  refine ⟨q1, q5, c5, fun c hc => by rw [f5.1 c hc, g1 c hc, f1.1 c hc], fun j j0 j1 j2 j3 => by rw [f5.2 j j0 j1 j2, k1 j j3, f1.2 j j0 j1 j2], fun hz => ?_⟩
  rw [f5.2 23 (by decide) (by decide) (by decide), k23, v1 (z0 hz).1]
