/-! THE TEXT: blanks and figures -/
theorem fz {p P : Nat → Bool} {B : Nat} (h : ∀ k, k ≤ B → p k = P k) (hB : P B = false) : z_fst p B = z_fst P B := by
  have hN : z_fst P B ≤ B := z_fst_le
  have hf : P (z_fst P B) = false := z_fst_f hB
  have ht : ∀ k, k < z_fst P B → P k = true := fun k hk => z_fst_t hk
  generalize z_fst P B = N at *
  exact z_fst_eq hN (fun k hk => by rw [h k (by omega)]; exact ht k hk) (by rw [h N hN]; exact hf)
def bl (tx : Nat → Int32) (len p k : Nat) : Bool := decide (p + k < len) && decide (tx (p + k) = 32)
def sk (tx : Nat → Int32) (len p : Nat) : Nat := p + z_fst (bl tx len p) 240
def dgt (tx : Nat → Int32) (len p k : Nat) : Bool := decide (p + k < len) && decide (¬ tx (p + k) < 48 ∧ tx (p + k) ≤ 57)
def nd (tx : Nat → Int32) (len p : Nat) : Nat := z_fst (dgt tx len p) 240
def vl (tx : Nat → Int32) (p : Nat) : Nat → Int32
  | 0 => 0
  | k + 1 => vl tx p k * 10 + tx (p + k) - 48
theorem bl_240 (tx : Nat → Int32) {len p : Nat} (hl : len ≤ 240) : bl tx len p 240 = false := by unfold bl; rw [decide_eq_false (by omega)]; rfl
theorem dgt_240 (tx : Nat → Int32) {len p : Nat} (hl : len ≤ 240) : dgt tx len p 240 = false := by unfold dgt; rw [decide_eq_false (by omega)]; rfl
theorem sk_b (tx : Nat → Int32) {len p : Nat} (hl : len ≤ 240) (hp : p ≤ 240) : p ≤ sk tx len p ∧ sk tx len p ≤ 240 ∧ (p ≤ len → sk tx len p ≤ len) := by
  have ht : ∀ k, k < z_fst (bl tx len p) 240 → bl tx len p k = true := fun k hk => z_fst_t hk
  unfold sk
  generalize z_fst (bl tx len p) 240 = N at *
  have : N = 0 ∨ p + N ≤ len := by
    by_cases c : N = 0
    · exact Or.inl c
    · have := ht (N - 1) (by omega)
      unfold bl at this
      rw [Bool.and_eq_true, decide_eq_true_eq] at this
      omega
  omega
theorem nd_b (tx : Nat → Int32) {len p : Nat} (hl : len ≤ 240) (hp : p ≤ 240) : p + nd tx len p ≤ 240 ∧ (p ≤ len → p + nd tx len p ≤ len) := by
  have ht : ∀ k, k < z_fst (dgt tx len p) 240 → dgt tx len p k = true := fun k hk => z_fst_t hk
  unfold nd
  generalize z_fst (dgt tx len p) 240 = N at *
  have : N = 0 ∨ p + N ≤ len := by
    by_cases c : N = 0
    · exact Or.inl c
    · have := ht (N - 1) (by omega)
      unfold dgt at this
      rw [Bool.and_eq_true, decide_eq_true_eq] at this
      omega
  omega
/-- the class's reader -/
def CR (M : Nat → Nat → Int32) (tx : Nat → Int32) (len p : Nat) (e l : Int32) : Prop := (∀ j, j < len → M 1 j = tx j) ∧ len ≤ 240 ∧ M 2 1 = nI len ∧ M 2 2 = nI p ∧ M 2 3 = e ∧ M 2 4 = l
/-- the reference's reader -/
def RD (M : Nat → Nat → Int32) (tx : Nat → Int32) (len p : Nat) (e l : Int32) : Prop := (∀ j, j < len → M 275 j = tx j) ∧ len ≤ 240 ∧ M 274 1 = nI len ∧ M 274 20 = nI p ∧ M 274 21 = e ∧ M 274 22 = l
/-- what else of row 274 stays -/
def R8 (M G : Nat → Nat → Int32) : Prop := (∀ c, c ≠ 274 → G c = M c) ∧ ∀ j, j ≠ 20 → j ≠ 21 → j ≠ 22 → G 274 j = M 274 j
theorem CR_at {M : Nat → Nat → Int32} {tx : Nat → Int32} {len p p' : Nat} {e l : Int32} (h : CR M tx len p e l) {x : Int32} (hx : x = nI p') : CR (z_row M 2 (upd (M 2) 2 x)) tx len p' e l ∧ ∀ c, c ≠ 2 → z_row M 2 (upd (M 2) 2 x) c = M c := by
  obtain ⟨h1, h2, h3, h4, h5, h6⟩ := h
  refine ⟨⟨fun j hj => by rw [z_row_ne (by decide)]; exact h1 j hj, h2, ?_, ?_, ?_, ?_⟩, fun c hc => z_row_ne hc⟩
  · rw [z_row_eq]; exact h3
  · rw [z_row_eq]; exact hx
  · rw [z_row_eq]; exact h5
  · rw [z_row_eq]; exact h6
theorem RD_at {M : Nat → Nat → Int32} {tx : Nat → Int32} {len p p' : Nat} {e l : Int32} (h : RD M tx len p e l) {x : Int32} (hx : x = nI p') : RD (z_row M 274 (upd (M 274) 20 x)) tx len p' e l ∧ R8 M (z_row M 274 (upd (M 274) 20 x)) := by
  obtain ⟨h1, h2, h3, h4, h5, h6⟩ := h
  refine ⟨⟨fun j hj => by rw [z_row_ne (by decide)]; exact h1 j hj, h2, ?_, ?_, ?_, ?_⟩, fun c hc => z_row_ne hc, fun j h20 _ _ => ?_⟩
  · rw [z_row_eq]; exact h3
  · rw [z_row_eq]; exact hx
  · rw [z_row_eq]; exact h5
  · rw [z_row_eq]; exact h6
  · rw [z_row_eq, ud_if, if_neg h20]
theorem CR_bl {M : Nat → Nat → Int32} {tx : Nat → Int32} {len p : Nat} {e l : Int32} (h : CR M tx len p e l) (a b : Int32) : CR (g_X5_blame_2 M a b) tx len p (if e = 0 then a else e) (if e = 0 then b else l) ∧ ∀ c, c ≠ 2 → g_X5_blame_2 M a b c = M c := by
  obtain ⟨h1, h2, h3, h4, h5, h6⟩ := h
  unfold g_X5_blame_2
  rw [h5]
  by_cases c : e = 0
  · rw [if_neg (not_not_intro c), if_pos c, if_pos c]
    refine ⟨⟨fun j hj => by rw [z_row_ne (by decide), z_row_ne (by decide)]; exact h1 j hj, h2, ?_, ?_, ?_, ?_⟩, fun x hx => by rw [z_row_ne hx, z_row_ne hx]⟩
    · rw [z_row_eq]; exact h3
    · rw [z_row_eq]; exact h4
    · rw [z_row_eq]; rfl
    · rw [z_row_eq]; rfl
  · rw [if_pos c, if_neg c, if_neg c]
    exact ⟨⟨h1, h2, h3, h4, h5, h6⟩, fun _ _ => rfl⟩
theorem RD_f {M : Nat → Nat → Int32} {tx : Nat → Int32} {len p : Nat} {l : Int32} (h : RD M tx len p 0 l) (a : Int32) : RD (g_X9_fails_274 M a) tx len p a (nI p) ∧ R8 M (g_X9_fails_274 M a) := by
  obtain ⟨h1, h2, h3, h4, h5, h6⟩ := h
  unfold g_X9_fails_274
  rw [h5, if_neg (not_not_intro rfl)]
  refine ⟨⟨fun j hj => by rw [z_row_ne (by decide), z_row_ne (by decide)]; exact h1 j hj, h2, ?_, ?_, ?_, ?_⟩, fun c hc => by rw [z_row_ne hc, z_row_ne hc], fun j _ j1 j2 => ?_⟩
  · rw [z_row_eq]; exact h3
  · rw [z_row_eq]; exact h4
  · rw [z_row_eq]; rfl
  · rw [z_row_eq]; exact h4
  · rw [z_row_eq, ud_if, if_neg j2, ud_if, if_neg j1]
theorem sk_c {M : Nat → Nat → Int32} {tx : Nat → Int32} {len p : Nat} {e l : Int32} (h : CR M tx len p e l) (hp : p ≤ 240) : q_X5_skipBlanks_2 M ∧ CR (g_X5_skipBlanks_2 M) tx len (sk tx len p) e l ∧ ∀ c, c ≠ 2 → g_X5_skipBlanks_2 M c = M c := by
  have hl := h.2.1
  have sl : ∀ k, CR (s_X5_skipBlanks_2_0 M k) tx len (p + k) e l ∧ ∀ c, c ≠ 2 → s_X5_skipBlanks_2_0 M k c = M c := by
    intro k
    induction k with
    | zero => exact ⟨h, fun _ _ => rfl⟩
    | succ k ih =>
      have hs : s_X5_skipBlanks_2_0 M (k + 1) = z_row (s_X5_skipBlanks_2_0 M k) 2 (upd (s_X5_skipBlanks_2_0 M k 2) 2 (s_X5_skipBlanks_2_0 M k 2 2 + 1)) := rfl
      obtain ⟨a1, a2⟩ := CR_at (p' := p + (k + 1)) ih.1 (x := s_X5_skipBlanks_2_0 M k 2 2 + 1) (by rw [ih.1.2.2.2.1, nI_1]; rfl)
      rw [hs]
      exact ⟨a1, fun c hc => (a2 c hc).trans (ih.2 c hc)⟩
  have le : ∀ k, k ≤ 240 → (nI len ≤ nI (p + k) ↔ len ≤ p + k) := fun k hk => nI_leI (by omega) (by omega)
  have tt : ∀ k, k ≤ 240 → t_X5_skipBlanks_2_0 (s_X5_skipBlanks_2_0 M k) = bl tx len p k := fun k hk => by
    obtain ⟨⟨c1, c2, c3, c4, _, _⟩, _⟩ := sl k
    unfold t_X5_skipBlanks_2_0 bl
    rw [c3, c4]
    by_cases c : len ≤ p + k
    · rw [if_pos ((le k hk).mpr c), decide_eq_false (by omega)]; rfl
    · rw [if_neg (fun z => c ((le k hk).mp z)), decide_eq_true (show p + k < len by omega), Bool.true_and, nI_clamp (by omega), c1 _ (by omega)]
      by_cases c' : tx (p + k) = 32
      · rw [if_neg (not_not_intro c'), decide_eq_true c']
      · rw [if_pos c', decide_eq_false c']
  have eN : n_X5_skipBlanks_2_0 M = z_fst (bl tx len p) 240 := by unfold n_X5_skipBlanks_2_0; exact fz tt (bl_240 tx hl)
  have qq : ∀ k, k ≤ 240 → ¬ s_X5_skipBlanks_2_0 M k 2 1 ≤ s_X5_skipBlanks_2_0 M k 2 2 → z_vin (s_X5_skipBlanks_2_0 M k 2 2) 240 = true := fun k hk c => by
    obtain ⟨⟨c1, c2, c3, c4, _, _⟩, _⟩ := sl k
    rw [c3, c4] at c
    have : ¬ len ≤ p + k := fun z => c ((le k hk).mpr z)
    rw [c4]
    exact vi (by omega) (by decide)
  have hN : z_fst (bl tx len p) 240 ≤ 240 := z_fst_le
  unfold q_X5_skipBlanks_2 g_X5_skipBlanks_2
  rw [eN]
  refine ⟨⟨fun k hk => ⟨qq k (by omega), trivial⟩, ?_, qq _ hN, trivial⟩, (sl _).1, (sl _).2⟩
  rw [tt 240 (Nat.le_refl _)]; exact bl_240 tx hl
theorem R8_t {M G H : Nat → Nat → Int32} (a : R8 M G) (b : R8 G H) : R8 M H := ⟨fun c hc => (b.1 c hc).trans (a.1 c hc), fun j h1 h2 h3 => (b.2 j h1 h2 h3).trans (a.2 j h1 h2 h3)⟩
theorem he_q {M : Nat → Nat → Int32} {tx : Nat → Int32} {len p : Nat} {e l : Int32} (h : RD M tx len p e l) (hp : p ≤ 480) : q_X9_here_274 M ∧ f_X9_here_274 M = if p < len then tx p else -1 := by
  obtain ⟨h1, h2, h3, h4, _, _⟩ := h
  have le : nI len ≤ nI p ↔ len ≤ p := nI_leI (by omega) (by omega)
  unfold q_X9_here_274 f_X9_here_274
  rw [h3, h4]
  by_cases c : p < len
  · rw [if_pos c, if_neg (fun z => absurd (le.mp z) (by omega)), nI_clamp (by omega), h1 p c]
    exact ⟨⟨fun _ => vi (by omega) (by decide), trivial⟩, rfl⟩
  · rw [if_neg c, if_pos (le.mpr (by omega))]
    exact ⟨⟨fun z => absurd (le.mpr (by omega)) z, trivial⟩, rfl⟩
theorem sk_r {M : Nat → Nat → Int32} {tx : Nat → Int32} {len p : Nat} {e l : Int32} (h : RD M tx len p e l) (hp : p ≤ 240) : q_X9_skips_274 M ∧ RD (g_X9_skips_274 M) tx len (sk tx len p) e l ∧ R8 M (g_X9_skips_274 M) := by
  have hl := h.2.1
  have sl : ∀ k, RD (s_X9_skips_274_0 M k) tx len (p + k) e l ∧ R8 M (s_X9_skips_274_0 M k) := by
    intro k
    induction k with
    | zero => exact ⟨h, fun _ _ => rfl, fun _ _ _ _ => rfl⟩
    | succ k ih =>
      have hs : s_X9_skips_274_0 M (k + 1) = z_row (s_X9_skips_274_0 M k) 274 (upd (s_X9_skips_274_0 M k 274) 20 (s_X9_skips_274_0 M k 274 20 + 1)) := rfl
      obtain ⟨a1, a2⟩ := RD_at (p' := p + (k + 1)) ih.1 (x := s_X9_skips_274_0 M k 274 20 + 1) (by rw [ih.1.2.2.2.1, nI_1]; rfl)
      rw [hs]
      exact ⟨a1, R8_t ih.2 a2⟩
  have tt : ∀ k, k ≤ 240 → t_X9_skips_274_0 (s_X9_skips_274_0 M k) = bl tx len p k := fun k hk => by
    unfold t_X9_skips_274_0 bl
    rw [(he_q (sl k).1 (by omega)).2]
    by_cases c : p + k < len
    · rw [if_pos c, decide_eq_true c, Bool.true_and]
      by_cases c' : tx (p + k) = 32
      · rw [if_neg (not_not_intro c'), decide_eq_true c']
      · rw [if_pos c', decide_eq_false c']
    · rw [if_neg c, decide_eq_false c, if_pos (by decide)]; rfl
  have eN : n_X9_skips_274_0 M = z_fst (bl tx len p) 240 := by unfold n_X9_skips_274_0; exact fz tt (bl_240 tx hl)
  have hN : z_fst (bl tx len p) 240 ≤ 240 := z_fst_le
  unfold q_X9_skips_274 g_X9_skips_274
  rw [eN]
  refine ⟨⟨fun k hk => ⟨(he_q (sl k).1 (by omega)).1, trivial⟩, ?_, (he_q (sl _).1 (by omega)).1, trivial⟩, (sl _).1, (sl _).2⟩
  rw [tt 240 (Nat.le_refl _)]; exact bl_240 tx hl
