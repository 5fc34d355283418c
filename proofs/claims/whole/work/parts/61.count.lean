/-! WHO TURNS THE ORDERS: counting -/
theorem cnt_N (am : Nat → Nat) (f : Nat → Nat) : ∀ n, (∀ K, K < n → am K < 64) → sN n (fun K => f (am K)) = sN 64 (fun A => sN n (fun K => if am K = A then 1 else 0) * f A) := by
  intro n
  induction n with
  | zero => intro _; exact (sN_zero 64 _ (fun A _ => Nat.zero_mul _)).symm
  | succ n ih =>
    intro h
    have e : sN 64 (fun A => (if am n = A then 1 else 0) * f A) = f (am n) := by
      rw [sN_one 64 (am n) _ (h n (by omega)) (fun k _ hk => by (try dsimp only); rw [if_neg (fun z => hk z.symm), Nat.zero_mul])]
      (try dsimp only)
      rw [if_pos rfl, Nat.one_mul]
    rw [sN_s, ih (fun K hK => h K (by omega))]
    (try dsimp only)
    rw [← e, ← sN_add]
    exact sN_congr (fun A _ => by (try dsimp only); rw [sN_s, Nat.add_mul])
theorem cnt_I (am : Nat → Nat) (f : Nat → Int32) : ∀ n, (∀ K, K < n → am K < 64) → sm n (fun K => f (am K)) = sm 64 (fun A => nI (sN n (fun K => if am K = A then 1 else 0)) * f A) := by
  intro n
  induction n with
  | zero => intro _; exact (sm_zero 64 _ (fun A _ => Int32.zero_mul)).symm
  | succ n ih =>
    intro h
    have e : sm 64 (fun A => nI (if am n = A then 1 else 0) * f A) = f (am n) := by
      rw [sm_one 64 (am n) _ (h n (by omega)) (fun k _ hk => by (try dsimp only); rw [if_neg (fun z => hk z.symm)]; exact Int32.zero_mul)]
      (try dsimp only)
      rw [if_pos rfl]; exact Int32.one_mul _
    rw [sm_s, ih (fun K hK => h K (by omega))]
    (try dsimp only)
    rw [← e, ← sm_add]
    exact sm_congr (fun A _ => by (try dsimp only); rw [sN_s, ← nI_add, Int32.add_mul])
theorem dg_lt (B : Nat) (c : Nat → Nat) : ∀ n, (∀ A, A < n → c A < B) → sN n (fun A => c A * B ^ A) < B ^ n := by
  intro n
  induction n with
  | zero => intro _; exact Nat.zero_lt_one
  | succ n ih =>
    intro h
    have i1 := ih (fun A hA => h A (by omega))
    have i2 : (c n + 1) * B ^ n ≤ B * B ^ n := Nat.mul_le_mul_right _ (h n (by omega))
    rw [Nat.add_mul, Nat.one_mul] at i2
    rw [sN_s, Nat.pow_succ, Nat.mul_comm (B ^ n) B]
    (try dsimp only)
    omega
theorem dg_uq (B : Nat) (c c' : Nat → Nat) : ∀ n, (∀ A, A < n → c A < B) → (∀ A, A < n → c' A < B) → sN n (fun A => c A * B ^ A) = sN n (fun A => c' A * B ^ A) → ∀ A, A < n → c A = c' A := by
  intro n
  induction n with
  | zero => intro _ _ _ A hA; exact absurd hA (by omega)
  | succ n ih =>
    intro h h' e
    have a1 := dg_lt B c n (fun A hA => h A (by omega))
    have a2 := dg_lt B c' n (fun A hA => h' A (by omega))
    rw [sN_s, sN_s] at e
    (try dsimp only at e)
    have e2 : c n = c' n := by
      rcases Nat.lt_trichotomy (c n) (c' n) with z | z | z
      · have := Nat.mul_le_mul_right (B ^ n) (show c n + 1 ≤ c' n from z)
        rw [Nat.add_mul, Nat.one_mul] at this
        omega
      · exact z
      · have := Nat.mul_le_mul_right (B ^ n) (show c' n + 1 ≤ c n from z)
        rw [Nat.add_mul, Nat.one_mul] at this
        omega
    rw [e2] at e
    have i := ih (fun A hA => h A (by omega)) (fun A hA => h' A (by omega)) (by omega)
    intro A hA
    by_cases cA : A = n
    · rw [cA]; exact e2
    · exact i A (by omega)
theorem okP_all {F m : Nat} (hF : F < 64) (hm : m < 6) (ht : F.testBit m = true) : okP F m = true := by
  by_cases c1 : F < 32
  · rcases okP_0 F c1 m hm with z | z
    · rw [ht] at z; exact absurd z (by decide)
    · exact z
  · by_cases c2 : F < 63
    · have := okP_1 (F - 32) (by omega) m hm
      rw [show F - 32 + 32 = F by omega, ht] at this
      rcases this with z | z
      · exact absurd z (by decide)
      · exact z
    · rw [show F = 63 by omega]
      match m, hm with
      | 0, _ => exact okP_630
      | 1, _ => exact okP_631
      | 2, _ => exact okP_632
      | 3, _ => exact okP_633
      | 4, _ => exact okP_634
      | 5, _ => exact okP_635
      | _ + 6, hm => exact absurd hm (by omega)
theorem pc6 : ∀ F, F < 64 → pc F < 7 := by decide +kernel
theorem fct_720 : ∀ b, b < 7 → 1 ≤ fct b ∧ fct b ≤ 720 := by decide
theorem pw_eq {F m : Nat} (hF : F < 64) (hm : m < 6) (ht : F.testBit m = true) (f : Nat → Int32) : sm (fct (pc F)) (fun K => f (amk F m K)) = sm 64 (fun A => nI (wtA F m A) * f A) := by
  have h := okP_all hF hm ht
  unfold okP at h
  simp only [Bool.and_eq_true, decide_eq_true_eq, List.all_eq_true, List.mem_range] at h
  obtain ⟨h1, h2, h3⟩ := h
  have h4 : ∀ K, K < fct (pc F) → amk F m K < 64 := fun K hK => (h1 K hK).2
  rw [cnt_I (amk F m) f _ h4]
  rw [cnt_N (amk F m) (fun A => 1024 ^ A) _ h4] at h2
  have hb : ∀ A, sN (fct (pc F)) (fun K => if amk F m K = A then 1 else 0) < 1024 := fun A => by
    have := sN_bd (n := fct (pc F)) (B := 1) (f := fun K => if amk F m K = A then 1 else 0) (fun k _ => by (try dsimp only); split <;> decide)
    have := (fct_720 _ (pc6 F hF)).2
    omega
  have u := dg_uq 1024 (fun A => sN (fct (pc F)) (fun K => if amk F m K = A then 1 else 0)) (wtA F m) 64 (fun A _ => hb A) h3 h2
  exact sm_congr (fun A hA => by (try dsimp only); rw [← u A hA])
theorem sub_and {A o : Nat} : A &&& o = A ↔ sub A o := by
  constructor
  · intro h i hi
    have := congrArg (fun z => z.testBit i) h
    (try dsimp only at this)
    rw [Nat.testBit_and, hi] at this
    exact this
  · intro h
    refine Nat.eq_of_testBit_eq (fun i => ?_)
    rw [Nat.testBit_and]
    by_cases c : A.testBit i = true
    · rw [c, h i c]; rfl
    · rw [Bool.not_eq_true] at c; rw [c]; rfl
theorem cls_eq {o : Nat} (ho : o < 64) (f : Nat → Int32) : sm (2 ^ pc o) (fun i => nI (fct (pc (sqs o i)) * fct (pc (dif o (sqs o i)))) * f (sqs o i)) = sm 64 (fun A => nI (if A &&& o = A then fct (pc A) * fct (pc (dif o A)) else 0) * f A) := by
  have h1 : ∀ i, i < 2 ^ pc o → sub (sqs o i) o ∧ rk 12 o (sqs o i) = i := fun i hi => sqs_rk (by omega) i (by rw [pcw_pc]; exact hi)
  have h2 : ∀ i, i < 2 ^ pc o → sqs o i < 64 := fun i hi => Nat.lt_of_le_of_lt (sub_leW 6 _ o ho (h1 i hi).1) ho
  rw [cnt_I (sqs o) (fun A => nI (fct (pc A) * fct (pc (dif o A))) * f A) _ h2]
  refine sm_congr (fun A _ => ?_)
  (try dsimp only)
  by_cases c : A &&& o = A
  · rw [if_pos c]
    obtain ⟨i, hi, ei⟩ := sqs_all (y := A) (show o < 4096 by omega) (sub_and.mp c)
    rw [pcw_pc] at hi
    rw [sN_one _ i _ hi (fun k hk hne => by
      (try dsimp only)
      rw [if_neg (fun z => hne ?_)]
      have e1 := (h1 k hk).2
      have e2 := (h1 i hi).2
      rw [z] at e1
      rw [ei] at e2
      omega)]
    (try dsimp only)
    rw [if_pos ei]
    exact Int32.one_mul _
  · rw [if_neg c, sN_zero _ _ (fun k hk => by
      (try dsimp only)
      rw [if_neg (fun z => c ?_)]
      rw [← z]
      exact sub_and.mpr (h1 k hk).1)]
    exact Int32.zero_mul.trans Int32.zero_mul.symm
