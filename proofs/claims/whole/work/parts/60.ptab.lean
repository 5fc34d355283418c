/-! WHO TURNS THE ORDERS: the tables -/
def amr (l : List Nat) : Nat → Nat
  | 0 => 0
  | i + 1 => amr l i ||| 2 ^ gl l i
def posn (m : Nat) : List Nat → Nat
  | [] => 0
  | t :: l => if t = m then 0 else posn m l + 1
def okp (F m N : Nat) (l : List Nat) : Bool := decide (posn m l < N) && (List.range N).all (fun i => F.testBit (gl l i) && ((decide (gl l i = m) == decide (i = posn m l)) && !(amr l i).testBit (gl l i)))
def amk (F m K : Nat) : Nat := amr (unr (pc F) F K) (posn m (unr (pc F) F K))
def wtA (F m A : Nat) : Nat := if A &&& dif F (2 ^ m) = A then fct (pc A) * fct (pc (dif (dif F (2 ^ m)) A)) else 0
def okP (F m : Nat) : Bool := (List.range (fct (pc F))).all (fun K => okp F m (pc F) (unr (pc F) F K) && decide (amk F m K < 64)) && (decide (sN (fct (pc F)) (fun K => 1024 ^ amk F m K) = sN 64 (fun A => wtA F m A * 1024 ^ A)) && (List.range 64).all (fun A => decide (wtA F m A < 1024)))
theorem okP_0 : ∀ F, F < 32 → ∀ m, m < 6 → F.testBit m = false ∨ okP F m = true := by decide +kernel
theorem okP_1 : ∀ x, x < 31 → ∀ m, m < 6 → (x + 32).testBit m = false ∨ okP (x + 32) m = true := by decide +kernel
theorem okP_630 : okP 63 0 = true := by decide +kernel
theorem okP_631 : okP 63 1 = true := by decide +kernel
theorem okP_632 : okP 63 2 = true := by decide +kernel
theorem okP_633 : okP 63 3 = true := by decide +kernel
theorem okP_634 : okP 63 4 = true := by decide +kernel
theorem okP_635 : okP 63 5 = true := by decide +kernel
