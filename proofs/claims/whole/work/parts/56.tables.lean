/-! ORDERS OF A SET, by their rank -/
def fct (n : Nat) : Nat := ([1, 1, 2, 6, 24, 120, 720] : List Nat).getD n 0
theorem fct_o : ∀ n, n < 7 → z_ord n = nI (fct n) := by decide
def mAtg : Nat → Nat → Nat → Nat → Nat
  | 0, _, _, _ => 0
  | f + 1, left, place, t => if left.testBit t = true then (if place = 0 then t else mAtg f left (place - 1) (t + 1)) else mAtg f left place (t + 1)
def mAt (left place : Nat) : Nat := mAtg 8 left place 0
def unr : Nat → Nat → Nat → List Nat
  | 0, _, _ => []
  | b + 1, left, rest => mAt left (rest / fct b) :: unr b (dif left (2 ^ mAt left (rest / fct b))) (rest % fct b)
theorem unr_s (b left rest : Nat) : unr (b + 1) left rest = mAt left (rest / fct b) :: unr b (dif left (2 ^ mAt left (rest / fct b))) (rest % fct b) := rfl
def gl (l : List Nat) (j : Nat) : Nat := l.getD j 0
def pvt (l : List Nat) (n : Nat) : Nat := (List.range (n - 1)).foldl (fun a j => if gl l j < gl l (j + 1) then j else a) 0
def scc (l : List Nat) (n k : Nat) : Nat := (List.range n).foldl (fun a j => if gl l k < gl l j then j else a) 0
def chkk (n : Nat) (l l' : List Nat) (k i : Nat) : Bool := decide (k + 1 < n) && (decide (k < i) && (decide (i < n) && (decide (gl l k ≤ gl l (k + 1)) && (decide (gl l k ≤ gl l i) && (List.range n).all (fun j => decide (gl l j < 8) && ((!(decide (k < j) && decide (j + 1 < n)) || decide (gl l (j + 1) < gl l j)) && ((!decide (i < j) || decide (gl l j < gl l k)) && decide (gl l' j = nw (gl l) n k i j))))))))
def dsc (n : Nat) (l : List Nat) : Bool := (List.range n).all (fun j => decide (gl l j < 8) && (!decide (j + 1 < n) || decide (gl l (j + 1) < gl l j)))
def ascl (st k : Nat) : List Nat := (List.range k).filter (fun j => st.testBit j)
def okS (st : Nat) : Bool := decide ((ascl st 8).length = pc st) && (decide (ascl st 8 = unr (pc st) st 0) && (dsc (pc st) (unr (pc st) st (fct (pc st) - 1)) && (List.range (fct (pc st) - 1)).all (fun K => chkk (pc st) (unr (pc st) st K) (unr (pc st) st (K + 1)) (pvt (unr (pc st) st K) (pc st)) (scc (unr (pc st) st K) (pc st) (pvt (unr (pc st) st K) (pc st))))))
theorem ok_0 : ∀ x, x < 32 → 5 < pc (x + 0) ∨ okS (x + 0) = true := by decide +kernel
theorem ok_1 : ∀ x, x < 32 → 5 < pc (x + 32) ∨ okS (x + 32) = true := by decide +kernel
theorem ok_2 : ∀ x, x < 32 → 5 < pc (x + 64) ∨ okS (x + 64) = true := by decide +kernel
theorem ok_3 : ∀ x, x < 32 → 5 < pc (x + 96) ∨ okS (x + 96) = true := by decide +kernel
theorem ok_4 : ∀ x, x < 32 → 5 < pc (x + 128) ∨ okS (x + 128) = true := by decide +kernel
theorem ok_5 : ∀ x, x < 32 → 5 < pc (x + 160) ∨ okS (x + 160) = true := by decide +kernel
theorem ok_6 : ∀ x, x < 32 → 5 < pc (x + 192) ∨ okS (x + 192) = true := by decide +kernel
theorem ok_7 : ∀ x, x < 32 → 5 < pc (x + 224) ∨ okS (x + 224) = true := by decide +kernel
theorem ok_63 : okS 63 = true := by decide +kernel
