/-! WHAT IS SO, as functions of a row of numbers (the reference's way of laying it out): straps k of a row s stand at 11, 23, 35, 47, 59, 71 + k -/
theorem ud_eq {f : Nat → Int32} {k : Nat} {x : Int32} : upd f k x k = x := if_pos rfl
theorem ud_ne {f : Nat → Int32} {k j : Nat} {x : Int32} (h : ¬ j = k) : upd f k x j = f j := if_neg h
theorem ud_if (f : Nat → Int32) (k j : Nat) (x : Int32) : upd f k x j = if j = k then x else f j := rfl
theorem zr_if (M : Nat → Nat → Int32) (a c : Nat) (f : Nat → Int32) : z_row M a f c = if c = a then f else M c := rfl
theorem cl_add {a k : Nat} (h : a + k < 2147483648) : (nI a + nI k).toNatClampNeg = a + k := by rw [nI_add, nI_clamp h]
theorem vi {k n : Nat} (h : k < n) (hn : n < 2147483648) : z_vin (nI k) n = true := z_vI h hn
theorem and1 (x : Int32) : x &&& 1 = 0 ∨ x &&& 1 = 1 := by
  have h : (x &&& 1).toBitVec.toNat = x.toBitVec.toNat % 2 := by
    show (x.toBitVec &&& (1 : Int32).toBitVec).toNat = _
    rw [BitVec.toNat_and]
    exact Nat.and_one_is_mod _
  rcases Nat.mod_two_eq_zero_or_one x.toBitVec.toNat with q | q
  · left
    apply Int32.toBitVec_inj.mp
    apply BitVec.eq_of_toNat_eq
    rw [h, q]
    rfl
  · right
    apply Int32.toBitVec_inj.mp
    apply BitVec.eq_of_toNat_eq
    rw [h, q]
    rfl
theorem i_tri (x : Int32) : x < 0 ∨ x = 0 ∨ 0 < x := by
  rcases Int.lt_trichotomy x.toInt 0 with h | h | h
  · exact Or.inl (Int32.lt_iff_toInt_lt.mpr h)
  · exact Or.inr (Or.inl (Int32.toInt_inj.mp h))
  · exact Or.inr (Or.inr (Int32.lt_iff_toInt_lt.mpr h))
theorem i_nlt {x y : Int32} : ¬ x < y ↔ y ≤ x := Int32.not_lt
theorem i_nle {x y : Int32} : ¬ x ≤ y ↔ y < x := Int32.not_le
/-- how a strap pulls its owner on a matter, how it loads him -/
def wk (s : Nat → Int32) (k : Nat) (o t : Int32) : Int32 := if s (71 + k) = 0 ∧ s (11 + k) = o ∧ s (23 + k) = t then (if s (35 + k) = 1 then s (47 + k) else -s (47 + k)) else 0
def pul (s : Nat → Int32) (n : Nat) (o t : Int32) : Int32 := sm n (fun k => wk s k o t)
def lk (s : Nat → Int32) (k : Nat) (o : Int32) : Int32 := if s (71 + k) = 0 ∧ s (11 + k) = o then s (47 + k) else 0
def lod (s : Nat → Int32) (n : Nat) (o : Int32) : Int32 := sm n (fun k => lk s k o)
def hng (s : Nat → Int32) (n m : Nat) : Bool := decide (s (4 + m) < lod s n (nI m))
def ow (w : Nat → Int32) (m : Nat) (t : Int32) : Int32 := (w m >>> (t &&& 31)) &&& 1
def gos (w s : Nat → Int32) (n m : Nat) (t : Int32) : Int32 := if 0 < pul s n (nI m) t then 1 else if pul s n (nI m) t < 0 then 0 else if hng s n m = true then 2 else ow w m t
def vt (kd s : Nat → Int32) (n m : Nat) : Int32 := if kd m = 3 ∧ hng s n m = true then 2 else 1
def gn (kd w s : Nat → Int32) (n m : Nat) (t : Int32) : Int32 := if gos w s n m t = 2 then 0 else if gos w s n m t = 1 then vt kd s n m else -vt kd s n m
def mg (kd w s : Nat → Int32) (n mm : Nat) (t : Int32) : Int32 := sm mm (fun m => gn kd w s n m t)
def hel (w s : Nat → Int32) (n m : Nat) (t : Int32) : Bool := decide (¬ gos w s n m t = 2 ∧ ¬ gos w s n m t = ow w m t)
def sn (kd w s : Nat → Int32) (n k : Nat) (t : Int32) : Int32 := if s (71 + k) = 0 ∧ s (23 + k) = t then (if gos w s n (s (11 + k)).toNatClampNeg t = 2 then 0 else if ¬ gos w s n (s (11 + k)).toNatClampNeg t = s (35 + k) then 2 else if hel w s n (s (11 + k)).toNatClampNeg t = false then 0 else if kd (s (11 + k)).toNatClampNeg = 1 then 2 else if kd (s (11 + k)).toNatClampNeg = 2 ∧ hng s n (s (11 + k)).toNatClampNeg = false then 0 else 1) else 0
def gv (kd w s : Nat → Int32) (q : Int32) (n k : Nat) (t : Int32) : Bool := decide (s (71 + k) = 0 ∧ s (23 + k) = t ∧ q * s (47 + k) ≤ s (59 + k) + sn kd w s n k t)
/-- the row behind a put -/
def pt (kd w s : Nat → Int32) (q : Int32) (n mm : Nat) (t : Int32) : Nat → Int32 := fun j =>
  if j = 0 then s 0 + 1 else if j = 1 then (if 0 < mg kd w s n mm t then s 1 + 1 else s 1) else if j = 2 then s 2 + sm n (fun k => if gv kd w s q n k t = true then 1 else 0)
  else if 59 ≤ j ∧ j < 59 + n then s j + sn kd w s n (j - 59) t else if 71 ≤ j ∧ j < 71 + n then (if gv kd w s q n (j - 71) t = true then 1 else s j) else s j
/-- how many straps gave is what was told of twangs -/
def g1 (s : Nat → Int32) (k : Nat) : Int32 := if s (71 + k) = 1 then 1 else 0
/-- a row that is in order: n straps, owners among mm members, matters 0 to 7, directions 0, 1 -/
def wf (s : Nat → Int32) (n mm : Nat) : Prop := s 10 = nI n ∧ n ≤ 12 ∧ (∀ k, k < n → ∃ o, o < mm ∧ s (11 + k) = nI o) ∧ (∀ k, k < n → ∃ t, t < 8 ∧ s (23 + k) = nI t) ∧ (∀ k, k < n → s (35 + k) = 0 ∨ s (35 + k) = 1) ∧ (∀ k, k < mm → (1 : Int32) ≤ s (4 + k)) ∧ s 2 = sm n (g1 s)
/-- the braces at b are a row's -/
def rp (M : Nat → Nat → Int32) (b : Nat) (s : Nat → Int32) (n mm : Nat) : Prop := (M b 1 = s 10 ∧ M b 8 = s 0 ∧ M b 9 = s 1 ∧ M b 10 = s 2 ∧ M b 11 = s 3) ∧ (∀ k, k < mm → M (b + 1) k = s (4 + k)) ∧ (∀ k, k < n → M (b + 2) k = s (11 + k) ∧ M (b + 3) k = s (23 + k) ∧ M (b + 4) k = s (35 + k) ∧ M (b + 5) k = s (47 + k) ∧ M (b + 6) k = s (59 + k) ∧ M (b + 7) k = s (71 + k))
theorem rp_cong {M M' : Nat → Nat → Int32} {b n mm : Nat} {s : Nat → Int32} (h : rp M b s n mm) (f : ∀ c, b ≤ c → c < b + 8 → M' c = M c) : rp M' b s n mm := by
  unfold rp at *
  rw [f b (by omega) (by omega), f (b + 1) (by omega) (by omega), f (b + 2) (by omega) (by omega), f (b + 3) (by omega) (by omega), f (b + 4) (by omega) (by omega), f (b + 5) (by omega) (by omega), f (b + 6) (by omega) (by omega), f (b + 7) (by omega) (by omega)]
  exact h
theorem gos_way (w s : Nat → Int32) (n m : Nat) (t : Int32) : gos w s n m t = if pul s n (nI m) t = 0 then (if hng s n m = true then 2 else ow w m t) else if pul s n (nI m) t ≤ 0 then 0 else 1 := by
  unfold gos
  generalize pul s n (nI m) t = x
  rcases i_tri x with h | h | h
  · have h1 : ¬ x = 0 := fun q => by rw [q] at h; exact absurd h (by decide)
    have h2 : ¬ 0 < x := i_nlt.mpr (Int32.le_of_lt h)
    rw [if_neg h2, if_pos h, if_neg h1, if_pos (Int32.le_of_lt h)]
  · subst h
    rw [if_neg (by decide), if_neg (by decide), if_pos rfl]
  · have h1 : ¬ x = 0 := fun q => by rw [q] at h; exact absurd h (by decide)
    rw [if_pos h, if_neg h1, if_neg (i_nle.mpr h)]
theorem ow_01 (w : Nat → Int32) (m : Nat) (t : Int32) : ow w m t = 0 ∨ ow w m t = 1 := and1 _
theorem gos_012 (w s : Nat → Int32) (n m : Nat) (t : Int32) : gos w s n m t = 0 ∨ gos w s n m t = 1 ∨ gos w s n m t = 2 := by
  unfold gos
  split
  · exact Or.inr (Or.inl rfl)
  · split
    · exact Or.inl rfl
    · split
      · exact Or.inr (Or.inr rfl)
      · rcases ow_01 w m t with h | h
        · exact Or.inl h
        · exact Or.inr (Or.inl h)
