/-! ALL SUBSETS OF A SET, one behind the other -/
def sub (y o : Nat) : Prop := ∀ i, y.testBit i = true → o.testBit i = true
theorem sub_2 {y o : Nat} (h : sub y o) : y % 2 ≤ o % 2 ∧ sub (y / 2) (o / 2) := by
  constructor
  · have h0 := h 0
    rw [Nat.testBit_zero, Nat.testBit_zero, decide_eq_true_eq, decide_eq_true_eq] at h0
    omega
  · intro i hi
    have := h (i + 1)
    rw [Nat.testBit_add_one, Nat.testBit_add_one] at this
    exact this hi
theorem sub_of2 {y o : Nat} (h1 : y % 2 ≤ o % 2) (h2 : sub (y / 2) (o / 2)) : sub y o := by
  intro i hi
  cases i with
  | zero =>
    rw [Nat.testBit_zero, decide_eq_true_eq] at hi ⊢
    omega
  | succ i =>
    rw [Nat.testBit_add_one] at hi ⊢
    exact h2 i hi
theorem sub_leW (W : Nat) : ∀ y o, o < 2 ^ W → sub y o → y ≤ o := by
  induction W with
  | zero =>
    intro y o ho h
    have : o = 0 := by rw [Nat.pow_zero] at ho; omega
    subst this
    have : y = 0 := Nat.eq_of_testBit_eq (fun i => by
      rw [Nat.zero_testBit]
      cases hy : y.testBit i
      · rfl
      · have := h i hy; rw [Nat.zero_testBit] at this; exact absurd this (by decide))
    omega
  | succ W ih =>
    intro y o ho h
    obtain ⟨h1, h2⟩ := sub_2 h
    have := ih (y / 2) (o / 2) (by rw [Nat.pow_succ] at ho; omega) h2
    omega
theorem and_hl (a b : Nat) : a &&& b = 2 * (a / 2 &&& b / 2) + (a % 2) * (b % 2) := by
  apply Nat.eq_of_testBit_eq
  intro i
  have hm : (a % 2) * (b % 2) < 2 := by
    have h1 : a % 2 = 0 ∨ a % 2 = 1 := by omega
    have h2 : b % 2 = 0 ∨ b % 2 = 1 := by omega
    rcases h1 with c | c <;> rcases h2 with d | d <;> rw [c, d] <;> decide
  cases i with
  | zero =>
    rw [Nat.testBit_and, Nat.testBit_zero, Nat.testBit_zero, Nat.testBit_zero]
    have e : (2 * (a / 2 &&& b / 2) + (a % 2) * (b % 2)) % 2 = (a % 2) * (b % 2) := by omega
    rw [e]
    have h1 : a % 2 = 0 ∨ a % 2 = 1 := by omega
    have h2 : b % 2 = 0 ∨ b % 2 = 1 := by omega
    rcases h1 with c | c <;> rcases h2 with d | d <;> rw [c, d] <;> decide
  | succ i =>
    rw [Nat.testBit_and, Nat.testBit_add_one, Nat.testBit_add_one, Nat.testBit_add_one]
    have e : (2 * (a / 2 &&& b / 2) + (a % 2) * (b % 2)) / 2 = (a / 2 &&& b / 2) := by omega
    rw [e, Nat.testBit_and]
theorem cmp_and (W : Nat) : ∀ y o, o < 2 ^ W → sub y o → (2 ^ W - 1 - (o - y)) &&& o = y := by
  induction W with
  | zero =>
    intro y o ho h
    have h1 := sub_leW 0 y o ho h
    rw [Nat.pow_zero] at ho
    have : o = 0 := by omega
    subst this
    rw [Nat.and_zero]; omega
  | succ W ih =>
    intro y o ho h
    obtain ⟨h1, h2⟩ := sub_2 h
    have hle := sub_leW (W + 1) y o ho h
    have ho2 : o / 2 < 2 ^ W := by rw [Nat.pow_succ] at ho; omega
    have hle2 := sub_leW W (y / 2) (o / 2) ho2 h2
    have i1 := ih (y / 2) (o / 2) ho2 h2
    have p : 2 ^ (W + 1) = 2 * 2 ^ W := by rw [Nat.pow_succ]; omega
    rw [p] at ho ⊢
    generalize 2 ^ W = K at *
    rw [and_hl]
    have e1 : (2 * K - 1 - (o - y)) / 2 = K - 1 - (o / 2 - y / 2) := by omega
    rw [e1, i1]
    have hy2 : y % 2 = 0 ∨ y % 2 = 1 := by omega
    have ho3 : o % 2 = 0 ∨ o % 2 = 1 := by omega
    rcases hy2 with c | c <;> rcases ho3 with d | d
    · have e2 : (2 * K - 1 - (o - y)) % 2 = 1 := by omega
      rw [e2, d]; omega
    · have e2 : (2 * K - 1 - (o - y)) % 2 = 0 := by omega
      rw [e2, d]; omega
    · omega
    · have e2 : (2 * K - 1 - (o - y)) % 2 = 1 := by omega
      rw [e2, d]; omega
def nxs (W o y : Nat) : Nat := ((y + 2 ^ W - o) % 2 ^ W) &&& o
theorem nxs_eq {W o y : Nat} (ho : o < 2 ^ (W + 1)) (h : sub y o) (e : y % 2 = o % 2) : nxs (W + 1) o y = 2 * nxs W (o / 2) (y / 2) := by
  obtain ⟨h1, h2⟩ := sub_2 h
  have ho2 : o / 2 < 2 ^ W := by rw [Nat.pow_succ] at ho; omega
  have hle2 := sub_leW W (y / 2) (o / 2) ho2 h2
  unfold nxs
  have p : 2 ^ (W + 1) = 2 * 2 ^ W := by rw [Nat.pow_succ]; omega
  rw [p] at ho ⊢
  generalize 2 ^ W = K at *
  have e1 : y + 2 * K - o = 2 * (y / 2 + K - o / 2) := by omega
  rw [e1, Nat.mul_mod_mul_left, and_hl]
  have e2 : 2 * ((y / 2 + K - o / 2) % K) / 2 = (y / 2 + K - o / 2) % K := by omega
  have e3 : 2 * ((y / 2 + K - o / 2) % K) % 2 = 0 := by omega
  rw [e2, e3, Nat.zero_mul, Nat.add_zero]
theorem nxs_ne {W o y : Nat} (ho : o < 2 ^ (W + 1)) (h : sub y o) (e : ¬ y % 2 = o % 2) : nxs (W + 1) o y = y + 1 ∧ o % 2 = 1 ∧ y % 2 = 0 := by
  obtain ⟨h1, h2⟩ := sub_2 h
  have ho2 : o / 2 < 2 ^ W := by rw [Nat.pow_succ] at ho; omega
  have hle2 := sub_leW W (y / 2) (o / 2) ho2 h2
  have cc := cmp_and W (y / 2) (o / 2) ho2 h2
  have o1 : o % 2 = 1 := by omega
  have y0 : y % 2 = 0 := by omega
  refine ⟨?_, o1, y0⟩
  unfold nxs
  have p : 2 ^ (W + 1) = 2 * 2 ^ W := by rw [Nat.pow_succ]; omega
  rw [p] at ho ⊢
  generalize 2 ^ W = K at *
  have e1 : (y + 2 * K - o) % (2 * K) = y + 2 * K - o := Nat.mod_eq_of_lt (by omega)
  rw [e1, and_hl]
  have e2 : (y + 2 * K - o) / 2 = K - 1 - (o / 2 - y / 2) := by omega
  have e3 : (y + 2 * K - o) % 2 = 1 := by omega
  rw [e2, cc, e3, o1]
  omega
def rk : Nat → Nat → Nat → Nat
  | 0, _, _ => 0
  | W + 1, o, y => if o % 2 = 1 then y % 2 + 2 * rk W (o / 2) (y / 2) else rk W (o / 2) (y / 2)
def pcw : Nat → Nat → Nat
  | 0, _ => 0
  | W + 1, o => o % 2 + pcw W (o / 2)
theorem rk_s (W o y : Nat) : rk (W + 1) o y = if o % 2 = 1 then y % 2 + 2 * rk W (o / 2) (y / 2) else rk W (o / 2) (y / 2) := rfl
theorem pcw_s (W o : Nat) : pcw (W + 1) o = o % 2 + pcw W (o / 2) := rfl
theorem pw (W o : Nat) : 2 ^ pcw (W + 1) o = if o % 2 = 1 then 2 * 2 ^ pcw W (o / 2) else 2 ^ pcw W (o / 2) := by
  rw [pcw_s]
  by_cases c : o % 2 = 1
  · rw [if_pos c, c, Nat.add_comm, Nat.pow_succ]; omega
  · have : o % 2 = 0 := by omega
    rw [if_neg c, this, Nat.zero_add]
theorem rk_lt (W : Nat) : ∀ o y, rk W o y < 2 ^ pcw W o := by
  induction W with
  | zero => intro o y; exact Nat.lt_succ_self 0
  | succ W ih =>
    intro o y
    have := ih (o / 2) (y / 2)
    rw [rk_s, pw]
    by_cases c : o % 2 = 1
    · rw [if_pos c, if_pos c]; omega
    · rw [if_neg c, if_neg c]; exact this
theorem rk_own (W : Nat) : ∀ o, rk W o o + 1 = 2 ^ pcw W o := by
  induction W with
  | zero => intro o; rfl
  | succ W ih =>
    intro o
    have := ih (o / 2)
    rw [rk_s, pw]
    by_cases c : o % 2 = 1
    · rw [if_pos c, if_pos c]; omega
    · rw [if_neg c, if_neg c]; exact this
theorem rk_inj (W : Nat) : ∀ o y z, o < 2 ^ W → sub y o → sub z o → rk W o y = rk W o z → y = z := by
  induction W with
  | zero =>
    intro o y z ho hy hz _
    have h1 := sub_leW 0 y o ho hy
    have h2 := sub_leW 0 z o ho hz
    rw [Nat.pow_zero] at ho
    omega
  | succ W ih =>
    intro o y z ho hy hz e
    obtain ⟨y1, y2⟩ := sub_2 hy
    obtain ⟨z1, z2⟩ := sub_2 hz
    have ho2 : o / 2 < 2 ^ W := by rw [Nat.pow_succ] at ho; omega
    rw [rk_s, rk_s] at e
    by_cases c : o % 2 = 1
    · rw [if_pos c, if_pos c] at e
      have := ih _ _ _ ho2 y2 z2 (by omega)
      omega
    · rw [if_neg c, if_neg c] at e
      have := ih _ _ _ ho2 y2 z2 e
      omega
theorem rk_nxs (W : Nat) : ∀ o y, o < 2 ^ W → sub y o → y ≠ o → sub (nxs W o y) o ∧ rk W o (nxs W o y) = rk W o y + 1 := by
  induction W with
  | zero =>
    intro o y ho hy hne
    have h1 := sub_leW 0 y o ho hy
    rw [Nat.pow_zero] at ho
    omega
  | succ W ih =>
    intro o y ho hy hne
    obtain ⟨y1, y2⟩ := sub_2 hy
    have ho2 : o / 2 < 2 ^ W := by rw [Nat.pow_succ] at ho; omega
    by_cases c : y % 2 = o % 2
    · obtain ⟨i1, i2⟩ := ih (o / 2) (y / 2) ho2 y2 (by omega)
      rw [nxs_eq ho hy c]
      refine ⟨sub_of2 (by omega) (by rw [show 2 * nxs W (o / 2) (y / 2) / 2 = nxs W (o / 2) (y / 2) by omega]; exact i1), ?_⟩
      rw [rk_s, rk_s, show 2 * nxs W (o / 2) (y / 2) / 2 = nxs W (o / 2) (y / 2) by omega, i2]
      by_cases d : o % 2 = 1
      · rw [if_pos d, if_pos d]; omega
      · rw [if_neg d, if_neg d]
    · obtain ⟨e, o1, y0⟩ := nxs_ne ho hy c
      rw [e]
      refine ⟨sub_of2 (by omega) (by rw [show (y + 1) / 2 = y / 2 by omega]; exact y2), ?_⟩
      rw [rk_s, rk_s, if_pos o1, if_pos o1, show (y + 1) / 2 = y / 2 by omega]
      omega
/-- the subsets in their order -/
def sqs (o i : Nat) : Nat := Nat.rec 0 (fun _ r => nxs 12 o r) i
theorem sqs_s (o i : Nat) : sqs o (i + 1) = nxs 12 o (sqs o i) := rfl
theorem sub_0 (o : Nat) : sub 0 o := fun i h => by rw [Nat.zero_testBit] at h; exact absurd h (by decide)
theorem rk_0 (W : Nat) : ∀ o, rk W o 0 = 0 := by
  induction W with
  | zero => intro o; rfl
  | succ W ih => intro o; rw [rk_s, show (0 : Nat) / 2 = 0 from rfl, ih]; split <;> rfl
theorem sqs_rk {o : Nat} (ho : o < 4096) (i : Nat) (hi : i < 2 ^ pcw 12 o) : sub (sqs o i) o ∧ rk 12 o (sqs o i) = i := by
  induction i with
  | zero => exact ⟨sub_0 o, rk_0 12 o⟩
  | succ i ih =>
    obtain ⟨i1, i2⟩ := ih (by omega)
    have hne : sqs o i ≠ o := fun z => by
      have := rk_own 12 o
      rw [z] at i2
      omega
    obtain ⟨j1, j2⟩ := rk_nxs 12 o (sqs o i) ho i1 hne
    rw [sqs_s]
    exact ⟨j1, by rw [j2, i2]⟩
theorem sqs_all {o y : Nat} (ho : o < 4096) (hy : sub y o) : ∃ i, i < 2 ^ pcw 12 o ∧ sqs o i = y := by
  have hl := rk_lt 12 o y
  obtain ⟨j1, j2⟩ := sqs_rk ho (rk 12 o y) hl
  exact ⟨_, hl, rk_inj 12 o _ _ ho j1 hy j2⟩
theorem sN_sh (n : Nat) (f : Nat → Nat) : sN (n + 1) f = f 0 + sN n (fun k => f (k + 1)) := by
  induction n with
  | zero => exact Nat.add_comm _ _
  | succ n ih => rw [sN_s, ih, sN_s]; omega
theorem pcw_sN (W : Nat) : ∀ o, pcw W o = sN W (fun k => if o.testBit k = true then 1 else 0) := by
  induction W with
  | zero => intro o; rfl
  | succ W ih =>
    intro o
    rw [pcw_s, sN_sh, ih, Nat.testBit_zero]
    have e : sN W (fun k => if (o / 2).testBit k = true then 1 else 0) = sN W (fun k => if o.testBit (k + 1) = true then 1 else 0) := sN_congr (fun k _ => by rw [Nat.testBit_add_one])
    rw [e]
    have : o % 2 = 0 ∨ o % 2 = 1 := by omega
    rcases this with c | c <;> rw [c] <;> rfl
theorem pcw_pc (o : Nat) : pcw 12 o = pc o := pcw_sN 12 o
theorem sb_i {M : Nat → Nat → Int32} {y o : Nat} (ho : o < 4096) (hy : sub y o) : f_X7_subsetBehind M (nI y) (nI o) = nI (nxs 12 o y) := by
  have hle := sub_leW 12 y o ho hy
  unfold f_X7_subsetBehind nxs
  apply Int32.toBitVec_inj.mp
  apply BitVec.eq_of_toNat_eq
  have e1 : ((nI y - nI o) &&& nI o).toBitVec = ((nI y).toBitVec - (nI o).toBitVec) &&& (nI o).toBitVec := rfl
  have h2 : (y + 2 ^ 12 - o) % 2 ^ 12 &&& o < 2 ^ 12 := Nat.and_lt_two_pow _ ho
  rw [e1, BitVec.toNat_and, BitVec.toNat_sub, pk_tn (by omega), pk_tn (by omega), pk_tn (by omega)]
  apply Nat.eq_of_testBit_eq
  intro i
  rw [Nat.testBit_and, Nat.testBit_and]
  by_cases c : i < 12
  · have a1 : ∀ v : Nat, v.testBit i = (v % 2 ^ 12).testBit i := fun v => by rw [Nat.testBit_mod_two_pow, decide_eq_true c, Bool.true_and]
    rw [a1 ((2 ^ 32 - o + y) % 2 ^ 32), a1 ((y + 2 ^ 12 - o) % 2 ^ 12)]
    have : (2 ^ 32 - o + y) % 2 ^ 32 % 2 ^ 12 = (y + 2 ^ 12 - o) % 2 ^ 12 % 2 ^ 12 := by omega
    rw [this]
  · have : o.testBit i = false := Nat.testBit_lt_two_pow (Nat.lt_of_lt_of_le ho (Nat.pow_le_pow_right (n := 2) (by decide) (show 12 ≤ i by omega)))
    rw [this, Bool.and_false, Bool.and_false]
