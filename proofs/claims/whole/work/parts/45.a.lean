/-! SETS AS NUMBERS -/
def sN (n : Nat) (f : Nat → Nat) : Nat := Nat.rec 0 (fun k r => r + f k) n
theorem sN_s (n : Nat) (f : Nat → Nat) : sN (n + 1) f = sN n f + f n := rfl
theorem sN_congr {n : Nat} {f g : Nat → Nat} (h : ∀ k, k < n → f k = g k) : sN n f = sN n g := by
  induction n with
  | zero => rfl
  | succ n ih => rw [sN_s, sN_s, ih (fun k hk => h k (by omega)), h n (by omega)]
theorem sN_le {n : Nat} {f g : Nat → Nat} (h : ∀ k, k < n → f k ≤ g k) : sN n f ≤ sN n g := by
  induction n with
  | zero => exact Nat.le_refl _
  | succ n ih =>
    rw [sN_s, sN_s]
    have := ih (fun k hk => h k (by omega))
    have := h n (by omega)
    omega
theorem sN_add (n : Nat) (f g : Nat → Nat) : sN n (fun k => f k + g k) = sN n f + sN n g := by
  induction n with
  | zero => rfl
  | succ n ih => rw [sN_s, sN_s, sN_s, ih]; omega
theorem sN_mul (n c : Nat) (f : Nat → Nat) : sN n (fun k => c * f k) = c * sN n f := by
  induction n with
  | zero => rfl
  | succ n ih => rw [sN_s, sN_s, ih, Nat.mul_add]
theorem sN_zero (n : Nat) (f : Nat → Nat) (h : ∀ k, k < n → f k = 0) : sN n f = 0 := by
  induction n with
  | zero => rfl
  | succ n ih => rw [sN_s, ih (fun k hk => h k (by omega)), h n (by omega)]
theorem sN_one (n o : Nat) (f : Nat → Nat) (ho : o < n) (h : ∀ k, k < n → k ≠ o → f k = 0) : sN n f = f o := by
  induction n with
  | zero => omega
  | succ n ih =>
    rw [sN_s]
    by_cases c : o = n
    · subst c
      rw [sN_zero o f (fun k hk => h k (by omega) (by omega)), Nat.zero_add]
    · rw [ih (by omega) (fun k hk => h k (by omega)), h n (by omega) (fun z => c z.symm), Nat.add_zero]
theorem sN_swap (n m : Nat) (f : Nat → Nat → Nat) : sN n (fun k => sN m (fun t => f k t)) = sN m (fun t => sN n (fun k => f k t)) := by
  induction n with
  | zero => exact (sN_zero m _ (fun _ _ => rfl)).symm
  | succ n ih =>
    rw [sN_s, ih, ← sN_add]
    exact sN_congr (fun _ _ => rfl)
theorem sN_ext {n N : Nat} (h : n ≤ N) {f : Nat → Nat} (h0 : ∀ k, n ≤ k → k < N → f k = 0) : sN N f = sN n f := by
  induction N with
  | zero => have : n = 0 := by omega
            subst this; rfl
  | succ N ih =>
    by_cases c : n = N + 1
    · subst c; rfl
    · rw [sN_s, ih (by omega) (fun k h1 h2 => h0 k h1 (by omega)), h0 N (by omega) (by omega), Nat.add_zero]
theorem sN_nI (n : Nat) (f : Nat → Nat) : nI (sN n f) = sm n (fun k => nI (f k)) := by
  induction n with
  | zero => rfl
  | succ n ih => rw [sN_s, sm_s, ← nI_add, ih]
def bN (n : Nat) (p : Nat → Bool) : Nat := Nat.rec 0 (fun k r => if p k = true then r ||| 2 ^ k else r) n
theorem bN_s (n : Nat) (p : Nat → Bool) : bN (n + 1) p = if p n = true then bN n p ||| 2 ^ n else bN n p := rfl
theorem bN_lt (n : Nat) (p : Nat → Bool) : bN n p < 2 ^ n := by
  induction n with
  | zero => exact Nat.lt_succ_self 0
  | succ n ih =>
    rw [bN_s]
    have h1 : 2 ^ n < 2 ^ (n + 1) := by rw [Nat.pow_succ]; have := Nat.two_pow_pos n; omega
    split
    · exact Nat.or_lt_two_pow (by omega) h1
    · omega
theorem bN_tb (n : Nat) (p : Nat → Bool) (i : Nat) : (bN n p).testBit i = (decide (i < n) && p i) := by
  induction n with
  | zero =>
    show (0 : Nat).testBit i = _
    rw [Nat.zero_testBit, decide_eq_false (by omega)]
    rfl
  | succ n ih =>
    rw [bN_s]
    by_cases c : p n = true
    · rw [if_pos c, Nat.testBit_or, ih, Nat.testBit_two_pow]
      by_cases c1 : n = i
      · subst c1
        rw [c, decide_eq_true (show n < n + 1 by omega), decide_eq_true rfl]
        simp
      · rw [decide_eq_false c1, Bool.or_false]
        by_cases c2 : i < n
        · rw [decide_eq_true c2, decide_eq_true (show i < n + 1 by omega)]
        · rw [decide_eq_false c2, decide_eq_false (show ¬ i < n + 1 by omega)]
    · rw [if_neg c, ih]
      by_cases c1 : n = i
      · subst c1
        have : p n = false := by cases h : p n; rfl; exact absurd h c
        rw [this]; simp
      · by_cases c2 : i < n
        · rw [decide_eq_true c2, decide_eq_true (show i < n + 1 by omega)]
        · rw [decide_eq_false c2, decide_eq_false (show ¬ i < n + 1 by omega)]
theorem i_or {a b : Nat} (ha : a < 4294967296) (hb : b < 4294967296) : nI a ||| nI b = nI (a ||| b) := by
  apply Int32.toBitVec_inj.mp
  apply BitVec.eq_of_toNat_eq
  show ((nI a).toBitVec ||| (nI b).toBitVec).toNat = _
  have : a ||| b < 2 ^ 32 := Nat.or_lt_two_pow ha hb
  rw [BitVec.toNat_or, pk_tn ha, pk_tn hb, pk_tn this]
theorem i_and {a b : Nat} (ha : a < 4294967296) (hb : b < 4294967296) : nI a &&& nI b = nI (a &&& b) := by
  apply Int32.toBitVec_inj.mp
  apply BitVec.eq_of_toNat_eq
  show ((nI a).toBitVec &&& (nI b).toBitVec).toNat = _
  have : a &&& b < 2 ^ 32 := Nat.and_lt_two_pow a hb
  rw [BitVec.toNat_and, pk_tn ha, pk_tn hb, pk_tn this]
/-- those of a that are not of b -/
def dif (a b : Nat) : Nat := a &&& (4095 ^^^ b)
theorem dif_tb {a b : Nat} (ha : a < 4096) (i : Nat) : (dif a b).testBit i = (a.testBit i && !b.testBit i) := by
  unfold dif
  rw [Nat.testBit_and, Nat.testBit_xor]
  have e : (4095 : Nat).testBit i = decide (i < 12) := Nat.testBit_two_pow_sub_one 12 i
  rw [e]
  by_cases c : i < 12
  · rw [decide_eq_true c]; cases a.testBit i <;> cases b.testBit i <;> rfl
  · have : a.testBit i = false := Nat.testBit_lt_two_pow (Nat.lt_of_lt_of_le ha (Nat.pow_le_pow_right (n := 2) (by decide) (show 12 ≤ i by omega)))
    rw [this]; rfl
theorem dif_lt {a b : Nat} (ha : a < 4096) : dif a b < 4096 := by
  unfold dif
  rw [Nat.and_comm]
  exact Nat.and_lt_two_pow (n := 12) _ ha
theorem i_dif {a b : Nat} (ha : a < 4096) (hb : b < 4096) : nI a &&& (nI b ^^^ (-1)) = nI (dif a b) := by
  apply Int32.toBitVec_inj.mp
  apply BitVec.eq_of_toNat_eq
  have e1 : (nI a &&& (nI b ^^^ (-1))).toBitVec = (nI a).toBitVec &&& ((nI b).toBitVec ^^^ (-1 : Int32).toBitVec) := rfl
  have e2 : (-1 : Int32).toBitVec.toNat = 2 ^ 32 - 1 := by decide
  have hd := dif_lt (b := b) ha
  rw [e1, BitVec.toNat_and, BitVec.toNat_xor, pk_tn (by omega), pk_tn (by omega), e2, pk_tn (by omega)]
  apply Nat.eq_of_testBit_eq
  intro i
  rw [dif_tb ha, Nat.testBit_and, Nat.testBit_xor, Nat.testBit_two_pow_sub_one]
  by_cases c : i < 32
  · rw [decide_eq_true c]; cases a.testBit i <;> cases b.testBit i <;> rfl
  · have : a.testBit i = false := Nat.testBit_lt_two_pow (Nat.lt_of_lt_of_le ha (Nat.pow_le_pow_right (n := 2) (by decide) (show 12 ≤ i by omega)))
    rw [this]; rfl
theorem sh1 : ∀ k, k < 31 → (1 : Int32) <<< (nI k &&& 31) = nI (2 ^ k) := by decide +kernel
theorem smd : ∀ k, k < 32 → ((nI k &&& 31).toBitVec.smod 32).toNat = k := by decide +kernel
theorem bs_bN {n : Nat} (hn : n ≤ 12) (p : Nat → Bool) : bs n p = nI (bN n p) := by
  induction n with
  | zero => rfl
  | succ n ih =>
    rw [bs_s, bN_s, ih (by omega)]
    by_cases c : p n = true
    · have h1 := bN_lt n p
      have h2 : 2 ^ n ≤ 2 ^ 12 := Nat.pow_le_pow_right (by decide) (by omega)
      rw [if_pos c, if_pos c, sh1 n (by omega), i_or (by omega) (by omega)]
    · rw [if_neg c, if_neg c]
theorem bN_4096 {n : Nat} (hn : n ≤ 12) (p : Nat → Bool) : bN n p < 4096 := Nat.lt_of_lt_of_le (bN_lt n p) (Nat.pow_le_pow_right (n := 2) (by decide) hn)
theorem has_tb {x k : Nat} (hx : x < 2147483648) (hk : k < 31) : (if ¬ (nI x >>> (nI k &&& 31)) &&& 1 = 1 then (0 : Int32) else 1) = if x.testBit k = true then 1 else 0 := by
  rw [pk_shrN hx _ k (smd k (by omega)), pk_andN (Nat.lt_of_le_of_lt (Nat.div_le_self _ _) (by omega)) 1 (by decide), Nat.testBit_eq_decide_div_mod_eq]
  have : x / 2 ^ k % 2 ^ 1 = 0 ∨ x / 2 ^ k % 2 ^ 1 = 1 := by omega
  have e : x / 2 ^ k % 2 = x / 2 ^ k % 2 ^ 1 := rfl
  rw [e]
  rcases this with c | c <;> rw [c] <;> decide
theorem isIn_tb (M : Nat → Nat → Int32) {x k : Nat} (hx : x < 2147483648) (hk : k < 31) : f_X8_isIn M (nI x) (nI k) = if x.testBit k = true then 1 else 0 := has_tb hx hk
theorem hasr_tb (M : Nat → Nat → Int32) {x k : Nat} (hx : x < 2147483648) (hk : k < 31) : f_X9_has M (nI x) (nI k) = if x.testBit k = true then 1 else 0 := has_tb hx hk
/-- how many -/
def pc (x : Nat) : Nat := sN 12 (fun k => if x.testBit k = true then 1 else 0)
def pz (x : Nat) : Nat := 4096 * pc x + x
theorem pc_tab0 : ∀ x, x < 1024 → f_J6_bitCount_0f7a4 (fun _ _ => 0) (nI x) = nI (pc x) ∧ t_X9_bits_4 (fun _ _ => 0) (nI x) (s_X9_bits_4 (fun _ _ => 0) (nI x) 0 (nI x) 32).1 (s_X9_bits_4 (fun _ _ => 0) (nI x) 0 (nI x) 32).2 = false ∧ f_X9_bits (fun _ _ => 0) (nI x) = nI (pc x) := by decide +kernel
theorem pc_tab1 : ∀ x, x < 1024 → f_J6_bitCount_0f7a4 (fun _ _ => 0) (nI (x + 1024)) = nI (pc (x + 1024)) ∧ t_X9_bits_4 (fun _ _ => 0) (nI (x + 1024)) (s_X9_bits_4 (fun _ _ => 0) (nI (x + 1024)) 0 (nI (x + 1024)) 32).1 (s_X9_bits_4 (fun _ _ => 0) (nI (x + 1024)) 0 (nI (x + 1024)) 32).2 = false ∧ f_X9_bits (fun _ _ => 0) (nI (x + 1024)) = nI (pc (x + 1024)) := by decide +kernel
theorem pc_tab2 : ∀ x, x < 1024 → f_J6_bitCount_0f7a4 (fun _ _ => 0) (nI (x + 2048)) = nI (pc (x + 2048)) ∧ t_X9_bits_4 (fun _ _ => 0) (nI (x + 2048)) (s_X9_bits_4 (fun _ _ => 0) (nI (x + 2048)) 0 (nI (x + 2048)) 32).1 (s_X9_bits_4 (fun _ _ => 0) (nI (x + 2048)) 0 (nI (x + 2048)) 32).2 = false ∧ f_X9_bits (fun _ _ => 0) (nI (x + 2048)) = nI (pc (x + 2048)) := by decide +kernel
theorem pc_tab3 : ∀ x, x < 1024 → f_J6_bitCount_0f7a4 (fun _ _ => 0) (nI (x + 3072)) = nI (pc (x + 3072)) ∧ t_X9_bits_4 (fun _ _ => 0) (nI (x + 3072)) (s_X9_bits_4 (fun _ _ => 0) (nI (x + 3072)) 0 (nI (x + 3072)) 32).1 (s_X9_bits_4 (fun _ _ => 0) (nI (x + 3072)) 0 (nI (x + 3072)) 32).2 = false ∧ f_X9_bits (fun _ _ => 0) (nI (x + 3072)) = nI (pc (x + 3072)) := by decide +kernel
