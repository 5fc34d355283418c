/-! sets as numbers, further -/
theorem pc_tab {x : Nat} (h : x < 4096) : f_J6_bitCount_0f7a4 (fun _ _ => 0) (nI x) = nI (pc x) ∧ t_X9_bits_4 (fun _ _ => 0) (nI x) (s_X9_bits_4 (fun _ _ => 0) (nI x) 0 (nI x) 32).1 (s_X9_bits_4 (fun _ _ => 0) (nI x) 0 (nI x) 32).2 = false ∧ f_X9_bits (fun _ _ => 0) (nI x) = nI (pc x) := by
  by_cases c1 : x < 1024
  · exact pc_tab0 x c1
  · by_cases c2 : x < 2048
    · have := pc_tab1 (x - 1024) (by omega)
      rwa [show x - 1024 + 1024 = x by omega] at this
    · by_cases c3 : x < 3072
      · have := pc_tab2 (x - 2048) (by omega)
        rwa [show x - 2048 + 2048 = x by omega] at this
      · have := pc_tab3 (x - 3072) (by omega)
        rwa [show x - 3072 + 3072 = x by omega] at this
theorem bits_M (M M' : Nat → Nat → Int32) (a c1 c2 : Int32) (k : Nat) : s_X9_bits_4 M a c1 c2 k = s_X9_bits_4 M' a c1 c2 k := by
  induction k with
  | zero => rfl
  | succ k ih =>
    have hs : ∀ N : Nat → Nat → Int32, s_X9_bits_4 N a c1 c2 (k + 1) = ((s_X9_bits_4 N a c1 c2 k).1 + 1, (s_X9_bits_4 N a c1 c2 k).2 &&& ((s_X9_bits_4 N a c1 c2 k).2 - 1)) := fun N => rfl
    rw [hs, hs, ih]
theorem bc_c (M : Nat → Nat → Int32) {x : Nat} (h : x < 4096) : f_J6_bitCount_0f7a4 M (nI x) = nI (pc x) := by
  rw [← (pc_tab h).1]
  unfold f_J6_bitCount_0f7a4
  rfl
theorem bc_r (M : Nat → Nat → Int32) {x : Nat} (h : x < 4096) : q_X9_bits M (nI x) ∧ f_X9_bits M (nI x) = nI (pc x) := by
  have hs := fun k => bits_M M (fun _ _ => 0) (nI x) 0 (nI x) k
  have ht : ∀ a b, t_X9_bits_4 M (nI x) a b = t_X9_bits_4 (fun _ _ => 0) (nI x) a b := fun a b => by unfold t_X9_bits_4; rfl
  have hn : n_X9_bits_4 M (nI x) 0 (nI x) = n_X9_bits_4 (fun _ _ => 0) (nI x) 0 (nI x) := by
    unfold n_X9_bits_4
    exact z_fst_congr (fun k => by rw [ht, hs k])
  refine ⟨⟨by rw [ht, hs 32]; exact (pc_tab h).2.1, trivial⟩, ?_⟩
  rw [← (pc_tab h).2.2]
  unfold f_X9_bits
  rw [hn, hs]
theorem pc_bN {n : Nat} (hn : n ≤ 12) (p : Nat → Bool) : pc (bN n p) = sN n (fun k => if p k = true then 1 else 0) := by
  unfold pc
  rw [sN_ext hn (fun k h1 _ => by rw [bN_tb, decide_eq_false (by omega)]; rfl)]
  exact sN_congr (fun k hk => by rw [bN_tb, decide_eq_true hk, Bool.true_and])
theorem pc_sm {n : Nat} (hn : n ≤ 12) (p : Nat → Bool) : nI (pc (bN n p)) = sm n (fun k => if p k = true then 1 else 0) := by
  rw [pc_bN hn, sN_nI]
  refine sm_congr (fun k _ => ?_)
  by_cases c : p k = true
  · rw [if_pos c, if_pos c]; rfl
  · rw [if_neg c, if_neg c]; rfl
theorem val_sN (x n : Nat) : x % 2 ^ n = sN n (fun k => if x.testBit k = true then 2 ^ k else 0) := by
  induction n with
  | zero => rw [Nat.pow_zero, Nat.mod_one]; rfl
  | succ n ih =>
    rw [sN_s, ← ih, Nat.mod_pow_succ, Nat.testBit_eq_decide_div_mod_eq]
    have : x / 2 ^ n % 2 = 0 ∨ x / 2 ^ n % 2 = 1 := by omega
    rcases this with c | c
    · rw [c, Nat.mul_zero, if_neg (by decide)]
    · rw [c, Nat.mul_one, if_pos (by decide)]
theorem pz_sN {x : Nat} (h : x < 4096) : pz x = sN 12 (fun k => if x.testBit k = true then 4096 + 2 ^ k else 0) := by
  have e : x = sN 12 (fun k => if x.testBit k = true then 2 ^ k else 0) := by
    rw [← val_sN, Nat.mod_eq_of_lt h]
  unfold pz pc
  rw [← sN_mul]
  have : sN 12 (fun k => 4096 * (if x.testBit k = true then 1 else 0)) + sN 12 (fun k => if x.testBit k = true then 2 ^ k else 0) = sN 12 (fun k => if x.testBit k = true then 4096 + 2 ^ k else 0) := by
    rw [← sN_add]
    refine sN_congr (fun k _ => ?_)
    by_cases c : x.testBit k = true
    · rw [if_pos c, if_pos c, if_pos c]
    · rw [if_neg c, if_neg c, if_neg c]
  rw [← this, ← e]
theorem pz_inj {x y : Nat} (hx : x < 4096) (hy : y < 4096) (h : pz x = pz y) : x = y := by
  unfold pz at h
  omega
theorem pz_le {x y : Nat} (hx : x < 4096) (hy : y < 4096) (h1 : pc x ≤ pc y) (h2 : x ≤ y) : pz x ≤ pz y := by
  unfold pz
  omega
theorem pz_lt {x y : Nat} (hx : x < 4096) (h1 : pc x < pc y) : pz x < pz y := by
  unfold pz
  omega
theorem bs_and {n : Nat} (hn : n ≤ 12) (p p' : Nat → Bool) : bs n p &&& bs n p' = bs n (fun k => p k && p' k) := by
  have h1 := bN_4096 hn p
  have h2 := bN_4096 hn p'
  rw [bs_bN hn, bs_bN hn, bs_bN hn, i_and (by omega) (by omega)]
  congr 1
  apply Nat.eq_of_testBit_eq
  intro i
  rw [Nat.testBit_and, bN_tb, bN_tb, bN_tb]
  cases decide (i < n) <;> simp
