/-! THE NEXT ORDER -/
def nw (l : Nat → Nat) (n k i j : Nat) : Nat := if j < k then l j else if j = k then l i else if n + k - j = i then l k else l (n + k - j)
theorem lt0n {x : Int32} (h : x < 0) : ¬ (0 : Int32) ≤ x := fun z => absurd (Int32.lt_of_le_of_lt z h) (by decide)
theorem no4_s (M : Nat → Nat → Int32) (z c : Int32) (d : Nat) : s_X9_nextOrder_274_4 M z c d = c - nI d := by
  induction d with
  | zero => exact (Int32.sub_zero c).symm
  | succ d ih =>
    have hs : s_X9_nextOrder_274_4 M z c (d + 1) = s_X9_nextOrder_274_4 M z c d + (-1) := rfl
    rw [hs, ih, ← nI_1]
    simp only [Int32.sub_eq_add_neg, Int32.neg_add, Int32.add_assoc]
theorem no41_s (M : Nat → Nat → Int32) (z v c : Int32) (d : Nat) : s_X9_nextOrder_274_41 M z v c d = c - nI d := by
  induction d with
  | zero => exact (Int32.sub_zero c).symm
  | succ d ih =>
    have hs : s_X9_nextOrder_274_41 M z v c (d + 1) = s_X9_nextOrder_274_41 M z v c d + (-1) := rfl
    rw [hs, ih, ← nI_1]
    simp only [Int32.sub_eq_add_neg, Int32.neg_add, Int32.add_assoc]
theorem no100_s (M : Nat → Nat → Int32) (z : Int32) (a : Nat) (c : Int32) (d : Nat) : (s_X9_nextOrder_274_100 M z (nI a) c d).1 = nI (a + d) ∧ (s_X9_nextOrder_274_100 M z (nI a) c d).2.1 = c - nI d := by
  induction d with
  | zero => exact ⟨rfl, (Int32.sub_zero c).symm⟩
  | succ d ih =>
    have hs : s_X9_nextOrder_274_100 M z (nI a) c (d + 1) = ((s_X9_nextOrder_274_100 M z (nI a) c d).1 + 1, (s_X9_nextOrder_274_100 M z (nI a) c d).2.1 + (-1), e_X9_nextOrder_274_100_M (s_X9_nextOrder_274_100 M z (nI a) c d).2.2 z (s_X9_nextOrder_274_100 M z (nI a) c d).1 (s_X9_nextOrder_274_100 M z (nI a) c d).2.1) := rfl
    rw [hs]
    dsimp only
    rw [ih.1, ih.2, nI_1, ← nI_1 d]
    refine ⟨rfl, ?_⟩
    simp only [Int32.sub_eq_add_neg, Int32.neg_add, Int32.add_assoc]
theorem no_100 {B : Nat → Nat → Int32} {sw : Nat → Nat} {n k : Nat} (z : Int32) (hn : n ≤ 8) (hk : k + 1 < n) (hr : ∀ j, j < n → B 292 j = nI (sw j)) (d : Nat) (hd : d ≤ (n - 1 - k) / 2) : ∀ j, j < n → (s_X9_nextOrder_274_100 B z (nI (k + 1)) (nI (n - 1)) d).2.2 292 j = nI (if (k < j ∧ j < k + 1 + d) ∨ (n - 1 - d < j ∧ j < n) then sw (n + k - j) else sw j) := by
  induction d with
  | zero =>
    intro j hj
    rw [if_neg (by omega)]
    exact hr j hj
  | succ d ih =>
    intro j hj
    have i1 := ih (by omega)
    obtain ⟨e1, e2⟩ := no100_s B z (k + 1) (nI (n - 1)) d
    rw [pk_sub (by omega)] at e2
    have hs : (s_X9_nextOrder_274_100 B z (nI (k + 1)) (nI (n - 1)) (d + 1)).2.2 = e_X9_nextOrder_274_100_M (s_X9_nextOrder_274_100 B z (nI (k + 1)) (nI (n - 1)) d).2.2 z (s_X9_nextOrder_274_100 B z (nI (k + 1)) (nI (n - 1)) d).1 (s_X9_nextOrder_274_100 B z (nI (k + 1)) (nI (n - 1)) d).2.1 := rfl
    rw [hs, e1, e2]
    unfold e_X9_nextOrder_274_100_M
    rw [z_row_eq, nI_clamp (by omega), nI_clamp (by omega), ud_if, ud_if, i1 j hj, i1 (n - 1 - d) (by omega), i1 (k + 1 + d) (by omega), if_neg (show ¬ ((k < n - 1 - d ∧ n - 1 - d < k + 1 + d) ∨ (n - 1 - d < n - 1 - d ∧ n - 1 - d < n)) by omega), if_neg (show ¬ ((k < k + 1 + d ∧ k + 1 + d < k + 1 + d) ∨ (n - 1 - d < k + 1 + d ∧ k + 1 + d < n)) by omega)]
    by_cases c1 : j = n - 1 - d
    · rw [if_pos c1, if_pos (show (k < j ∧ j < k + 1 + (d + 1)) ∨ (n - 1 - (d + 1) < j ∧ j < n) by omega), show n + k - j = k + 1 + d by omega]
    · rw [if_neg c1]
      by_cases c2 : j = k + 1 + d
      · rw [if_pos c2, if_pos (show (k < j ∧ j < k + 1 + (d + 1)) ∨ (n - 1 - (d + 1) < j ∧ j < n) by omega), show n + k - j = n - 1 - d by omega]
      · rw [if_neg c2]
        by_cases c3 : (k < j ∧ j < k + 1 + d) ∨ (n - 1 - d < j ∧ j < n)
        · rw [if_pos c3, if_pos (show (k < j ∧ j < k + 1 + (d + 1)) ∨ (n - 1 - (d + 1) < j ∧ j < n) by omega)]
        · rw [if_neg c3, if_neg (show ¬ ((k < j ∧ j < k + 1 + (d + 1)) ∨ (n - 1 - (d + 1) < j ∧ j < n)) by omega)]
theorem no_step {M : Nat → Nat → Int32} {l : Nat → Nat} {n k i : Nat} (hn : n ≤ 8) (hr : ∀ j, j < n → M 292 j = nI (l j)) (hl : ∀ j, j < n → l j < 8) (hk : k + 1 < n) (h1 : ∀ j, k < j → j + 1 < n → l (j + 1) < l j) (h2 : l k ≤ l (k + 1)) (hi : k < i ∧ i < n) (h3 : l k ≤ l i) (h4 : ∀ j, i < j → j < n → l j < l k) : q_X9_nextOrder_274 M (nI n) ∧ f_X9_nextOrder_274 M (nI n) = 1 ∧ ∀ j, j < n → g_X9_nextOrder_274 M (nI n) 292 j = nI (nw l n k i j) := by
  have hl' : ∀ j, j < n → l j < 2147483648 := fun j hj => by have := hl j hj; omega
  have z2 : nI n - 2 = nI (n - 2) := pk_sub (b := 2) (by omega)
  have z1 : nI n - 1 = nI (n - 1) := pk_sub (b := 1) (by omega)
  have c4 : ∀ d, d ≤ n - 2 → s_X9_nextOrder_274_4 M (nI n) (nI (n - 2)) d = nI (n - 2 - d) := fun d hd => by rw [no4_s, pk_sub hd]
  have t4 : ∀ d, d ≤ n - 2 → t_X9_nextOrder_274_4 M (nI n) (s_X9_nextOrder_274_4 M (nI n) (nI (n - 2)) d) = decide (l (n - 2 - d + 1) < l (n - 2 - d)) := fun d hd => by
    unfold t_X9_nextOrder_274_4
    rw [c4 d hd, if_neg (nI_pos (by omega)), nI_1, nI_clamp (by omega), nI_clamp (by omega), hr _ (by omega), hr _ (by omega)]
    have le : (nI (l (n - 2 - d)) ≤ nI (l (n - 2 - d + 1))) ↔ l (n - 2 - d) ≤ l (n - 2 - d + 1) := nI_leI (hl' _ (by omega)) (hl' _ (by omega))
    by_cases c : l (n - 2 - d + 1) < l (n - 2 - d)
    · rw [if_neg (fun z => absurd (le.mp z) (by omega)), decide_eq_true c]
    · rw [if_pos (le.mpr (by omega)), decide_eq_false c]
  have N4 : n_X9_nextOrder_274_4 M (nI n) (nI (n - 2)) = n - 2 - k := z_fst_eq (by omega) (fun d hd => by rw [t4 d (by omega)]; exact decide_eq_true (h1 _ (by omega) (by omega))) (by rw [t4 _ (by omega), show n - 2 - (n - 2 - k) = k by omega]; exact decide_eq_false (by omega))
  have KK : s_X9_nextOrder_274_4 M (nI n) (nI (n - 2)) (n - 2 - k) = nI k := by rw [c4 _ (by omega), show n - 2 - (n - 2 - k) = k by omega]
  have t48 : t_X9_nextOrder_274_4 M (nI n) (s_X9_nextOrder_274_4 M (nI n) (nI (n - 2)) 8) = false := by
    unfold t_X9_nextOrder_274_4
    rw [no4_s, if_pos (pk_sneg (by decide) (by omega))]
  have c41 : ∀ d, d ≤ n - 1 → s_X9_nextOrder_274_41 M (nI n) (nI k) (nI (n - 1)) d = nI (n - 1 - d) := fun d hd => by rw [no41_s, pk_sub hd]
  have t41 : ∀ d, d ≤ n - 1 → t_X9_nextOrder_274_41 M (nI n) (nI k) (s_X9_nextOrder_274_41 M (nI n) (nI k) (nI (n - 1)) d) = decide (l (n - 1 - d) < l k) := fun d hd => by
    unfold t_X9_nextOrder_274_41
    rw [c41 d hd, nI_clamp (by omega), nI_clamp (by omega), hr _ (by omega), hr _ (by omega)]
    have le : (nI (l k) ≤ nI (l (n - 1 - d))) ↔ l k ≤ l (n - 1 - d) := nI_leI (hl' _ (by omega)) (hl' _ (by omega))
    by_cases c : l (n - 1 - d) < l k
    · rw [if_neg (fun z => absurd (le.mp z) (by omega)), decide_eq_true c]
    · rw [if_pos (le.mpr (by omega)), decide_eq_false c]
  have N41 : n_X9_nextOrder_274_41 M (nI n) (nI k) (nI (n - 1)) = n - 1 - i := z_fst_eq (by omega) (fun d hd => by rw [t41 d (by omega)]; exact decide_eq_true (h4 _ (by omega) (by omega))) (by rw [t41 _ (by omega), show n - 1 - (n - 1 - i) = i by omega]; exact decide_eq_false (by omega))
  have II : s_X9_nextOrder_274_41 M (nI n) (nI k) (nI (n - 1)) (n - 1 - i) = nI i := by rw [c41 _ (by omega), show n - 1 - (n - 1 - i) = i by omega]
  obtain ⟨B, hB⟩ : ∃ B, B = z_row (z_row M 292 (upd (M 292) k (M 292 i))) 292 (upd (upd (M 292) k (M 292 i)) i (M 292 k)) := ⟨_, rfl⟩
  have hB' : ∀ j, j < n → B 292 j = nI (if j = i then l k else if j = k then l i else l j) := fun j hj => by
    rw [hB, z_row_eq, ud_if, ud_if, hr k (by omega), hr i (by omega), hr j hj]
    by_cases c : j = i
    · rw [if_pos c, if_pos c]
    · rw [if_neg c, if_neg c]
      by_cases c2 : j = k
      · rw [if_pos c2, if_pos c2]
      · rw [if_neg c2, if_neg c2]
  have t100 : ∀ d, d ≤ (n - 1 - k) / 2 → t_X9_nextOrder_274_100 (s_X9_nextOrder_274_100 B (nI n) (nI (k + 1)) (nI (n - 1)) d).2.2 (nI n) (s_X9_nextOrder_274_100 B (nI n) (nI (k + 1)) (nI (n - 1)) d).1 (s_X9_nextOrder_274_100 B (nI n) (nI (k + 1)) (nI (n - 1)) d).2.1 = decide (k + 1 + d < n - 1 - d) := fun d hd => by
    obtain ⟨e1, e2⟩ := no100_s B (nI n) (k + 1) (nI (n - 1)) d
    rw [pk_sub (by omega)] at e2
    unfold t_X9_nextOrder_274_100
    rw [e1, e2]
    have le : (nI (n - 1 - d) ≤ nI (k + 1 + d)) ↔ n - 1 - d ≤ k + 1 + d := nI_leI (by omega) (by omega)
    by_cases c : k + 1 + d < n - 1 - d
    · rw [if_neg (fun z => absurd (le.mp z) (by omega)), decide_eq_true c]
    · rw [if_pos (le.mpr (by omega)), decide_eq_false c]
  have N100 : n_X9_nextOrder_274_100 B (nI n) (nI (k + 1)) (nI (n - 1)) = (n - 1 - k) / 2 := z_fst_eq (by omega) (fun d hd => by rw [t100 d (by omega)]; exact decide_eq_true (by omega)) (by rw [t100 _ (Nat.le_refl _)]; exact decide_eq_false (by omega))
  have t1008 : t_X9_nextOrder_274_100 (s_X9_nextOrder_274_100 B (nI n) (nI (k + 1)) (nI (n - 1)) 8).2.2 (nI n) (s_X9_nextOrder_274_100 B (nI n) (nI (k + 1)) (nI (n - 1)) 8).1 (s_X9_nextOrder_274_100 B (nI n) (nI (k + 1)) (nI (n - 1)) 8).2.1 = false := by
    obtain ⟨e1, e2⟩ := no100_s B (nI n) (k + 1) (nI (n - 1)) 8
    unfold t_X9_nextOrder_274_100
    rw [e1, e2, if_pos]
    exact Int32.le_of_lt (Int32.lt_of_lt_of_le (pk_sneg (by decide) (by omega)) (nI_pos' (by omega)))
  have ck : (nI k).toNatClampNeg = k := nI_clamp (by omega)
  have ci : (nI i).toNatClampNeg = i := nI_clamp (by omega)
  have p0 := nI_pos (n := k) (by omega)
  have p0' := nI_pos' (n := k) (by omega)
  refine ⟨?_, ?_, fun j hj => ?_⟩
  · unfold q_X9_nextOrder_274
    rw [z2, z1, N4, KK, N41, II, ck, ci, ← hB, nI_1, N100]
    have q4 : ∀ d, d < n - 2 - k → qi_X9_nextOrder_274_4 M (nI n) (s_X9_nextOrder_274_4 M (nI n) (nI (n - 2)) d) := fun d hd => by
      unfold qi_X9_nextOrder_274_4
      rw [c4 d (by omega), nI_1]
      exact ⟨fun _ => vi (by omega) (by decide), fun _ => vi (by omega) (by decide), trivial⟩
    have q41 : ∀ d, d < n - 1 - i → qi_X9_nextOrder_274_41 M (nI n) (nI k) (s_X9_nextOrder_274_41 M (nI n) (nI k) (nI (n - 1)) d) := fun d hd => by
      unfold qi_X9_nextOrder_274_41
      rw [c41 d (by omega)]
      exact ⟨vi (by omega) (by decide), vi (by omega) (by decide), trivial⟩
    have q100 : ∀ d, d < (n - 1 - k) / 2 → qi_X9_nextOrder_274_100 (s_X9_nextOrder_274_100 B (nI n) (nI (k + 1)) (nI (n - 1)) d).2.2 (nI n) (s_X9_nextOrder_274_100 B (nI n) (nI (k + 1)) (nI (n - 1)) d).1 (s_X9_nextOrder_274_100 B (nI n) (nI (k + 1)) (nI (n - 1)) d).2.1 := fun d hd => by
      obtain ⟨e1, e2⟩ := no100_s B (nI n) (k + 1) (nI (n - 1)) d
      rw [pk_sub (by omega)] at e2
      unfold qi_X9_nextOrder_274_100
      rw [e1, e2]
      exact ⟨fun _ => vi (by omega) (by decide), fun _ => vi (by omega) (by decide), trivial⟩
    have e41 : t_X9_nextOrder_274_41 M (nI n) (nI k) (nI i) = false := by rw [← II, t41 _ (by omega), show n - 1 - (n - 1 - i) = i by omega]; exact decide_eq_false (by omega)
    obtain ⟨e1, e2⟩ := no100_s B (nI n) (k + 1) (nI (n - 1)) ((n - 1 - k) / 2)
    rw [pk_sub (by omega)] at e2
    have v8 : z_vin (nI i) 8 = true := vi (by omega) (by decide)
    refine ⟨q4, t48, fun z => absurd z p0, fun z => absurd z p0, fun z => absurd z p0, fun z => absurd z p0, fun z => absurd z p0, fun z => absurd z p0, fun z => absurd z p0, fun z => absurd z p0, fun _ => vi (by omega) (by decide), fun _ => vi (by omega) (by decide), fun _ _ _ => q41, fun _ _ _ => e41, fun _ _ _ => v8, fun _ _ _ _ => q100, fun _ _ _ _ => t1008, fun _ _ _ _ _ => ?_, fun _ _ _ _ _ => ?_, trivial⟩
    · rw [e1]; exact vi (by omega) (by decide)
    · rw [e2]; exact vi (by omega) (by decide)
  · unfold f_X9_nextOrder_274
    rw [z2, N4, KK, if_neg p0, if_pos p0']
  · unfold g_X9_nextOrder_274
    rw [z2, z1, N4, KK, N41, II, ck, ci, ← hB, nI_1, N100, if_neg p0, if_pos p0', no_100 (nI n) hn hk hB' _ (Nat.le_refl _) j hj]
    refine congrArg nI ?_
    unfold nw
    by_cases c1 : j < k
    · rw [if_neg (by omega), if_pos c1, if_neg (by omega), if_neg (by omega)]
    · rw [if_neg c1]
      by_cases c2 : j = k
      · rw [if_neg (by omega), if_pos c2, if_neg (by omega), if_pos c2]
      · by_cases c3 : (k < j ∧ j < k + 1 + (n - 1 - k) / 2) ∨ (n - 1 - (n - 1 - k) / 2 < j ∧ j < n)
        · rw [if_pos c3]
          by_cases c4 : n + k - j = i
          · rw [if_pos c4, if_neg c2, if_pos c4]
          · rw [if_neg c4, if_neg (show ¬ n + k - j = k by omega), if_neg c2, if_neg c4]
        · rw [if_neg c3]
          have ej : n + k - j = j := by omega
          rw [ej]
          by_cases c4 : j = i
          · rw [if_pos c4, if_neg c2, if_pos c4]
          · rw [if_neg c4, if_neg c2, if_neg c2, if_neg c4]
theorem ng : ∀ n, n < 9 → nI n - 2 - nI (n - 1) < 0 := by decide
theorem no_end {M : Nat → Nat → Int32} {l : Nat → Nat} {n : Nat} (hn : n ≤ 8) (hr : ∀ j, j < n → M 292 j = nI (l j)) (hl : ∀ j, j < n → l j < 8) (h1 : ∀ j, j + 1 < n → l (j + 1) < l j) : q_X9_nextOrder_274 M (nI n) ∧ f_X9_nextOrder_274 M (nI n) = 0 ∧ g_X9_nextOrder_274 M (nI n) = M := by
  have hl' : ∀ j, j < n → l j < 2147483648 := fun j hj => by have := hl j hj; omega
  have t4 : ∀ d, d < n - 1 → s_X9_nextOrder_274_4 M (nI n) (nI n - 2) d = nI (n - 2 - d) ∧ t_X9_nextOrder_274_4 M (nI n) (s_X9_nextOrder_274_4 M (nI n) (nI n - 2) d) = true := fun d hd => by
    have z2 : nI n - 2 = nI (n - 2) := pk_sub (b := 2) (by omega)
    have e : s_X9_nextOrder_274_4 M (nI n) (nI n - 2) d = nI (n - 2 - d) := by rw [no4_s, z2, pk_sub (by omega)]
    refine ⟨e, ?_⟩
    unfold t_X9_nextOrder_274_4
    rw [e, if_neg (nI_pos (by omega)), nI_1, nI_clamp (by omega), nI_clamp (by omega), hr _ (by omega), hr _ (by omega), if_neg]
    have le : (nI (l (n - 2 - d)) ≤ nI (l (n - 2 - d + 1))) ↔ l (n - 2 - d) ≤ l (n - 2 - d + 1) := nI_leI (hl' _ (by omega)) (hl' _ (by omega))
    intro z
    have := le.mp z
    have := h1 (n - 2 - d) (by omega)
    omega
  have KK : s_X9_nextOrder_274_4 M (nI n) (nI n - 2) (n - 1) < 0 := by rw [no4_s]; exact ng n (by omega)
  have N4 : n_X9_nextOrder_274_4 M (nI n) (nI n - 2) = n - 1 := z_fst_eq (by omega) (fun d hd => (t4 d hd).2) (by unfold t_X9_nextOrder_274_4; rw [if_pos KK])
  have t48 : t_X9_nextOrder_274_4 M (nI n) (s_X9_nextOrder_274_4 M (nI n) (nI n - 2) 8) = false := by
    unfold t_X9_nextOrder_274_4
    rw [no4_s, if_pos]
    have : ∀ n, n < 9 → nI n - 2 - nI 8 < 0 := by decide
    exact this n (by omega)
  have n0 := lt0n KK
  refine ⟨?_, ?_, ?_⟩
  · unfold q_X9_nextOrder_274
    rw [N4]
    refine ⟨fun d hd => ?_, t48, fun _ z => absurd z n0, fun _ z => absurd z n0, fun _ z => absurd z n0, fun _ z => absurd z n0, fun _ z => absurd z n0, fun _ z => absurd z n0, fun _ z => absurd z n0, fun _ z => absurd z n0, fun z => absurd KK z, fun z => absurd KK z, fun z => absurd KK z, fun z => absurd KK z, fun z => absurd KK z, fun z => absurd KK z, fun z => absurd KK z, fun z => absurd KK z, fun z => absurd KK z, trivial⟩
    unfold qi_X9_nextOrder_274_4
    rw [(t4 d hd).1, nI_1]
    exact ⟨fun _ => vi (by omega) (by decide), fun _ => vi (by omega) (by decide), trivial⟩
  · unfold f_X9_nextOrder_274
    rw [N4, if_pos KK, if_neg n0]
  · unfold g_X9_nextOrder_274
    rw [N4, if_pos KK, if_neg n0]
