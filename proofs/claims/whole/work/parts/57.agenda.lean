/-! AGENDAS: the class -/
theorem mA_M (M M' : Nat → Nat → Int32) (a b c2 c3 : Int32) (k : Nat) : s_X7_matterAt_4 M a b c2 c3 k = s_X7_matterAt_4 M' a b c2 c3 k := by
  induction k with
  | zero => rfl
  | succ k ih =>
    have hs : ∀ N : Nat → Nat → Int32, s_X7_matterAt_4 N a b c2 c3 (k + 1) = (e_X7_matterAt_4_c2 M a b (s_X7_matterAt_4 N a b c2 c3 k).1 (s_X7_matterAt_4 N a b c2 c3 k).2, (s_X7_matterAt_4 N a b c2 c3 k).2 + 1) := fun N => rfl
    rw [hs, hs, ih]
theorem mA_d : ∀ x, x < 256 → ∀ p, p < 6 → t_X7_matterAt_4 (fun _ _ => 0) (nI x) (nI p) (s_X7_matterAt_4 (fun _ _ => 0) (nI x) (nI p) 0 0 8).1 (s_X7_matterAt_4 (fun _ _ => 0) (nI x) (nI p) 0 0 8).2 = false ∧ f_X7_matterAt (fun _ _ => 0) (nI x) (nI p) = nI (mAt x p) ∧ mAt x p < 8 := by decide +kernel
theorem mA_c (M : Nat → Nat → Int32) {x p : Nat} (hx : x < 256) (hp : p < 6) : q_X7_matterAt M (nI x) (nI p) ∧ f_X7_matterAt M (nI x) (nI p) = nI (mAt x p) := by
  have hs := fun k => mA_M M (fun _ _ => 0) (nI x) (nI p) 0 0 k
  have ht : ∀ a b, t_X7_matterAt_4 M (nI x) (nI p) a b = t_X7_matterAt_4 (fun _ _ => 0) (nI x) (nI p) a b := fun a b => rfl
  have hn : n_X7_matterAt_4 M (nI x) (nI p) 0 0 = n_X7_matterAt_4 (fun _ _ => 0) (nI x) (nI p) 0 0 := by
    unfold n_X7_matterAt_4
    exact z_fst_congr (fun k => by rw [ht, hs k])
  refine ⟨⟨by rw [ht, hs 8]; exact (mA_d x hx p hp).1, trivial⟩, ?_⟩
  rw [← (mA_d x hx p hp).2.1]
  unfold f_X7_matterAt
  rw [hn, hs]
theorem fct_d : ∀ b, b < 5 → ∀ r, r < fct (b + 1) → nI r / nI (fct b) = nI (r / fct b) ∧ nI r - nI (r / fct b) * nI (fct b) = nI (r % fct b) ∧ r / fct b < 6 ∧ r % fct b < fct b ∧ ¬ nI (fct b) = 0 ∧ ¬ nI (fct b) ≤ 0 := by decide +kernel
theorem oo_c (M : Nat → Nat → Int32) {b : Nat} (hb : b < 7) : q_X7_ordersOf M (nI b) ∧ f_X7_ordersOf M (nI b) = nI (fct b) := by
  refine ⟨⟨fun _ => vi hb (by decide), trivial⟩, ?_⟩
  unfold f_X7_ordersOf
  rw [show f_X8_isOutside M (nI b) 7 = 0 from oi_in (N := 7) hb (by decide), if_pos rfl, nI_clamp (by omega), fct_o _ (by omega)]
def lr (b left rest : Nat) : Nat → Nat × Nat
  | 0 => (left, rest)
  | j + 1 => (dif (lr b left rest j).1 (2 ^ mAt (lr b left rest j).1 ((lr b left rest j).2 / fct (b - 1 - j))), (lr b left rest j).2 % fct (b - 1 - j))
theorem lr_s (b left rest j : Nat) : lr b left rest (j + 1) = (dif (lr b left rest j).1 (2 ^ mAt (lr b left rest j).1 ((lr b left rest j).2 / fct (b - 1 - j))), (lr b left rest j).2 % fct (b - 1 - j)) := rfl
theorem lr_c (b left rest j : Nat) : lr (b + 1) left rest (j + 1) = lr b (dif left (2 ^ mAt left (rest / fct b))) (rest % fct b) j := by
  induction j with
  | zero => rfl
  | succ j ih => rw [lr_s, ih, lr_s, show b + 1 - 1 - (j + 1) = b - 1 - j by omega]
theorem gl_unr : ∀ (b j left rest : Nat), j < b → gl (unr b left rest) j = mAt (lr b left rest j).1 ((lr b left rest j).2 / fct (b - 1 - j))
  | 0, j, left, rest, h => absurd h (by omega)
  | b + 1, 0, left, rest, h => rfl
  | b + 1, j + 1, left, rest, h => by
    have e : gl (unr (b + 1) left rest) (j + 1) = gl (unr b (dif left (2 ^ mAt left (rest / fct b))) (rest % fct b)) j := rfl
    rw [e, gl_unr b j _ _ (by omega), lr_c, show b + 1 - 1 - (j + 1) = b - 1 - j by omega]
theorem lr_b {b left rest : Nat} (hb : b ≤ 5) (hl : left < 256) (hr : rest < fct b) : ∀ j, j ≤ b → (lr b left rest j).1 < 256 ∧ (lr b left rest j).2 < fct (b - j) := by
  intro j
  induction j with
  | zero => exact fun _ => ⟨hl, hr⟩
  | succ j ih =>
    intro hj
    obtain ⟨i1, i2⟩ := ih (by omega)
    rw [lr_s]
    refine ⟨Nat.lt_of_le_of_lt Nat.and_le_left i1, ?_⟩
    have := (fct_d (b - 1 - j) (by omega) (lr b left rest j).2 (by rw [show b - 1 - j + 1 = b - j by omega]; exact i2)).2.2.2.1
    rw [show b - (j + 1) = b - 1 - j by omega]
    exact this
/-! what an order of matters does -/
def fs (kd w : Nat → Int32) (q : Int32) (n mm : Nat) (l : Nat → Nat) (s : Nat → Int32) : Nat → Int32 × Int32 × (Nat → Int32)
  | 0 => (0, 0, s)
  | j + 1 => ((fs kd w q n mm l s j).1 * 10 + nI (l j) + 1, (if 0 < mg kd w (fs kd w q n mm l s j).2.2 n mm (nI (l j)) then (fs kd w q n mm l s j).2.1 + 1 else (fs kd w q n mm l s j).2.1), pt kd w (fs kd w q n mm l s j).2.2 q n mm (nI (l j)))
theorem fs_s (kd w : Nat → Int32) (q : Int32) (n mm : Nat) (l : Nat → Nat) (s : Nat → Int32) (j : Nat) : fs kd w q n mm l s (j + 1) = ((fs kd w q n mm l s j).1 * 10 + nI (l j) + 1, (if 0 < mg kd w (fs kd w q n mm l s j).2.2 n mm (nI (l j)) then (fs kd w q n mm l s j).2.1 + 1 else (fs kd w q n mm l s j).2.1), pt kd w (fs kd w q n mm l s j).2.2 q n mm (nI (l j))) := rfl
def bst (kd w : Nat → Int32) (q : Int32) (n mm : Nat) (s : Nat → Int32) (N st : Nat) : Nat → Int32 × Int32
  | 0 => (-1, 0)
  | K + 1 => if (fs kd w q n mm (gl (unr N st K)) s N).2.1 ≤ (bst kd w q n mm s N st K).1 then bst kd w q n mm s N st K else ((fs kd w q n mm (gl (unr N st K)) s N).2.1, (fs kd w q n mm (gl (unr N st K)) s N).1)
theorem bst_s (kd w : Nat → Int32) (q : Int32) (n mm : Nat) (s : Nat → Int32) (N st K : Nat) : bst kd w q n mm s N st (K + 1) = if (fs kd w q n mm (gl (unr N st K)) s N).2.1 ≤ (bst kd w q n mm s N st K).1 then bst kd w q n mm s N st K else ((fs kd w q n mm (gl (unr N st K)) s N).2.1, (fs kd w q n mm (gl (unr N st K)) s N).1) := rfl
theorem ta_8 (M : Nat → Nat → Int32) (a b g c4 c5 c6 c7 c8 : Int32) (j : Nat) : (s_X7_tryAgenda_32_34 M a b g c4 c5 c6 c7 c8 j).2.2.2.2.1 = c8 - nI j := by
  induction j with
  | zero => exact (Int32.sub_zero c8).symm
  | succ j ih =>
    have hs : (s_X7_tryAgenda_32_34 M a b g c4 c5 c6 c7 c8 (j + 1)).2.2.2.2.1 = (s_X7_tryAgenda_32_34 M a b g c4 c5 c6 c7 c8 j).2.2.2.2.1 + (-1) := rfl
    rw [hs, ih, ← nI_1]
    simp only [Int32.sub_eq_add_neg, Int32.neg_add, Int32.add_assoc]
theorem d58 : ∀ N, N < 6 → nI N - 1 - nI N < 0 ∧ nI N - 1 - nI 6 < 0 ∧ ∀ j, j < N → ¬ nI N - 1 - nI j < 0 ∧ nI N - 1 - nI j = nI (N - 1 - j) := by decide +kernel
theorem ta_i {A : Nat → Nat → Int32} {s kd w : Nat → Int32} {q : Int32} {n mm : Nat} (h : CS_42 A s kd w q n mm) {N st K : Nat} (hN : N < 6) (hst : st < 256) (hK : K < fct N) (a b g : Int32) : ∀ j, j ≤ N → (∀ i, i < j → qi_X7_tryAgenda_32_34 (s_X7_tryAgenda_32_34 A a b g (nI st) (nI K) 0 0 (nI N - 1) i).2.2.2.2.2 a b g (s_X7_tryAgenda_32_34 A a b g (nI st) (nI K) 0 0 (nI N - 1) i).1 (s_X7_tryAgenda_32_34 A a b g (nI st) (nI K) 0 0 (nI N - 1) i).2.1 (s_X7_tryAgenda_32_34 A a b g (nI st) (nI K) 0 0 (nI N - 1) i).2.2.1 (s_X7_tryAgenda_32_34 A a b g (nI st) (nI K) 0 0 (nI N - 1) i).2.2.2.1 (s_X7_tryAgenda_32_34 A a b g (nI st) (nI K) 0 0 (nI N - 1) i).2.2.2.2.1) ∧ (s_X7_tryAgenda_32_34 A a b g (nI st) (nI K) 0 0 (nI N - 1) j).1 = nI (lr N st K j).1 ∧ (s_X7_tryAgenda_32_34 A a b g (nI st) (nI K) 0 0 (nI N - 1) j).2.1 = nI (lr N st K j).2 ∧ (s_X7_tryAgenda_32_34 A a b g (nI st) (nI K) 0 0 (nI N - 1) j).2.2.1 = (fs kd w q n mm (gl (unr N st K)) s j).1 ∧ (s_X7_tryAgenda_32_34 A a b g (nI st) (nI K) 0 0 (nI N - 1) j).2.2.2.1 = (fs kd w q n mm (gl (unr N st K)) s j).2.1 ∧ CS_42 (s_X7_tryAgenda_32_34 A a b g (nI st) (nI K) 0 0 (nI N - 1) j).2.2.2.2.2 (fs kd w q n mm (gl (unr N st K)) s j).2.2 kd w q n mm := by
  intro j
  induction j with
  | zero => exact fun _ => ⟨fun i hi => absurd hi (by omega), rfl, rfl, rfl, rfl, h⟩
  | succ j ih =>
    intro hj
    obtain ⟨i0, i1, i2, i3, i4, i5⟩ := ih (by omega)
    have e8 := ta_8 A a b g (nI st) (nI K) 0 0 (nI N - 1) j
    obtain ⟨b1, b2⟩ := lr_b (b := N) (by omega) hst hK j (by omega)
    obtain ⟨n1, n2⟩ := (d58 N hN).2.2 j (by omega)
    have hg := gl_unr N j st K (by omega)
    have hs : s_X7_tryAgenda_32_34 A a b g (nI st) (nI K) 0 0 (nI N - 1) (j + 1) = (e_X7_tryAgenda_32_34_c4 (s_X7_tryAgenda_32_34 A a b g (nI st) (nI K) 0 0 (nI N - 1) j).2.2.2.2.2 a b g (s_X7_tryAgenda_32_34 A a b g (nI st) (nI K) 0 0 (nI N - 1) j).1 (s_X7_tryAgenda_32_34 A a b g (nI st) (nI K) 0 0 (nI N - 1) j).2.1 (s_X7_tryAgenda_32_34 A a b g (nI st) (nI K) 0 0 (nI N - 1) j).2.2.1 (s_X7_tryAgenda_32_34 A a b g (nI st) (nI K) 0 0 (nI N - 1) j).2.2.2.1 (s_X7_tryAgenda_32_34 A a b g (nI st) (nI K) 0 0 (nI N - 1) j).2.2.2.2.1, e_X7_tryAgenda_32_34_c5 (s_X7_tryAgenda_32_34 A a b g (nI st) (nI K) 0 0 (nI N - 1) j).2.2.2.2.2 a b g (s_X7_tryAgenda_32_34 A a b g (nI st) (nI K) 0 0 (nI N - 1) j).1 (s_X7_tryAgenda_32_34 A a b g (nI st) (nI K) 0 0 (nI N - 1) j).2.1 (s_X7_tryAgenda_32_34 A a b g (nI st) (nI K) 0 0 (nI N - 1) j).2.2.1 (s_X7_tryAgenda_32_34 A a b g (nI st) (nI K) 0 0 (nI N - 1) j).2.2.2.1 (s_X7_tryAgenda_32_34 A a b g (nI st) (nI K) 0 0 (nI N - 1) j).2.2.2.2.1, e_X7_tryAgenda_32_34_c6 (s_X7_tryAgenda_32_34 A a b g (nI st) (nI K) 0 0 (nI N - 1) j).2.2.2.2.2 a b g (s_X7_tryAgenda_32_34 A a b g (nI st) (nI K) 0 0 (nI N - 1) j).1 (s_X7_tryAgenda_32_34 A a b g (nI st) (nI K) 0 0 (nI N - 1) j).2.1 (s_X7_tryAgenda_32_34 A a b g (nI st) (nI K) 0 0 (nI N - 1) j).2.2.1 (s_X7_tryAgenda_32_34 A a b g (nI st) (nI K) 0 0 (nI N - 1) j).2.2.2.1 (s_X7_tryAgenda_32_34 A a b g (nI st) (nI K) 0 0 (nI N - 1) j).2.2.2.2.1, e_X7_tryAgenda_32_34_c7 (s_X7_tryAgenda_32_34 A a b g (nI st) (nI K) 0 0 (nI N - 1) j).2.2.2.2.2 a b g (s_X7_tryAgenda_32_34 A a b g (nI st) (nI K) 0 0 (nI N - 1) j).1 (s_X7_tryAgenda_32_34 A a b g (nI st) (nI K) 0 0 (nI N - 1) j).2.1 (s_X7_tryAgenda_32_34 A a b g (nI st) (nI K) 0 0 (nI N - 1) j).2.2.1 (s_X7_tryAgenda_32_34 A a b g (nI st) (nI K) 0 0 (nI N - 1) j).2.2.2.1 (s_X7_tryAgenda_32_34 A a b g (nI st) (nI K) 0 0 (nI N - 1) j).2.2.2.2.1, e_X7_tryAgenda_32_34_c8 (s_X7_tryAgenda_32_34 A a b g (nI st) (nI K) 0 0 (nI N - 1) j).2.2.2.2.2 a b g (s_X7_tryAgenda_32_34 A a b g (nI st) (nI K) 0 0 (nI N - 1) j).1 (s_X7_tryAgenda_32_34 A a b g (nI st) (nI K) 0 0 (nI N - 1) j).2.1 (s_X7_tryAgenda_32_34 A a b g (nI st) (nI K) 0 0 (nI N - 1) j).2.2.1 (s_X7_tryAgenda_32_34 A a b g (nI st) (nI K) 0 0 (nI N - 1) j).2.2.2.1 (s_X7_tryAgenda_32_34 A a b g (nI st) (nI K) 0 0 (nI N - 1) j).2.2.2.2.1, e_X7_tryAgenda_32_34_M (s_X7_tryAgenda_32_34 A a b g (nI st) (nI K) 0 0 (nI N - 1) j).2.2.2.2.2 a b g (s_X7_tryAgenda_32_34 A a b g (nI st) (nI K) 0 0 (nI N - 1) j).1 (s_X7_tryAgenda_32_34 A a b g (nI st) (nI K) 0 0 (nI N - 1) j).2.1 (s_X7_tryAgenda_32_34 A a b g (nI st) (nI K) 0 0 (nI N - 1) j).2.2.1 (s_X7_tryAgenda_32_34 A a b g (nI st) (nI K) 0 0 (nI N - 1) j).2.2.2.1 (s_X7_tryAgenda_32_34 A a b g (nI st) (nI K) 0 0 (nI N - 1) j).2.2.2.2.1) := rfl
    have key : ∀ (B : Nat → Nat → Int32) (r c7 c8 : Int32), c8 = nI (N - 1 - j) → CS_42 B (fs kd w q n mm (gl (unr N st K)) s j).2.2 kd w q n mm → qi_X7_tryAgenda_32_34 B a b g (nI (lr N st K j).1) (nI (lr N st K j).2) r c7 c8 ∧ e_X7_tryAgenda_32_34_c4 B a b g (nI (lr N st K j).1) (nI (lr N st K j).2) r c7 c8 = nI (lr N st K (j + 1)).1 ∧ e_X7_tryAgenda_32_34_c5 B a b g (nI (lr N st K j).1) (nI (lr N st K j).2) r c7 c8 = nI (lr N st K (j + 1)).2 ∧ e_X7_tryAgenda_32_34_c6 B a b g (nI (lr N st K j).1) (nI (lr N st K j).2) r c7 c8 = r * 10 + nI (gl (unr N st K) j) + 1 ∧ e_X7_tryAgenda_32_34_c7 B a b g (nI (lr N st K j).1) (nI (lr N st K j).2) r c7 c8 = (if 0 < mg kd w (fs kd w q n mm (gl (unr N st K)) s j).2.2 n mm (nI (gl (unr N st K) j)) then c7 + 1 else c7) ∧ CS_42 (e_X7_tryAgenda_32_34_M B a b g (nI (lr N st K j).1) (nI (lr N st K j).2) r c7 c8) (pt kd w (fs kd w q n mm (gl (unr N st K)) s j).2.2 q n mm (nI (gl (unr N st K) j))) kd w q n mm := by
      intro B r c7 c8 h8 hB
      subst h8
      obtain ⟨d1, d2, d3, d4, d5, d6⟩ := fct_d (N - 1 - j) (by omega) (lr N st K j).2 (by rw [show N - 1 - j + 1 = N - j by omega]; exact b2)
      obtain ⟨m1, m2⟩ := mA_c B b1 d3
      have m3 := (mA_d _ b1 _ d3).2.2
      obtain ⟨p1, p2, p3⟩ := pm_33 hB (nI (gl (unr N st K) j))
      unfold qi_X7_tryAgenda_32_34 e_X7_tryAgenda_32_34_c4 e_X7_tryAgenda_32_34_c5 e_X7_tryAgenda_32_34_c6 e_X7_tryAgenda_32_34_c7 e_X7_tryAgenda_32_34_M
      obtain ⟨o1, o2⟩ := oo_c B (b := N - 1 - j) (by omega)
      rw [lr_s, o2]
      simp only [if_neg d6]
      rw [d1, d2, m2, ← hg, p2]
      rw [← hg] at m3
      refine ⟨⟨fun _ => o1, fun _ z => absurd z d6, fun _ z => absurd z d6, fun _ _ => decide_eq_true d5, fun _ _ => m1, fun _ _ => p1, trivial⟩, ?_, rfl, rfl, ?_, p3⟩
      · rw [sh1 _ (by omega), i_dif (by omega) (Nat.lt_of_lt_of_le (Nat.pow_lt_pow_right (by decide) m3) (by decide))]
      · by_cases c : 0 < mg kd w (fs kd w q n mm (gl (unr N st K)) s j).2.2 n mm (nI (gl (unr N st K) j))
        · rw [if_pos c, if_pos c, if_neg (by decide)]
        · rw [if_neg c, if_neg c, if_pos rfl]
    rw [hs]
    clear hs
    generalize s_X7_tryAgenda_32_34 A a b g (nI st) (nI K) 0 0 (nI N - 1) = S at *
    generalize hr : S j = r at *
    obtain ⟨r1, r2, r3, r4, r5, r6⟩ := r
    dsimp only at i1 i2 i3 i4 i5 e8 ⊢
    subst i1 i2
    obtain ⟨k1, k2, k3, k4, k5, k6⟩ := key r6 r3 r4 r5 (e8.trans n2) i5
    rw [fs_s, ← i3, ← i4]
    refine ⟨fun i hi => ?_, k2, k3, k4, k5, k6⟩
    by_cases c : i = j
    · subst c; rw [hr]; exact k1
    · exact i0 i (by omega)
theorem ta_c {M : Nat → Nat → Int32} {s kd w : Nat → Int32} {q : Int32} {n mm : Nat} (h : CS_28 M s kd w q n mm) {N st K : Nat} (hN : N < 6) (hst : st < 256) (hK : K < fct N) : q_X7_tryAgenda_32 M (nI st) (nI N) (nI K) ∧ g_X7_tryAgenda_32 M (nI st) (nI N) (nI K) 32 5 = (if (fs kd w q n mm (gl (unr N st K)) s N).2.1 ≤ M 32 5 then M 32 5 else (fs kd w q n mm (gl (unr N st K)) s N).2.1) ∧ g_X7_tryAgenda_32 M (nI st) (nI N) (nI K) 32 6 = (if (fs kd w q n mm (gl (unr N st K)) s N).2.1 ≤ M 32 5 then M 32 6 else (fs kd w q n mm (gl (unr N st K)) s N).1) := by
  obtain ⟨h42, hf⟩ := CS_34 h
  have e32 := hf 32 (by decide)
  unfold q_X7_tryAgenda_32 g_X7_tryAgenda_32
  generalize g_X0_copyFrom_34_20 M = A at *
  have TI := ta_i h42 hN hst hK (nI st) (nI N) (nI K)
  have T8 := ta_8 A (nI st) (nI N) (nI K) (nI st) (nI K) 0 0 (nI N - 1)
  have TF := fun j => fr_s_X7_tryAgenda_32_34 A (nI st) (nI N) (nI K) (nI st) (nI K) 0 0 (nI N - 1) j 32 (by decide) (by decide) (by decide) (by decide) (by decide) (by decide) (by decide) (by decide) (by decide) (by decide)
  have eN : n_X7_tryAgenda_32_34 A (nI st) (nI N) (nI K) (nI st) (nI K) 0 0 (nI N - 1) = N := by
    unfold n_X7_tryAgenda_32_34 t_X7_tryAgenda_32_34
    refine z_fst_eq (by omega) (fun k hk => ?_) ?_
    · rw [T8, if_neg ((d58 N hN).2.2 k hk).1]
    · rw [T8, if_pos (d58 N hN).1]
  rw [eN]
  clear eN
  obtain ⟨t0, t1, t2, t3, t4, t5⟩ := TI N (Nat.le_refl _)
  have tN := TF N
  have n8 : (s_X7_tryAgenda_32_34 A (nI st) (nI N) (nI K) (nI st) (nI K) 0 0 (nI N - 1) N).2.2.2.2.1 < 0 := by rw [T8]; exact (d58 N hN).1
  have n6 : (s_X7_tryAgenda_32_34 A (nI st) (nI N) (nI K) (nI st) (nI K) 0 0 (nI N - 1) 6).2.2.2.2.1 < 0 := by rw [T8]; exact (d58 N hN).2.1
  refine ⟨⟨t0, by unfold t_X7_tryAgenda_32_34; rw [if_pos n6], fun c => absurd n8 c, fun c => absurd n8 c, fun c => absurd n8 c, fun c => absurd n8 c, fun c => absurd n8 c, fun c => absurd n8 c, trivial⟩, ?_⟩
  clear t0 n8 n6 TI T8 TF
  generalize s_X7_tryAgenda_32_34 A (nI st) (nI N) (nI K) (nI st) (nI K) 0 0 (nI N - 1) N = r at *
  rw [t3, t4, tN, e32]
  by_cases c : (fs kd w q n mm (gl (unr N st K)) s N).2.1 ≤ M 32 5
  · rw [if_pos c, if_pos c, if_pos c, tN, e32]
    exact ⟨rfl, rfl⟩
  · rw [if_neg c, if_neg c, if_neg c, z_row_eq]
    exact ⟨rfl, rfl⟩
theorem fa_c {M : Nat → Nat → Int32} {s kd w : Nat → Int32} {q : Int32} {n mm : Nat} (h : CS_28 M s kd w q n mm) {st : Nat} (hst : st < 256) (h5 : pc st < 6) : q_X7_findAgenda_32 M (nI st) ∧ g_X7_findAgenda_32 M (nI st) 32 5 = (bst kd w q n mm s (pc st) st (fct (pc st))).1 ∧ g_X7_findAgenda_32 M (nI st) 32 6 = (bst kd w q n mm s (pc st) st (fct (pc st))).2 := by
  unfold q_X7_findAgenda_32 g_X7_findAgenda_32
  have hA : CS_28 (z_row (z_row M 32 (upd (M 32) 5 (-1))) 32 (upd (upd (M 32) 5 (-1)) 6 0)) s kd w q n mm := CS_cong_28 h (fun c hc => by rw [z_row_ne (by omega), z_row_ne (by omega)])
  have a5 : (z_row (z_row M 32 (upd (M 32) 5 (-1))) 32 (upd (upd (M 32) 5 (-1)) 6 0)) 32 5 = -1 := rfl
  have a6 : (z_row (z_row M 32 (upd (M 32) 5 (-1))) 32 (upd (upd (M 32) 5 (-1)) 6 0)) 32 6 = 0 := rfl
  generalize (z_row (z_row M 32 (upd (M 32) 5 (-1))) 32 (upd (upd (M 32) 5 (-1)) 6 0)) = A at *
  have hf : fct (pc st) < 2147483648 := by
    have : ∀ b, b < 6 → fct b < 2147483648 := by decide
    exact this _ h5
  obtain ⟨o1, o2⟩ := oo_c A (b := pc st) (by omega)
  rw [bc_c A (by omega), o2, nI_clamp hf]
  generalize pc st = N at *
  have key : ∀ K, K ≤ fct N → (∀ k, k < K → qi_X7_findAgenda_32_23 (s_X7_findAgenda_32_23 A (nI st) (nI N) (nI (fct N)) k) (nI st) (nI N) (nI (fct N)) (nI k)) ∧ CS_28 (s_X7_findAgenda_32_23 A (nI st) (nI N) (nI (fct N)) K) s kd w q n mm ∧ s_X7_findAgenda_32_23 A (nI st) (nI N) (nI (fct N)) K 32 5 = (bst kd w q n mm s N st K).1 ∧ s_X7_findAgenda_32_23 A (nI st) (nI N) (nI (fct N)) K 32 6 = (bst kd w q n mm s N st K).2 := by
    intro K
    induction K with
    | zero => exact fun _ => ⟨fun k hk => absurd hk (by omega), hA, a5, a6⟩
    | succ K ih =>
      intro hK
      obtain ⟨i0, i1, i2, i3⟩ := ih (by omega)
      have hs : s_X7_findAgenda_32_23 A (nI st) (nI N) (nI (fct N)) (K + 1) = g_X7_tryAgenda_32 (s_X7_findAgenda_32_23 A (nI st) (nI N) (nI (fct N)) K) (nI st) (nI N) (nI K) := rfl
      obtain ⟨c1, c2, c3⟩ := ta_c i1 h5 hst (K := K) (by omega)
      have i1' : CS_28 (g_X7_tryAgenda_32 (s_X7_findAgenda_32_23 A (nI st) (nI N) (nI (fct N)) K) (nI st) (nI N) (nI K)) s kd w q n mm := CS_cong_28 i1 (fun c hc => fr_g_X7_tryAgenda_32 _ _ _ _ c (by omega) (by omega) (by omega) (by omega) (by omega) (by omega) (by omega) (by omega) (by omega) (by omega) (by omega) (by omega) (by omega) (by omega) (by omega) (by omega))
      rw [hs, c2, c3, i2, i3, bst_s]
      refine ⟨fun k hk => ?_, i1', ?_, ?_⟩
      · by_cases c : k = K
        · subst c; exact ⟨c1, trivial⟩
        · exact i0 k (by omega)
      · by_cases c : (fs kd w q n mm (gl (unr N st K)) s N).2.1 ≤ (bst kd w q n mm s N st K).1
        · rw [if_pos c, if_pos c]
        · rw [if_neg c, if_neg c]
      · by_cases c : (fs kd w q n mm (gl (unr N st K)) s N).2.1 ≤ (bst kd w q n mm s N st K).1
        · rw [if_pos c, if_pos c]
        · rw [if_neg c, if_neg c]
  obtain ⟨k0, _, k2, k3⟩ := key (fct N) (Nat.le_refl _)
  exact ⟨⟨o1, k0, trivial⟩, k2, k3⟩
