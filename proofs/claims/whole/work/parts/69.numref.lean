/-! THE TEXT: numbers and ends of the reference -/
theorem nu_w {M : Nat → Nat → Int32} (h : ¬ M 274 21 = 0) (a b : Int32) : q_X9_number_274 M a b ∧ f_X9_number_274 M a b = 0 ∧ g_X9_number_274 M a b = M := by
  unfold q_X9_number_274 f_X9_number_274 g_X9_number_274
  rw [if_neg h, if_neg h]
  exact ⟨⟨fun z => absurd z h, fun z => absurd z h, fun z => absurd z h, fun z => absurd z h, trivial⟩, rfl, rfl⟩
theorem ed_w {M : Nat → Nat → Int32} (h : ¬ M 274 21 = 0) : q_X9_ends_274 M ∧ g_X9_ends_274 M = M := by
  unfold q_X9_ends_274 g_X9_ends_274
  rw [if_neg h]
  exact ⟨⟨fun z => absurd z h, fun z => absurd z h, trivial⟩, rfl⟩
theorem nu_r {M : Nat → Nat → Int32} {tx : Nat → Int32} {len p : Nat} {l : Int32} (h : RD M tx len p 0 l) (hp : p ≤ 240) (a b : Int32) : q_X9_number_274 M a b ∧ (f_X9_number_274 M a b = if ff tx len (sk tx len p) a b = 0 then vl tx (sk tx len p) (nd tx len (sk tx len p)) else 0) ∧ RD (g_X9_number_274 M a b) tx len (sk tx len p + nd tx len (sk tx len p)) (ff tx len (sk tx len p) a b) (if ff tx len (sk tx len p) a b = 0 then l else nI (sk tx len p)) ∧ R8 M (g_X9_number_274 M a b) := by
  have hl := h.2.1
  have h21 := h.2.2.2.2.1
  obtain ⟨q1, hK, fK⟩ := sk_r h hp
  have hb := (sk_b tx hl hp).2.1
  unfold q_X9_number_274 f_X9_number_274 g_X9_number_274
  rw [if_pos h21, if_pos h21]
  generalize g_X9_skips_274 M = K at *
  generalize sk tx len p = s at *
  have e1 := hK.2.2.1
  have e2 := hK.2.2.2.1
  have e3' := hK.2.2.2.2.1
  have sl : ∀ k, k ≤ 240 → (s_X9_number_274_18 K a b 0 0 k).1 = nI k ∧ (k ≤ 3 → k ≤ nd tx len s → (s_X9_number_274_18 K a b 0 0 k).2 = vl tx s k) := by
    intro k
    induction k with
    | zero => exact fun _ => ⟨rfl, fun _ _ => rfl⟩
    | succ k ih =>
      intro hk
      obtain ⟨i1, i3⟩ := ih (by omega)
      have hs : s_X9_number_274_18 K a b 0 0 (k + 1) = ((s_X9_number_274_18 K a b 0 0 k).1 + 1, e_X9_number_274_18_c4 K a b (s_X9_number_274_18 K a b 0 0 k).1 (s_X9_number_274_18 K a b 0 0 k).2) := rfl
      rw [hs, i1, nI_1]
      refine ⟨rfl, fun h3 hn => ?_⟩
      have hd : dgt tx len s k = true := z_fst_t (p := dgt tx len s) (B := 240) (by unfold nd at hn; omega)
      unfold dgt at hd
      rw [Bool.and_eq_true, decide_eq_true_eq] at hd
      (try dsimp only)
      unfold e_X9_number_274_18_c4
      rw [i3 (by omega) (by omega), e2, if_neg (show ¬ (4 : Int32) ≤ nI k from fun z => absurd ((nI_leI (a := 4) (b := k) (by decide) (by omega)).mp z) (by omega)), cl_add (by omega), hK.1 _ hd.1, Int32.mul_comm]
      rfl
  have le : ∀ k, k ≤ 240 → (nI len ≤ nI (s + k) ↔ len ≤ s + k) := fun k hk => nI_leI (by omega) (by omega)
  have tt : ∀ k, k ≤ 240 → t_X9_number_274_18 K a b (s_X9_number_274_18 K a b 0 0 k).1 (s_X9_number_274_18 K a b 0 0 k).2 = dgt tx len s k := fun k hk => by
    unfold t_X9_number_274_18 dgt
    rw [(sl k hk).1, e1, e2, nI_add]
    by_cases c : len ≤ s + k
    · rw [if_pos ((le k hk).mpr c), decide_eq_false (by omega)]; rfl
    · rw [if_neg (fun z => c ((le k hk).mp z)), decide_eq_true (show s + k < len by omega), Bool.true_and, nI_clamp (by omega), hK.1 _ (by omega), in_eq]
      by_cases d : ¬ tx (s + k) < 48 ∧ tx (s + k) ≤ 57
      · rw [if_pos d, if_neg c10, decide_eq_true d]
      · rw [if_neg d, if_pos rfl, decide_eq_false d]
  have eN : n_X9_number_274_18 K a b 0 0 = nd tx len s := by unfold n_X9_number_274_18 nd; exact fz tt (dgt_240 tx hl)
  have hN : nd tx len s ≤ 240 := z_fst_le
  have qq : ∀ k, k ≤ 240 → ¬ K 274 1 ≤ K 274 20 + (s_X9_number_274_18 K a b 0 0 k).1 → z_vin (K 274 20 + (s_X9_number_274_18 K a b 0 0 k).1) 240 = true := fun k hk c => by
    rw [(sl k hk).1, e1, e2, nI_add] at c
    have : ¬ len ≤ s + k := fun z => c ((le k hk).mpr z)
    rw [(sl k hk).1, e2, nI_add]
    exact vi (by omega) (by decide)
  rw [eN]
  refine ⟨⟨fun _ => q1, fun _ k hk => ⟨qq k (by omega), trivial⟩, fun _ => by rw [tt 240 (Nat.le_refl _)]; exact dgt_240 tx hl, fun _ => qq _ hN, trivial⟩, ?_⟩
  obtain ⟨y1, y3⟩ := sl _ hN
  clear qq tt eN sl le q1
  unfold ff
  generalize hn : nd tx len s = N at *
  generalize s_X9_number_274_18 K a b 0 0 N = r at *
  rw [y1]
  have e0 : (nI N = 0) ↔ N = 0 := nI_eq (b := 0) (by omega) (by decide)
  have e3 : ((3 : Int32) < nI N) ↔ 3 < N := nI_ltI (a := 3) (by decide) (by omega)
  have h1 : ∀ X : Nat → Nat → Int32, (if K 274 1 ≤ K 274 20 + nI N then X else X) = X := fun X => by split <;> rfl
  have h2 : ∀ X : Int32, (if K 274 1 ≤ K 274 20 + nI N then X else X) = X := fun X => by split <;> rfl
  rw [h1, h2]
  have fin : ∀ f : Int32, ¬ f = 0 → (if g_X9_fails_274 K f 274 21 = 0 then r.2 else 0) = 0 ∧ RD (z_row (g_X9_fails_274 K f) 274 (upd (g_X9_fails_274 K f 274) 20 (g_X9_fails_274 K f 274 20 + nI N))) tx len (s + N) f (nI s) ∧ R8 M (z_row (g_X9_fails_274 K f) 274 (upd (g_X9_fails_274 K f 274) 20 (g_X9_fails_274 K f 274 20 + nI N))) := fun f hf => by
    obtain ⟨b1, b2⟩ := RD_f hK f
    obtain ⟨a1, a2⟩ := RD_at (p' := s + N) b1 (x := g_X9_fails_274 K f 274 20 + nI N) (by rw [b1.2.2.2.1, nI_add])
    exact ⟨by rw [b1.2.2.2.2.1, if_neg hf], a1, R8_t fK (R8_t b2 a2)⟩
  have f2 := fin 2 (by decide)
  by_cases c0 : N = 0
  · rw [if_neg (not_not_intro (e0.mpr c0)), if_neg (not_not_intro (e0.mpr c0)), if_pos c0, if_neg c10, if_neg c10]; exact fin 1 (by decide)
  · rw [if_pos (fun z => c0 (e0.mp z)), if_pos (fun z => c0 (e0.mp z)), if_neg c0]
    have c20 : ¬ (2 : Int32) = 0 := by decide
    by_cases c3 : 3 < N
    · rw [if_pos (e3.mpr c3), if_pos (e3.mpr c3), if_pos c3, if_neg c20, if_neg c20]; exact f2
    · rw [if_neg (fun z => c3 (e3.mp z)), if_neg (fun z => c3 (e3.mp z)), if_neg c3, y3 (by omega) (Nat.le_refl _), in_eq]
      rw [y3 (by omega) (Nat.le_refl _)] at f2
      by_cases c1 : vl tx s N < a
      · rw [if_pos c1, if_neg (show ¬ (¬ vl tx s N < a ∧ vl tx s N ≤ b) from fun z => z.1 c1), if_neg (not_not_intro rfl), if_neg (not_not_intro rfl), if_neg c20, if_neg c20]; exact f2
      · rw [if_neg c1]
        by_cases c2 : vl tx s N ≤ b
        · rw [if_pos c2, if_pos (show ¬ vl tx s N < a ∧ vl tx s N ≤ b from ⟨c1, c2⟩), if_pos c10, if_pos c10, if_pos rfl, if_pos rfl, e3', if_pos rfl]
          obtain ⟨a1, a2⟩ := RD_at (p' := s + N) hK (x := K 274 20 + nI N) (by rw [e2, nI_add])
          exact ⟨rfl, a1, R8_t fK a2⟩
        · rw [if_neg c2, if_neg (show ¬ (¬ vl tx s N < a ∧ vl tx s N ≤ b) from fun z => c2 z.2), if_neg (not_not_intro rfl), if_neg (not_not_intro rfl), if_neg c20, if_neg c20]; exact f2
theorem ed_r {M : Nat → Nat → Int32} {tx : Nat → Int32} {len p : Nat} {l : Int32} (h : RD M tx len p 0 l) (hp : p ≤ 240) : q_X9_ends_274 M ∧ RD (g_X9_ends_274 M) tx len (pe tx len (sk tx len p)) (ee tx len (sk tx len p)) (if ee tx len (sk tx len p) = 0 then l else nI (sk tx len p)) ∧ R8 M (g_X9_ends_274 M) := by
  have hl := h.2.1
  have h21 := h.2.2.2.2.1
  obtain ⟨q1, hK, fK⟩ := sk_r h hp
  have hb := (sk_b tx hl hp).2.1
  unfold q_X9_ends_274 g_X9_ends_274 ee pe
  rw [if_pos h21]
  generalize g_X9_skips_274 M = K at *
  generalize sk tx len p = s at *
  obtain ⟨w1, w2⟩ := he_q hK (by omega)
  refine ⟨⟨fun _ => q1, fun _ => w1, trivial⟩, ?_⟩
  rw [w2]
  obtain ⟨b1, b2⟩ := RD_f hK 1
  by_cases c : s < len ∧ tx s = 59
  · obtain ⟨a1, a2⟩ := RD_at (p' := s + 1) hK (x := K 274 20 + 1) (by rw [hK.2.2.2.1, nI_1])
    rw [if_pos c, if_pos c, if_pos c.1, if_neg (not_not_intro c.2), if_pos rfl]
    exact ⟨a1, R8_t fK a2⟩
  · have : ¬ (if s < len then tx s else -1) = 59 := by
      by_cases d : s < len
      · rw [if_pos d]; exact fun z => c ⟨d, z⟩
      · rw [if_neg d]; decide
    rw [if_neg c, if_neg c, if_pos this, if_neg c10]
    exact ⟨b1, R8_t fK b2⟩
