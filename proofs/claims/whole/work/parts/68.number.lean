/-! THE TEXT: numbers and ends -/
def ff (tx : Nat → Int32) (len p : Nat) (a b : Int32) : Int32 := if nd tx len p = 0 then 1 else if 3 < nd tx len p then 2 else if vl tx p (nd tx len p) < a then 2 else if vl tx p (nd tx len p) ≤ b then 0 else 2
def lt_e (e f : Int32) : Int32 := if e = 0 then f else e
def lt_l (e f l x : Int32) : Int32 := if e = 0 then (if f = 0 then l else x) else l
theorem CR_fx {M : Nat → Nat → Int32} {tx : Nat → Int32} {len p : Nat} {e l : Int32} (h : CR M tx len p e l) {f x : Int32} (hf : ¬ f = 0) : CR (g_X5_blame_2 M f x) tx len p (lt_e e f) (lt_l e f l x) ∧ ∀ c, c ≠ 2 → g_X5_blame_2 M f x c = M c := by
  unfold lt_e lt_l
  rw [if_neg hf]
  exact CR_bl h f x
theorem CR_f0 {M : Nat → Nat → Int32} {tx : Nat → Int32} {len p : Nat} {e l x : Int32} (h : CR M tx len p e l) : CR M tx len p (lt_e e 0) (lt_l e 0 l x) := by
  unfold lt_e lt_l
  by_cases c : e = 0
  · subst c; exact h
  · rw [if_neg c, if_neg c]; exact h
theorem nu_c {M : Nat → Nat → Int32} {tx : Nat → Int32} {len p : Nat} {e l : Int32} (h : CR M tx len p e l) (hp : p ≤ 240) (a b : Int32) : q_X5_readNumber_2 M a b ∧ (nd tx len (sk tx len p) ≤ 3 → f_X5_readNumber_2 M a b = vl tx (sk tx len p) (nd tx len (sk tx len p))) ∧ CR (g_X5_readNumber_2 M a b) tx len (sk tx len p + nd tx len (sk tx len p)) (lt_e e (ff tx len (sk tx len p) a b)) (lt_l e (ff tx len (sk tx len p) a b) l (nI (sk tx len p))) ∧ ∀ c, c ≠ 2 → g_X5_readNumber_2 M a b c = M c := by
  have hl := h.2.1
  obtain ⟨q1, hK, fK⟩ := sk_c h hp
  have hb := (sk_b tx hl hp).2.1
  unfold q_X5_readNumber_2 f_X5_readNumber_2 g_X5_readNumber_2
  generalize g_X5_skipBlanks_2 M = K at *
  generalize sk tx len p = s at *
  have e2 := hK.2.2.2.1
  rw [e2]
  have sl : ∀ k, k ≤ 240 → CR (s_X5_readNumber_2_12 K a b (nI s) 0 k).2 tx len (s + k) e l ∧ (∀ c, c ≠ 2 → (s_X5_readNumber_2_12 K a b (nI s) 0 k).2 c = K c) ∧ (k ≤ 3 → k ≤ nd tx len s → (s_X5_readNumber_2_12 K a b (nI s) 0 k).1 = vl tx s k) := by
    intro k
    induction k with
    | zero => exact fun _ => ⟨hK, fun _ _ => rfl, fun _ _ => rfl⟩
    | succ k ih =>
      intro hk
      obtain ⟨i1, i2, i3⟩ := ih (by omega)
      have hs : s_X5_readNumber_2_12 K a b (nI s) 0 (k + 1) = (e_X5_readNumber_2_12_c4 (s_X5_readNumber_2_12 K a b (nI s) 0 k).2 a b (nI s) (s_X5_readNumber_2_12 K a b (nI s) 0 k).1, z_row (s_X5_readNumber_2_12 K a b (nI s) 0 k).2 2 (upd ((s_X5_readNumber_2_12 K a b (nI s) 0 k).2 2) 2 ((s_X5_readNumber_2_12 K a b (nI s) 0 k).2 2 2 + 1))) := rfl
      obtain ⟨a1, a2⟩ := CR_at (p' := s + (k + 1)) i1 (x := (s_X5_readNumber_2_12 K a b (nI s) 0 k).2 2 2 + 1) (by rw [i1.2.2.2.1, nI_1]; rfl)
      rw [hs]
      refine ⟨a1, fun c hc => (a2 c hc).trans (i2 c hc), fun h3 hn => ?_⟩
      have hd : dgt tx len s k = true := z_fst_t (p := dgt tx len s) (B := 240) (by unfold nd at hn; omega)
      unfold dgt at hd
      rw [Bool.and_eq_true, decide_eq_true_eq] at hd
      (try dsimp only)
      unfold e_X5_readNumber_2_12_c4
      have es : nI (s + k) - nI s = nI k := by rw [pk_sub (by omega), show s + k - s = k by omega]
      rw [i3 (by omega) (by omega), i1.2.2.2.1, es, if_neg (show ¬ (3 : Int32) ≤ nI k from fun z => absurd ((nI_leI (a := 3) (b := k) (by decide) (by omega)).mp z) (by omega)), nI_clamp (by omega), i1.1 _ hd.1]
      rfl
  have le : ∀ k, k ≤ 240 → (nI len ≤ nI (s + k) ↔ len ≤ s + k) := fun k hk => nI_leI (by omega) (by omega)
  have tt : ∀ k, k ≤ 240 → t_X5_readNumber_2_12 (s_X5_readNumber_2_12 K a b (nI s) 0 k).2 a b (nI s) (s_X5_readNumber_2_12 K a b (nI s) 0 k).1 = dgt tx len s k := fun k hk => by
    obtain ⟨⟨c1, c2, c3, c4, _, _⟩, _⟩ := sl k hk
    unfold t_X5_readNumber_2_12 dgt
    rw [c3, c4]
    by_cases c : len ≤ s + k
    · rw [if_pos ((le k hk).mpr c), decide_eq_false (by omega)]; rfl
    · rw [if_neg (fun z => c ((le k hk).mp z)), decide_eq_true (show s + k < len by omega), Bool.true_and, nI_clamp (by omega), c1 _ (by omega)]
      unfold f_X5_isFigure
      by_cases d1 : tx (s + k) < 48
      · rw [if_pos d1, if_pos rfl, decide_eq_false (fun z => z.1 d1)]
      · rw [if_neg d1]
        by_cases d2 : tx (s + k) ≤ 57
        · rw [if_neg (show ¬ (57 : Int32) < tx (s + k) from Int32.not_lt.mpr d2), if_neg c10, decide_eq_true ⟨d1, d2⟩]
        · rw [if_pos (show (57 : Int32) < tx (s + k) from Int32.not_le.mp d2), if_pos rfl, decide_eq_false (fun z => d2 z.2)]
  have eN : n_X5_readNumber_2_12 K a b (nI s) 0 = nd tx len s := by unfold n_X5_readNumber_2_12 nd; exact fz tt (dgt_240 tx hl)
  have hN : nd tx len s ≤ 240 := z_fst_le
  have qq : ∀ k, k ≤ 240 → ¬ (s_X5_readNumber_2_12 K a b (nI s) 0 k).2 2 1 ≤ (s_X5_readNumber_2_12 K a b (nI s) 0 k).2 2 2 → z_vin ((s_X5_readNumber_2_12 K a b (nI s) 0 k).2 2 2) 240 = true := fun k hk c => by
    obtain ⟨⟨c1, c2, c3, c4, _, _⟩, _⟩ := sl k hk
    rw [c3, c4] at c
    have : ¬ len ≤ s + k := fun z => c ((le k hk).mpr z)
    rw [c4]
    exact vi (by omega) (by decide)
  rw [eN]
  refine ⟨⟨q1, fun k hk => ⟨qq k (by omega), trivial⟩, by rw [tt 240 (Nat.le_refl _)]; exact dgt_240 tx hl, qq _ hN, trivial⟩, fun h3 => (sl _ hN).2.2 h3 (Nat.le_refl _), ?_⟩
  obtain ⟨y1, y2, y3⟩ := sl _ hN
  clear qq tt eN sl le
  have y4 := y1.2.2.2.1
  unfold ff
  generalize hn : nd tx len s = N at *
  generalize s_X5_readNumber_2_12 K a b (nI s) 0 N = r at *
  have es : nI (s + N) - nI s = nI N := by rw [pk_sub (by omega), show s + N - s = N by omega]
  have e0 : (nI (s + N) = nI s) ↔ N = 0 := (nI_eq (by omega) (by omega)).trans (by omega)
  have e3 : ((3 : Int32) < nI N) ↔ 3 < N := nI_ltI (a := 3) (by decide) (by omega)
  rw [y4, es]
  have fin : ∀ f : Int32, ¬ f = 0 → CR (g_X5_blame_2 r.2 f (nI s)) tx len (s + N) (lt_e e f) (lt_l e f l (nI s)) ∧ ∀ c, c ≠ 2 → g_X5_blame_2 r.2 f (nI s) c = M c := fun f hf => by
    obtain ⟨b1, b2⟩ := CR_fx y1 (x := nI s) hf
    exact ⟨b1, fun c hc => (b2 c hc).trans ((y2 c hc).trans (fK c hc))⟩
  have good : CR r.2 tx len (s + N) (lt_e e 0) (lt_l e 0 l (nI s)) ∧ ∀ c, c ≠ 2 → r.2 c = M c := ⟨CR_f0 y1, fun c hc => (y2 c hc).trans (fK c hc)⟩
  have hh : ∀ X : Nat → Nat → Int32, (if r.2 2 1 ≤ nI (s + N) then X else X) = X := fun X => by split <;> rfl
  rw [hh]
  by_cases c0 : N = 0
  · rw [if_neg (not_not_intro (e0.mpr c0)), if_pos c0]; exact fin 1 (by decide)
  · rw [if_pos (fun z => c0 (e0.mp z)), if_neg c0]
    by_cases c3 : 3 < N
    · rw [if_pos (e3.mpr c3), if_pos c3]; exact fin 2 (by decide)
    · rw [if_neg (fun z => c3 (e3.mp z)), if_neg c3, y3 (by omega) (Nat.le_refl _)]
      by_cases c1 : vl tx s N < a
      · rw [if_pos c1, if_pos c1]; exact fin 2 (by decide)
      · rw [if_neg c1, if_neg c1]
        by_cases c2 : vl tx s N ≤ b
        · rw [if_pos c2, if_pos c2]; exact good
        · rw [if_neg c2, if_neg c2]; exact fin 2 (by decide)
def ee (tx : Nat → Int32) (len p : Nat) : Int32 := if p < len ∧ tx p = 59 then 0 else 1
def pe (tx : Nat → Int32) (len p : Nat) : Nat := if p < len ∧ tx p = 59 then p + 1 else p
theorem ed_c {M : Nat → Nat → Int32} {tx : Nat → Int32} {len p : Nat} {e l : Int32} (h : CR M tx len p e l) (hp : p ≤ 240) : q_X5_readEnd_2 M ∧ CR (g_X5_readEnd_2 M) tx len (pe tx len (sk tx len p)) (lt_e e (ee tx len (sk tx len p))) (lt_l e (ee tx len (sk tx len p)) l (nI (sk tx len p))) ∧ ∀ c, c ≠ 2 → g_X5_readEnd_2 M c = M c := by
  have hl := h.2.1
  obtain ⟨q1, hK, fK⟩ := sk_c h hp
  have hb := (sk_b tx hl hp).2.1
  unfold q_X5_readEnd_2 g_X5_readEnd_2 ee pe
  generalize g_X5_skipBlanks_2 M = K at *
  generalize sk tx len p = s at *
  have e1 := hK.2.2.1
  have e2 := hK.2.2.2.1
  have le : nI len ≤ nI s ↔ len ≤ s := nI_leI (by omega) (by omega)
  rw [e1, e2]
  have fin := CR_fx hK (f := 1) (x := nI s) (by decide)
  by_cases c : len ≤ s
  · rw [if_pos (le.mpr c), if_neg (show ¬ (s < len ∧ tx s = 59) from fun z => absurd z.1 (by omega)), if_neg (show ¬ (s < len ∧ tx s = 59) from fun z => absurd z.1 (by omega))]
    exact ⟨⟨q1, fun z => absurd (le.mpr c) z, trivial⟩, fin.1, fun c hc => (fin.2 c hc).trans (fK c hc)⟩
  · rw [if_neg (fun z => c (le.mp z)), nI_clamp (by omega), hK.1 s (by omega)]
    refine ⟨⟨q1, fun _ => vi (by omega) (by decide), trivial⟩, ?_⟩
    by_cases c5 : tx s = 59
    · rw [if_pos c5, if_pos (show s < len ∧ tx s = 59 from ⟨by omega, c5⟩), if_pos (show s < len ∧ tx s = 59 from ⟨by omega, c5⟩)]
      obtain ⟨a1, a2⟩ := CR_at (p' := s + 1) hK (x := nI s + 1) (nI_1 s)
      exact ⟨CR_f0 a1, fun c hc => (a2 c hc).trans (fK c hc)⟩
    · rw [if_neg c5, if_neg (show ¬ (s < len ∧ tx s = 59) from fun z => c5 z.2), if_neg (show ¬ (s < len ∧ tx s = 59) from fun z => c5 z.2)]
      exact ⟨fin.1, fun c hc => (fin.2 c hc).trans (fK c hc)⟩
