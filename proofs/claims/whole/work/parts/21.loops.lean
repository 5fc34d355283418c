def e_setOfHolding_20_acc (M : Nat → Nat → Int32)  (i : Int32) (acc : Int32) : Int32 := if (f_X0_holds_20 M i) = (0 : Int32) then acc else acc ||| (((1 : Int32)) <<< (i &&& 31))
def qi_setOfHolding_20 (M : Nat → Nat → Int32)  (i : Int32) (acc : Int32) : Prop := (q_X0_holds_20 M i) ∧ True
theorem it_setOfHolding_20 {d : Nat} {L : Nat → Nat → Int64} {Q : Option Value → z_St → Prop} (M : Nat → Nat → Int32)  (i : Int32) (acc : Int32) (hc : ¬ (M 20 1 ≤ i)) (p1 : qi_setOfHolding_20 M i acc) (h : z_G (d + 1) tb_X0_setOfHolding 4 [some (.ref 20), some (.int (e_setOfHolding_20_acc M i acc)), some (.int (i + 1))] [] [] (z_SH, M, L) Q) : z_G (d + 1) tb_X0_setOfHolding 4 [some (.ref 20), some (.int acc), some (.int i)] [] [] (z_SH, M, L) Q := by
  unfold qi_setOfHolding_20 at p1
  obtain ⟨p1, -⟩ := p1
  refine g_k 4 (pc' := (if z_cmp .ge i (M 20 1) = true then 32 else 12)) (LI' := [some (.ref 20), some (.int acc), some (.int i)]) (LL' := []) (st' := []) (S' := (z_SH, M, L)) (fun nq hq => And.intro rfl (And.intro rfl (And.intro rfl (And.intro rfl hq)))) ?_
  refine g_ge (fun hc1 => ?_) (fun hc1 => ?_)
  · exact absurd hc1 hc
  · refine g_k 2 (pc' := 14) (LI' := [some (.ref 20), some (.int acc), some (.int i)]) (LL' := []) (st' := [.int i, .ref 20]) (S' := (z_SH, M, L)) (fun nq hq => And.intro rfl (And.intro rfl hq)) ?_
    refine g_k 1 (pc' := 17) (LI' := [some (.ref 20), some (.int acc), some (.int i)]) (LL' := []) (st' := [.int (f_X0_holds_20 M i)]) (S' := (z_SH, M, L)) (fun nq hq => And.intro rfl (Exists.intro _ (Exists.intro _ (And.intro (c_X0_holds_20 (d := d) M i p1) (And.intro (z_fit_same _ _ _ _ _ _ _ _) hq))))) ?_
    generalize hg1 : f_X0_holds_20 M i = r1 at *
    refine g_k 1 (pc' := (if z_cmp .eq r1 ((0 : Int32)) = true then 26 else 20)) (LI' := [some (.ref 20), some (.int acc), some (.int i)]) (LL' := []) (st' := []) (S' := (z_SH, M, L)) (fun nq hq => And.intro rfl hq) ?_
    refine g_eq (fun hc2 => ?_) (fun hc2 => ?_)
    · refine g_k 2 (pc' := 4) (LI' := [some (.ref 20), some (.int acc), some (.int (i + 1))]) (LL' := []) (st' := []) (S' := (z_SH, M, L)) (fun nq hq => And.intro rfl (And.intro rfl hq)) ?_
      (subst hg1; unfold e_setOfHolding_20_acc at h; (try simp only [if_pos hc2] at h); exact h )
    · refine g_k 8 (pc' := 4) (LI' := [some (.ref 20), some (.int (acc ||| (((1 : Int32)) <<< (i &&& 31)))), some (.int (i + 1))]) (LL' := []) (st' := []) (S' := (z_SH, M, L)) (fun nq hq => And.intro rfl (And.intro rfl (And.intro rfl (And.intro rfl (And.intro rfl (And.intro rfl (And.intro rfl (And.intro rfl hq)))))))) ?_
      (subst hg1; unfold e_setOfHolding_20_acc at h; (try simp only [if_neg hc2] at h); exact h )
def s_setOfHolding_20 (M : Nat → Nat → Int32)  (acc : Int32) (n : Nat) : Int32 := Nat.rec (motive := fun _ => Int32) (acc) (fun k r => (e_setOfHolding_20_acc M (nI k) r)) n
theorem l_setOfHolding_20 {d : Nat} {L : Nat → Nat → Int64} {Q : Option Value → z_St → Prop} (M : Nat → Nat → Int32)  (acc : Int32) (n : Nat) : (∀ k, k < n → ¬ (M 20 1 ≤ (nI k))) → (∀ k, k < n → qi_setOfHolding_20 M (nI k) ((s_setOfHolding_20 M acc k))) → (z_G (d + 1) tb_X0_setOfHolding 4 [some (.ref 20), some (.int ((s_setOfHolding_20 M acc n))), some (.int (nI n))] [] [] (z_SH, M, L) Q) → z_G (d + 1) tb_X0_setOfHolding 4 [some (.ref 20), some (.int acc), some (.int (nI 0))] [] [] (z_SH, M, L) Q := by
  induction n with
  | zero =>
    intro hc p1 h
    exact h
  | succ n ih =>
    intro hc p1 h
    refine ih (fun k hk => hc k (by omega)) (fun k hk => p1 k (by omega)) ?_
    have hcn := hc n (by omega)
    have p1n := p1 n (by omega)
    clear ih hc p1
    have hs : s_setOfHolding_20 M acc (n + 1) = (e_setOfHolding_20_acc M (nI n) ((s_setOfHolding_20 M acc n))) := rfl
    rw [hs] at h
    clear hs
    generalize s_setOfHolding_20 M acc n = sg at *
    refine it_setOfHolding_20 M  (nI n) sg hcn p1n ?_
    rw [nI_1]
    exact h
def f_X0_setOfHolding_20 (M : Nat → Nat → Int32)  : Int32 := ((s_setOfHolding_20 M ((0 : Int32)) ((M 20 1).toNatClampNeg)))
def q_X0_setOfHolding_20 (M : Nat → Nat → Int32)  : Prop := (∀ k1, k1 < (M 20 1).toNatClampNeg → qi_setOfHolding_20 M (nI k1) ((s_setOfHolding_20 M ((0 : Int32)) k1))) ∧ True
theorem c_X0_setOfHolding_20 {d : Nat} {L : Nat → Nat → Int64} (M : Nat → Nat → Int32)   (hpre : q_X0_setOfHolding_20 M) : z_C (d + 2) 6 [.ref 20] (z_SH, M, L) (some (.int (f_X0_setOfHolding_20 M))) (z_SH, M, L) := by
  unfold q_X0_setOfHolding_20 at hpre
  obtain ⟨p1, -⟩ := hpre
  refine z_mkA (tb := tb_X0_setOfHolding) rfl (by decide) rfl rfl rfl ?_
  refine g_k 4 (pc' := 4) (LI' := [some (.ref 20), some (.int 0), some (.int 0)]) (LL' := []) (st' := []) (S' := (z_SH, M, L)) (fun nq hq => And.intro rfl (And.intro rfl (And.intro rfl (And.intro rfl hq)))) ?_
  refine l_setOfHolding_20 (d := d) M ((0 : Int32)) ((M 20 1).toNatClampNeg) (fun k hk => z_lpc hk) p1 ?_ 
  have hx1 : M 20 1 ≤ nI ((M 20 1).toNatClampNeg) := z_lpe
  generalize hg1 : (s_setOfHolding_20 M ((0 : Int32)) ((M 20 1).toNatClampNeg)) = r1 at *
  generalize hg2 : nI ((M 20 1).toNatClampNeg) = r2 at *
  refine g_k 4 (pc' := (if z_cmp .ge r2 (M 20 1) = true then 32 else 12)) (LI' := [some (.ref 20), some (.int r1), some (.int r2)]) (LL' := []) (st' := []) (S' := (z_SH, M, L)) (fun nq hq => And.intro rfl (And.intro rfl (And.intro rfl (And.intro rfl hq)))) ?_
  refine g_ge (fun hc1 => ?_) (fun hc1 => absurd (hx1) hc1)
  refine g_k 1 (pc' := 33) (LI' := [some (.ref 20), some (.int r1), some (.int r2)]) (LL' := []) (st' := [.int r1]) (S' := (z_SH, M, L)) (fun nq hq => And.intro rfl hq) ?_
  exact ⟨1, And.intro rfl (⟨(by subst hg2; subst hg1; rfl), rfl⟩)⟩
def e_setHoldingOf_20_acc (M : Nat → Nat → Int32) (m : Int32) (i : Int32) (acc : Int32) : Int32 := if (f_X0_holds_20 M i) = (0 : Int32) then acc else if ¬ M 22 ((i).toNatClampNeg) = m then acc else acc ||| (((1 : Int32)) <<< (i &&& 31))
def qi_setHoldingOf_20 (M : Nat → Nat → Int32) (m : Int32) (i : Int32) (acc : Int32) : Prop := (q_X0_holds_20 M i) ∧ ((¬ ((f_X0_holds_20 M i) = (0 : Int32))) → (z_vin i 12 = true)) ∧ True
theorem it_setHoldingOf_20 {d : Nat} {L : Nat → Nat → Int64} {Q : Option Value → z_St → Prop} (M : Nat → Nat → Int32) (m : Int32) (i : Int32) (acc : Int32) (hc : ¬ (M 20 1 ≤ i)) (p1 : qi_setHoldingOf_20 M m i acc) (h : z_G (d + 1) tb_X0_setHoldingOf 4 [some (.ref 20), some (.int m), some (.int (e_setHoldingOf_20_acc M m i acc)), some (.int (i + 1))] [] [] (z_SH, M, L) Q) : z_G (d + 1) tb_X0_setHoldingOf 4 [some (.ref 20), some (.int m), some (.int acc), some (.int i)] [] [] (z_SH, M, L) Q := by
  unfold qi_setHoldingOf_20 at p1
  obtain ⟨p1, p2, -⟩ := p1
  refine g_k 4 (pc' := (if z_cmp .ge i (M 20 1) = true then 42 else 12)) (LI' := [some (.ref 20), some (.int m), some (.int acc), some (.int i)]) (LL' := []) (st' := []) (S' := (z_SH, M, L)) (fun nq hq => And.intro rfl (And.intro rfl (And.intro rfl (And.intro rfl hq)))) ?_
  refine g_ge (fun hc1 => ?_) (fun hc1 => ?_)
  · exact absurd hc1 hc
  · refine g_k 2 (pc' := 14) (LI' := [some (.ref 20), some (.int m), some (.int acc), some (.int i)]) (LL' := []) (st' := [.int i, .ref 20]) (S' := (z_SH, M, L)) (fun nq hq => And.intro rfl (And.intro rfl hq)) ?_
    refine g_k 1 (pc' := 17) (LI' := [some (.ref 20), some (.int m), some (.int acc), some (.int i)]) (LL' := []) (st' := [.int (f_X0_holds_20 M i)]) (S' := (z_SH, M, L)) (fun nq hq => And.intro rfl (Exists.intro _ (Exists.intro _ (And.intro (c_X0_holds_20 (d := d) M i p1) (And.intro (z_fit_same _ _ _ _ _ _ _ _) hq))))) ?_
    generalize hg1 : f_X0_holds_20 M i = r1 at *
    refine g_k 1 (pc' := (if z_cmp .eq r1 ((0 : Int32)) = true then 36 else 20)) (LI' := [some (.ref 20), some (.int m), some (.int acc), some (.int i)]) (LL' := []) (st' := []) (S' := (z_SH, M, L)) (fun nq hq => And.intro rfl hq) ?_
    refine g_eq (fun hc2 => ?_) (fun hc2 => ?_)
    · refine g_k 2 (pc' := 4) (LI' := [some (.ref 20), some (.int m), some (.int acc), some (.int (i + 1))]) (LL' := []) (st' := []) (S' := (z_SH, M, L)) (fun nq hq => And.intro rfl (And.intro rfl hq)) ?_
      (subst hg1; unfold e_setHoldingOf_20_acc at h; (try simp only [if_pos hc2] at h); exact h )
    · refine g_k 6 (pc' := (if z_cmp .ne (M 22 ((i).toNatClampNeg)) m = true then 36 else 30)) (LI' := [some (.ref 20), some (.int m), some (.int acc), some (.int i)]) (LL' := []) (st' := []) (S' := (z_SH, M, L)) (fun nq hq => And.intro rfl (And.intro rfl (And.intro rfl (And.intro (p2 hc2) (And.intro rfl (And.intro rfl hq)))))) ?_
      refine g_ne (fun hc3 => ?_) (fun hc3 => ?_)
      · refine g_k 2 (pc' := 4) (LI' := [some (.ref 20), some (.int m), some (.int acc), some (.int (i + 1))]) (LL' := []) (st' := []) (S' := (z_SH, M, L)) (fun nq hq => And.intro rfl (And.intro rfl hq)) ?_
        (subst hg1; unfold e_setHoldingOf_20_acc at h; (try simp only [if_neg hc2] at h); (try simp only [if_pos hc3] at h); exact h )
      · refine g_k 8 (pc' := 4) (LI' := [some (.ref 20), some (.int m), some (.int (acc ||| (((1 : Int32)) <<< (i &&& 31)))), some (.int (i + 1))]) (LL' := []) (st' := []) (S' := (z_SH, M, L)) (fun nq hq => And.intro rfl (And.intro rfl (And.intro rfl (And.intro rfl (And.intro rfl (And.intro rfl (And.intro rfl (And.intro rfl hq)))))))) ?_
        (subst hg1; unfold e_setHoldingOf_20_acc at h; (try simp only [if_neg hc2] at h); (try simp only [if_neg (not_not_intro hc3)] at h); exact h )
def s_setHoldingOf_20 (M : Nat → Nat → Int32) (m : Int32) (acc : Int32) (n : Nat) : Int32 := Nat.rec (motive := fun _ => Int32) (acc) (fun k r => (e_setHoldingOf_20_acc M m (nI k) r)) n
theorem l_setHoldingOf_20 {d : Nat} {L : Nat → Nat → Int64} {Q : Option Value → z_St → Prop} (M : Nat → Nat → Int32) (m : Int32) (acc : Int32) (n : Nat) : (∀ k, k < n → ¬ (M 20 1 ≤ (nI k))) → (∀ k, k < n → qi_setHoldingOf_20 M m (nI k) ((s_setHoldingOf_20 M m acc k))) → (z_G (d + 1) tb_X0_setHoldingOf 4 [some (.ref 20), some (.int m), some (.int ((s_setHoldingOf_20 M m acc n))), some (.int (nI n))] [] [] (z_SH, M, L) Q) → z_G (d + 1) tb_X0_setHoldingOf 4 [some (.ref 20), some (.int m), some (.int acc), some (.int (nI 0))] [] [] (z_SH, M, L) Q := by
  induction n with
  | zero =>
    intro hc p1 h
    exact h
  | succ n ih =>
    intro hc p1 h
    refine ih (fun k hk => hc k (by omega)) (fun k hk => p1 k (by omega)) ?_
    have hcn := hc n (by omega)
    have p1n := p1 n (by omega)
    clear ih hc p1
    have hs : s_setHoldingOf_20 M m acc (n + 1) = (e_setHoldingOf_20_acc M m (nI n) ((s_setHoldingOf_20 M m acc n))) := rfl
    rw [hs] at h
    clear hs
    generalize s_setHoldingOf_20 M m acc n = sg at *
    refine it_setHoldingOf_20 M m (nI n) sg hcn p1n ?_
    rw [nI_1]
    exact h
def f_X0_setHoldingOf_20 (M : Nat → Nat → Int32) (m : Int32) : Int32 := ((s_setHoldingOf_20 M m ((0 : Int32)) ((M 20 1).toNatClampNeg)))
def q_X0_setHoldingOf_20 (M : Nat → Nat → Int32) (m : Int32) : Prop := (∀ k2, k2 < (M 20 1).toNatClampNeg → qi_setHoldingOf_20 M m (nI k2) ((s_setHoldingOf_20 M m ((0 : Int32)) k2))) ∧ True
theorem c_X0_setHoldingOf_20 {d : Nat} {L : Nat → Nat → Int64} (M : Nat → Nat → Int32) (m : Int32)  (hpre : q_X0_setHoldingOf_20 M m) : z_C (d + 2) 7 [.ref 20, .int m] (z_SH, M, L) (some (.int (f_X0_setHoldingOf_20 M m))) (z_SH, M, L) := by
  unfold q_X0_setHoldingOf_20 at hpre
  obtain ⟨p1, -⟩ := hpre
  refine z_mkA (tb := tb_X0_setHoldingOf) rfl (by decide) rfl rfl rfl ?_
  refine g_k 4 (pc' := 4) (LI' := [some (.ref 20), some (.int m), some (.int 0), some (.int 0)]) (LL' := []) (st' := []) (S' := (z_SH, M, L)) (fun nq hq => And.intro rfl (And.intro rfl (And.intro rfl (And.intro rfl hq)))) ?_
  refine l_setHoldingOf_20 (d := d) M m ((0 : Int32)) ((M 20 1).toNatClampNeg) (fun k hk => z_lpc hk) p1 ?_ 
  have hx1 : M 20 1 ≤ nI ((M 20 1).toNatClampNeg) := z_lpe
  generalize hg1 : (s_setHoldingOf_20 M m ((0 : Int32)) ((M 20 1).toNatClampNeg)) = r1 at *
  generalize hg2 : nI ((M 20 1).toNatClampNeg) = r2 at *
  refine g_k 4 (pc' := (if z_cmp .ge r2 (M 20 1) = true then 42 else 12)) (LI' := [some (.ref 20), some (.int m), some (.int r1), some (.int r2)]) (LL' := []) (st' := []) (S' := (z_SH, M, L)) (fun nq hq => And.intro rfl (And.intro rfl (And.intro rfl (And.intro rfl hq)))) ?_
  refine g_ge (fun hc1 => ?_) (fun hc1 => absurd (hx1) hc1)
  refine g_k 1 (pc' := 43) (LI' := [some (.ref 20), some (.int m), some (.int r1), some (.int r2)]) (LL' := []) (st' := [.int r1]) (S' := (z_SH, M, L)) (fun nq hq => And.intro rfl hq) ?_
  exact ⟨1, And.intro rfl (⟨(by subst hg2; subst hg1; rfl), rfl⟩)⟩
def e_margin_28_acc (M : Nat → Nat → Int32)  (i : Int32) (acc : Int32) : Int32 := acc + (f_X1_gainBy_28 M i)
def qi_margin_28 (M : Nat → Nat → Int32)  (i : Int32) (acc : Int32) : Prop := (q_X1_gainBy_28 M i) ∧ True
theorem it_margin_28 {d : Nat} {L : Nat → Nat → Int64} {Q : Option Value → z_St → Prop} (M : Nat → Nat → Int32)  (i : Int32) (acc : Int32) (hc : ¬ (M 15 1 ≤ i)) (p1 : qi_margin_28 M i acc) (h : z_G (d + 1) tb_X1_margin 4 [some (.ref 28), some (.int (e_margin_28_acc M i acc)), some (.int (i + 1))] [] [] (z_SH, M, L) Q) : z_G (d + 1) tb_X1_margin 4 [some (.ref 28), some (.int acc), some (.int i)] [] [] (z_SH, M, L) Q := by
  unfold qi_margin_28 at p1
  obtain ⟨p1, -⟩ := p1
  refine g_k 5 (pc' := (if z_cmp .ge i (M 15 1) = true then 29 else 15)) (LI' := [some (.ref 28), some (.int acc), some (.int i)]) (LL' := []) (st' := []) (S' := (z_SH, M, L)) (fun nq hq => And.intro rfl (And.intro rfl (And.intro rfl (And.intro rfl (And.intro rfl hq))))) ?_
  refine g_ge (fun hc1 => ?_) (fun hc1 => ?_)
  · exact absurd hc1 hc
  · refine g_k 3 (pc' := 18) (LI' := [some (.ref 28), some (.int acc), some (.int i)]) (LL' := []) (st' := [.int i, .ref 28, .int acc]) (S' := (z_SH, M, L)) (fun nq hq => And.intro rfl (And.intro rfl (And.intro rfl hq))) ?_
    refine g_k 1 (pc' := 21) (LI' := [some (.ref 28), some (.int acc), some (.int i)]) (LL' := []) (st' := [.int (f_X1_gainBy_28 M i), .int acc]) (S' := (z_SH, M, L)) (fun nq hq => And.intro rfl (Exists.intro _ (Exists.intro _ (And.intro (c_X1_gainBy_28 (d := d) M i p1) (And.intro (z_fit_same _ _ _ _ _ _ _ _) hq))))) ?_
    generalize hg1 : f_X1_gainBy_28 M i = r1 at *
    refine g_k 4 (pc' := 4) (LI' := [some (.ref 28), some (.int (acc + r1)), some (.int (i + 1))]) (LL' := []) (st' := []) (S' := (z_SH, M, L)) (fun nq hq => And.intro rfl (And.intro rfl (And.intro rfl (And.intro rfl hq)))) ?_
    (subst hg1; unfold e_margin_28_acc at h; exact h )
def s_margin_28 (M : Nat → Nat → Int32)  (acc : Int32) (n : Nat) : Int32 := Nat.rec (motive := fun _ => Int32) (acc) (fun k r => (e_margin_28_acc M (nI k) r)) n
theorem l_margin_28 {d : Nat} {L : Nat → Nat → Int64} {Q : Option Value → z_St → Prop} (M : Nat → Nat → Int32)  (acc : Int32) (n : Nat) : (∀ k, k < n → ¬ (M 15 1 ≤ (nI k))) → (∀ k, k < n → qi_margin_28 M (nI k) ((s_margin_28 M acc k))) → (z_G (d + 1) tb_X1_margin 4 [some (.ref 28), some (.int ((s_margin_28 M acc n))), some (.int (nI n))] [] [] (z_SH, M, L) Q) → z_G (d + 1) tb_X1_margin 4 [some (.ref 28), some (.int acc), some (.int (nI 0))] [] [] (z_SH, M, L) Q := by
  induction n with
  | zero =>
    intro hc p1 h
    exact h
  | succ n ih =>
    intro hc p1 h
    refine ih (fun k hk => hc k (by omega)) (fun k hk => p1 k (by omega)) ?_
    have hcn := hc n (by omega)
    have p1n := p1 n (by omega)
    clear ih hc p1
    have hs : s_margin_28 M acc (n + 1) = (e_margin_28_acc M (nI n) ((s_margin_28 M acc n))) := rfl
    rw [hs] at h
    clear hs
    generalize s_margin_28 M acc n = sg at *
    refine it_margin_28 M  (nI n) sg hcn p1n ?_
    rw [nI_1]
    exact h
def f_X1_margin_28 (M : Nat → Nat → Int32)  : Int32 := ((s_margin_28 M ((0 : Int32)) ((M 15 1).toNatClampNeg)))
def q_X1_margin_28 (M : Nat → Nat → Int32)  : Prop := (∀ k3, k3 < (M 15 1).toNatClampNeg → qi_margin_28 M (nI k3) ((s_margin_28 M ((0 : Int32)) k3))) ∧ True
theorem c_X1_margin_28 {d : Nat} {L : Nat → Nat → Int64} (M : Nat → Nat → Int32)   (hpre : q_X1_margin_28 M) : z_C (d + 2) 21 [.ref 28] (z_SH, M, L) (some (.int (f_X1_margin_28 M))) (z_SH, M, L) := by
  unfold q_X1_margin_28 at hpre
  obtain ⟨p1, -⟩ := hpre
  refine z_mkA (tb := tb_X1_margin) rfl (by decide) rfl rfl rfl ?_
  refine g_k 4 (pc' := 4) (LI' := [some (.ref 28), some (.int 0), some (.int 0)]) (LL' := []) (st' := []) (S' := (z_SH, M, L)) (fun nq hq => And.intro rfl (And.intro rfl (And.intro rfl (And.intro rfl hq)))) ?_
  refine l_margin_28 (d := d) M ((0 : Int32)) ((M 15 1).toNatClampNeg) (fun k hk => z_lpc hk) p1 ?_ 
  have hx1 : M 15 1 ≤ nI ((M 15 1).toNatClampNeg) := z_lpe
  generalize hg1 : (s_margin_28 M ((0 : Int32)) ((M 15 1).toNatClampNeg)) = r1 at *
  generalize hg2 : nI ((M 15 1).toNatClampNeg) = r2 at *
  refine g_k 5 (pc' := (if z_cmp .ge r2 (M 15 1) = true then 29 else 15)) (LI' := [some (.ref 28), some (.int r1), some (.int r2)]) (LL' := []) (st' := []) (S' := (z_SH, M, L)) (fun nq hq => And.intro rfl (And.intro rfl (And.intro rfl (And.intro rfl (And.intro rfl hq))))) ?_
  refine g_ge (fun hc1 => ?_) (fun hc1 => absurd (hx1) hc1)
  refine g_k 1 (pc' := 30) (LI' := [some (.ref 28), some (.int r1), some (.int r2)]) (LL' := []) (st' := [.int r1]) (S' := (z_SH, M, L)) (fun nq hq => And.intro rfl hq) ?_
  exact ⟨1, And.intro rfl (⟨(by subst hg2; subst hg1; rfl), rfl⟩)⟩
def e_margin_42_acc (M : Nat → Nat → Int32)  (i : Int32) (acc : Int32) : Int32 := acc + (f_X1_gainBy_42 M i)
def qi_margin_42 (M : Nat → Nat → Int32)  (i : Int32) (acc : Int32) : Prop := (q_X1_gainBy_42 M i) ∧ True
theorem it_margin_42 {d : Nat} {L : Nat → Nat → Int64} {Q : Option Value → z_St → Prop} (M : Nat → Nat → Int32)  (i : Int32) (acc : Int32) (hc : ¬ (M 15 1 ≤ i)) (p1 : qi_margin_42 M i acc) (h : z_G (d + 1) tb_X1_margin 4 [some (.ref 42), some (.int (e_margin_42_acc M i acc)), some (.int (i + 1))] [] [] (z_SH, M, L) Q) : z_G (d + 1) tb_X1_margin 4 [some (.ref 42), some (.int acc), some (.int i)] [] [] (z_SH, M, L) Q := by
  unfold qi_margin_42 at p1
  obtain ⟨p1, -⟩ := p1
  refine g_k 5 (pc' := (if z_cmp .ge i (M 15 1) = true then 29 else 15)) (LI' := [some (.ref 42), some (.int acc), some (.int i)]) (LL' := []) (st' := []) (S' := (z_SH, M, L)) (fun nq hq => And.intro rfl (And.intro rfl (And.intro rfl (And.intro rfl (And.intro rfl hq))))) ?_
  refine g_ge (fun hc1 => ?_) (fun hc1 => ?_)
  · exact absurd hc1 hc
  · refine g_k 3 (pc' := 18) (LI' := [some (.ref 42), some (.int acc), some (.int i)]) (LL' := []) (st' := [.int i, .ref 42, .int acc]) (S' := (z_SH, M, L)) (fun nq hq => And.intro rfl (And.intro rfl (And.intro rfl hq))) ?_
    refine g_k 1 (pc' := 21) (LI' := [some (.ref 42), some (.int acc), some (.int i)]) (LL' := []) (st' := [.int (f_X1_gainBy_42 M i), .int acc]) (S' := (z_SH, M, L)) (fun nq hq => And.intro rfl (Exists.intro _ (Exists.intro _ (And.intro (c_X1_gainBy_42 (d := d) M i p1) (And.intro (z_fit_same _ _ _ _ _ _ _ _) hq))))) ?_
    generalize hg1 : f_X1_gainBy_42 M i = r1 at *
    refine g_k 4 (pc' := 4) (LI' := [some (.ref 42), some (.int (acc + r1)), some (.int (i + 1))]) (LL' := []) (st' := []) (S' := (z_SH, M, L)) (fun nq hq => And.intro rfl (And.intro rfl (And.intro rfl (And.intro rfl hq)))) ?_
    (subst hg1; unfold e_margin_42_acc at h; exact h )
def s_margin_42 (M : Nat → Nat → Int32)  (acc : Int32) (n : Nat) : Int32 := Nat.rec (motive := fun _ => Int32) (acc) (fun k r => (e_margin_42_acc M (nI k) r)) n
theorem l_margin_42 {d : Nat} {L : Nat → Nat → Int64} {Q : Option Value → z_St → Prop} (M : Nat → Nat → Int32)  (acc : Int32) (n : Nat) : (∀ k, k < n → ¬ (M 15 1 ≤ (nI k))) → (∀ k, k < n → qi_margin_42 M (nI k) ((s_margin_42 M acc k))) → (z_G (d + 1) tb_X1_margin 4 [some (.ref 42), some (.int ((s_margin_42 M acc n))), some (.int (nI n))] [] [] (z_SH, M, L) Q) → z_G (d + 1) tb_X1_margin 4 [some (.ref 42), some (.int acc), some (.int (nI 0))] [] [] (z_SH, M, L) Q := by
  induction n with
  | zero =>
    intro hc p1 h
    exact h
  | succ n ih =>
    intro hc p1 h
    refine ih (fun k hk => hc k (by omega)) (fun k hk => p1 k (by omega)) ?_
    have hcn := hc n (by omega)
    have p1n := p1 n (by omega)
    clear ih hc p1
    have hs : s_margin_42 M acc (n + 1) = (e_margin_42_acc M (nI n) ((s_margin_42 M acc n))) := rfl
    rw [hs] at h
    clear hs
    generalize s_margin_42 M acc n = sg at *
    refine it_margin_42 M  (nI n) sg hcn p1n ?_
    rw [nI_1]
    exact h
def f_X1_margin_42 (M : Nat → Nat → Int32)  : Int32 := ((s_margin_42 M ((0 : Int32)) ((M 15 1).toNatClampNeg)))
def q_X1_margin_42 (M : Nat → Nat → Int32)  : Prop := (∀ k4, k4 < (M 15 1).toNatClampNeg → qi_margin_42 M (nI k4) ((s_margin_42 M ((0 : Int32)) k4))) ∧ True
theorem c_X1_margin_42 {d : Nat} {L : Nat → Nat → Int64} (M : Nat → Nat → Int32)   (hpre : q_X1_margin_42 M) : z_C (d + 2) 21 [.ref 42] (z_SH, M, L) (some (.int (f_X1_margin_42 M))) (z_SH, M, L) := by
  unfold q_X1_margin_42 at hpre
  obtain ⟨p1, -⟩ := hpre
  refine z_mkA (tb := tb_X1_margin) rfl (by decide) rfl rfl rfl ?_
  refine g_k 4 (pc' := 4) (LI' := [some (.ref 42), some (.int 0), some (.int 0)]) (LL' := []) (st' := []) (S' := (z_SH, M, L)) (fun nq hq => And.intro rfl (And.intro rfl (And.intro rfl (And.intro rfl hq)))) ?_
  refine l_margin_42 (d := d) M ((0 : Int32)) ((M 15 1).toNatClampNeg) (fun k hk => z_lpc hk) p1 ?_ 
  have hx1 : M 15 1 ≤ nI ((M 15 1).toNatClampNeg) := z_lpe
  generalize hg1 : (s_margin_42 M ((0 : Int32)) ((M 15 1).toNatClampNeg)) = r1 at *
  generalize hg2 : nI ((M 15 1).toNatClampNeg) = r2 at *
  refine g_k 5 (pc' := (if z_cmp .ge r2 (M 15 1) = true then 29 else 15)) (LI' := [some (.ref 42), some (.int r1), some (.int r2)]) (LL' := []) (st' := []) (S' := (z_SH, M, L)) (fun nq hq => And.intro rfl (And.intro rfl (And.intro rfl (And.intro rfl (And.intro rfl hq))))) ?_
  refine g_ge (fun hc1 => ?_) (fun hc1 => absurd (hx1) hc1)
  refine g_k 1 (pc' := 30) (LI' := [some (.ref 42), some (.int r1), some (.int r2)]) (LL' := []) (st' := [.int r1]) (S' := (z_SH, M, L)) (fun nq hq => And.intro rfl hq) ?_
  exact ⟨1, And.intro rfl (⟨(by subst hg2; subst hg1; rfl), rfl⟩)⟩
