def e_setOfHolding_20_acc (M : Nat → Nat → Int32)  (i : Int32) (acc : Int32) : Int32 := if f_X0_holds_20 M i = (0 : Int32) then acc else acc ||| (((1 : Int32)) <<< (i &&& 31))
theorem it_setOfHolding_20 {d : Nat} {L : Nat → Nat → Int64} {Q : Option Value → z_St → Prop} (M : Nat → Nat → Int32)  (i : Int32) (acc : Int32) (hc : ¬ (M 20 1 ≤ i)) (p1 : z_vin i 12 = true) (h : z_G (d + 1) tb_X0_setOfHolding 4 [some (.ref 20), some (.int (e_setOfHolding_20_acc M i acc)), some (.int (i + 1))] [] [] (z_SH, M, L) Q) : z_G (d + 1) tb_X0_setOfHolding 4 [some (.ref 20), some (.int acc), some (.int i)] [] [] (z_SH, M, L) Q := by
  refine g_k 4 (pc' := (if z_cmp .ge i (M 20 1) = true then 32 else 12)) (LI' := [some (.ref 20), some (.int acc), some (.int i)]) (LL' := []) (st' := []) (S' := (z_SH, M, L)) (fun n h => And.intro rfl (And.intro rfl (And.intro rfl (And.intro rfl h)))) ?_
  refine g_ge (fun hc1 => ?_) (fun hc1 => ?_)
  · exact absurd hc1 hc
  · refine g_k 2 (pc' := 14) (LI' := [some (.ref 20), some (.int acc), some (.int i)]) (LL' := []) (st' := [.int i, .ref 20]) (S' := (z_SH, M, L)) (fun n h => And.intro rfl (And.intro rfl h)) ?_
    refine g_k 1 (pc' := 17) (LI' := [some (.ref 20), some (.int acc), some (.int i)]) (LL' := []) (st' := [.int (f_X0_holds_20 M i)]) (S' := (z_SH, M, L)) (fun n h => And.intro rfl (Exists.intro _ (Exists.intro _ (And.intro (c_X0_holds_20 (d := d) M i p1) (And.intro (z_fit_same _ _ _ _ _ _ _ _) h))))) ?_
    refine g_k 1 (pc' := (if z_cmp .eq (f_X0_holds_20 M i) ((0 : Int32)) = true then 26 else 20)) (LI' := [some (.ref 20), some (.int acc), some (.int i)]) (LL' := []) (st' := []) (S' := (z_SH, M, L)) (fun n h => And.intro rfl h) ?_
    refine g_eq (fun hc2 => ?_) (fun hc2 => ?_)
    · refine g_k 2 (pc' := 4) (LI' := [some (.ref 20), some (.int acc), some (.int (i + 1))]) (LL' := []) (st' := []) (S' := (z_SH, M, L)) (fun n h => And.intro rfl (And.intro rfl h)) ?_
      (unfold e_setOfHolding_20_acc at h; (try rw [if_pos hc2] at h); exact h )
    · refine g_k 8 (pc' := 4) (LI' := [some (.ref 20), some (.int (acc ||| (((1 : Int32)) <<< (i &&& 31)))), some (.int (i + 1))]) (LL' := []) (st' := []) (S' := (z_SH, M, L)) (fun n h => And.intro rfl (And.intro rfl (And.intro rfl (And.intro rfl (And.intro rfl (And.intro rfl (And.intro rfl (And.intro rfl h)))))))) ?_
      (unfold e_setOfHolding_20_acc at h; (try rw [if_neg hc2] at h); exact h )
def s_setOfHolding_20 (M : Nat → Nat → Int32)  (acc : Int32) (n : Nat) : Int32 := Nat.rec (motive := fun _ => Int32) (acc) (fun k r => (e_setOfHolding_20_acc M (nI k) r)) n
theorem l_setOfHolding_20 {d : Nat} {L : Nat → Nat → Int64} {Q : Option Value → z_St → Prop} (M : Nat → Nat → Int32)  (acc : Int32) : ∀ (n : Nat), (∀ k, k < n → ¬ (M 20 1 ≤ (nI k))) → (∀ k, k < n → z_vin (nI k) 12 = true) → (z_G (d + 1) tb_X0_setOfHolding 4 [some (.ref 20), some (.int ((s_setOfHolding_20 M acc n))), some (.int (nI n))] [] [] (z_SH, M, L) Q) → z_G (d + 1) tb_X0_setOfHolding 4 [some (.ref 20), some (.int acc), some (.int (nI 0))] [] [] (z_SH, M, L) Q
  | 0, _, _, h => h
  | n + 1, hc, p1, h => l_setOfHolding_20 M  acc n (fun k hk => hc k (by omega)) (fun k hk => p1 k (by omega)) (it_setOfHolding_20 M  (nI n) ((s_setOfHolding_20 M acc n)) (hc n (by omega)) (p1 n (by omega)) (by
    rw [nI_1]
    exact h))
def f_X0_setOfHolding_20 (M : Nat → Nat → Int32)  : Int32 := (s_setOfHolding_20 M ((0 : Int32)) ((M 20 1).toNatClampNeg))
theorem c_X0_setOfHolding_20 {d : Nat} {L : Nat → Nat → Int64} (M : Nat → Nat → Int32)  (p1 : ∀ k1, k1 < (M 20 1).toNatClampNeg → z_vin (nI k1) 12 = true) : z_C (d + 2) 6 [.ref 20] (z_SH, M, L) (some (.int (f_X0_setOfHolding_20 M))) (z_SH, M, L) := by
  refine z_mkA (tb := tb_X0_setOfHolding) rfl (by decide) rfl rfl rfl ?_
  refine g_k 4 (pc' := 4) (LI' := [some (.ref 20), some (.int 0), some (.int 0)]) (LL' := []) (st' := []) (S' := (z_SH, M, L)) (fun n h => And.intro rfl (And.intro rfl (And.intro rfl (And.intro rfl h)))) ?_
  refine l_setOfHolding_20 (d := d) M ((0 : Int32)) ((M 20 1).toNatClampNeg) (fun k hk => z_lpc hk) p1 ?_ 
  refine g_k 4 (pc' := (if z_cmp .ge (nI ((M 20 1).toNatClampNeg)) (M 20 1) = true then 32 else 12)) (LI' := [some (.ref 20), some (.int ((s_setOfHolding_20 M ((0 : Int32)) ((M 20 1).toNatClampNeg)))), some (.int (nI ((M 20 1).toNatClampNeg)))]) (LL' := []) (st' := []) (S' := (z_SH, M, L)) (fun n h => And.intro rfl (And.intro rfl (And.intro rfl (And.intro rfl h)))) ?_
  refine g_ge (fun hc1 => ?_) (fun hc1 => absurd (z_lpe) hc1)
  refine g_k 1 (pc' := 33) (LI' := [some (.ref 20), some (.int ((s_setOfHolding_20 M ((0 : Int32)) ((M 20 1).toNatClampNeg)))), some (.int (nI ((M 20 1).toNatClampNeg)))]) (LL' := []) (st' := [.int ((s_setOfHolding_20 M ((0 : Int32)) ((M 20 1).toNatClampNeg)))]) (S' := (z_SH, M, L)) (fun n h => And.intro rfl h) ?_
  exact ⟨1, And.intro rfl (⟨rfl, rfl⟩)⟩
def e_setHoldingOf_20_acc (M : Nat → Nat → Int32) (m : Int32) (i : Int32) (acc : Int32) : Int32 := if f_X0_holds_20 M i = (0 : Int32) then acc else if ¬ M 22 ((i).toNatClampNeg) = m then acc else acc ||| (((1 : Int32)) <<< (i &&& 31))
theorem it_setHoldingOf_20 {d : Nat} {L : Nat → Nat → Int64} {Q : Option Value → z_St → Prop} (M : Nat → Nat → Int32) (m : Int32) (i : Int32) (acc : Int32) (hc : ¬ (M 20 1 ≤ i)) (p1 : z_vin i 12 = true) (h : z_G (d + 1) tb_X0_setHoldingOf 4 [some (.ref 20), some (.int m), some (.int (e_setHoldingOf_20_acc M m i acc)), some (.int (i + 1))] [] [] (z_SH, M, L) Q) : z_G (d + 1) tb_X0_setHoldingOf 4 [some (.ref 20), some (.int m), some (.int acc), some (.int i)] [] [] (z_SH, M, L) Q := by
  refine g_k 4 (pc' := (if z_cmp .ge i (M 20 1) = true then 42 else 12)) (LI' := [some (.ref 20), some (.int m), some (.int acc), some (.int i)]) (LL' := []) (st' := []) (S' := (z_SH, M, L)) (fun n h => And.intro rfl (And.intro rfl (And.intro rfl (And.intro rfl h)))) ?_
  refine g_ge (fun hc1 => ?_) (fun hc1 => ?_)
  · exact absurd hc1 hc
  · refine g_k 2 (pc' := 14) (LI' := [some (.ref 20), some (.int m), some (.int acc), some (.int i)]) (LL' := []) (st' := [.int i, .ref 20]) (S' := (z_SH, M, L)) (fun n h => And.intro rfl (And.intro rfl h)) ?_
    refine g_k 1 (pc' := 17) (LI' := [some (.ref 20), some (.int m), some (.int acc), some (.int i)]) (LL' := []) (st' := [.int (f_X0_holds_20 M i)]) (S' := (z_SH, M, L)) (fun n h => And.intro rfl (Exists.intro _ (Exists.intro _ (And.intro (c_X0_holds_20 (d := d) M i p1) (And.intro (z_fit_same _ _ _ _ _ _ _ _) h))))) ?_
    refine g_k 1 (pc' := (if z_cmp .eq (f_X0_holds_20 M i) ((0 : Int32)) = true then 36 else 20)) (LI' := [some (.ref 20), some (.int m), some (.int acc), some (.int i)]) (LL' := []) (st' := []) (S' := (z_SH, M, L)) (fun n h => And.intro rfl h) ?_
    refine g_eq (fun hc2 => ?_) (fun hc2 => ?_)
    · refine g_k 2 (pc' := 4) (LI' := [some (.ref 20), some (.int m), some (.int acc), some (.int (i + 1))]) (LL' := []) (st' := []) (S' := (z_SH, M, L)) (fun n h => And.intro rfl (And.intro rfl h)) ?_
      (unfold e_setHoldingOf_20_acc at h; (try rw [if_pos hc2] at h); exact h )
    · refine g_k 6 (pc' := (if z_cmp .ne (M 22 ((i).toNatClampNeg)) m = true then 36 else 30)) (LI' := [some (.ref 20), some (.int m), some (.int acc), some (.int i)]) (LL' := []) (st' := []) (S' := (z_SH, M, L)) (fun n h => And.intro rfl (And.intro rfl (And.intro rfl (And.intro p1 (And.intro rfl (And.intro rfl h)))))) ?_
      refine g_ne (fun hc3 => ?_) (fun hc3 => ?_)
      · refine g_k 2 (pc' := 4) (LI' := [some (.ref 20), some (.int m), some (.int acc), some (.int (i + 1))]) (LL' := []) (st' := []) (S' := (z_SH, M, L)) (fun n h => And.intro rfl (And.intro rfl h)) ?_
        (unfold e_setHoldingOf_20_acc at h; (try rw [if_neg hc2] at h); (try rw [if_pos hc3] at h); exact h )
      · refine g_k 8 (pc' := 4) (LI' := [some (.ref 20), some (.int m), some (.int (acc ||| (((1 : Int32)) <<< (i &&& 31)))), some (.int (i + 1))]) (LL' := []) (st' := []) (S' := (z_SH, M, L)) (fun n h => And.intro rfl (And.intro rfl (And.intro rfl (And.intro rfl (And.intro rfl (And.intro rfl (And.intro rfl (And.intro rfl h)))))))) ?_
        (unfold e_setHoldingOf_20_acc at h; (try rw [if_neg hc2] at h); (try rw [if_neg (not_not_intro hc3)] at h); exact h )
def s_setHoldingOf_20 (M : Nat → Nat → Int32) (m : Int32) (acc : Int32) (n : Nat) : Int32 := Nat.rec (motive := fun _ => Int32) (acc) (fun k r => (e_setHoldingOf_20_acc M m (nI k) r)) n
theorem l_setHoldingOf_20 {d : Nat} {L : Nat → Nat → Int64} {Q : Option Value → z_St → Prop} (M : Nat → Nat → Int32) (m : Int32) (acc : Int32) : ∀ (n : Nat), (∀ k, k < n → ¬ (M 20 1 ≤ (nI k))) → (∀ k, k < n → z_vin (nI k) 12 = true) → (z_G (d + 1) tb_X0_setHoldingOf 4 [some (.ref 20), some (.int m), some (.int ((s_setHoldingOf_20 M m acc n))), some (.int (nI n))] [] [] (z_SH, M, L) Q) → z_G (d + 1) tb_X0_setHoldingOf 4 [some (.ref 20), some (.int m), some (.int acc), some (.int (nI 0))] [] [] (z_SH, M, L) Q
  | 0, _, _, h => h
  | n + 1, hc, p1, h => l_setHoldingOf_20 M m acc n (fun k hk => hc k (by omega)) (fun k hk => p1 k (by omega)) (it_setHoldingOf_20 M m (nI n) ((s_setHoldingOf_20 M m acc n)) (hc n (by omega)) (p1 n (by omega)) (by
    rw [nI_1]
    exact h))
def f_X0_setHoldingOf_20 (M : Nat → Nat → Int32) (m : Int32) : Int32 := (s_setHoldingOf_20 M m ((0 : Int32)) ((M 20 1).toNatClampNeg))
theorem c_X0_setHoldingOf_20 {d : Nat} {L : Nat → Nat → Int64} (M : Nat → Nat → Int32) (m : Int32) (p1 : ∀ k2, k2 < (M 20 1).toNatClampNeg → z_vin (nI k2) 12 = true) : z_C (d + 2) 7 [.ref 20, .int m] (z_SH, M, L) (some (.int (f_X0_setHoldingOf_20 M m))) (z_SH, M, L) := by
  refine z_mkA (tb := tb_X0_setHoldingOf) rfl (by decide) rfl rfl rfl ?_
  refine g_k 4 (pc' := 4) (LI' := [some (.ref 20), some (.int m), some (.int 0), some (.int 0)]) (LL' := []) (st' := []) (S' := (z_SH, M, L)) (fun n h => And.intro rfl (And.intro rfl (And.intro rfl (And.intro rfl h)))) ?_
  refine l_setHoldingOf_20 (d := d) M m ((0 : Int32)) ((M 20 1).toNatClampNeg) (fun k hk => z_lpc hk) p1 ?_ 
  refine g_k 4 (pc' := (if z_cmp .ge (nI ((M 20 1).toNatClampNeg)) (M 20 1) = true then 42 else 12)) (LI' := [some (.ref 20), some (.int m), some (.int ((s_setHoldingOf_20 M m ((0 : Int32)) ((M 20 1).toNatClampNeg)))), some (.int (nI ((M 20 1).toNatClampNeg)))]) (LL' := []) (st' := []) (S' := (z_SH, M, L)) (fun n h => And.intro rfl (And.intro rfl (And.intro rfl (And.intro rfl h)))) ?_
  refine g_ge (fun hc1 => ?_) (fun hc1 => absurd (z_lpe) hc1)
  refine g_k 1 (pc' := 43) (LI' := [some (.ref 20), some (.int m), some (.int ((s_setHoldingOf_20 M m ((0 : Int32)) ((M 20 1).toNatClampNeg)))), some (.int (nI ((M 20 1).toNatClampNeg)))]) (LL' := []) (st' := [.int ((s_setHoldingOf_20 M m ((0 : Int32)) ((M 20 1).toNatClampNeg)))]) (S' := (z_SH, M, L)) (fun n h => And.intro rfl h) ?_
  exact ⟨1, And.intro rfl (⟨rfl, rfl⟩)⟩
def e_margin_28_acc (M : Nat → Nat → Int32)  (i : Int32) (acc : Int32) : Int32 := acc + (f_X1_gainBy_28 M i)
theorem it_margin_28 {d : Nat} {L : Nat → Nat → Int64} {Q : Option Value → z_St → Prop} (M : Nat → Nat → Int32)  (i : Int32) (acc : Int32) (hc : ¬ (M 15 1 ≤ i)) (p1 : z_vin i 6 = true) (h : z_G (d + 3) tb_X1_margin 4 [some (.ref 28), some (.int (e_margin_28_acc M i acc)), some (.int (i + 1))] [] [] (z_SH, M, L) Q) : z_G (d + 3) tb_X1_margin 4 [some (.ref 28), some (.int acc), some (.int i)] [] [] (z_SH, M, L) Q := by
  refine g_k 5 (pc' := (if z_cmp .ge i (M 15 1) = true then 29 else 15)) (LI' := [some (.ref 28), some (.int acc), some (.int i)]) (LL' := []) (st' := []) (S' := (z_SH, M, L)) (fun n h => And.intro rfl (And.intro rfl (And.intro rfl (And.intro rfl (And.intro rfl h))))) ?_
  refine g_ge (fun hc1 => ?_) (fun hc1 => ?_)
  · exact absurd hc1 hc
  · refine g_k 3 (pc' := 18) (LI' := [some (.ref 28), some (.int acc), some (.int i)]) (LL' := []) (st' := [.int i, .ref 28, .int acc]) (S' := (z_SH, M, L)) (fun n h => And.intro rfl (And.intro rfl (And.intro rfl h))) ?_
    refine g_k 1 (pc' := 21) (LI' := [some (.ref 28), some (.int acc), some (.int i)]) (LL' := []) (st' := [.int (f_X1_gainBy_28 M i), .int acc]) (S' := (z_SH, M, L)) (fun n h => And.intro rfl (Exists.intro _ (Exists.intro _ (And.intro (c_X1_gainBy_28 (d := d) M i p1) (And.intro (z_fit_same _ _ _ _ _ _ _ _) h))))) ?_
    refine g_k 4 (pc' := 4) (LI' := [some (.ref 28), some (.int (acc + (f_X1_gainBy_28 M i))), some (.int (i + 1))]) (LL' := []) (st' := []) (S' := (z_SH, M, L)) (fun n h => And.intro rfl (And.intro rfl (And.intro rfl (And.intro rfl h)))) ?_
    (unfold e_margin_28_acc at h; exact h )
def s_margin_28 (M : Nat → Nat → Int32)  (acc : Int32) (n : Nat) : Int32 := Nat.rec (motive := fun _ => Int32) (acc) (fun k r => (e_margin_28_acc M (nI k) r)) n
theorem l_margin_28 {d : Nat} {L : Nat → Nat → Int64} {Q : Option Value → z_St → Prop} (M : Nat → Nat → Int32)  (acc : Int32) : ∀ (n : Nat), (∀ k, k < n → ¬ (M 15 1 ≤ (nI k))) → (∀ k, k < n → z_vin (nI k) 6 = true) → (z_G (d + 3) tb_X1_margin 4 [some (.ref 28), some (.int ((s_margin_28 M acc n))), some (.int (nI n))] [] [] (z_SH, M, L) Q) → z_G (d + 3) tb_X1_margin 4 [some (.ref 28), some (.int acc), some (.int (nI 0))] [] [] (z_SH, M, L) Q
  | 0, _, _, h => h
  | n + 1, hc, p1, h => l_margin_28 M  acc n (fun k hk => hc k (by omega)) (fun k hk => p1 k (by omega)) (it_margin_28 M  (nI n) ((s_margin_28 M acc n)) (hc n (by omega)) (p1 n (by omega)) (by
    rw [nI_1]
    exact h))
def f_X1_margin_28 (M : Nat → Nat → Int32)  : Int32 := (s_margin_28 M ((0 : Int32)) ((M 15 1).toNatClampNeg))
theorem c_X1_margin_28 {d : Nat} {L : Nat → Nat → Int64} (M : Nat → Nat → Int32)  (p1 : ∀ k3, k3 < (M 15 1).toNatClampNeg → z_vin (nI k3) 6 = true) : z_C (d + 4) 21 [.ref 28] (z_SH, M, L) (some (.int (f_X1_margin_28 M))) (z_SH, M, L) := by
  refine z_mkA (tb := tb_X1_margin) rfl (by decide) rfl rfl rfl ?_
  refine g_k 4 (pc' := 4) (LI' := [some (.ref 28), some (.int 0), some (.int 0)]) (LL' := []) (st' := []) (S' := (z_SH, M, L)) (fun n h => And.intro rfl (And.intro rfl (And.intro rfl (And.intro rfl h)))) ?_
  refine l_margin_28 (d := d) M ((0 : Int32)) ((M 15 1).toNatClampNeg) (fun k hk => z_lpc hk) p1 ?_ 
  refine g_k 5 (pc' := (if z_cmp .ge (nI ((M 15 1).toNatClampNeg)) (M 15 1) = true then 29 else 15)) (LI' := [some (.ref 28), some (.int ((s_margin_28 M ((0 : Int32)) ((M 15 1).toNatClampNeg)))), some (.int (nI ((M 15 1).toNatClampNeg)))]) (LL' := []) (st' := []) (S' := (z_SH, M, L)) (fun n h => And.intro rfl (And.intro rfl (And.intro rfl (And.intro rfl (And.intro rfl h))))) ?_
  refine g_ge (fun hc1 => ?_) (fun hc1 => absurd (z_lpe) hc1)
  refine g_k 1 (pc' := 30) (LI' := [some (.ref 28), some (.int ((s_margin_28 M ((0 : Int32)) ((M 15 1).toNatClampNeg)))), some (.int (nI ((M 15 1).toNatClampNeg)))]) (LL' := []) (st' := [.int ((s_margin_28 M ((0 : Int32)) ((M 15 1).toNatClampNeg)))]) (S' := (z_SH, M, L)) (fun n h => And.intro rfl h) ?_
  exact ⟨1, And.intro rfl (⟨rfl, rfl⟩)⟩
def e_margin_42_acc (M : Nat → Nat → Int32)  (i : Int32) (acc : Int32) : Int32 := acc + (f_X1_gainBy_42 M i)
theorem it_margin_42 {d : Nat} {L : Nat → Nat → Int64} {Q : Option Value → z_St → Prop} (M : Nat → Nat → Int32)  (i : Int32) (acc : Int32) (hc : ¬ (M 15 1 ≤ i)) (p1 : z_vin i 6 = true) (h : z_G (d + 3) tb_X1_margin 4 [some (.ref 42), some (.int (e_margin_42_acc M i acc)), some (.int (i + 1))] [] [] (z_SH, M, L) Q) : z_G (d + 3) tb_X1_margin 4 [some (.ref 42), some (.int acc), some (.int i)] [] [] (z_SH, M, L) Q := by
  refine g_k 5 (pc' := (if z_cmp .ge i (M 15 1) = true then 29 else 15)) (LI' := [some (.ref 42), some (.int acc), some (.int i)]) (LL' := []) (st' := []) (S' := (z_SH, M, L)) (fun n h => And.intro rfl (And.intro rfl (And.intro rfl (And.intro rfl (And.intro rfl h))))) ?_
  refine g_ge (fun hc1 => ?_) (fun hc1 => ?_)
  · exact absurd hc1 hc
  · refine g_k 3 (pc' := 18) (LI' := [some (.ref 42), some (.int acc), some (.int i)]) (LL' := []) (st' := [.int i, .ref 42, .int acc]) (S' := (z_SH, M, L)) (fun n h => And.intro rfl (And.intro rfl (And.intro rfl h))) ?_
    refine g_k 1 (pc' := 21) (LI' := [some (.ref 42), some (.int acc), some (.int i)]) (LL' := []) (st' := [.int (f_X1_gainBy_42 M i), .int acc]) (S' := (z_SH, M, L)) (fun n h => And.intro rfl (Exists.intro _ (Exists.intro _ (And.intro (c_X1_gainBy_42 (d := d) M i p1) (And.intro (z_fit_same _ _ _ _ _ _ _ _) h))))) ?_
    refine g_k 4 (pc' := 4) (LI' := [some (.ref 42), some (.int (acc + (f_X1_gainBy_42 M i))), some (.int (i + 1))]) (LL' := []) (st' := []) (S' := (z_SH, M, L)) (fun n h => And.intro rfl (And.intro rfl (And.intro rfl (And.intro rfl h)))) ?_
    (unfold e_margin_42_acc at h; exact h )
def s_margin_42 (M : Nat → Nat → Int32)  (acc : Int32) (n : Nat) : Int32 := Nat.rec (motive := fun _ => Int32) (acc) (fun k r => (e_margin_42_acc M (nI k) r)) n
theorem l_margin_42 {d : Nat} {L : Nat → Nat → Int64} {Q : Option Value → z_St → Prop} (M : Nat → Nat → Int32)  (acc : Int32) : ∀ (n : Nat), (∀ k, k < n → ¬ (M 15 1 ≤ (nI k))) → (∀ k, k < n → z_vin (nI k) 6 = true) → (z_G (d + 3) tb_X1_margin 4 [some (.ref 42), some (.int ((s_margin_42 M acc n))), some (.int (nI n))] [] [] (z_SH, M, L) Q) → z_G (d + 3) tb_X1_margin 4 [some (.ref 42), some (.int acc), some (.int (nI 0))] [] [] (z_SH, M, L) Q
  | 0, _, _, h => h
  | n + 1, hc, p1, h => l_margin_42 M  acc n (fun k hk => hc k (by omega)) (fun k hk => p1 k (by omega)) (it_margin_42 M  (nI n) ((s_margin_42 M acc n)) (hc n (by omega)) (p1 n (by omega)) (by
    rw [nI_1]
    exact h))
def f_X1_margin_42 (M : Nat → Nat → Int32)  : Int32 := (s_margin_42 M ((0 : Int32)) ((M 15 1).toNatClampNeg))
theorem c_X1_margin_42 {d : Nat} {L : Nat → Nat → Int64} (M : Nat → Nat → Int32)  (p1 : ∀ k4, k4 < (M 15 1).toNatClampNeg → z_vin (nI k4) 6 = true) : z_C (d + 4) 21 [.ref 42] (z_SH, M, L) (some (.int (f_X1_margin_42 M))) (z_SH, M, L) := by
  refine z_mkA (tb := tb_X1_margin) rfl (by decide) rfl rfl rfl ?_
  refine g_k 4 (pc' := 4) (LI' := [some (.ref 42), some (.int 0), some (.int 0)]) (LL' := []) (st' := []) (S' := (z_SH, M, L)) (fun n h => And.intro rfl (And.intro rfl (And.intro rfl (And.intro rfl h)))) ?_
  refine l_margin_42 (d := d) M ((0 : Int32)) ((M 15 1).toNatClampNeg) (fun k hk => z_lpc hk) p1 ?_ 
  refine g_k 5 (pc' := (if z_cmp .ge (nI ((M 15 1).toNatClampNeg)) (M 15 1) = true then 29 else 15)) (LI' := [some (.ref 42), some (.int ((s_margin_42 M ((0 : Int32)) ((M 15 1).toNatClampNeg)))), some (.int (nI ((M 15 1).toNatClampNeg)))]) (LL' := []) (st' := []) (S' := (z_SH, M, L)) (fun n h => And.intro rfl (And.intro rfl (And.intro rfl (And.intro rfl (And.intro rfl h))))) ?_
  refine g_ge (fun hc1 => ?_) (fun hc1 => absurd (z_lpe) hc1)
  refine g_k 1 (pc' := 30) (LI' := [some (.ref 42), some (.int ((s_margin_42 M ((0 : Int32)) ((M 15 1).toNatClampNeg)))), some (.int (nI ((M 15 1).toNatClampNeg)))]) (LL' := []) (st' := [.int ((s_margin_42 M ((0 : Int32)) ((M 15 1).toNatClampNeg)))]) (S' := (z_SH, M, L)) (fun n h => And.intro rfl h) ?_
  exact ⟨1, And.intro rfl (⟨rfl, rfl⟩)⟩
