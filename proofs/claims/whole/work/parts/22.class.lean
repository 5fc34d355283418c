def e_X1_take_28_83_M (M : Nat → Nat → Int32) (a1 : Int32) (a2 : Int32) (i : Int32)  : Nat → Nat → Int32 := z_row M 31 (upd (M 31) ((i).toNatClampNeg) (f_X1_wayOf_28 M i))
theorem it_X1_take_28_83 {d : Nat} {L : Nat → Nat → Int64} {Q : Option Value → z_St → Prop} (M : Nat → Nat → Int32) (a1 : Int32) (a2 : Int32) (i : Int32)  (hc : ¬ (M 15 1 ≤ i)) (p1 : z_vin i 6 = true) (h : z_G (d + 2) tb_X1_take 83 [some (.ref 28), some (.int a1), some (.int a2), some (.int (i + 1))] [] [] (z_SH, e_X1_take_28_83_M M a1 a2 i, L) Q) : z_G (d + 2) tb_X1_take 83 [some (.ref 28), some (.int a1), some (.int a2), some (.int i)] [] [] (z_SH, M, L) Q := by
  refine g_k 5 (pc' := (if z_cmp .ge i (M 15 1) = true then 111 else 94)) (LI' := [some (.ref 28), some (.int a1), some (.int a2), some (.int i)]) (LL' := []) (st' := []) (S' := (z_SH, M, L)) (fun n h => And.intro rfl (And.intro rfl (And.intro rfl (And.intro rfl (And.intro rfl h))))) ?_
  refine g_ge (fun hc1 => ?_) (fun hc1 => ?_)
  · exact absurd hc1 hc
  · refine g_k 5 (pc' := 101) (LI' := [some (.ref 28), some (.int a1), some (.int a2), some (.int i)]) (LL' := []) (st' := [.int i, .ref 28, .int i, .ref 31]) (S' := (z_SH, M, L)) (fun n h => And.intro rfl (And.intro rfl (And.intro rfl (And.intro rfl (And.intro rfl h))))) ?_
    refine g_k 1 (pc' := 104) (LI' := [some (.ref 28), some (.int a1), some (.int a2), some (.int i)]) (LL' := []) (st' := [.int (f_X1_wayOf_28 M i), .int i, .ref 31]) (S' := (z_SH, M, L)) (fun n h => And.intro rfl (Exists.intro _ (Exists.intro _ (And.intro (c_X1_wayOf_28 (d := d) M i p1) (And.intro (z_fit_same _ _ _ _ _ _ _ _) h))))) ?_
    generalize hg1 : f_X1_wayOf_28 M i = r1 at *
    refine g_k 3 (pc' := 83) (LI' := [some (.ref 28), some (.int a1), some (.int a2), some (.int (i + 1))]) (LL' := []) (st' := []) (S' := (z_SH, z_row M 31 (upd (M 31) ((i).toNatClampNeg) r1), L)) (fun n h => And.intro p1 (And.intro rfl (And.intro rfl h))) ?_
    (subst hg1; unfold e_X1_take_28_83_M at h; exact h )
def s_X1_take_28_83 (M : Nat → Nat → Int32) (a1 : Int32) (a2 : Int32)  (n : Nat) : (Nat → Nat → Int32) := Nat.rec (motive := fun _ => (Nat → Nat → Int32)) (M) (fun k r => (e_X1_take_28_83_M r a1 a2 (nI k))) n
theorem fr_e_X1_take_28_83_M (M : Nat → Nat → Int32) (a1 : Int32) (a2 : Int32) (i : Int32)  (c : Nat) (h31 : c ≠ 31) : e_X1_take_28_83_M M a1 a2 i c = M c := by
  unfold e_X1_take_28_83_M
  repeat' split
  all_goals simp only [z_row_ne h31]
theorem fr_s_X1_take_28_83 (M : Nat → Nat → Int32) (a1 : Int32) (a2 : Int32)  (n : Nat) (c : Nat) (h31 : c ≠ 31) : ((s_X1_take_28_83 M a1 a2 n)) c = M c := by
  induction n with
  | zero => rfl
  | succ n ih => exact (fr_e_X1_take_28_83_M _ a1 a2 _  c h31).trans ih
theorem l_X1_take_28_83 {d : Nat} {L : Nat → Nat → Int64} {Q : Option Value → z_St → Prop} (M : Nat → Nat → Int32) (a1 : Int32) (a2 : Int32)  (n : Nat) : (∀ k, k < n → ¬ (((s_X1_take_28_83 M a1 a2 k)) 15 1 ≤ (nI k))) → (∀ k, k < n → z_vin (nI k) 6 = true) → (z_G (d + 2) tb_X1_take 83 [some (.ref 28), some (.int a1), some (.int a2), some (.int (nI n))] [] [] (z_SH, (s_X1_take_28_83 M a1 a2 n), L) Q) → z_G (d + 2) tb_X1_take 83 [some (.ref 28), some (.int a1), some (.int a2), some (.int (nI 0))] [] [] (z_SH, M, L) Q := by
  induction n with
  | zero =>
    intro hc p1 h
    exact h
  | succ n ih =>
    intro hc p1 h
    refine ih (fun k hk => hc k (by omega)) (fun k hk => p1 k (by omega)) ?_
    have hcn := hc n (by omega)
    have p1n := p1 n (by omega)
    clear ih hc p1
    have hs : s_X1_take_28_83 M a1 a2 (n + 1) = (e_X1_take_28_83_M ((s_X1_take_28_83 M a1 a2 n)) a1 a2 (nI n)) := rfl
    rw [hs] at h
    clear hs
    generalize s_X1_take_28_83 M a1 a2 n = sg at *
    refine it_X1_take_28_83 sg a1 a2 (nI n)  hcn p1n ?_
    rw [nI_1]
    exact h
def e_X1_take_28_7_M (M : Nat → Nat → Int32) (a1 : Int32) (a2 : Int32) (i : Int32)  : Nat → Nat → Int32 := z_row (z_row M 29 (upd (M 29) ((i).toNatClampNeg) ((0 : Int32)))) 30 (upd (M 30) ((i).toNatClampNeg) ((0 : Int32)))
theorem it_X1_take_28_7 {d : Nat} {L : Nat → Nat → Int64} {Q : Option Value → z_St → Prop} (M : Nat → Nat → Int32) (a1 : Int32) (a2 : Int32) (i : Int32)  (hc : ¬ (M 15 1 ≤ i)) (p1 : z_vin i 6 = true) (h : z_G (d + 0) tb_X1_take 7 [some (.ref 28), some (.int a1), some (.int a2), some (.int (i + 1))] [] [] (z_SH, e_X1_take_28_7_M M a1 a2 i, L) Q) : z_G (d + 0) tb_X1_take 7 [some (.ref 28), some (.int a1), some (.int a2), some (.int i)] [] [] (z_SH, M, L) Q := by
  refine g_k 5 (pc' := (if z_cmp .ge i (M 15 1) = true then 38 else 18)) (LI' := [some (.ref 28), some (.int a1), some (.int a2), some (.int i)]) (LL' := []) (st' := []) (S' := (z_SH, M, L)) (fun n h => And.intro rfl (And.intro rfl (And.intro rfl (And.intro rfl (And.intro rfl h))))) ?_
  refine g_ge (fun hc1 => ?_) (fun hc1 => ?_)
  · exact absurd hc1 hc
  · refine g_k 9 (pc' := 31) (LI' := [some (.ref 28), some (.int a1), some (.int a2), some (.int i)]) (LL' := []) (st' := [.int 0, .int i, .ref 30]) (S' := (z_SH, z_row M 29 (upd (M 29) ((i).toNatClampNeg) ((0 : Int32))), L)) (fun n h => And.intro rfl (And.intro rfl (And.intro rfl (And.intro rfl (And.intro p1 (And.intro rfl (And.intro rfl (And.intro rfl (And.intro rfl h))))))))) ?_
    refine g_k 3 (pc' := 7) (LI' := [some (.ref 28), some (.int a1), some (.int a2), some (.int (i + 1))]) (LL' := []) (st' := []) (S' := (z_SH, z_row (z_row M 29 (upd (M 29) ((i).toNatClampNeg) ((0 : Int32)))) 30 (upd (M 30) ((i).toNatClampNeg) ((0 : Int32))), L)) (fun n h => And.intro p1 (And.intro rfl (And.intro rfl h))) ?_
    (unfold e_X1_take_28_7_M at h; exact h )
def s_X1_take_28_7 (M : Nat → Nat → Int32) (a1 : Int32) (a2 : Int32)  (n : Nat) : (Nat → Nat → Int32) := Nat.rec (motive := fun _ => (Nat → Nat → Int32)) (M) (fun k r => (e_X1_take_28_7_M r a1 a2 (nI k))) n
theorem fr_e_X1_take_28_7_M (M : Nat → Nat → Int32) (a1 : Int32) (a2 : Int32) (i : Int32)  (c : Nat) (h29 : c ≠ 29) (h30 : c ≠ 30) : e_X1_take_28_7_M M a1 a2 i c = M c := by
  unfold e_X1_take_28_7_M
  repeat' split
  all_goals simp only [z_row_ne h29, z_row_ne h30]
theorem fr_s_X1_take_28_7 (M : Nat → Nat → Int32) (a1 : Int32) (a2 : Int32)  (n : Nat) (c : Nat) (h29 : c ≠ 29) (h30 : c ≠ 30) : ((s_X1_take_28_7 M a1 a2 n)) c = M c := by
  induction n with
  | zero => rfl
  | succ n ih => exact (fr_e_X1_take_28_7_M _ a1 a2 _  c h29 h30).trans ih
theorem l_X1_take_28_7 {d : Nat} {L : Nat → Nat → Int64} {Q : Option Value → z_St → Prop} (M : Nat → Nat → Int32) (a1 : Int32) (a2 : Int32)  (n : Nat) : (∀ k, k < n → ¬ (((s_X1_take_28_7 M a1 a2 k)) 15 1 ≤ (nI k))) → (∀ k, k < n → z_vin (nI k) 6 = true) → (z_G (d + 0) tb_X1_take 7 [some (.ref 28), some (.int a1), some (.int a2), some (.int (nI n))] [] [] (z_SH, (s_X1_take_28_7 M a1 a2 n), L) Q) → z_G (d + 0) tb_X1_take 7 [some (.ref 28), some (.int a1), some (.int a2), some (.int (nI 0))] [] [] (z_SH, M, L) Q := by
  induction n with
  | zero =>
    intro hc p1 h
    exact h
  | succ n ih =>
    intro hc p1 h
    refine ih (fun k hk => hc k (by omega)) (fun k hk => p1 k (by omega)) ?_
    have hcn := hc n (by omega)
    have p1n := p1 n (by omega)
    clear ih hc p1
    have hs : s_X1_take_28_7 M a1 a2 (n + 1) = (e_X1_take_28_7_M ((s_X1_take_28_7 M a1 a2 n)) a1 a2 (nI n)) := rfl
    rw [hs] at h
    clear hs
    generalize s_X1_take_28_7 M a1 a2 n = sg at *
    refine it_X1_take_28_7 sg a1 a2 (nI n)  hcn p1n ?_
    rw [nI_1]
    exact h
def e_X1_take_28_40_M (M : Nat → Nat → Int32) (a1 : Int32) (a2 : Int32) (i : Int32)  : Nat → Nat → Int32 := if (f_X0_holds_20 M i) = (0 : Int32) then M else if ¬ (f_X8_isIn M a2 i) = (0 : Int32) then M else (g_X1_weigh_28 M i)
theorem it_X1_take_28_40 {d : Nat} {L : Nat → Nat → Int64} {Q : Option Value → z_St → Prop} (M : Nat → Nat → Int32) (a1 : Int32) (a2 : Int32) (i : Int32)  (hc : ¬ (M 20 1 ≤ i)) (p1 : z_vin i 12 = true) (p2 : z_vin (M 22 ((i).toNatClampNeg)) 6 = true) (h : z_G (d + 1) tb_X1_take 40 [some (.ref 28), some (.int a1), some (.int a2), some (.int (i + 1))] [] [] (z_SH, e_X1_take_28_40_M M a1 a2 i, L) Q) : z_G (d + 1) tb_X1_take 40 [some (.ref 28), some (.int a1), some (.int a2), some (.int i)] [] [] (z_SH, M, L) Q := by
  refine g_k 5 (pc' := (if z_cmp .ge i (M 20 1) = true then 81 else 51)) (LI' := [some (.ref 28), some (.int a1), some (.int a2), some (.int i)]) (LL' := []) (st' := []) (S' := (z_SH, M, L)) (fun n h => And.intro rfl (And.intro rfl (And.intro rfl (And.intro rfl (And.intro rfl h))))) ?_
  refine g_ge (fun hc1 => ?_) (fun hc1 => ?_)
  · exact absurd hc1 hc
  · refine g_k 3 (pc' := 56) (LI' := [some (.ref 28), some (.int a1), some (.int a2), some (.int i)]) (LL' := []) (st' := [.int i, .ref 20]) (S' := (z_SH, M, L)) (fun n h => And.intro rfl (And.intro rfl (And.intro rfl h))) ?_
    refine g_k 1 (pc' := 59) (LI' := [some (.ref 28), some (.int a1), some (.int a2), some (.int i)]) (LL' := []) (st' := [.int (f_X0_holds_20 M i)]) (S' := (z_SH, M, L)) (fun n h => And.intro rfl (Exists.intro _ (Exists.intro _ (And.intro (c_X0_holds_20 (d := d) M i p1) (And.intro (z_fit_same _ _ _ _ _ _ _ _) h))))) ?_
    generalize hg1 : f_X0_holds_20 M i = r1 at *
    refine g_k 1 (pc' := (if z_cmp .eq r1 ((0 : Int32)) = true then 75 else 62)) (LI' := [some (.ref 28), some (.int a1), some (.int a2), some (.int i)]) (LL' := []) (st' := []) (S' := (z_SH, M, L)) (fun n h => And.intro rfl h) ?_
    refine g_eq (fun hc2 => ?_) (fun hc2 => ?_)
    · refine g_k 2 (pc' := 40) (LI' := [some (.ref 28), some (.int a1), some (.int a2), some (.int (i + 1))]) (LL' := []) (st' := []) (S' := (z_SH, M, L)) (fun n h => And.intro rfl (And.intro rfl h)) ?_
      (subst hg1; unfold e_X1_take_28_40_M at h; (try rw [if_pos hc2] at h); exact h )
    · refine g_k 2 (pc' := 64) (LI' := [some (.ref 28), some (.int a1), some (.int a2), some (.int i)]) (LL' := []) (st' := [.int i, .int a2]) (S' := (z_SH, M, L)) (fun n h => And.intro rfl (And.intro rfl h)) ?_
      refine g_k 1 (pc' := 67) (LI' := [some (.ref 28), some (.int a1), some (.int a2), some (.int i)]) (LL' := []) (st' := [.int (f_X8_isIn M a2 i)]) (S' := (z_SH, M, L)) (fun n h => And.intro rfl (Exists.intro _ (Exists.intro _ (And.intro (c_X8_isIn (d := d) M a2 i) (And.intro (z_fit_same _ _ _ _ _ _ _ _) h))))) ?_
      generalize hg2 : f_X8_isIn M a2 i = r2 at *
      refine g_k 1 (pc' := (if z_cmp .ne r2 ((0 : Int32)) = true then 75 else 70)) (LI' := [some (.ref 28), some (.int a1), some (.int a2), some (.int i)]) (LL' := []) (st' := []) (S' := (z_SH, M, L)) (fun n h => And.intro rfl h) ?_
      refine g_ne (fun hc3 => ?_) (fun hc3 => ?_)
      · refine g_k 2 (pc' := 40) (LI' := [some (.ref 28), some (.int a1), some (.int a2), some (.int (i + 1))]) (LL' := []) (st' := []) (S' := (z_SH, M, L)) (fun n h => And.intro rfl (And.intro rfl h)) ?_
        (subst hg2; subst hg1; unfold e_X1_take_28_40_M at h; (try rw [if_neg hc2] at h); (try rw [if_pos hc3] at h); exact h )
      · refine g_k 2 (pc' := 72) (LI' := [some (.ref 28), some (.int a1), some (.int a2), some (.int i)]) (LL' := []) (st' := [.int i, .ref 28]) (S' := (z_SH, M, L)) (fun n h => And.intro rfl (And.intro rfl h)) ?_
        refine g_k 1 (pc' := 75) (LI' := [some (.ref 28), some (.int a1), some (.int a2), some (.int i)]) (LL' := []) (st' := []) (S' := (z_SH, g_X1_weigh_28 M i, L)) (fun n h => And.intro rfl (Exists.intro _ (Exists.intro _ (And.intro (c_X1_weigh_28 (d := d) M i p1 p2) (And.intro (z_fit_same _ _ _ _ _ _ _ _) h))))) ?_
        generalize hg3 : g_X1_weigh_28 M i = m3 at *
        refine g_k 2 (pc' := 40) (LI' := [some (.ref 28), some (.int a1), some (.int a2), some (.int (i + 1))]) (LL' := []) (st' := []) (S' := (z_SH, m3, L)) (fun n h => And.intro rfl (And.intro rfl h)) ?_
        (subst hg3; subst hg2; subst hg1; unfold e_X1_take_28_40_M at h; (try rw [if_neg hc2] at h); (try rw [if_neg (not_not_intro hc3)] at h); exact h )
def s_X1_take_28_40 (M : Nat → Nat → Int32) (a1 : Int32) (a2 : Int32)  (n : Nat) : (Nat → Nat → Int32) := Nat.rec (motive := fun _ => (Nat → Nat → Int32)) (M) (fun k r => (e_X1_take_28_40_M r a1 a2 (nI k))) n
theorem fr_e_X1_take_28_40_M (M : Nat → Nat → Int32) (a1 : Int32) (a2 : Int32) (i : Int32)  (c : Nat) (h29 : c ≠ 29) (h30 : c ≠ 30) : e_X1_take_28_40_M M a1 a2 i c = M c := by
  unfold e_X1_take_28_40_M
  repeat' split
  all_goals simp only [z_row_ne h29, z_row_ne h30, fr_g_X1_weigh_28 (c := c) (h29 := h29) (h30 := h30)]
theorem fr_s_X1_take_28_40 (M : Nat → Nat → Int32) (a1 : Int32) (a2 : Int32)  (n : Nat) (c : Nat) (h29 : c ≠ 29) (h30 : c ≠ 30) : ((s_X1_take_28_40 M a1 a2 n)) c = M c := by
  induction n with
  | zero => rfl
  | succ n ih => exact (fr_e_X1_take_28_40_M _ a1 a2 _  c h29 h30).trans ih
theorem l_X1_take_28_40 {d : Nat} {L : Nat → Nat → Int64} {Q : Option Value → z_St → Prop} (M : Nat → Nat → Int32) (a1 : Int32) (a2 : Int32)  (n : Nat) : (∀ k, k < n → ¬ (((s_X1_take_28_40 M a1 a2 k)) 20 1 ≤ (nI k))) → (∀ k, k < n → z_vin (nI k) 12 = true) → (∀ k, k < n → z_vin (((s_X1_take_28_40 M a1 a2 k)) 22 (((nI k)).toNatClampNeg)) 6 = true) → (z_G (d + 1) tb_X1_take 40 [some (.ref 28), some (.int a1), some (.int a2), some (.int (nI n))] [] [] (z_SH, (s_X1_take_28_40 M a1 a2 n), L) Q) → z_G (d + 1) tb_X1_take 40 [some (.ref 28), some (.int a1), some (.int a2), some (.int (nI 0))] [] [] (z_SH, M, L) Q := by
  induction n with
  | zero =>
    intro hc p1 p2 h
    exact h
  | succ n ih =>
    intro hc p1 p2 h
    refine ih (fun k hk => hc k (by omega)) (fun k hk => p1 k (by omega)) (fun k hk => p2 k (by omega)) ?_
    have hcn := hc n (by omega)
    have p1n := p1 n (by omega)
    have p2n := p2 n (by omega)
    clear ih hc p1 p2
    have hs : s_X1_take_28_40 M a1 a2 (n + 1) = (e_X1_take_28_40_M ((s_X1_take_28_40 M a1 a2 n)) a1 a2 (nI n)) := rfl
    rw [hs] at h
    clear hs
    generalize s_X1_take_28_40 M a1 a2 n = sg at *
    refine it_X1_take_28_40 sg a1 a2 (nI n)  hcn p1n p2n ?_
    rw [nI_1]
    exact h
def g_X1_take_28 (M : Nat → Nat → Int32) (a1 : Int32) (a2 : Int32) : Nat → Nat → Int32 := ((s_X1_take_28_83 ((s_X1_take_28_40 ((s_X1_take_28_7 (z_row M 28 (upd (M 28) 2 a1)) a1 a2 (((z_row M 28 (upd (M 28) 2 a1)) 15 1).toNatClampNeg))) a1 a2 ((((s_X1_take_28_7 (z_row M 28 (upd (M 28) 2 a1)) a1 a2 (((z_row M 28 (upd (M 28) 2 a1)) 15 1).toNatClampNeg))) 20 1).toNatClampNeg))) a1 a2 ((((s_X1_take_28_40 ((s_X1_take_28_7 (z_row M 28 (upd (M 28) 2 a1)) a1 a2 (((z_row M 28 (upd (M 28) 2 a1)) 15 1).toNatClampNeg))) a1 a2 ((((s_X1_take_28_7 (z_row M 28 (upd (M 28) 2 a1)) a1 a2 (((z_row M 28 (upd (M 28) 2 a1)) 15 1).toNatClampNeg))) 20 1).toNatClampNeg))) 15 1).toNatClampNeg)))
theorem fr_g_X1_take_28 (M : Nat → Nat → Int32) (a1 : Int32) (a2 : Int32) (c : Nat) (h28 : c ≠ 28) (h29 : c ≠ 29) (h30 : c ≠ 30) (h31 : c ≠ 31) : g_X1_take_28 M a1 a2 c = M c := by
  unfold g_X1_take_28
  repeat' split
  all_goals simp only [z_row_ne h28, z_row_ne h29, z_row_ne h30, z_row_ne h31, fr_s_X1_take_28_40 (c := c) (h29 := h29) (h30 := h30), fr_s_X1_take_28_7 (c := c) (h29 := h29) (h30 := h30), fr_s_X1_take_28_83 (c := c) (h31 := h31)]
theorem c_X1_take_28 {d : Nat} {L : Nat → Nat → Int64} (M : Nat → Nat → Int32) (a1 : Int32) (a2 : Int32) (p1 : ∀ k7, k7 < ((z_row M 28 (upd (M 28) 2 a1)) 15 1).toNatClampNeg → z_vin (nI k7) 6 = true) (p2 : ∀ k8, k8 < (((s_X1_take_28_7 (z_row M 28 (upd (M 28) 2 a1)) a1 a2 (((z_row M 28 (upd (M 28) 2 a1)) 15 1).toNatClampNeg))) 20 1).toNatClampNeg → z_vin (nI k8) 12 = true) (p3 : ∀ k8, k8 < (((s_X1_take_28_7 (z_row M 28 (upd (M 28) 2 a1)) a1 a2 (((z_row M 28 (upd (M 28) 2 a1)) 15 1).toNatClampNeg))) 20 1).toNatClampNeg → z_vin (((s_X1_take_28_40 ((s_X1_take_28_7 (z_row M 28 (upd (M 28) 2 a1)) a1 a2 (((z_row M 28 (upd (M 28) 2 a1)) 15 1).toNatClampNeg))) a1 a2 k8)) 22 (((nI k8)).toNatClampNeg)) 6 = true) (p4 : ∀ k6, k6 < (((s_X1_take_28_40 ((s_X1_take_28_7 (z_row M 28 (upd (M 28) 2 a1)) a1 a2 (((z_row M 28 (upd (M 28) 2 a1)) 15 1).toNatClampNeg))) a1 a2 ((((s_X1_take_28_7 (z_row M 28 (upd (M 28) 2 a1)) a1 a2 (((z_row M 28 (upd (M 28) 2 a1)) 15 1).toNatClampNeg))) 20 1).toNatClampNeg))) 15 1).toNatClampNeg → z_vin (nI k6) 6 = true) : z_C (d + 3) 13 [.ref 28, .int a1, .int a2] (z_SH, M, L) none (z_SH, g_X1_take_28 M a1 a2, L) := by
  refine z_mkA (tb := tb_X1_take) rfl (by decide) rfl rfl rfl ?_
  refine g_k 5 (pc' := 7) (LI' := [some (.ref 28), some (.int a1), some (.int a2), some (.int 0)]) (LL' := []) (st' := []) (S' := (z_SH, z_row M 28 (upd (M 28) 2 a1), L)) (fun n h => And.intro rfl (And.intro rfl (And.intro rfl (And.intro rfl (And.intro rfl h))))) ?_
  refine l_X1_take_28_7 (d := d + 2) (z_row M 28 (upd (M 28) 2 a1)) a1 a2 (((z_row M 28 (upd (M 28) 2 a1)) 15 1).toNatClampNeg) (fun k hk => by rw [fr_s_X1_take_28_7 (z_row M 28 (upd (M 28) 2 a1)) a1 a2 k 15 (by decide) (by decide)]; exact z_lpc hk) p1 ?_ 
  generalize hg1 : (s_X1_take_28_7 (z_row M 28 (upd (M 28) 2 a1)) a1 a2 (((z_row M 28 (upd (M 28) 2 a1)) 15 1).toNatClampNeg)) = m1 at *
  refine g_k 5 (pc' := (if z_cmp .ge (nI (((z_row M 28 (upd (M 28) 2 a1)) 15 1).toNatClampNeg)) (m1 15 1) = true then 38 else 18)) (LI' := [some (.ref 28), some (.int a1), some (.int a2), some (.int (nI (((z_row M 28 (upd (M 28) 2 a1)) 15 1).toNatClampNeg)))]) (LL' := []) (st' := []) (S' := (z_SH, m1, L)) (fun n h => And.intro rfl (And.intro rfl (And.intro rfl (And.intro rfl (And.intro rfl h))))) ?_
  refine g_ge (fun hc1 => ?_) (fun hc1 => absurd (by subst hg1; exact (by rw [fr_s_X1_take_28_7 (z_row M 28 (upd (M 28) 2 a1)) a1 a2 (((z_row M 28 (upd (M 28) 2 a1)) 15 1).toNatClampNeg) 15 (by decide) (by decide)]; exact z_lpe)) hc1)
  refine g_k 2 (pc' := 40) (LI' := [some (.ref 28), some (.int a1), some (.int a2), some (.int 0)]) (LL' := []) (st' := []) (S' := (z_SH, m1, L)) (fun n h => And.intro rfl (And.intro rfl h)) ?_
  refine l_X1_take_28_40 (d := d + 1) m1 a1 a2 ((m1 20 1).toNatClampNeg) (fun k hk => by rw [fr_s_X1_take_28_40 m1 a1 a2 k 20 (by decide) (by decide)]; exact z_lpc hk) p2 p3 ?_ 
  generalize hg2 : (s_X1_take_28_40 m1 a1 a2 ((m1 20 1).toNatClampNeg)) = m2 at *
  refine g_k 5 (pc' := (if z_cmp .ge (nI ((m1 20 1).toNatClampNeg)) (m2 20 1) = true then 81 else 51)) (LI' := [some (.ref 28), some (.int a1), some (.int a2), some (.int (nI ((m1 20 1).toNatClampNeg)))]) (LL' := []) (st' := []) (S' := (z_SH, m2, L)) (fun n h => And.intro rfl (And.intro rfl (And.intro rfl (And.intro rfl (And.intro rfl h))))) ?_
  refine g_ge (fun hc2 => ?_) (fun hc2 => absurd (by subst hg2; subst hg1; exact (by rw [fr_s_X1_take_28_40 ((s_X1_take_28_7 (z_row M 28 (upd (M 28) 2 a1)) a1 a2 (((z_row M 28 (upd (M 28) 2 a1)) 15 1).toNatClampNeg))) a1 a2 ((((s_X1_take_28_7 (z_row M 28 (upd (M 28) 2 a1)) a1 a2 (((z_row M 28 (upd (M 28) 2 a1)) 15 1).toNatClampNeg))) 20 1).toNatClampNeg) 20 (by decide) (by decide)]; exact z_lpe)) hc2)
  refine g_k 2 (pc' := 83) (LI' := [some (.ref 28), some (.int a1), some (.int a2), some (.int 0)]) (LL' := []) (st' := []) (S' := (z_SH, m2, L)) (fun n h => And.intro rfl (And.intro rfl h)) ?_
  refine l_X1_take_28_83 (d := d) m2 a1 a2 ((m2 15 1).toNatClampNeg) (fun k hk => by rw [fr_s_X1_take_28_83 m2 a1 a2 k 15 (by decide)]; exact z_lpc hk) p4 ?_ 
  generalize hg3 : (s_X1_take_28_83 m2 a1 a2 ((m2 15 1).toNatClampNeg)) = m3 at *
  refine g_k 5 (pc' := (if z_cmp .ge (nI ((m2 15 1).toNatClampNeg)) (m3 15 1) = true then 111 else 94)) (LI' := [some (.ref 28), some (.int a1), some (.int a2), some (.int (nI ((m2 15 1).toNatClampNeg)))]) (LL' := []) (st' := []) (S' := (z_SH, m3, L)) (fun n h => And.intro rfl (And.intro rfl (And.intro rfl (And.intro rfl (And.intro rfl h))))) ?_
  refine g_ge (fun hc3 => ?_) (fun hc3 => absurd (by subst hg3; subst hg2; subst hg1; exact (by rw [fr_s_X1_take_28_83 ((s_X1_take_28_40 ((s_X1_take_28_7 (z_row M 28 (upd (M 28) 2 a1)) a1 a2 (((z_row M 28 (upd (M 28) 2 a1)) 15 1).toNatClampNeg))) a1 a2 ((((s_X1_take_28_7 (z_row M 28 (upd (M 28) 2 a1)) a1 a2 (((z_row M 28 (upd (M 28) 2 a1)) 15 1).toNatClampNeg))) 20 1).toNatClampNeg))) a1 a2 ((((s_X1_take_28_40 ((s_X1_take_28_7 (z_row M 28 (upd (M 28) 2 a1)) a1 a2 (((z_row M 28 (upd (M 28) 2 a1)) 15 1).toNatClampNeg))) a1 a2 ((((s_X1_take_28_7 (z_row M 28 (upd (M 28) 2 a1)) a1 a2 (((z_row M 28 (upd (M 28) 2 a1)) 15 1).toNatClampNeg))) 20 1).toNatClampNeg))) 15 1).toNatClampNeg) 15 (by decide)]; exact z_lpe)) hc3)
  exact ⟨1, And.intro rfl (⟨rfl, (by subst hg3; subst hg2; subst hg1; rfl)⟩)⟩
def f_X6_marginOn_19 (M : Nat → Nat → Int32) (a1 : Int32) : Int32 := (f_X1_margin_28 (g_X1_take_28 M a1 ((0 : Int32))))
def g_X6_marginOn_19 (M : Nat → Nat → Int32) (a1 : Int32) : Nat → Nat → Int32 := (g_X1_take_28 M a1 ((0 : Int32)))
theorem fr_g_X6_marginOn_19 (M : Nat → Nat → Int32) (a1 : Int32) (c : Nat) (h28 : c ≠ 28) (h29 : c ≠ 29) (h30 : c ≠ 30) (h31 : c ≠ 31) : g_X6_marginOn_19 M a1 c = M c := by
  unfold g_X6_marginOn_19
  repeat' split
  all_goals simp only [z_row_ne h28, z_row_ne h29, z_row_ne h30, z_row_ne h31, fr_g_X1_take_28 (c := c) (h28 := h28) (h29 := h29) (h30 := h30) (h31 := h31)]
theorem c_X6_marginOn_19 {d : Nat} {L : Nat → Nat → Int64} (M : Nat → Nat → Int32) (a1 : Int32) (p1 : ∀ k7, k7 < ((z_row M 28 (upd (M 28) 2 a1)) 15 1).toNatClampNeg → z_vin (nI k7) 6 = true) (p2 : ∀ k8, k8 < (((s_X1_take_28_7 (z_row M 28 (upd (M 28) 2 a1)) a1 ((0 : Int32)) (((z_row M 28 (upd (M 28) 2 a1)) 15 1).toNatClampNeg))) 20 1).toNatClampNeg → z_vin (nI k8) 12 = true) (p3 : ∀ k8, k8 < (((s_X1_take_28_7 (z_row M 28 (upd (M 28) 2 a1)) a1 ((0 : Int32)) (((z_row M 28 (upd (M 28) 2 a1)) 15 1).toNatClampNeg))) 20 1).toNatClampNeg → z_vin (((s_X1_take_28_40 ((s_X1_take_28_7 (z_row M 28 (upd (M 28) 2 a1)) a1 ((0 : Int32)) (((z_row M 28 (upd (M 28) 2 a1)) 15 1).toNatClampNeg))) a1 ((0 : Int32)) k8)) 22 (((nI k8)).toNatClampNeg)) 6 = true) (p4 : ∀ k6, k6 < (((s_X1_take_28_40 ((s_X1_take_28_7 (z_row M 28 (upd (M 28) 2 a1)) a1 ((0 : Int32)) (((z_row M 28 (upd (M 28) 2 a1)) 15 1).toNatClampNeg))) a1 ((0 : Int32)) ((((s_X1_take_28_7 (z_row M 28 (upd (M 28) 2 a1)) a1 ((0 : Int32)) (((z_row M 28 (upd (M 28) 2 a1)) 15 1).toNatClampNeg))) 20 1).toNatClampNeg))) 15 1).toNatClampNeg → z_vin (nI k6) 6 = true) (p5 : ∀ k3, k3 < ((g_X1_take_28 M a1 ((0 : Int32))) 15 1).toNatClampNeg → z_vin (nI k3) 6 = true) : z_C (d + 5) 58 [.ref 19, .int a1] (z_SH, M, L) (some (.int (f_X6_marginOn_19 M a1))) (z_SH, g_X6_marginOn_19 M a1, L) := by
  refine z_mkA (tb := tb_X6_marginOn) rfl (by decide) rfl rfl rfl ?_
  refine g_k 4 (pc' := 6) (LI' := [some (.ref 19), some (.int a1)]) (LL' := []) (st' := [.int 0, .int a1, .ref 28]) (S' := (z_SH, M, L)) (fun n h => And.intro rfl (And.intro rfl (And.intro rfl (And.intro rfl h)))) ?_
  refine g_k 1 (pc' := 9) (LI' := [some (.ref 19), some (.int a1)]) (LL' := []) (st' := []) (S' := (z_SH, g_X1_take_28 M a1 ((0 : Int32)), L)) (fun n h => And.intro rfl (Exists.intro _ (Exists.intro _ (And.intro (c_X1_take_28 (d := d + 1) M a1 ((0 : Int32)) p1 p2 p3 p4) (And.intro (z_fit_same _ _ _ _ _ _ _ _) h))))) ?_
  generalize hg1 : g_X1_take_28 M a1 ((0 : Int32)) = m1 at *
  refine g_k 2 (pc' := 13) (LI' := [some (.ref 19), some (.int a1)]) (LL' := []) (st' := [.ref 28]) (S' := (z_SH, m1, L)) (fun n h => And.intro rfl (And.intro rfl h)) ?_
  refine g_k 1 (pc' := 16) (LI' := [some (.ref 19), some (.int a1)]) (LL' := []) (st' := [.int (f_X1_margin_28 m1)]) (S' := (z_SH, m1, L)) (fun n h => And.intro rfl (Exists.intro _ (Exists.intro _ (And.intro (c_X1_margin_28 (d := d) m1  p5) (And.intro (z_fit_same _ _ _ _ _ _ _ _) h))))) ?_
  generalize hg2 : f_X1_margin_28 m1 = r2 at *
  exact ⟨1, And.intro rfl (⟨(by subst hg2; subst hg1; rfl), (by subst hg2; subst hg1; rfl)⟩)⟩
def e_X6_setOfPassing_19_4_c1 (M : Nat → Nat → Int32)  (i : Int32) (c1 : Int32) : Int32 := if (f_X6_marginOn_19 M i) ≤ (0 : Int32) then c1 else c1 ||| (((1 : Int32)) <<< (i &&& 31))
def e_X6_setOfPassing_19_4_M (M : Nat → Nat → Int32)  (i : Int32) (c1 : Int32) : Nat → Nat → Int32 := (g_X6_marginOn_19 M i)
theorem it_X6_setOfPassing_19_4 {d : Nat} {L : Nat → Nat → Int64} {Q : Option Value → z_St → Prop} (M : Nat → Nat → Int32)  (i : Int32) (c1 : Int32) (hc : ¬ ((8 : Int32) ≤ i)) (p1 : ∀ k7, k7 < ((z_row M 28 (upd (M 28) 2 i)) 15 1).toNatClampNeg → z_vin (nI k7) 6 = true) (p2 : ∀ k8, k8 < (((s_X1_take_28_7 (z_row M 28 (upd (M 28) 2 i)) i ((0 : Int32)) (((z_row M 28 (upd (M 28) 2 i)) 15 1).toNatClampNeg))) 20 1).toNatClampNeg → z_vin (nI k8) 12 = true) (p3 : ∀ k8, k8 < (((s_X1_take_28_7 (z_row M 28 (upd (M 28) 2 i)) i ((0 : Int32)) (((z_row M 28 (upd (M 28) 2 i)) 15 1).toNatClampNeg))) 20 1).toNatClampNeg → z_vin (((s_X1_take_28_40 ((s_X1_take_28_7 (z_row M 28 (upd (M 28) 2 i)) i ((0 : Int32)) (((z_row M 28 (upd (M 28) 2 i)) 15 1).toNatClampNeg))) i ((0 : Int32)) k8)) 22 (((nI k8)).toNatClampNeg)) 6 = true) (p4 : ∀ k6, k6 < (((s_X1_take_28_40 ((s_X1_take_28_7 (z_row M 28 (upd (M 28) 2 i)) i ((0 : Int32)) (((z_row M 28 (upd (M 28) 2 i)) 15 1).toNatClampNeg))) i ((0 : Int32)) ((((s_X1_take_28_7 (z_row M 28 (upd (M 28) 2 i)) i ((0 : Int32)) (((z_row M 28 (upd (M 28) 2 i)) 15 1).toNatClampNeg))) 20 1).toNatClampNeg))) 15 1).toNatClampNeg → z_vin (nI k6) 6 = true) (p5 : ∀ k3, k3 < ((g_X1_take_28 M i ((0 : Int32))) 15 1).toNatClampNeg → z_vin (nI k3) 6 = true) (h : z_G (d + 5) tb_X6_setOfPassing 4 [some (.ref 19), some (.int (e_X6_setOfPassing_19_4_c1 M i c1)), some (.int (i + 1))] [] [] (z_SH, e_X6_setOfPassing_19_4_M M i c1, L) Q) : z_G (d + 5) tb_X6_setOfPassing 4 [some (.ref 19), some (.int c1), some (.int i)] [] [] (z_SH, M, L) Q := by
  refine g_k 3 (pc' := (if z_cmp .ge i ((8 : Int32)) = true then 30 else 10)) (LI' := [some (.ref 19), some (.int c1), some (.int i)]) (LL' := []) (st' := []) (S' := (z_SH, M, L)) (fun n h => And.intro rfl (And.intro rfl (And.intro rfl h))) ?_
  refine g_ge (fun hc1 => ?_) (fun hc1 => ?_)
  · exact absurd hc1 hc
  · refine g_k 2 (pc' := 12) (LI' := [some (.ref 19), some (.int c1), some (.int i)]) (LL' := []) (st' := [.int i, .ref 19]) (S' := (z_SH, M, L)) (fun n h => And.intro rfl (And.intro rfl h)) ?_
    refine g_k 1 (pc' := 15) (LI' := [some (.ref 19), some (.int c1), some (.int i)]) (LL' := []) (st' := [.int (f_X6_marginOn_19 M i)]) (S' := (z_SH, g_X6_marginOn_19 M i, L)) (fun n h => And.intro rfl (Exists.intro _ (Exists.intro _ (And.intro (c_X6_marginOn_19 (d := d) M i p1 p2 p3 p4 p5) (And.intro (z_fit_same _ _ _ _ _ _ _ _) h))))) ?_
    generalize hg1 : f_X6_marginOn_19 M i = r1 at *
    generalize hg2 : g_X6_marginOn_19 M i = m2 at *
    refine g_k 1 (pc' := (if z_cmp .le r1 ((0 : Int32)) = true then 24 else 18)) (LI' := [some (.ref 19), some (.int c1), some (.int i)]) (LL' := []) (st' := []) (S' := (z_SH, m2, L)) (fun n h => And.intro rfl h) ?_
    refine g_le (fun hc2 => ?_) (fun hc2 => ?_)
    · refine g_k 2 (pc' := 4) (LI' := [some (.ref 19), some (.int c1), some (.int (i + 1))]) (LL' := []) (st' := []) (S' := (z_SH, m2, L)) (fun n h => And.intro rfl (And.intro rfl h)) ?_
      (subst hg2; subst hg1; unfold e_X6_setOfPassing_19_4_c1 e_X6_setOfPassing_19_4_M at h; (try rw [if_pos hc2] at h); exact h )
    · refine g_k 8 (pc' := 4) (LI' := [some (.ref 19), some (.int (c1 ||| (((1 : Int32)) <<< (i &&& 31)))), some (.int (i + 1))]) (LL' := []) (st' := []) (S' := (z_SH, m2, L)) (fun n h => And.intro rfl (And.intro rfl (And.intro rfl (And.intro rfl (And.intro rfl (And.intro rfl (And.intro rfl (And.intro rfl h)))))))) ?_
      (subst hg2; subst hg1; unfold e_X6_setOfPassing_19_4_c1 e_X6_setOfPassing_19_4_M at h; (try rw [if_neg hc2] at h); exact h )
def s_X6_setOfPassing_19_4 (M : Nat → Nat → Int32)  (c1 : Int32) (n : Nat) : Int32 × (Nat → Nat → Int32) := Nat.rec (motive := fun _ => Int32 × (Nat → Nat → Int32)) (c1, M) (fun k r => (e_X6_setOfPassing_19_4_c1 r.2 (nI k) r.1, e_X6_setOfPassing_19_4_M r.2 (nI k) r.1)) n
theorem fr_e_X6_setOfPassing_19_4_M (M : Nat → Nat → Int32)  (i : Int32) (c1 : Int32) (c : Nat) (h28 : c ≠ 28) (h29 : c ≠ 29) (h30 : c ≠ 30) (h31 : c ≠ 31) : e_X6_setOfPassing_19_4_M M i c1 c = M c := by
  unfold e_X6_setOfPassing_19_4_M
  repeat' split
  all_goals simp only [z_row_ne h28, z_row_ne h29, z_row_ne h30, z_row_ne h31, fr_g_X6_marginOn_19 (c := c) (h28 := h28) (h29 := h29) (h30 := h30) (h31 := h31)]
theorem fr_s_X6_setOfPassing_19_4 (M : Nat → Nat → Int32)  (c1 : Int32) (n : Nat) (c : Nat) (h28 : c ≠ 28) (h29 : c ≠ 29) (h30 : c ≠ 30) (h31 : c ≠ 31) : ((s_X6_setOfPassing_19_4 M c1 n).2) c = M c := by
  induction n with
  | zero => rfl
  | succ n ih => exact (fr_e_X6_setOfPassing_19_4_M _  _ ((s_X6_setOfPassing_19_4 M c1 n).1) c h28 h29 h30 h31).trans ih
theorem l_X6_setOfPassing_19_4 {d : Nat} {L : Nat → Nat → Int64} {Q : Option Value → z_St → Prop} (M : Nat → Nat → Int32)  (c1 : Int32) (n : Nat) : (∀ k, k < n → ¬ ((8 : Int32) ≤ (nI k))) → (∀ k, k < n → ∀ k7, k7 < ((z_row ((s_X6_setOfPassing_19_4 M c1 k).2) 28 (upd (((s_X6_setOfPassing_19_4 M c1 k).2) 28) 2 (nI k))) 15 1).toNatClampNeg → z_vin (nI k7) 6 = true) → (∀ k, k < n → ∀ k8, k8 < (((s_X1_take_28_7 (z_row ((s_X6_setOfPassing_19_4 M c1 k).2) 28 (upd (((s_X6_setOfPassing_19_4 M c1 k).2) 28) 2 (nI k))) (nI k) ((0 : Int32)) (((z_row ((s_X6_setOfPassing_19_4 M c1 k).2) 28 (upd (((s_X6_setOfPassing_19_4 M c1 k).2) 28) 2 (nI k))) 15 1).toNatClampNeg))) 20 1).toNatClampNeg → z_vin (nI k8) 12 = true) → (∀ k, k < n → ∀ k8, k8 < (((s_X1_take_28_7 (z_row ((s_X6_setOfPassing_19_4 M c1 k).2) 28 (upd (((s_X6_setOfPassing_19_4 M c1 k).2) 28) 2 (nI k))) (nI k) ((0 : Int32)) (((z_row ((s_X6_setOfPassing_19_4 M c1 k).2) 28 (upd (((s_X6_setOfPassing_19_4 M c1 k).2) 28) 2 (nI k))) 15 1).toNatClampNeg))) 20 1).toNatClampNeg → z_vin (((s_X1_take_28_40 ((s_X1_take_28_7 (z_row ((s_X6_setOfPassing_19_4 M c1 k).2) 28 (upd (((s_X6_setOfPassing_19_4 M c1 k).2) 28) 2 (nI k))) (nI k) ((0 : Int32)) (((z_row ((s_X6_setOfPassing_19_4 M c1 k).2) 28 (upd (((s_X6_setOfPassing_19_4 M c1 k).2) 28) 2 (nI k))) 15 1).toNatClampNeg))) (nI k) ((0 : Int32)) k8)) 22 (((nI k8)).toNatClampNeg)) 6 = true) → (∀ k, k < n → ∀ k6, k6 < (((s_X1_take_28_40 ((s_X1_take_28_7 (z_row ((s_X6_setOfPassing_19_4 M c1 k).2) 28 (upd (((s_X6_setOfPassing_19_4 M c1 k).2) 28) 2 (nI k))) (nI k) ((0 : Int32)) (((z_row ((s_X6_setOfPassing_19_4 M c1 k).2) 28 (upd (((s_X6_setOfPassing_19_4 M c1 k).2) 28) 2 (nI k))) 15 1).toNatClampNeg))) (nI k) ((0 : Int32)) ((((s_X1_take_28_7 (z_row ((s_X6_setOfPassing_19_4 M c1 k).2) 28 (upd (((s_X6_setOfPassing_19_4 M c1 k).2) 28) 2 (nI k))) (nI k) ((0 : Int32)) (((z_row ((s_X6_setOfPassing_19_4 M c1 k).2) 28 (upd (((s_X6_setOfPassing_19_4 M c1 k).2) 28) 2 (nI k))) 15 1).toNatClampNeg))) 20 1).toNatClampNeg))) 15 1).toNatClampNeg → z_vin (nI k6) 6 = true) → (∀ k, k < n → ∀ k3, k3 < ((g_X1_take_28 ((s_X6_setOfPassing_19_4 M c1 k).2) (nI k) ((0 : Int32))) 15 1).toNatClampNeg → z_vin (nI k3) 6 = true) → (z_G (d + 5) tb_X6_setOfPassing 4 [some (.ref 19), some (.int ((s_X6_setOfPassing_19_4 M c1 n).1)), some (.int (nI n))] [] [] (z_SH, (s_X6_setOfPassing_19_4 M c1 n).2, L) Q) → z_G (d + 5) tb_X6_setOfPassing 4 [some (.ref 19), some (.int c1), some (.int (nI 0))] [] [] (z_SH, M, L) Q := by
  induction n with
  | zero =>
    intro hc p1 p2 p3 p4 p5 h
    exact h
  | succ n ih =>
    intro hc p1 p2 p3 p4 p5 h
    refine ih (fun k hk => hc k (by omega)) (fun k hk => p1 k (by omega)) (fun k hk => p2 k (by omega)) (fun k hk => p3 k (by omega)) (fun k hk => p4 k (by omega)) (fun k hk => p5 k (by omega)) ?_
    have hcn := hc n (by omega)
    have p1n := p1 n (by omega)
    have p2n := p2 n (by omega)
    have p3n := p3 n (by omega)
    have p4n := p4 n (by omega)
    have p5n := p5 n (by omega)
    clear ih hc p1 p2 p3 p4 p5
    have hs : s_X6_setOfPassing_19_4 M c1 (n + 1) = (e_X6_setOfPassing_19_4_c1 ((s_X6_setOfPassing_19_4 M c1 n).2) (nI n) ((s_X6_setOfPassing_19_4 M c1 n).1), e_X6_setOfPassing_19_4_M ((s_X6_setOfPassing_19_4 M c1 n).2) (nI n) ((s_X6_setOfPassing_19_4 M c1 n).1)) := rfl
    rw [hs] at h
    clear hs
    try dsimp only at h
    generalize s_X6_setOfPassing_19_4 M c1 n = sg at *
    refine it_X6_setOfPassing_19_4 sg.2  (nI n) sg.1 hcn p1n p2n p3n p4n p5n ?_
    rw [nI_1]
    exact h
def f_X6_setOfPassing_19 (M : Nat → Nat → Int32)  : Int32 := ((s_X6_setOfPassing_19_4 M ((0 : Int32)) 8).1)
def g_X6_setOfPassing_19 (M : Nat → Nat → Int32)  : Nat → Nat → Int32 := ((s_X6_setOfPassing_19_4 M ((0 : Int32)) 8).2)
theorem fr_g_X6_setOfPassing_19 (M : Nat → Nat → Int32)  (c : Nat) (h28 : c ≠ 28) (h29 : c ≠ 29) (h30 : c ≠ 30) (h31 : c ≠ 31) : g_X6_setOfPassing_19 M c = M c := by
  unfold g_X6_setOfPassing_19
  repeat' split
  all_goals simp only [z_row_ne h28, z_row_ne h29, z_row_ne h30, z_row_ne h31, fr_s_X6_setOfPassing_19_4 (c := c) (h28 := h28) (h29 := h29) (h30 := h30) (h31 := h31)]
theorem c_X6_setOfPassing_19 {d : Nat} {L : Nat → Nat → Int64} (M : Nat → Nat → Int32)  (p1 : ∀ k5, k5 < 8 → ∀ k7, k7 < ((z_row ((s_X6_setOfPassing_19_4 M ((0 : Int32)) k5).2) 28 (upd (((s_X6_setOfPassing_19_4 M ((0 : Int32)) k5).2) 28) 2 (nI k5))) 15 1).toNatClampNeg → z_vin (nI k7) 6 = true) (p2 : ∀ k5, k5 < 8 → ∀ k8, k8 < (((s_X1_take_28_7 (z_row ((s_X6_setOfPassing_19_4 M ((0 : Int32)) k5).2) 28 (upd (((s_X6_setOfPassing_19_4 M ((0 : Int32)) k5).2) 28) 2 (nI k5))) (nI k5) ((0 : Int32)) (((z_row ((s_X6_setOfPassing_19_4 M ((0 : Int32)) k5).2) 28 (upd (((s_X6_setOfPassing_19_4 M ((0 : Int32)) k5).2) 28) 2 (nI k5))) 15 1).toNatClampNeg))) 20 1).toNatClampNeg → z_vin (nI k8) 12 = true) (p3 : ∀ k5, k5 < 8 → ∀ k8, k8 < (((s_X1_take_28_7 (z_row ((s_X6_setOfPassing_19_4 M ((0 : Int32)) k5).2) 28 (upd (((s_X6_setOfPassing_19_4 M ((0 : Int32)) k5).2) 28) 2 (nI k5))) (nI k5) ((0 : Int32)) (((z_row ((s_X6_setOfPassing_19_4 M ((0 : Int32)) k5).2) 28 (upd (((s_X6_setOfPassing_19_4 M ((0 : Int32)) k5).2) 28) 2 (nI k5))) 15 1).toNatClampNeg))) 20 1).toNatClampNeg → z_vin (((s_X1_take_28_40 ((s_X1_take_28_7 (z_row ((s_X6_setOfPassing_19_4 M ((0 : Int32)) k5).2) 28 (upd (((s_X6_setOfPassing_19_4 M ((0 : Int32)) k5).2) 28) 2 (nI k5))) (nI k5) ((0 : Int32)) (((z_row ((s_X6_setOfPassing_19_4 M ((0 : Int32)) k5).2) 28 (upd (((s_X6_setOfPassing_19_4 M ((0 : Int32)) k5).2) 28) 2 (nI k5))) 15 1).toNatClampNeg))) (nI k5) ((0 : Int32)) k8)) 22 (((nI k8)).toNatClampNeg)) 6 = true) (p4 : ∀ k5, k5 < 8 → ∀ k6, k6 < (((s_X1_take_28_40 ((s_X1_take_28_7 (z_row ((s_X6_setOfPassing_19_4 M ((0 : Int32)) k5).2) 28 (upd (((s_X6_setOfPassing_19_4 M ((0 : Int32)) k5).2) 28) 2 (nI k5))) (nI k5) ((0 : Int32)) (((z_row ((s_X6_setOfPassing_19_4 M ((0 : Int32)) k5).2) 28 (upd (((s_X6_setOfPassing_19_4 M ((0 : Int32)) k5).2) 28) 2 (nI k5))) 15 1).toNatClampNeg))) (nI k5) ((0 : Int32)) ((((s_X1_take_28_7 (z_row ((s_X6_setOfPassing_19_4 M ((0 : Int32)) k5).2) 28 (upd (((s_X6_setOfPassing_19_4 M ((0 : Int32)) k5).2) 28) 2 (nI k5))) (nI k5) ((0 : Int32)) (((z_row ((s_X6_setOfPassing_19_4 M ((0 : Int32)) k5).2) 28 (upd (((s_X6_setOfPassing_19_4 M ((0 : Int32)) k5).2) 28) 2 (nI k5))) 15 1).toNatClampNeg))) 20 1).toNatClampNeg))) 15 1).toNatClampNeg → z_vin (nI k6) 6 = true) (p5 : ∀ k5, k5 < 8 → ∀ k3, k3 < ((g_X1_take_28 ((s_X6_setOfPassing_19_4 M ((0 : Int32)) k5).2) (nI k5) ((0 : Int32))) 15 1).toNatClampNeg → z_vin (nI k3) 6 = true) : z_C (d + 6) 59 [.ref 19] (z_SH, M, L) (some (.int (f_X6_setOfPassing_19 M))) (z_SH, g_X6_setOfPassing_19 M, L) := by
  refine z_mkA (tb := tb_X6_setOfPassing) rfl (by decide) rfl rfl rfl ?_
  refine g_k 4 (pc' := 4) (LI' := [some (.ref 19), some (.int 0), some (.int 0)]) (LL' := []) (st' := []) (S' := (z_SH, M, L)) (fun n h => And.intro rfl (And.intro rfl (And.intro rfl (And.intro rfl h)))) ?_
  refine l_X6_setOfPassing_19_4 (d := d) M ((0 : Int32)) 8 (fun k hk => z_lpc hk) p1 p2 p3 p4 p5 ?_ 
  generalize hg1 : (s_X6_setOfPassing_19_4 M ((0 : Int32)) 8).1 = r1 at *
  generalize hg2 : (s_X6_setOfPassing_19_4 M ((0 : Int32)) 8).2 = m2 at *
  refine g_k 3 (pc' := (if z_cmp .ge (nI 8) ((8 : Int32)) = true then 30 else 10)) (LI' := [some (.ref 19), some (.int r1), some (.int (nI 8))]) (LL' := []) (st' := []) (S' := (z_SH, m2, L)) (fun n h => And.intro rfl (And.intro rfl (And.intro rfl h))) ?_
  refine g_ge (fun hc1 => ?_) (fun hc1 => absurd (z_lpe) hc1)
  refine g_k 1 (pc' := 31) (LI' := [some (.ref 19), some (.int r1), some (.int (nI 8))]) (LL' := []) (st' := [.int r1]) (S' := (z_SH, m2, L)) (fun n h => And.intro rfl h) ?_
  exact ⟨1, And.intro rfl (⟨(by subst hg2; subst hg1; rfl), (by subst hg2; subst hg1; rfl)⟩)⟩
def e_X6_sideHeldMost_19_4_c1 (M : Nat → Nat → Int32)  (i : Int32) (c1 : Int32) : Int32 := if (f_X0_holds_20 M i) = (0 : Int32) then c1 else if ¬ M 17 ((M 22 ((i).toNatClampNeg)).toNatClampNeg) = (1 : Int32) then c1 + (-(M 25 ((i).toNatClampNeg))) else c1 + (M 25 ((i).toNatClampNeg))
theorem it_X6_sideHeldMost_19_4 {d : Nat} {L : Nat → Nat → Int64} {Q : Option Value → z_St → Prop} (M : Nat → Nat → Int32)  (i : Int32) (c1 : Int32) (hc : ¬ (M 20 1 ≤ i)) (p1 : z_vin i 12 = true) (p2 : z_vin (M 22 ((i).toNatClampNeg)) 6 = true) (h : z_G (d + 1) tb_X6_sideHeldMost 4 [some (.ref 19), some (.int (e_X6_sideHeldMost_19_4_c1 M i c1)), some (.int (i + 1))] [] [] (z_SH, M, L) Q) : z_G (d + 1) tb_X6_sideHeldMost 4 [some (.ref 19), some (.int c1), some (.int i)] [] [] (z_SH, M, L) Q := by
  refine g_k 5 (pc' := (if z_cmp .ge i (M 20 1) = true then 78 else 15)) (LI' := [some (.ref 19), some (.int c1), some (.int i)]) (LL' := []) (st' := []) (S' := (z_SH, M, L)) (fun n h => And.intro rfl (And.intro rfl (And.intro rfl (And.intro rfl (And.intro rfl h))))) ?_
  refine g_ge (fun hc1 => ?_) (fun hc1 => ?_)
  · exact absurd hc1 hc
  · refine g_k 3 (pc' := 20) (LI' := [some (.ref 19), some (.int c1), some (.int i)]) (LL' := []) (st' := [.int i, .ref 20]) (S' := (z_SH, M, L)) (fun n h => And.intro rfl (And.intro rfl (And.intro rfl h))) ?_
    refine g_k 1 (pc' := 23) (LI' := [some (.ref 19), some (.int c1), some (.int i)]) (LL' := []) (st' := [.int (f_X0_holds_20 M i)]) (S' := (z_SH, M, L)) (fun n h => And.intro rfl (Exists.intro _ (Exists.intro _ (And.intro (c_X0_holds_20 (d := d) M i p1) (And.intro (z_fit_same _ _ _ _ _ _ _ _) h))))) ?_
    generalize hg1 : f_X0_holds_20 M i = r1 at *
    refine g_k 1 (pc' := (if z_cmp .eq r1 ((0 : Int32)) = true then 72 else 26)) (LI' := [some (.ref 19), some (.int c1), some (.int i)]) (LL' := []) (st' := []) (S' := (z_SH, M, L)) (fun n h => And.intro rfl h) ?_
    refine g_eq (fun hc2 => ?_) (fun hc2 => ?_)
    · refine g_k 2 (pc' := 4) (LI' := [some (.ref 19), some (.int c1), some (.int (i + 1))]) (LL' := []) (st' := []) (S' := (z_SH, M, L)) (fun n h => And.intro rfl (And.intro rfl h)) ?_
      (subst hg1; unfold e_X6_sideHeldMost_19_4_c1 at h; (try rw [if_pos hc2] at h); exact h )
    · refine g_k 9 (pc' := 43) (LI' := [some (.ref 19), some (.int c1), some (.int i)]) (LL' := []) (st' := [.int (M 22 ((i).toNatClampNeg)), .ref 17, .int c1]) (S' := (z_SH, M, L)) (fun n h => And.intro rfl (And.intro rfl (And.intro rfl (And.intro rfl (And.intro rfl (And.intro rfl (And.intro rfl (And.intro rfl (And.intro p1 h))))))))) ?_
      refine g_k 3 (pc' := (if z_cmp .ne (M 17 ((M 22 ((i).toNatClampNeg)).toNatClampNeg)) ((1 : Int32)) = true then 60 else 48)) (LI' := [some (.ref 19), some (.int c1), some (.int i)]) (LL' := []) (st' := [.int c1]) (S' := (z_SH, M, L)) (fun n h => And.intro p2 (And.intro rfl (And.intro rfl h))) ?_
      refine g_ne (fun hc3 => ?_) (fun hc3 => ?_)
      · refine g_k 9 (pc' := 75) (LI' := [some (.ref 19), some (.int (c1 + (-(M 25 ((i).toNatClampNeg))))), some (.int (i + 1))]) (LL' := []) (st' := []) (S' := (z_SH, M, L)) (fun n h => And.intro rfl (And.intro rfl (And.intro rfl (And.intro rfl (And.intro p1 (And.intro rfl (And.intro rfl (And.intro rfl (And.intro rfl h))))))))) ?_
        refine g_k 1 (pc' := 4) (LI' := [some (.ref 19), some (.int (c1 + (-(M 25 ((i).toNatClampNeg))))), some (.int (i + 1))]) (LL' := []) (st' := []) (S' := (z_SH, M, L)) (fun n h => And.intro rfl h) ?_
        (subst hg1; unfold e_X6_sideHeldMost_19_4_c1 at h; (try rw [if_neg hc2] at h); (try rw [if_pos hc3] at h); exact h )
      · refine g_k 9 (pc' := 75) (LI' := [some (.ref 19), some (.int (c1 + (M 25 ((i).toNatClampNeg)))), some (.int (i + 1))]) (LL' := []) (st' := []) (S' := (z_SH, M, L)) (fun n h => And.intro rfl (And.intro rfl (And.intro rfl (And.intro rfl (And.intro p1 (And.intro rfl (And.intro rfl (And.intro rfl (And.intro rfl h))))))))) ?_
        refine g_k 1 (pc' := 4) (LI' := [some (.ref 19), some (.int (c1 + (M 25 ((i).toNatClampNeg)))), some (.int (i + 1))]) (LL' := []) (st' := []) (S' := (z_SH, M, L)) (fun n h => And.intro rfl h) ?_
        (subst hg1; unfold e_X6_sideHeldMost_19_4_c1 at h; (try rw [if_neg hc2] at h); (try rw [if_neg (not_not_intro hc3)] at h); exact h )
def s_X6_sideHeldMost_19_4 (M : Nat → Nat → Int32)  (c1 : Int32) (n : Nat) : Int32 := Nat.rec (motive := fun _ => Int32) (c1) (fun k r => (e_X6_sideHeldMost_19_4_c1 M (nI k) r)) n
theorem l_X6_sideHeldMost_19_4 {d : Nat} {L : Nat → Nat → Int64} {Q : Option Value → z_St → Prop} (M : Nat → Nat → Int32)  (c1 : Int32) (n : Nat) : (∀ k, k < n → ¬ (M 20 1 ≤ (nI k))) → (∀ k, k < n → z_vin (nI k) 12 = true) → (∀ k, k < n → z_vin (M 22 (((nI k)).toNatClampNeg)) 6 = true) → (z_G (d + 1) tb_X6_sideHeldMost 4 [some (.ref 19), some (.int ((s_X6_sideHeldMost_19_4 M c1 n))), some (.int (nI n))] [] [] (z_SH, M, L) Q) → z_G (d + 1) tb_X6_sideHeldMost 4 [some (.ref 19), some (.int c1), some (.int (nI 0))] [] [] (z_SH, M, L) Q := by
  induction n with
  | zero =>
    intro hc p1 p2 h
    exact h
  | succ n ih =>
    intro hc p1 p2 h
    refine ih (fun k hk => hc k (by omega)) (fun k hk => p1 k (by omega)) (fun k hk => p2 k (by omega)) ?_
    have hcn := hc n (by omega)
    have p1n := p1 n (by omega)
    have p2n := p2 n (by omega)
    clear ih hc p1 p2
    have hs : s_X6_sideHeldMost_19_4 M c1 (n + 1) = (e_X6_sideHeldMost_19_4_c1 M (nI n) ((s_X6_sideHeldMost_19_4 M c1 n))) := rfl
    rw [hs] at h
    clear hs
    generalize s_X6_sideHeldMost_19_4 M c1 n = sg at *
    refine it_X6_sideHeldMost_19_4 M  (nI n) sg hcn p1n p2n ?_
    rw [nI_1]
    exact h
def f_X6_sideHeldMost_19 (M : Nat → Nat → Int32)  : Int32 := if ((s_X6_sideHeldMost_19_4 M ((0 : Int32)) ((M 20 1).toNatClampNeg))) ≤ (0 : Int32) then (0 : Int32) else (1 : Int32)
theorem c_X6_sideHeldMost_19 {d : Nat} {L : Nat → Nat → Int64} (M : Nat → Nat → Int32)  (p1 : ∀ k9, k9 < (M 20 1).toNatClampNeg → z_vin (nI k9) 12 = true) (p2 : ∀ k9, k9 < (M 20 1).toNatClampNeg → z_vin (M 22 (((nI k9)).toNatClampNeg)) 6 = true) : z_C (d + 2) 63 [.ref 19] (z_SH, M, L) (some (.int (f_X6_sideHeldMost_19 M))) (z_SH, M, L) := by
  refine z_mkA (tb := tb_X6_sideHeldMost) rfl (by decide) rfl rfl rfl ?_
  refine g_k 4 (pc' := 4) (LI' := [some (.ref 19), some (.int 0), some (.int 0)]) (LL' := []) (st' := []) (S' := (z_SH, M, L)) (fun n h => And.intro rfl (And.intro rfl (And.intro rfl (And.intro rfl h)))) ?_
  refine l_X6_sideHeldMost_19_4 (d := d) M ((0 : Int32)) ((M 20 1).toNatClampNeg) (fun k hk => z_lpc hk) p1 p2 ?_ 
  generalize hg1 : (s_X6_sideHeldMost_19_4 M ((0 : Int32)) ((M 20 1).toNatClampNeg)) = r1 at *
  refine g_k 5 (pc' := (if z_cmp .ge (nI ((M 20 1).toNatClampNeg)) (M 20 1) = true then 78 else 15)) (LI' := [some (.ref 19), some (.int r1), some (.int (nI ((M 20 1).toNatClampNeg)))]) (LL' := []) (st' := []) (S' := (z_SH, M, L)) (fun n h => And.intro rfl (And.intro rfl (And.intro rfl (And.intro rfl (And.intro rfl h))))) ?_
  refine g_ge (fun hc1 => ?_) (fun hc1 => absurd (z_lpe) hc1)
  refine g_k 2 (pc' := (if z_cmp .le r1 ((0 : Int32)) = true then 86 else 82)) (LI' := [some (.ref 19), some (.int r1), some (.int (nI ((M 20 1).toNatClampNeg)))]) (LL' := []) (st' := []) (S' := (z_SH, M, L)) (fun n h => And.intro rfl (And.intro rfl h)) ?_
  refine g_le (fun hc2 => ?_) (fun hc2 => ?_)
  · refine g_k 1 (pc' := 87) (LI' := [some (.ref 19), some (.int r1), some (.int (nI ((M 20 1).toNatClampNeg)))]) (LL' := []) (st' := [.int 0]) (S' := (z_SH, M, L)) (fun n h => And.intro rfl h) ?_
    exact ⟨1, And.intro rfl (⟨(by subst hg1; unfold f_X6_sideHeldMost_19; (first | rw [if_pos hc2] | skip); try rfl), rfl⟩)⟩
  · refine g_k 2 (pc' := 87) (LI' := [some (.ref 19), some (.int r1), some (.int (nI ((M 20 1).toNatClampNeg)))]) (LL' := []) (st' := [.int 1]) (S' := (z_SH, M, L)) (fun n h => And.intro rfl (And.intro rfl h)) ?_
    exact ⟨1, And.intro rfl (⟨(by subst hg1; unfold f_X6_sideHeldMost_19; (first | rw [if_neg hc2] | skip); try rfl), rfl⟩)⟩
