def e_X1_take_28_83_M (M : Nat → Nat → Int32) (t : Int32) (l : Int32) (i : Int32)  : Nat → Nat → Int32 := z_row M 31 (upd (M 31) ((i).toNatClampNeg) (f_X1_wayOf_28 M i))
def qi_X1_take_28_83 (M : Nat → Nat → Int32) (t : Int32) (l : Int32) (i : Int32)  : Prop := (q_X1_wayOf_28 M i) ∧ (z_vin i 6 = true) ∧ True
theorem it_X1_take_28_83 {d : Nat} {L : Nat → Nat → Int64} {Q : Option Value → z_St → Prop} (M : Nat → Nat → Int32) (t : Int32) (l : Int32) (i : Int32)  (hc : ¬ (M 15 1 ≤ i)) (p1 : qi_X1_take_28_83 M t l i) (h : z_G (d + 2) tb_X1_take 83 [some (.ref 28), some (.int t), some (.int l), some (.int (i + 1))] [] [] (z_SH, e_X1_take_28_83_M M t l i, L) Q) : z_G (d + 2) tb_X1_take 83 [some (.ref 28), some (.int t), some (.int l), some (.int i)] [] [] (z_SH, M, L) Q := by
  unfold qi_X1_take_28_83 at p1
  obtain ⟨p1, p2, -⟩ := p1
  refine g_k 5 (pc' := (if z_cmp .ge i (M 15 1) = true then 111 else 94)) (LI' := [some (.ref 28), some (.int t), some (.int l), some (.int i)]) (LL' := []) (st' := []) (S' := (z_SH, M, L)) (fun nq hq => And.intro rfl (And.intro rfl (And.intro rfl (And.intro rfl (And.intro rfl hq))))) ?_
  refine g_ge (fun hc1 => ?_) (fun hc1 => ?_)
  · exact absurd hc1 hc
  · refine g_k 5 (pc' := 101) (LI' := [some (.ref 28), some (.int t), some (.int l), some (.int i)]) (LL' := []) (st' := [.int i, .ref 28, .int i, .ref 31]) (S' := (z_SH, M, L)) (fun nq hq => And.intro rfl (And.intro rfl (And.intro rfl (And.intro rfl (And.intro rfl hq))))) ?_
    refine g_k 1 (pc' := 104) (LI' := [some (.ref 28), some (.int t), some (.int l), some (.int i)]) (LL' := []) (st' := [.int (f_X1_wayOf_28 M i), .int i, .ref 31]) (S' := (z_SH, M, L)) (fun nq hq => And.intro rfl (Exists.intro _ (Exists.intro _ (And.intro (c_X1_wayOf_28 (d := d) M i p1) (And.intro (z_fit_same _ _ _ _ _ _ _ _) hq))))) ?_
    generalize hg1 : f_X1_wayOf_28 M i = r1 at *
    refine g_k 3 (pc' := 83) (LI' := [some (.ref 28), some (.int t), some (.int l), some (.int (i + 1))]) (LL' := []) (st' := []) (S' := (z_SH, z_row M 31 (upd (M 31) ((i).toNatClampNeg) r1), L)) (fun nq hq => And.intro p2 (And.intro rfl (And.intro rfl hq))) ?_
    (subst hg1; unfold e_X1_take_28_83_M at h; exact h )
def s_X1_take_28_83 (M : Nat → Nat → Int32) (t : Int32) (l : Int32)  (n : Nat) : (Nat → Nat → Int32) := Nat.rec (motive := fun _ => (Nat → Nat → Int32)) (M) (fun k r => (e_X1_take_28_83_M r t l (nI k))) n
theorem fr_e_X1_take_28_83_M (M : Nat → Nat → Int32) (t : Int32) (l : Int32) (i : Int32)  (c : Nat) (h31 : c ≠ 31) : e_X1_take_28_83_M M t l i c = M c := by
  unfold e_X1_take_28_83_M
  repeat' split
  all_goals simp only [z_row_ne h31]
theorem fr_s_X1_take_28_83 (M : Nat → Nat → Int32) (t : Int32) (l : Int32)  (n : Nat) (c : Nat) (h31 : c ≠ 31) : ((s_X1_take_28_83 M t l n)) c = M c := by
  induction n with
  | zero => rfl
  | succ n ih => exact (fr_e_X1_take_28_83_M _ t l (nI n)  c h31).trans ih
theorem l_X1_take_28_83 {d : Nat} {L : Nat → Nat → Int64} {Q : Option Value → z_St → Prop} (M : Nat → Nat → Int32) (t : Int32) (l : Int32)  (n : Nat) : (∀ k, k < n → ¬ (((s_X1_take_28_83 M t l k)) 15 1 ≤ (nI k))) → (∀ k, k < n → qi_X1_take_28_83 ((s_X1_take_28_83 M t l k)) t l (nI k)) → (z_G (d + 2) tb_X1_take 83 [some (.ref 28), some (.int t), some (.int l), some (.int (nI n))] [] [] (z_SH, (s_X1_take_28_83 M t l n), L) Q) → z_G (d + 2) tb_X1_take 83 [some (.ref 28), some (.int t), some (.int l), some (.int (nI 0))] [] [] (z_SH, M, L) Q := by
  induction n with
  | zero =>
    intro hc p1 h
    exact h
  | succ n ih =>
    intro hc p1 h
    refine ih (fun k hk => hc k (by omega)) (fun k hk => p1 k (by omega)) ?_
    have hcn := hc n (by omega)
    have p1n := p1 n (by omega)
    clear ih hc p1
    have hs : s_X1_take_28_83 M t l (n + 1) = (e_X1_take_28_83_M ((s_X1_take_28_83 M t l n)) t l (nI n)) := rfl
    rw [hs] at h
    clear hs
    generalize s_X1_take_28_83 M t l n = sg at *
    refine it_X1_take_28_83 sg t l (nI n)  hcn p1n ?_
    rw [nI_1]
    exact h
def e_X1_take_28_7_M (M : Nat → Nat → Int32) (t : Int32) (l : Int32) (i : Int32)  : Nat → Nat → Int32 := z_row (z_row M 29 (upd (M 29) ((i).toNatClampNeg) ((0 : Int32)))) 30 (upd (M 30) ((i).toNatClampNeg) ((0 : Int32)))
def qi_X1_take_28_7 (M : Nat → Nat → Int32) (t : Int32) (l : Int32) (i : Int32)  : Prop := (z_vin i 6 = true) ∧ True
theorem it_X1_take_28_7 {d : Nat} {L : Nat → Nat → Int64} {Q : Option Value → z_St → Prop} (M : Nat → Nat → Int32) (t : Int32) (l : Int32) (i : Int32)  (hc : ¬ (M 15 1 ≤ i)) (p1 : qi_X1_take_28_7 M t l i) (h : z_G (d + 0) tb_X1_take 7 [some (.ref 28), some (.int t), some (.int l), some (.int (i + 1))] [] [] (z_SH, e_X1_take_28_7_M M t l i, L) Q) : z_G (d + 0) tb_X1_take 7 [some (.ref 28), some (.int t), some (.int l), some (.int i)] [] [] (z_SH, M, L) Q := by
  unfold qi_X1_take_28_7 at p1
  obtain ⟨p1, -⟩ := p1
  refine g_k 5 (pc' := (if z_cmp .ge i (M 15 1) = true then 38 else 18)) (LI' := [some (.ref 28), some (.int t), some (.int l), some (.int i)]) (LL' := []) (st' := []) (S' := (z_SH, M, L)) (fun nq hq => And.intro rfl (And.intro rfl (And.intro rfl (And.intro rfl (And.intro rfl hq))))) ?_
  refine g_ge (fun hc1 => ?_) (fun hc1 => ?_)
  · exact absurd hc1 hc
  · refine g_k 9 (pc' := 31) (LI' := [some (.ref 28), some (.int t), some (.int l), some (.int i)]) (LL' := []) (st' := [.int 0, .int i, .ref 30]) (S' := (z_SH, z_row M 29 (upd (M 29) ((i).toNatClampNeg) ((0 : Int32))), L)) (fun nq hq => And.intro rfl (And.intro rfl (And.intro rfl (And.intro rfl (And.intro p1 (And.intro rfl (And.intro rfl (And.intro rfl (And.intro rfl hq))))))))) ?_
    refine g_k 3 (pc' := 7) (LI' := [some (.ref 28), some (.int t), some (.int l), some (.int (i + 1))]) (LL' := []) (st' := []) (S' := (z_SH, z_row (z_row M 29 (upd (M 29) ((i).toNatClampNeg) ((0 : Int32)))) 30 (upd (M 30) ((i).toNatClampNeg) ((0 : Int32))), L)) (fun nq hq => And.intro p1 (And.intro rfl (And.intro rfl hq))) ?_
    (unfold e_X1_take_28_7_M at h; exact h )
def s_X1_take_28_7 (M : Nat → Nat → Int32) (t : Int32) (l : Int32)  (n : Nat) : (Nat → Nat → Int32) := Nat.rec (motive := fun _ => (Nat → Nat → Int32)) (M) (fun k r => (e_X1_take_28_7_M r t l (nI k))) n
theorem fr_e_X1_take_28_7_M (M : Nat → Nat → Int32) (t : Int32) (l : Int32) (i : Int32)  (c : Nat) (h29 : c ≠ 29) (h30 : c ≠ 30) : e_X1_take_28_7_M M t l i c = M c := by
  unfold e_X1_take_28_7_M
  repeat' split
  all_goals simp only [z_row_ne h29, z_row_ne h30]
theorem fr_s_X1_take_28_7 (M : Nat → Nat → Int32) (t : Int32) (l : Int32)  (n : Nat) (c : Nat) (h29 : c ≠ 29) (h30 : c ≠ 30) : ((s_X1_take_28_7 M t l n)) c = M c := by
  induction n with
  | zero => rfl
  | succ n ih => exact (fr_e_X1_take_28_7_M _ t l (nI n)  c h29 h30).trans ih
theorem l_X1_take_28_7 {d : Nat} {L : Nat → Nat → Int64} {Q : Option Value → z_St → Prop} (M : Nat → Nat → Int32) (t : Int32) (l : Int32)  (n : Nat) : (∀ k, k < n → ¬ (((s_X1_take_28_7 M t l k)) 15 1 ≤ (nI k))) → (∀ k, k < n → qi_X1_take_28_7 ((s_X1_take_28_7 M t l k)) t l (nI k)) → (z_G (d + 0) tb_X1_take 7 [some (.ref 28), some (.int t), some (.int l), some (.int (nI n))] [] [] (z_SH, (s_X1_take_28_7 M t l n), L) Q) → z_G (d + 0) tb_X1_take 7 [some (.ref 28), some (.int t), some (.int l), some (.int (nI 0))] [] [] (z_SH, M, L) Q := by
  induction n with
  | zero =>
    intro hc p1 h
    exact h
  | succ n ih =>
    intro hc p1 h
    refine ih (fun k hk => hc k (by omega)) (fun k hk => p1 k (by omega)) ?_
    have hcn := hc n (by omega)
    have p1n := p1 n (by omega)
    clear ih hc p1
    have hs : s_X1_take_28_7 M t l (n + 1) = (e_X1_take_28_7_M ((s_X1_take_28_7 M t l n)) t l (nI n)) := rfl
    rw [hs] at h
    clear hs
    generalize s_X1_take_28_7 M t l n = sg at *
    refine it_X1_take_28_7 sg t l (nI n)  hcn p1n ?_
    rw [nI_1]
    exact h
def e_X1_take_28_40_M (M : Nat → Nat → Int32) (t : Int32) (l : Int32) (i : Int32)  : Nat → Nat → Int32 := if (f_X0_holds_20 M i) = (0 : Int32) then M else if ¬ (f_X8_isIn M l i) = (0 : Int32) then M else (g_X1_weigh_28 M i)
def qi_X1_take_28_40 (M : Nat → Nat → Int32) (t : Int32) (l : Int32) (i : Int32)  : Prop := (q_X0_holds_20 M i) ∧ ((¬ ((f_X0_holds_20 M i) = (0 : Int32))) → ((f_X8_isIn M l i) = (0 : Int32)) → (q_X1_weigh_28 M i)) ∧ True
theorem it_X1_take_28_40 {d : Nat} {L : Nat → Nat → Int64} {Q : Option Value → z_St → Prop} (M : Nat → Nat → Int32) (t : Int32) (l : Int32) (i : Int32)  (hc : ¬ (M 20 1 ≤ i)) (p1 : qi_X1_take_28_40 M t l i) (h : z_G (d + 1) tb_X1_take 40 [some (.ref 28), some (.int t), some (.int l), some (.int (i + 1))] [] [] (z_SH, e_X1_take_28_40_M M t l i, L) Q) : z_G (d + 1) tb_X1_take 40 [some (.ref 28), some (.int t), some (.int l), some (.int i)] [] [] (z_SH, M, L) Q := by
  unfold qi_X1_take_28_40 at p1
  obtain ⟨p1, p2, -⟩ := p1
  refine g_k 5 (pc' := (if z_cmp .ge i (M 20 1) = true then 81 else 51)) (LI' := [some (.ref 28), some (.int t), some (.int l), some (.int i)]) (LL' := []) (st' := []) (S' := (z_SH, M, L)) (fun nq hq => And.intro rfl (And.intro rfl (And.intro rfl (And.intro rfl (And.intro rfl hq))))) ?_
  refine g_ge (fun hc1 => ?_) (fun hc1 => ?_)
  · exact absurd hc1 hc
  · refine g_k 3 (pc' := 56) (LI' := [some (.ref 28), some (.int t), some (.int l), some (.int i)]) (LL' := []) (st' := [.int i, .ref 20]) (S' := (z_SH, M, L)) (fun nq hq => And.intro rfl (And.intro rfl (And.intro rfl hq))) ?_
    refine g_k 1 (pc' := 59) (LI' := [some (.ref 28), some (.int t), some (.int l), some (.int i)]) (LL' := []) (st' := [.int (f_X0_holds_20 M i)]) (S' := (z_SH, M, L)) (fun nq hq => And.intro rfl (Exists.intro _ (Exists.intro _ (And.intro (c_X0_holds_20 (d := d) M i p1) (And.intro (z_fit_same _ _ _ _ _ _ _ _) hq))))) ?_
    generalize hg1 : f_X0_holds_20 M i = r1 at *
    refine g_k 1 (pc' := (if z_cmp .eq r1 ((0 : Int32)) = true then 75 else 62)) (LI' := [some (.ref 28), some (.int t), some (.int l), some (.int i)]) (LL' := []) (st' := []) (S' := (z_SH, M, L)) (fun nq hq => And.intro rfl hq) ?_
    refine g_eq (fun hc2 => ?_) (fun hc2 => ?_)
    · refine g_k 2 (pc' := 40) (LI' := [some (.ref 28), some (.int t), some (.int l), some (.int (i + 1))]) (LL' := []) (st' := []) (S' := (z_SH, M, L)) (fun nq hq => And.intro rfl (And.intro rfl hq)) ?_
      (subst hg1; unfold e_X1_take_28_40_M at h; (try simp only [if_pos hc2] at h); exact h )
    · refine g_k 2 (pc' := 64) (LI' := [some (.ref 28), some (.int t), some (.int l), some (.int i)]) (LL' := []) (st' := [.int i, .int l]) (S' := (z_SH, M, L)) (fun nq hq => And.intro rfl (And.intro rfl hq)) ?_
      refine g_k 1 (pc' := 67) (LI' := [some (.ref 28), some (.int t), some (.int l), some (.int i)]) (LL' := []) (st' := [.int (f_X8_isIn M l i)]) (S' := (z_SH, M, L)) (fun nq hq => And.intro rfl (Exists.intro _ (Exists.intro _ (And.intro (c_X8_isIn (d := d) M l i) (And.intro (z_fit_same _ _ _ _ _ _ _ _) hq))))) ?_
      generalize hg2 : f_X8_isIn M l i = r2 at *
      refine g_k 1 (pc' := (if z_cmp .ne r2 ((0 : Int32)) = true then 75 else 70)) (LI' := [some (.ref 28), some (.int t), some (.int l), some (.int i)]) (LL' := []) (st' := []) (S' := (z_SH, M, L)) (fun nq hq => And.intro rfl hq) ?_
      refine g_ne (fun hc3 => ?_) (fun hc3 => ?_)
      · refine g_k 2 (pc' := 40) (LI' := [some (.ref 28), some (.int t), some (.int l), some (.int (i + 1))]) (LL' := []) (st' := []) (S' := (z_SH, M, L)) (fun nq hq => And.intro rfl (And.intro rfl hq)) ?_
        (subst hg2; subst hg1; unfold e_X1_take_28_40_M at h; (try simp only [if_neg hc2] at h); (try simp only [if_pos hc3] at h); exact h )
      · refine g_k 2 (pc' := 72) (LI' := [some (.ref 28), some (.int t), some (.int l), some (.int i)]) (LL' := []) (st' := [.int i, .ref 28]) (S' := (z_SH, M, L)) (fun nq hq => And.intro rfl (And.intro rfl hq)) ?_
        refine g_k 1 (pc' := 75) (LI' := [some (.ref 28), some (.int t), some (.int l), some (.int i)]) (LL' := []) (st' := []) (S' := (z_SH, g_X1_weigh_28 M i, L)) (fun nq hq => And.intro rfl (Exists.intro _ (Exists.intro _ (And.intro (c_X1_weigh_28 (d := d) M i (p2 hc2 hc3)) (And.intro (z_fit_same _ _ _ _ _ _ _ _) hq))))) ?_
        generalize hg3 : g_X1_weigh_28 M i = m3 at *
        refine g_k 2 (pc' := 40) (LI' := [some (.ref 28), some (.int t), some (.int l), some (.int (i + 1))]) (LL' := []) (st' := []) (S' := (z_SH, m3, L)) (fun nq hq => And.intro rfl (And.intro rfl hq)) ?_
        (subst hg3; subst hg2; subst hg1; unfold e_X1_take_28_40_M at h; (try simp only [if_neg hc2] at h); (try simp only [if_neg (not_not_intro hc3)] at h); exact h )
def s_X1_take_28_40 (M : Nat → Nat → Int32) (t : Int32) (l : Int32)  (n : Nat) : (Nat → Nat → Int32) := Nat.rec (motive := fun _ => (Nat → Nat → Int32)) (M) (fun k r => (e_X1_take_28_40_M r t l (nI k))) n
theorem fr_e_X1_take_28_40_M (M : Nat → Nat → Int32) (t : Int32) (l : Int32) (i : Int32)  (c : Nat) (h29 : c ≠ 29) (h30 : c ≠ 30) : e_X1_take_28_40_M M t l i c = M c := by
  unfold e_X1_take_28_40_M
  repeat' split
  all_goals simp only [z_row_ne h29, z_row_ne h30, fr_g_X1_weigh_28 (c := c) (h29 := h29) (h30 := h30)]
theorem fr_s_X1_take_28_40 (M : Nat → Nat → Int32) (t : Int32) (l : Int32)  (n : Nat) (c : Nat) (h29 : c ≠ 29) (h30 : c ≠ 30) : ((s_X1_take_28_40 M t l n)) c = M c := by
  induction n with
  | zero => rfl
  | succ n ih => exact (fr_e_X1_take_28_40_M _ t l (nI n)  c h29 h30).trans ih
theorem l_X1_take_28_40 {d : Nat} {L : Nat → Nat → Int64} {Q : Option Value → z_St → Prop} (M : Nat → Nat → Int32) (t : Int32) (l : Int32)  (n : Nat) : (∀ k, k < n → ¬ (((s_X1_take_28_40 M t l k)) 20 1 ≤ (nI k))) → (∀ k, k < n → qi_X1_take_28_40 ((s_X1_take_28_40 M t l k)) t l (nI k)) → (z_G (d + 1) tb_X1_take 40 [some (.ref 28), some (.int t), some (.int l), some (.int (nI n))] [] [] (z_SH, (s_X1_take_28_40 M t l n), L) Q) → z_G (d + 1) tb_X1_take 40 [some (.ref 28), some (.int t), some (.int l), some (.int (nI 0))] [] [] (z_SH, M, L) Q := by
  induction n with
  | zero =>
    intro hc p1 h
    exact h
  | succ n ih =>
    intro hc p1 h
    refine ih (fun k hk => hc k (by omega)) (fun k hk => p1 k (by omega)) ?_
    have hcn := hc n (by omega)
    have p1n := p1 n (by omega)
    clear ih hc p1
    have hs : s_X1_take_28_40 M t l (n + 1) = (e_X1_take_28_40_M ((s_X1_take_28_40 M t l n)) t l (nI n)) := rfl
    rw [hs] at h
    clear hs
    generalize s_X1_take_28_40 M t l n = sg at *
    refine it_X1_take_28_40 sg t l (nI n)  hcn p1n ?_
    rw [nI_1]
    exact h
def g_X1_take_28 (M : Nat → Nat → Int32) (t : Int32) (l : Int32) : Nat → Nat → Int32 := ((s_X1_take_28_83 ((s_X1_take_28_40 ((s_X1_take_28_7 (z_row M 28 (upd (M 28) 2 t)) t l (((z_row M 28 (upd (M 28) 2 t)) 15 1).toNatClampNeg))) t l ((((s_X1_take_28_7 (z_row M 28 (upd (M 28) 2 t)) t l (((z_row M 28 (upd (M 28) 2 t)) 15 1).toNatClampNeg))) 20 1).toNatClampNeg))) t l ((((s_X1_take_28_40 ((s_X1_take_28_7 (z_row M 28 (upd (M 28) 2 t)) t l (((z_row M 28 (upd (M 28) 2 t)) 15 1).toNatClampNeg))) t l ((((s_X1_take_28_7 (z_row M 28 (upd (M 28) 2 t)) t l (((z_row M 28 (upd (M 28) 2 t)) 15 1).toNatClampNeg))) 20 1).toNatClampNeg))) 15 1).toNatClampNeg)))
theorem fr_g_X1_take_28 (M : Nat → Nat → Int32) (t : Int32) (l : Int32) (c : Nat) (h28 : c ≠ 28) (h29 : c ≠ 29) (h30 : c ≠ 30) (h31 : c ≠ 31) : g_X1_take_28 M t l c = M c := by
  unfold g_X1_take_28
  repeat' split
  all_goals simp only [z_row_ne h28, z_row_ne h29, z_row_ne h30, z_row_ne h31, fr_s_X1_take_28_40 (c := c) (h29 := h29) (h30 := h30), fr_s_X1_take_28_7 (c := c) (h29 := h29) (h30 := h30), fr_s_X1_take_28_83 (c := c) (h31 := h31)]
def q_X1_take_28 (M : Nat → Nat → Int32) (t : Int32) (l : Int32) : Prop := (∀ k6, k6 < ((z_row M 28 (upd (M 28) 2 t)) 15 1).toNatClampNeg → qi_X1_take_28_7 ((s_X1_take_28_7 (z_row M 28 (upd (M 28) 2 t)) t l k6)) t l (nI k6)) ∧ (∀ k7, k7 < (((s_X1_take_28_7 (z_row M 28 (upd (M 28) 2 t)) t l (((z_row M 28 (upd (M 28) 2 t)) 15 1).toNatClampNeg))) 20 1).toNatClampNeg → qi_X1_take_28_40 ((s_X1_take_28_40 ((s_X1_take_28_7 (z_row M 28 (upd (M 28) 2 t)) t l (((z_row M 28 (upd (M 28) 2 t)) 15 1).toNatClampNeg))) t l k7)) t l (nI k7)) ∧ (∀ k5, k5 < (((s_X1_take_28_40 ((s_X1_take_28_7 (z_row M 28 (upd (M 28) 2 t)) t l (((z_row M 28 (upd (M 28) 2 t)) 15 1).toNatClampNeg))) t l ((((s_X1_take_28_7 (z_row M 28 (upd (M 28) 2 t)) t l (((z_row M 28 (upd (M 28) 2 t)) 15 1).toNatClampNeg))) 20 1).toNatClampNeg))) 15 1).toNatClampNeg → qi_X1_take_28_83 ((s_X1_take_28_83 ((s_X1_take_28_40 ((s_X1_take_28_7 (z_row M 28 (upd (M 28) 2 t)) t l (((z_row M 28 (upd (M 28) 2 t)) 15 1).toNatClampNeg))) t l ((((s_X1_take_28_7 (z_row M 28 (upd (M 28) 2 t)) t l (((z_row M 28 (upd (M 28) 2 t)) 15 1).toNatClampNeg))) 20 1).toNatClampNeg))) t l k5)) t l (nI k5)) ∧ True
theorem c_X1_take_28 {d : Nat} {L : Nat → Nat → Int64} (M : Nat → Nat → Int32) (t : Int32) (l : Int32)  (hpre : q_X1_take_28 M t l) : z_C (d + 3) 13 [.ref 28, .int t, .int l] (z_SH, M, L) none (z_SH, g_X1_take_28 M t l, L) := by
  unfold q_X1_take_28 at hpre
  obtain ⟨p1, p2, p3, -⟩ := hpre
  refine z_mkA (tb := tb_X1_take) rfl (by decide) rfl rfl rfl ?_
  refine g_k 5 (pc' := 7) (LI' := [some (.ref 28), some (.int t), some (.int l), some (.int 0)]) (LL' := []) (st' := []) (S' := (z_SH, z_row M 28 (upd (M 28) 2 t), L)) (fun nq hq => And.intro rfl (And.intro rfl (And.intro rfl (And.intro rfl (And.intro rfl hq))))) ?_
  refine l_X1_take_28_7 (d := d + 2) (z_row M 28 (upd (M 28) 2 t)) t l (((z_row M 28 (upd (M 28) 2 t)) 15 1).toNatClampNeg) (fun k hk => by rw [fr_s_X1_take_28_7 (z_row M 28 (upd (M 28) 2 t)) t l k 15 (by decide) (by decide)]; exact z_lpc hk) p1 ?_ 
  have hx1 : ((s_X1_take_28_7 (z_row M 28 (upd (M 28) 2 t)) t l (((z_row M 28 (upd (M 28) 2 t)) 15 1).toNatClampNeg))) 15 1 ≤ nI (((z_row M 28 (upd (M 28) 2 t)) 15 1).toNatClampNeg) := by rw [fr_s_X1_take_28_7 (z_row M 28 (upd (M 28) 2 t)) t l (((z_row M 28 (upd (M 28) 2 t)) 15 1).toNatClampNeg) 15 (by decide) (by decide)]; exact z_lpe
  generalize hg1 : nI (((z_row M 28 (upd (M 28) 2 t)) 15 1).toNatClampNeg) = r1 at *
  generalize hg2 : (s_X1_take_28_7 (z_row M 28 (upd (M 28) 2 t)) t l (((z_row M 28 (upd (M 28) 2 t)) 15 1).toNatClampNeg)) = m2 at *
  refine g_k 5 (pc' := (if z_cmp .ge r1 (m2 15 1) = true then 38 else 18)) (LI' := [some (.ref 28), some (.int t), some (.int l), some (.int r1)]) (LL' := []) (st' := []) (S' := (z_SH, m2, L)) (fun nq hq => And.intro rfl (And.intro rfl (And.intro rfl (And.intro rfl (And.intro rfl hq))))) ?_
  refine g_ge (fun hc1 => ?_) (fun hc1 => absurd (hx1) hc1)
  refine g_k 2 (pc' := 40) (LI' := [some (.ref 28), some (.int t), some (.int l), some (.int 0)]) (LL' := []) (st' := []) (S' := (z_SH, m2, L)) (fun nq hq => And.intro rfl (And.intro rfl hq)) ?_
  refine l_X1_take_28_40 (d := d + 1) m2 t l ((m2 20 1).toNatClampNeg) (fun k hk => by rw [fr_s_X1_take_28_40 m2 t l k 20 (by decide) (by decide)]; exact z_lpc hk) p2 ?_ 
  have hx2 : ((s_X1_take_28_40 m2 t l ((m2 20 1).toNatClampNeg))) 20 1 ≤ nI ((m2 20 1).toNatClampNeg) := by rw [fr_s_X1_take_28_40 m2 t l ((m2 20 1).toNatClampNeg) 20 (by decide) (by decide)]; exact z_lpe
  generalize hg3 : nI ((m2 20 1).toNatClampNeg) = r3 at *
  generalize hg4 : (s_X1_take_28_40 m2 t l ((m2 20 1).toNatClampNeg)) = m4 at *
  refine g_k 5 (pc' := (if z_cmp .ge r3 (m4 20 1) = true then 81 else 51)) (LI' := [some (.ref 28), some (.int t), some (.int l), some (.int r3)]) (LL' := []) (st' := []) (S' := (z_SH, m4, L)) (fun nq hq => And.intro rfl (And.intro rfl (And.intro rfl (And.intro rfl (And.intro rfl hq))))) ?_
  refine g_ge (fun hc2 => ?_) (fun hc2 => absurd (hx2) hc2)
  refine g_k 2 (pc' := 83) (LI' := [some (.ref 28), some (.int t), some (.int l), some (.int 0)]) (LL' := []) (st' := []) (S' := (z_SH, m4, L)) (fun nq hq => And.intro rfl (And.intro rfl hq)) ?_
  refine l_X1_take_28_83 (d := d) m4 t l ((m4 15 1).toNatClampNeg) (fun k hk => by rw [fr_s_X1_take_28_83 m4 t l k 15 (by decide)]; exact z_lpc hk) p3 ?_ 
  have hx3 : ((s_X1_take_28_83 m4 t l ((m4 15 1).toNatClampNeg))) 15 1 ≤ nI ((m4 15 1).toNatClampNeg) := by rw [fr_s_X1_take_28_83 m4 t l ((m4 15 1).toNatClampNeg) 15 (by decide)]; exact z_lpe
  generalize hg5 : nI ((m4 15 1).toNatClampNeg) = r5 at *
  generalize hg6 : (s_X1_take_28_83 m4 t l ((m4 15 1).toNatClampNeg)) = m6 at *
  refine g_k 5 (pc' := (if z_cmp .ge r5 (m6 15 1) = true then 111 else 94)) (LI' := [some (.ref 28), some (.int t), some (.int l), some (.int r5)]) (LL' := []) (st' := []) (S' := (z_SH, m6, L)) (fun nq hq => And.intro rfl (And.intro rfl (And.intro rfl (And.intro rfl (And.intro rfl hq))))) ?_
  refine g_ge (fun hc3 => ?_) (fun hc3 => absurd (hx3) hc3)
  exact ⟨1, And.intro rfl (⟨rfl, (by subst hg6; subst hg5; subst hg4; subst hg3; subst hg2; subst hg1; rfl)⟩)⟩
def e_X1_take_42_83_M (M : Nat → Nat → Int32) (t : Int32) (l : Int32) (i : Int32)  : Nat → Nat → Int32 := z_row M 45 (upd (M 45) ((i).toNatClampNeg) (f_X1_wayOf_42 M i))
def qi_X1_take_42_83 (M : Nat → Nat → Int32) (t : Int32) (l : Int32) (i : Int32)  : Prop := (q_X1_wayOf_42 M i) ∧ (z_vin i 6 = true) ∧ True
theorem it_X1_take_42_83 {d : Nat} {L : Nat → Nat → Int64} {Q : Option Value → z_St → Prop} (M : Nat → Nat → Int32) (t : Int32) (l : Int32) (i : Int32)  (hc : ¬ (M 15 1 ≤ i)) (p1 : qi_X1_take_42_83 M t l i) (h : z_G (d + 2) tb_X1_take 83 [some (.ref 42), some (.int t), some (.int l), some (.int (i + 1))] [] [] (z_SH, e_X1_take_42_83_M M t l i, L) Q) : z_G (d + 2) tb_X1_take 83 [some (.ref 42), some (.int t), some (.int l), some (.int i)] [] [] (z_SH, M, L) Q := by
  unfold qi_X1_take_42_83 at p1
  obtain ⟨p1, p2, -⟩ := p1
  refine g_k 5 (pc' := (if z_cmp .ge i (M 15 1) = true then 111 else 94)) (LI' := [some (.ref 42), some (.int t), some (.int l), some (.int i)]) (LL' := []) (st' := []) (S' := (z_SH, M, L)) (fun nq hq => And.intro rfl (And.intro rfl (And.intro rfl (And.intro rfl (And.intro rfl hq))))) ?_
  refine g_ge (fun hc1 => ?_) (fun hc1 => ?_)
  · exact absurd hc1 hc
  · refine g_k 5 (pc' := 101) (LI' := [some (.ref 42), some (.int t), some (.int l), some (.int i)]) (LL' := []) (st' := [.int i, .ref 42, .int i, .ref 45]) (S' := (z_SH, M, L)) (fun nq hq => And.intro rfl (And.intro rfl (And.intro rfl (And.intro rfl (And.intro rfl hq))))) ?_
    refine g_k 1 (pc' := 104) (LI' := [some (.ref 42), some (.int t), some (.int l), some (.int i)]) (LL' := []) (st' := [.int (f_X1_wayOf_42 M i), .int i, .ref 45]) (S' := (z_SH, M, L)) (fun nq hq => And.intro rfl (Exists.intro _ (Exists.intro _ (And.intro (c_X1_wayOf_42 (d := d) M i p1) (And.intro (z_fit_same _ _ _ _ _ _ _ _) hq))))) ?_
    generalize hg1 : f_X1_wayOf_42 M i = r1 at *
    refine g_k 3 (pc' := 83) (LI' := [some (.ref 42), some (.int t), some (.int l), some (.int (i + 1))]) (LL' := []) (st' := []) (S' := (z_SH, z_row M 45 (upd (M 45) ((i).toNatClampNeg) r1), L)) (fun nq hq => And.intro p2 (And.intro rfl (And.intro rfl hq))) ?_
    (subst hg1; unfold e_X1_take_42_83_M at h; exact h )
def s_X1_take_42_83 (M : Nat → Nat → Int32) (t : Int32) (l : Int32)  (n : Nat) : (Nat → Nat → Int32) := Nat.rec (motive := fun _ => (Nat → Nat → Int32)) (M) (fun k r => (e_X1_take_42_83_M r t l (nI k))) n
theorem fr_e_X1_take_42_83_M (M : Nat → Nat → Int32) (t : Int32) (l : Int32) (i : Int32)  (c : Nat) (h45 : c ≠ 45) : e_X1_take_42_83_M M t l i c = M c := by
  unfold e_X1_take_42_83_M
  repeat' split
  all_goals simp only [z_row_ne h45]
theorem fr_s_X1_take_42_83 (M : Nat → Nat → Int32) (t : Int32) (l : Int32)  (n : Nat) (c : Nat) (h45 : c ≠ 45) : ((s_X1_take_42_83 M t l n)) c = M c := by
  induction n with
  | zero => rfl
  | succ n ih => exact (fr_e_X1_take_42_83_M _ t l (nI n)  c h45).trans ih
theorem l_X1_take_42_83 {d : Nat} {L : Nat → Nat → Int64} {Q : Option Value → z_St → Prop} (M : Nat → Nat → Int32) (t : Int32) (l : Int32)  (n : Nat) : (∀ k, k < n → ¬ (((s_X1_take_42_83 M t l k)) 15 1 ≤ (nI k))) → (∀ k, k < n → qi_X1_take_42_83 ((s_X1_take_42_83 M t l k)) t l (nI k)) → (z_G (d + 2) tb_X1_take 83 [some (.ref 42), some (.int t), some (.int l), some (.int (nI n))] [] [] (z_SH, (s_X1_take_42_83 M t l n), L) Q) → z_G (d + 2) tb_X1_take 83 [some (.ref 42), some (.int t), some (.int l), some (.int (nI 0))] [] [] (z_SH, M, L) Q := by
  induction n with
  | zero =>
    intro hc p1 h
    exact h
  | succ n ih =>
    intro hc p1 h
    refine ih (fun k hk => hc k (by omega)) (fun k hk => p1 k (by omega)) ?_
    have hcn := hc n (by omega)
    have p1n := p1 n (by omega)
    clear ih hc p1
    have hs : s_X1_take_42_83 M t l (n + 1) = (e_X1_take_42_83_M ((s_X1_take_42_83 M t l n)) t l (nI n)) := rfl
    rw [hs] at h
    clear hs
    generalize s_X1_take_42_83 M t l n = sg at *
    refine it_X1_take_42_83 sg t l (nI n)  hcn p1n ?_
    rw [nI_1]
    exact h
def e_X1_take_42_7_M (M : Nat → Nat → Int32) (t : Int32) (l : Int32) (i : Int32)  : Nat → Nat → Int32 := z_row (z_row M 43 (upd (M 43) ((i).toNatClampNeg) ((0 : Int32)))) 44 (upd (M 44) ((i).toNatClampNeg) ((0 : Int32)))
def qi_X1_take_42_7 (M : Nat → Nat → Int32) (t : Int32) (l : Int32) (i : Int32)  : Prop := (z_vin i 6 = true) ∧ True
theorem it_X1_take_42_7 {d : Nat} {L : Nat → Nat → Int64} {Q : Option Value → z_St → Prop} (M : Nat → Nat → Int32) (t : Int32) (l : Int32) (i : Int32)  (hc : ¬ (M 15 1 ≤ i)) (p1 : qi_X1_take_42_7 M t l i) (h : z_G (d + 0) tb_X1_take 7 [some (.ref 42), some (.int t), some (.int l), some (.int (i + 1))] [] [] (z_SH, e_X1_take_42_7_M M t l i, L) Q) : z_G (d + 0) tb_X1_take 7 [some (.ref 42), some (.int t), some (.int l), some (.int i)] [] [] (z_SH, M, L) Q := by
  unfold qi_X1_take_42_7 at p1
  obtain ⟨p1, -⟩ := p1
  refine g_k 5 (pc' := (if z_cmp .ge i (M 15 1) = true then 38 else 18)) (LI' := [some (.ref 42), some (.int t), some (.int l), some (.int i)]) (LL' := []) (st' := []) (S' := (z_SH, M, L)) (fun nq hq => And.intro rfl (And.intro rfl (And.intro rfl (And.intro rfl (And.intro rfl hq))))) ?_
  refine g_ge (fun hc1 => ?_) (fun hc1 => ?_)
  · exact absurd hc1 hc
  · refine g_k 9 (pc' := 31) (LI' := [some (.ref 42), some (.int t), some (.int l), some (.int i)]) (LL' := []) (st' := [.int 0, .int i, .ref 44]) (S' := (z_SH, z_row M 43 (upd (M 43) ((i).toNatClampNeg) ((0 : Int32))), L)) (fun nq hq => And.intro rfl (And.intro rfl (And.intro rfl (And.intro rfl (And.intro p1 (And.intro rfl (And.intro rfl (And.intro rfl (And.intro rfl hq))))))))) ?_
    refine g_k 3 (pc' := 7) (LI' := [some (.ref 42), some (.int t), some (.int l), some (.int (i + 1))]) (LL' := []) (st' := []) (S' := (z_SH, z_row (z_row M 43 (upd (M 43) ((i).toNatClampNeg) ((0 : Int32)))) 44 (upd (M 44) ((i).toNatClampNeg) ((0 : Int32))), L)) (fun nq hq => And.intro p1 (And.intro rfl (And.intro rfl hq))) ?_
    (unfold e_X1_take_42_7_M at h; exact h )
def s_X1_take_42_7 (M : Nat → Nat → Int32) (t : Int32) (l : Int32)  (n : Nat) : (Nat → Nat → Int32) := Nat.rec (motive := fun _ => (Nat → Nat → Int32)) (M) (fun k r => (e_X1_take_42_7_M r t l (nI k))) n
theorem fr_e_X1_take_42_7_M (M : Nat → Nat → Int32) (t : Int32) (l : Int32) (i : Int32)  (c : Nat) (h43 : c ≠ 43) (h44 : c ≠ 44) : e_X1_take_42_7_M M t l i c = M c := by
  unfold e_X1_take_42_7_M
  repeat' split
  all_goals simp only [z_row_ne h43, z_row_ne h44]
theorem fr_s_X1_take_42_7 (M : Nat → Nat → Int32) (t : Int32) (l : Int32)  (n : Nat) (c : Nat) (h43 : c ≠ 43) (h44 : c ≠ 44) : ((s_X1_take_42_7 M t l n)) c = M c := by
  induction n with
  | zero => rfl
  | succ n ih => exact (fr_e_X1_take_42_7_M _ t l (nI n)  c h43 h44).trans ih
theorem l_X1_take_42_7 {d : Nat} {L : Nat → Nat → Int64} {Q : Option Value → z_St → Prop} (M : Nat → Nat → Int32) (t : Int32) (l : Int32)  (n : Nat) : (∀ k, k < n → ¬ (((s_X1_take_42_7 M t l k)) 15 1 ≤ (nI k))) → (∀ k, k < n → qi_X1_take_42_7 ((s_X1_take_42_7 M t l k)) t l (nI k)) → (z_G (d + 0) tb_X1_take 7 [some (.ref 42), some (.int t), some (.int l), some (.int (nI n))] [] [] (z_SH, (s_X1_take_42_7 M t l n), L) Q) → z_G (d + 0) tb_X1_take 7 [some (.ref 42), some (.int t), some (.int l), some (.int (nI 0))] [] [] (z_SH, M, L) Q := by
  induction n with
  | zero =>
    intro hc p1 h
    exact h
  | succ n ih =>
    intro hc p1 h
    refine ih (fun k hk => hc k (by omega)) (fun k hk => p1 k (by omega)) ?_
    have hcn := hc n (by omega)
    have p1n := p1 n (by omega)
    clear ih hc p1
    have hs : s_X1_take_42_7 M t l (n + 1) = (e_X1_take_42_7_M ((s_X1_take_42_7 M t l n)) t l (nI n)) := rfl
    rw [hs] at h
    clear hs
    generalize s_X1_take_42_7 M t l n = sg at *
    refine it_X1_take_42_7 sg t l (nI n)  hcn p1n ?_
    rw [nI_1]
    exact h
def e_X1_take_42_40_M (M : Nat → Nat → Int32) (t : Int32) (l : Int32) (i : Int32)  : Nat → Nat → Int32 := if (f_X0_holds_34 M i) = (0 : Int32) then M else if ¬ (f_X8_isIn M l i) = (0 : Int32) then M else (g_X1_weigh_42 M i)
def qi_X1_take_42_40 (M : Nat → Nat → Int32) (t : Int32) (l : Int32) (i : Int32)  : Prop := (q_X0_holds_34 M i) ∧ ((¬ ((f_X0_holds_34 M i) = (0 : Int32))) → ((f_X8_isIn M l i) = (0 : Int32)) → (q_X1_weigh_42 M i)) ∧ True
theorem it_X1_take_42_40 {d : Nat} {L : Nat → Nat → Int64} {Q : Option Value → z_St → Prop} (M : Nat → Nat → Int32) (t : Int32) (l : Int32) (i : Int32)  (hc : ¬ (M 34 1 ≤ i)) (p1 : qi_X1_take_42_40 M t l i) (h : z_G (d + 1) tb_X1_take 40 [some (.ref 42), some (.int t), some (.int l), some (.int (i + 1))] [] [] (z_SH, e_X1_take_42_40_M M t l i, L) Q) : z_G (d + 1) tb_X1_take 40 [some (.ref 42), some (.int t), some (.int l), some (.int i)] [] [] (z_SH, M, L) Q := by
  unfold qi_X1_take_42_40 at p1
  obtain ⟨p1, p2, -⟩ := p1
  refine g_k 5 (pc' := (if z_cmp .ge i (M 34 1) = true then 81 else 51)) (LI' := [some (.ref 42), some (.int t), some (.int l), some (.int i)]) (LL' := []) (st' := []) (S' := (z_SH, M, L)) (fun nq hq => And.intro rfl (And.intro rfl (And.intro rfl (And.intro rfl (And.intro rfl hq))))) ?_
  refine g_ge (fun hc1 => ?_) (fun hc1 => ?_)
  · exact absurd hc1 hc
  · refine g_k 3 (pc' := 56) (LI' := [some (.ref 42), some (.int t), some (.int l), some (.int i)]) (LL' := []) (st' := [.int i, .ref 34]) (S' := (z_SH, M, L)) (fun nq hq => And.intro rfl (And.intro rfl (And.intro rfl hq))) ?_
    refine g_k 1 (pc' := 59) (LI' := [some (.ref 42), some (.int t), some (.int l), some (.int i)]) (LL' := []) (st' := [.int (f_X0_holds_34 M i)]) (S' := (z_SH, M, L)) (fun nq hq => And.intro rfl (Exists.intro _ (Exists.intro _ (And.intro (c_X0_holds_34 (d := d) M i p1) (And.intro (z_fit_same _ _ _ _ _ _ _ _) hq))))) ?_
    generalize hg1 : f_X0_holds_34 M i = r1 at *
    refine g_k 1 (pc' := (if z_cmp .eq r1 ((0 : Int32)) = true then 75 else 62)) (LI' := [some (.ref 42), some (.int t), some (.int l), some (.int i)]) (LL' := []) (st' := []) (S' := (z_SH, M, L)) (fun nq hq => And.intro rfl hq) ?_
    refine g_eq (fun hc2 => ?_) (fun hc2 => ?_)
    · refine g_k 2 (pc' := 40) (LI' := [some (.ref 42), some (.int t), some (.int l), some (.int (i + 1))]) (LL' := []) (st' := []) (S' := (z_SH, M, L)) (fun nq hq => And.intro rfl (And.intro rfl hq)) ?_
      (subst hg1; unfold e_X1_take_42_40_M at h; (try simp only [if_pos hc2] at h); exact h )
    · refine g_k 2 (pc' := 64) (LI' := [some (.ref 42), some (.int t), some (.int l), some (.int i)]) (LL' := []) (st' := [.int i, .int l]) (S' := (z_SH, M, L)) (fun nq hq => And.intro rfl (And.intro rfl hq)) ?_
      refine g_k 1 (pc' := 67) (LI' := [some (.ref 42), some (.int t), some (.int l), some (.int i)]) (LL' := []) (st' := [.int (f_X8_isIn M l i)]) (S' := (z_SH, M, L)) (fun nq hq => And.intro rfl (Exists.intro _ (Exists.intro _ (And.intro (c_X8_isIn (d := d) M l i) (And.intro (z_fit_same _ _ _ _ _ _ _ _) hq))))) ?_
      generalize hg2 : f_X8_isIn M l i = r2 at *
      refine g_k 1 (pc' := (if z_cmp .ne r2 ((0 : Int32)) = true then 75 else 70)) (LI' := [some (.ref 42), some (.int t), some (.int l), some (.int i)]) (LL' := []) (st' := []) (S' := (z_SH, M, L)) (fun nq hq => And.intro rfl hq) ?_
      refine g_ne (fun hc3 => ?_) (fun hc3 => ?_)
      · refine g_k 2 (pc' := 40) (LI' := [some (.ref 42), some (.int t), some (.int l), some (.int (i + 1))]) (LL' := []) (st' := []) (S' := (z_SH, M, L)) (fun nq hq => And.intro rfl (And.intro rfl hq)) ?_
        (subst hg2; subst hg1; unfold e_X1_take_42_40_M at h; (try simp only [if_neg hc2] at h); (try simp only [if_pos hc3] at h); exact h )
      · refine g_k 2 (pc' := 72) (LI' := [some (.ref 42), some (.int t), some (.int l), some (.int i)]) (LL' := []) (st' := [.int i, .ref 42]) (S' := (z_SH, M, L)) (fun nq hq => And.intro rfl (And.intro rfl hq)) ?_
        refine g_k 1 (pc' := 75) (LI' := [some (.ref 42), some (.int t), some (.int l), some (.int i)]) (LL' := []) (st' := []) (S' := (z_SH, g_X1_weigh_42 M i, L)) (fun nq hq => And.intro rfl (Exists.intro _ (Exists.intro _ (And.intro (c_X1_weigh_42 (d := d) M i (p2 hc2 hc3)) (And.intro (z_fit_same _ _ _ _ _ _ _ _) hq))))) ?_
        generalize hg3 : g_X1_weigh_42 M i = m3 at *
        refine g_k 2 (pc' := 40) (LI' := [some (.ref 42), some (.int t), some (.int l), some (.int (i + 1))]) (LL' := []) (st' := []) (S' := (z_SH, m3, L)) (fun nq hq => And.intro rfl (And.intro rfl hq)) ?_
        (subst hg3; subst hg2; subst hg1; unfold e_X1_take_42_40_M at h; (try simp only [if_neg hc2] at h); (try simp only [if_neg (not_not_intro hc3)] at h); exact h )
def s_X1_take_42_40 (M : Nat → Nat → Int32) (t : Int32) (l : Int32)  (n : Nat) : (Nat → Nat → Int32) := Nat.rec (motive := fun _ => (Nat → Nat → Int32)) (M) (fun k r => (e_X1_take_42_40_M r t l (nI k))) n
theorem fr_e_X1_take_42_40_M (M : Nat → Nat → Int32) (t : Int32) (l : Int32) (i : Int32)  (c : Nat) (h43 : c ≠ 43) (h44 : c ≠ 44) : e_X1_take_42_40_M M t l i c = M c := by
  unfold e_X1_take_42_40_M
  repeat' split
  all_goals simp only [z_row_ne h43, z_row_ne h44, fr_g_X1_weigh_42 (c := c) (h43 := h43) (h44 := h44)]
theorem fr_s_X1_take_42_40 (M : Nat → Nat → Int32) (t : Int32) (l : Int32)  (n : Nat) (c : Nat) (h43 : c ≠ 43) (h44 : c ≠ 44) : ((s_X1_take_42_40 M t l n)) c = M c := by
  induction n with
  | zero => rfl
  | succ n ih => exact (fr_e_X1_take_42_40_M _ t l (nI n)  c h43 h44).trans ih
theorem l_X1_take_42_40 {d : Nat} {L : Nat → Nat → Int64} {Q : Option Value → z_St → Prop} (M : Nat → Nat → Int32) (t : Int32) (l : Int32)  (n : Nat) : (∀ k, k < n → ¬ (((s_X1_take_42_40 M t l k)) 34 1 ≤ (nI k))) → (∀ k, k < n → qi_X1_take_42_40 ((s_X1_take_42_40 M t l k)) t l (nI k)) → (z_G (d + 1) tb_X1_take 40 [some (.ref 42), some (.int t), some (.int l), some (.int (nI n))] [] [] (z_SH, (s_X1_take_42_40 M t l n), L) Q) → z_G (d + 1) tb_X1_take 40 [some (.ref 42), some (.int t), some (.int l), some (.int (nI 0))] [] [] (z_SH, M, L) Q := by
  induction n with
  | zero =>
    intro hc p1 h
    exact h
  | succ n ih =>
    intro hc p1 h
    refine ih (fun k hk => hc k (by omega)) (fun k hk => p1 k (by omega)) ?_
    have hcn := hc n (by omega)
    have p1n := p1 n (by omega)
    clear ih hc p1
    have hs : s_X1_take_42_40 M t l (n + 1) = (e_X1_take_42_40_M ((s_X1_take_42_40 M t l n)) t l (nI n)) := rfl
    rw [hs] at h
    clear hs
    generalize s_X1_take_42_40 M t l n = sg at *
    refine it_X1_take_42_40 sg t l (nI n)  hcn p1n ?_
    rw [nI_1]
    exact h
def g_X1_take_42 (M : Nat → Nat → Int32) (t : Int32) (l : Int32) : Nat → Nat → Int32 := ((s_X1_take_42_83 ((s_X1_take_42_40 ((s_X1_take_42_7 (z_row M 42 (upd (M 42) 2 t)) t l (((z_row M 42 (upd (M 42) 2 t)) 15 1).toNatClampNeg))) t l ((((s_X1_take_42_7 (z_row M 42 (upd (M 42) 2 t)) t l (((z_row M 42 (upd (M 42) 2 t)) 15 1).toNatClampNeg))) 34 1).toNatClampNeg))) t l ((((s_X1_take_42_40 ((s_X1_take_42_7 (z_row M 42 (upd (M 42) 2 t)) t l (((z_row M 42 (upd (M 42) 2 t)) 15 1).toNatClampNeg))) t l ((((s_X1_take_42_7 (z_row M 42 (upd (M 42) 2 t)) t l (((z_row M 42 (upd (M 42) 2 t)) 15 1).toNatClampNeg))) 34 1).toNatClampNeg))) 15 1).toNatClampNeg)))
theorem fr_g_X1_take_42 (M : Nat → Nat → Int32) (t : Int32) (l : Int32) (c : Nat) (h42 : c ≠ 42) (h43 : c ≠ 43) (h44 : c ≠ 44) (h45 : c ≠ 45) : g_X1_take_42 M t l c = M c := by
  unfold g_X1_take_42
  repeat' split
  all_goals simp only [z_row_ne h42, z_row_ne h43, z_row_ne h44, z_row_ne h45, fr_s_X1_take_42_40 (c := c) (h43 := h43) (h44 := h44), fr_s_X1_take_42_7 (c := c) (h43 := h43) (h44 := h44), fr_s_X1_take_42_83 (c := c) (h45 := h45)]
def q_X1_take_42 (M : Nat → Nat → Int32) (t : Int32) (l : Int32) : Prop := (∀ k9, k9 < ((z_row M 42 (upd (M 42) 2 t)) 15 1).toNatClampNeg → qi_X1_take_42_7 ((s_X1_take_42_7 (z_row M 42 (upd (M 42) 2 t)) t l k9)) t l (nI k9)) ∧ (∀ k10, k10 < (((s_X1_take_42_7 (z_row M 42 (upd (M 42) 2 t)) t l (((z_row M 42 (upd (M 42) 2 t)) 15 1).toNatClampNeg))) 34 1).toNatClampNeg → qi_X1_take_42_40 ((s_X1_take_42_40 ((s_X1_take_42_7 (z_row M 42 (upd (M 42) 2 t)) t l (((z_row M 42 (upd (M 42) 2 t)) 15 1).toNatClampNeg))) t l k10)) t l (nI k10)) ∧ (∀ k8, k8 < (((s_X1_take_42_40 ((s_X1_take_42_7 (z_row M 42 (upd (M 42) 2 t)) t l (((z_row M 42 (upd (M 42) 2 t)) 15 1).toNatClampNeg))) t l ((((s_X1_take_42_7 (z_row M 42 (upd (M 42) 2 t)) t l (((z_row M 42 (upd (M 42) 2 t)) 15 1).toNatClampNeg))) 34 1).toNatClampNeg))) 15 1).toNatClampNeg → qi_X1_take_42_83 ((s_X1_take_42_83 ((s_X1_take_42_40 ((s_X1_take_42_7 (z_row M 42 (upd (M 42) 2 t)) t l (((z_row M 42 (upd (M 42) 2 t)) 15 1).toNatClampNeg))) t l ((((s_X1_take_42_7 (z_row M 42 (upd (M 42) 2 t)) t l (((z_row M 42 (upd (M 42) 2 t)) 15 1).toNatClampNeg))) 34 1).toNatClampNeg))) t l k8)) t l (nI k8)) ∧ True
theorem c_X1_take_42 {d : Nat} {L : Nat → Nat → Int64} (M : Nat → Nat → Int32) (t : Int32) (l : Int32)  (hpre : q_X1_take_42 M t l) : z_C (d + 3) 13 [.ref 42, .int t, .int l] (z_SH, M, L) none (z_SH, g_X1_take_42 M t l, L) := by
  unfold q_X1_take_42 at hpre
  obtain ⟨p1, p2, p3, -⟩ := hpre
  refine z_mkA (tb := tb_X1_take) rfl (by decide) rfl rfl rfl ?_
  refine g_k 5 (pc' := 7) (LI' := [some (.ref 42), some (.int t), some (.int l), some (.int 0)]) (LL' := []) (st' := []) (S' := (z_SH, z_row M 42 (upd (M 42) 2 t), L)) (fun nq hq => And.intro rfl (And.intro rfl (And.intro rfl (And.intro rfl (And.intro rfl hq))))) ?_
  refine l_X1_take_42_7 (d := d + 2) (z_row M 42 (upd (M 42) 2 t)) t l (((z_row M 42 (upd (M 42) 2 t)) 15 1).toNatClampNeg) (fun k hk => by rw [fr_s_X1_take_42_7 (z_row M 42 (upd (M 42) 2 t)) t l k 15 (by decide) (by decide)]; exact z_lpc hk) p1 ?_ 
  have hx1 : ((s_X1_take_42_7 (z_row M 42 (upd (M 42) 2 t)) t l (((z_row M 42 (upd (M 42) 2 t)) 15 1).toNatClampNeg))) 15 1 ≤ nI (((z_row M 42 (upd (M 42) 2 t)) 15 1).toNatClampNeg) := by rw [fr_s_X1_take_42_7 (z_row M 42 (upd (M 42) 2 t)) t l (((z_row M 42 (upd (M 42) 2 t)) 15 1).toNatClampNeg) 15 (by decide) (by decide)]; exact z_lpe
  generalize hg1 : nI (((z_row M 42 (upd (M 42) 2 t)) 15 1).toNatClampNeg) = r1 at *
  generalize hg2 : (s_X1_take_42_7 (z_row M 42 (upd (M 42) 2 t)) t l (((z_row M 42 (upd (M 42) 2 t)) 15 1).toNatClampNeg)) = m2 at *
  refine g_k 5 (pc' := (if z_cmp .ge r1 (m2 15 1) = true then 38 else 18)) (LI' := [some (.ref 42), some (.int t), some (.int l), some (.int r1)]) (LL' := []) (st' := []) (S' := (z_SH, m2, L)) (fun nq hq => And.intro rfl (And.intro rfl (And.intro rfl (And.intro rfl (And.intro rfl hq))))) ?_
  refine g_ge (fun hc1 => ?_) (fun hc1 => absurd (hx1) hc1)
  refine g_k 2 (pc' := 40) (LI' := [some (.ref 42), some (.int t), some (.int l), some (.int 0)]) (LL' := []) (st' := []) (S' := (z_SH, m2, L)) (fun nq hq => And.intro rfl (And.intro rfl hq)) ?_
  refine l_X1_take_42_40 (d := d + 1) m2 t l ((m2 34 1).toNatClampNeg) (fun k hk => by rw [fr_s_X1_take_42_40 m2 t l k 34 (by decide) (by decide)]; exact z_lpc hk) p2 ?_ 
  have hx2 : ((s_X1_take_42_40 m2 t l ((m2 34 1).toNatClampNeg))) 34 1 ≤ nI ((m2 34 1).toNatClampNeg) := by rw [fr_s_X1_take_42_40 m2 t l ((m2 34 1).toNatClampNeg) 34 (by decide) (by decide)]; exact z_lpe
  generalize hg3 : nI ((m2 34 1).toNatClampNeg) = r3 at *
  generalize hg4 : (s_X1_take_42_40 m2 t l ((m2 34 1).toNatClampNeg)) = m4 at *
  refine g_k 5 (pc' := (if z_cmp .ge r3 (m4 34 1) = true then 81 else 51)) (LI' := [some (.ref 42), some (.int t), some (.int l), some (.int r3)]) (LL' := []) (st' := []) (S' := (z_SH, m4, L)) (fun nq hq => And.intro rfl (And.intro rfl (And.intro rfl (And.intro rfl (And.intro rfl hq))))) ?_
  refine g_ge (fun hc2 => ?_) (fun hc2 => absurd (hx2) hc2)
  refine g_k 2 (pc' := 83) (LI' := [some (.ref 42), some (.int t), some (.int l), some (.int 0)]) (LL' := []) (st' := []) (S' := (z_SH, m4, L)) (fun nq hq => And.intro rfl (And.intro rfl hq)) ?_
  refine l_X1_take_42_83 (d := d) m4 t l ((m4 15 1).toNatClampNeg) (fun k hk => by rw [fr_s_X1_take_42_83 m4 t l k 15 (by decide)]; exact z_lpc hk) p3 ?_ 
  have hx3 : ((s_X1_take_42_83 m4 t l ((m4 15 1).toNatClampNeg))) 15 1 ≤ nI ((m4 15 1).toNatClampNeg) := by rw [fr_s_X1_take_42_83 m4 t l ((m4 15 1).toNatClampNeg) 15 (by decide)]; exact z_lpe
  generalize hg5 : nI ((m4 15 1).toNatClampNeg) = r5 at *
  generalize hg6 : (s_X1_take_42_83 m4 t l ((m4 15 1).toNatClampNeg)) = m6 at *
  refine g_k 5 (pc' := (if z_cmp .ge r5 (m6 15 1) = true then 111 else 94)) (LI' := [some (.ref 42), some (.int t), some (.int l), some (.int r5)]) (LL' := []) (st' := []) (S' := (z_SH, m6, L)) (fun nq hq => And.intro rfl (And.intro rfl (And.intro rfl (And.intro rfl (And.intro rfl hq))))) ?_
  refine g_ge (fun hc3 => ?_) (fun hc3 => absurd (hx3) hc3)
  exact ⟨1, And.intro rfl (⟨rfl, (by subst hg6; subst hg5; subst hg4; subst hg3; subst hg2; subst hg1; rfl)⟩)⟩
def e_X1_allVotes_28_4_c1 (M : Nat → Nat → Int32)  (i : Int32) (c1 : Int32) : Int32 := c1 + (f_X1_votesOf_28 M i)
def qi_X1_allVotes_28_4 (M : Nat → Nat → Int32)  (i : Int32) (c1 : Int32) : Prop := (q_X1_votesOf_28 M i) ∧ True
theorem it_X1_allVotes_28_4 {d : Nat} {L : Nat → Nat → Int64} {Q : Option Value → z_St → Prop} (M : Nat → Nat → Int32)  (i : Int32) (c1 : Int32) (hc : ¬ (M 15 1 ≤ i)) (p1 : qi_X1_allVotes_28_4 M i c1) (h : z_G (d + 2) tb_X1_allVotes 4 [some (.ref 28), some (.int (e_X1_allVotes_28_4_c1 M i c1)), some (.int (i + 1))] [] [] (z_SH, M, L) Q) : z_G (d + 2) tb_X1_allVotes 4 [some (.ref 28), some (.int c1), some (.int i)] [] [] (z_SH, M, L) Q := by
  unfold qi_X1_allVotes_28_4 at p1
  obtain ⟨p1, -⟩ := p1
  refine g_k 5 (pc' := (if z_cmp .ge i (M 15 1) = true then 29 else 15)) (LI' := [some (.ref 28), some (.int c1), some (.int i)]) (LL' := []) (st' := []) (S' := (z_SH, M, L)) (fun nq hq => And.intro rfl (And.intro rfl (And.intro rfl (And.intro rfl (And.intro rfl hq))))) ?_
  refine g_ge (fun hc1 => ?_) (fun hc1 => ?_)
  · exact absurd hc1 hc
  · refine g_k 3 (pc' := 18) (LI' := [some (.ref 28), some (.int c1), some (.int i)]) (LL' := []) (st' := [.int i, .ref 28, .int c1]) (S' := (z_SH, M, L)) (fun nq hq => And.intro rfl (And.intro rfl (And.intro rfl hq))) ?_
    refine g_k 1 (pc' := 21) (LI' := [some (.ref 28), some (.int c1), some (.int i)]) (LL' := []) (st' := [.int (f_X1_votesOf_28 M i), .int c1]) (S' := (z_SH, M, L)) (fun nq hq => And.intro rfl (Exists.intro _ (Exists.intro _ (And.intro (c_X1_votesOf_28 (d := d) M i p1) (And.intro (z_fit_same _ _ _ _ _ _ _ _) hq))))) ?_
    generalize hg1 : f_X1_votesOf_28 M i = r1 at *
    refine g_k 4 (pc' := 4) (LI' := [some (.ref 28), some (.int (c1 + r1)), some (.int (i + 1))]) (LL' := []) (st' := []) (S' := (z_SH, M, L)) (fun nq hq => And.intro rfl (And.intro rfl (And.intro rfl (And.intro rfl hq)))) ?_
    (subst hg1; unfold e_X1_allVotes_28_4_c1 at h; exact h )
def s_X1_allVotes_28_4 (M : Nat → Nat → Int32)  (c1 : Int32) (n : Nat) : Int32 := Nat.rec (motive := fun _ => Int32) (c1) (fun k r => (e_X1_allVotes_28_4_c1 M (nI k) r)) n
theorem l_X1_allVotes_28_4 {d : Nat} {L : Nat → Nat → Int64} {Q : Option Value → z_St → Prop} (M : Nat → Nat → Int32)  (c1 : Int32) (n : Nat) : (∀ k, k < n → ¬ (M 15 1 ≤ (nI k))) → (∀ k, k < n → qi_X1_allVotes_28_4 M (nI k) ((s_X1_allVotes_28_4 M c1 k))) → (z_G (d + 2) tb_X1_allVotes 4 [some (.ref 28), some (.int ((s_X1_allVotes_28_4 M c1 n))), some (.int (nI n))] [] [] (z_SH, M, L) Q) → z_G (d + 2) tb_X1_allVotes 4 [some (.ref 28), some (.int c1), some (.int (nI 0))] [] [] (z_SH, M, L) Q := by
  induction n with
  | zero =>
    intro hc p1 h
    exact h
  | succ n ih =>
    intro hc p1 h
    refine ih (fun k hk => hc k (by omega)) (fun k hk => p1 k (by omega)) ?_
    have hcn := hc n (by omega)
    have p1n := p1 n (by omega)
    clear ih hc p1
    have hs : s_X1_allVotes_28_4 M c1 (n + 1) = (e_X1_allVotes_28_4_c1 M (nI n) ((s_X1_allVotes_28_4 M c1 n))) := rfl
    rw [hs] at h
    clear hs
    generalize s_X1_allVotes_28_4 M c1 n = sg at *
    refine it_X1_allVotes_28_4 M  (nI n) sg hcn p1n ?_
    rw [nI_1]
    exact h
def f_X1_allVotes_28 (M : Nat → Nat → Int32)  : Int32 := ((s_X1_allVotes_28_4 M ((0 : Int32)) ((M 15 1).toNatClampNeg)))
def q_X1_allVotes_28 (M : Nat → Nat → Int32)  : Prop := (∀ k11, k11 < (M 15 1).toNatClampNeg → qi_X1_allVotes_28_4 M (nI k11) ((s_X1_allVotes_28_4 M ((0 : Int32)) k11))) ∧ True
theorem c_X1_allVotes_28 {d : Nat} {L : Nat → Nat → Int64} (M : Nat → Nat → Int32)   (hpre : q_X1_allVotes_28 M) : z_C (d + 3) 22 [.ref 28] (z_SH, M, L) (some (.int (f_X1_allVotes_28 M))) (z_SH, M, L) := by
  unfold q_X1_allVotes_28 at hpre
  obtain ⟨p1, -⟩ := hpre
  refine z_mkA (tb := tb_X1_allVotes) rfl (by decide) rfl rfl rfl ?_
  refine g_k 4 (pc' := 4) (LI' := [some (.ref 28), some (.int 0), some (.int 0)]) (LL' := []) (st' := []) (S' := (z_SH, M, L)) (fun nq hq => And.intro rfl (And.intro rfl (And.intro rfl (And.intro rfl hq)))) ?_
  refine l_X1_allVotes_28_4 (d := d) M ((0 : Int32)) ((M 15 1).toNatClampNeg) (fun k hk => z_lpc hk) p1 ?_ 
  have hx1 : M 15 1 ≤ nI ((M 15 1).toNatClampNeg) := z_lpe
  generalize hg1 : (s_X1_allVotes_28_4 M ((0 : Int32)) ((M 15 1).toNatClampNeg)) = r1 at *
  generalize hg2 : nI ((M 15 1).toNatClampNeg) = r2 at *
  refine g_k 5 (pc' := (if z_cmp .ge r2 (M 15 1) = true then 29 else 15)) (LI' := [some (.ref 28), some (.int r1), some (.int r2)]) (LL' := []) (st' := []) (S' := (z_SH, M, L)) (fun nq hq => And.intro rfl (And.intro rfl (And.intro rfl (And.intro rfl (And.intro rfl hq))))) ?_
  refine g_ge (fun hc1 => ?_) (fun hc1 => absurd (hx1) hc1)
  refine g_k 1 (pc' := 30) (LI' := [some (.ref 28), some (.int r1), some (.int r2)]) (LL' := []) (st' := [.int r1]) (S' := (z_SH, M, L)) (fun nq hq => And.intro rfl hq) ?_
  exact ⟨1, And.intro rfl (⟨(by subst hg2; subst hg1; rfl), rfl⟩)⟩
def e_X1_votesOfSet_28_4_c2 (M : Nat → Nat → Int32) (a : Int32) (i : Int32) (c2 : Int32) : Int32 := if (f_X8_isIn M a i) = (0 : Int32) then c2 else c2 + (f_X1_votesOf_28 M i)
def qi_X1_votesOfSet_28_4 (M : Nat → Nat → Int32) (a : Int32) (i : Int32) (c2 : Int32) : Prop := ((¬ ((f_X8_isIn M a i) = (0 : Int32))) → (q_X1_votesOf_28 M i)) ∧ True
theorem it_X1_votesOfSet_28_4 {d : Nat} {L : Nat → Nat → Int64} {Q : Option Value → z_St → Prop} (M : Nat → Nat → Int32) (a : Int32) (i : Int32) (c2 : Int32) (hc : ¬ (M 15 1 ≤ i)) (p1 : qi_X1_votesOfSet_28_4 M a i c2) (h : z_G (d + 2) tb_X1_votesOfSet 4 [some (.ref 28), some (.int a), some (.int (e_X1_votesOfSet_28_4_c2 M a i c2)), some (.int (i + 1))] [] [] (z_SH, M, L) Q) : z_G (d + 2) tb_X1_votesOfSet 4 [some (.ref 28), some (.int a), some (.int c2), some (.int i)] [] [] (z_SH, M, L) Q := by
  unfold qi_X1_votesOfSet_28_4 at p1
  obtain ⟨p1, -⟩ := p1
  refine g_k 5 (pc' := (if z_cmp .ge i (M 15 1) = true then 37 else 15)) (LI' := [some (.ref 28), some (.int a), some (.int c2), some (.int i)]) (LL' := []) (st' := []) (S' := (z_SH, M, L)) (fun nq hq => And.intro rfl (And.intro rfl (And.intro rfl (And.intro rfl (And.intro rfl hq))))) ?_
  refine g_ge (fun hc1 => ?_) (fun hc1 => ?_)
  · exact absurd hc1 hc
  · refine g_k 2 (pc' := 17) (LI' := [some (.ref 28), some (.int a), some (.int c2), some (.int i)]) (LL' := []) (st' := [.int i, .int a]) (S' := (z_SH, M, L)) (fun nq hq => And.intro rfl (And.intro rfl hq)) ?_
    refine g_k 1 (pc' := 20) (LI' := [some (.ref 28), some (.int a), some (.int c2), some (.int i)]) (LL' := []) (st' := [.int (f_X8_isIn M a i)]) (S' := (z_SH, M, L)) (fun nq hq => And.intro rfl (Exists.intro _ (Exists.intro _ (And.intro (c_X8_isIn (d := d + 1) M a i) (And.intro (z_fit_same _ _ _ _ _ _ _ _) hq))))) ?_
    generalize hg1 : f_X8_isIn M a i = r1 at *
    refine g_k 1 (pc' := (if z_cmp .eq r1 ((0 : Int32)) = true then 31 else 23)) (LI' := [some (.ref 28), some (.int a), some (.int c2), some (.int i)]) (LL' := []) (st' := []) (S' := (z_SH, M, L)) (fun nq hq => And.intro rfl hq) ?_
    refine g_eq (fun hc2 => ?_) (fun hc2 => ?_)
    · refine g_k 2 (pc' := 4) (LI' := [some (.ref 28), some (.int a), some (.int c2), some (.int (i + 1))]) (LL' := []) (st' := []) (S' := (z_SH, M, L)) (fun nq hq => And.intro rfl (And.intro rfl hq)) ?_
      (subst hg1; unfold e_X1_votesOfSet_28_4_c2 at h; (try simp only [if_pos hc2] at h); exact h )
    · refine g_k 3 (pc' := 26) (LI' := [some (.ref 28), some (.int a), some (.int c2), some (.int i)]) (LL' := []) (st' := [.int i, .ref 28, .int c2]) (S' := (z_SH, M, L)) (fun nq hq => And.intro rfl (And.intro rfl (And.intro rfl hq))) ?_
      refine g_k 1 (pc' := 29) (LI' := [some (.ref 28), some (.int a), some (.int c2), some (.int i)]) (LL' := []) (st' := [.int (f_X1_votesOf_28 M i), .int c2]) (S' := (z_SH, M, L)) (fun nq hq => And.intro rfl (Exists.intro _ (Exists.intro _ (And.intro (c_X1_votesOf_28 (d := d) M i (p1 hc2)) (And.intro (z_fit_same _ _ _ _ _ _ _ _) hq))))) ?_
      generalize hg2 : f_X1_votesOf_28 M i = r2 at *
      refine g_k 4 (pc' := 4) (LI' := [some (.ref 28), some (.int a), some (.int (c2 + r2)), some (.int (i + 1))]) (LL' := []) (st' := []) (S' := (z_SH, M, L)) (fun nq hq => And.intro rfl (And.intro rfl (And.intro rfl (And.intro rfl hq)))) ?_
      (subst hg2; subst hg1; unfold e_X1_votesOfSet_28_4_c2 at h; (try simp only [if_neg hc2] at h); exact h )
def s_X1_votesOfSet_28_4 (M : Nat → Nat → Int32) (a : Int32) (c2 : Int32) (n : Nat) : Int32 := Nat.rec (motive := fun _ => Int32) (c2) (fun k r => (e_X1_votesOfSet_28_4_c2 M a (nI k) r)) n
theorem l_X1_votesOfSet_28_4 {d : Nat} {L : Nat → Nat → Int64} {Q : Option Value → z_St → Prop} (M : Nat → Nat → Int32) (a : Int32) (c2 : Int32) (n : Nat) : (∀ k, k < n → ¬ (M 15 1 ≤ (nI k))) → (∀ k, k < n → qi_X1_votesOfSet_28_4 M a (nI k) ((s_X1_votesOfSet_28_4 M a c2 k))) → (z_G (d + 2) tb_X1_votesOfSet 4 [some (.ref 28), some (.int a), some (.int ((s_X1_votesOfSet_28_4 M a c2 n))), some (.int (nI n))] [] [] (z_SH, M, L) Q) → z_G (d + 2) tb_X1_votesOfSet 4 [some (.ref 28), some (.int a), some (.int c2), some (.int (nI 0))] [] [] (z_SH, M, L) Q := by
  induction n with
  | zero =>
    intro hc p1 h
    exact h
  | succ n ih =>
    intro hc p1 h
    refine ih (fun k hk => hc k (by omega)) (fun k hk => p1 k (by omega)) ?_
    have hcn := hc n (by omega)
    have p1n := p1 n (by omega)
    clear ih hc p1
    have hs : s_X1_votesOfSet_28_4 M a c2 (n + 1) = (e_X1_votesOfSet_28_4_c2 M a (nI n) ((s_X1_votesOfSet_28_4 M a c2 n))) := rfl
    rw [hs] at h
    clear hs
    generalize s_X1_votesOfSet_28_4 M a c2 n = sg at *
    refine it_X1_votesOfSet_28_4 M a (nI n) sg hcn p1n ?_
    rw [nI_1]
    exact h
def f_X1_votesOfSet_28 (M : Nat → Nat → Int32) (a : Int32) : Int32 := ((s_X1_votesOfSet_28_4 M a ((0 : Int32)) ((M 15 1).toNatClampNeg)))
def q_X1_votesOfSet_28 (M : Nat → Nat → Int32) (a : Int32) : Prop := (∀ k12, k12 < (M 15 1).toNatClampNeg → qi_X1_votesOfSet_28_4 M a (nI k12) ((s_X1_votesOfSet_28_4 M a ((0 : Int32)) k12))) ∧ True
theorem c_X1_votesOfSet_28 {d : Nat} {L : Nat → Nat → Int64} (M : Nat → Nat → Int32) (a : Int32)  (hpre : q_X1_votesOfSet_28 M a) : z_C (d + 3) 23 [.ref 28, .int a] (z_SH, M, L) (some (.int (f_X1_votesOfSet_28 M a))) (z_SH, M, L) := by
  unfold q_X1_votesOfSet_28 at hpre
  obtain ⟨p1, -⟩ := hpre
  refine z_mkA (tb := tb_X1_votesOfSet) rfl (by decide) rfl rfl rfl ?_
  refine g_k 4 (pc' := 4) (LI' := [some (.ref 28), some (.int a), some (.int 0), some (.int 0)]) (LL' := []) (st' := []) (S' := (z_SH, M, L)) (fun nq hq => And.intro rfl (And.intro rfl (And.intro rfl (And.intro rfl hq)))) ?_
  refine l_X1_votesOfSet_28_4 (d := d) M a ((0 : Int32)) ((M 15 1).toNatClampNeg) (fun k hk => z_lpc hk) p1 ?_ 
  have hx1 : M 15 1 ≤ nI ((M 15 1).toNatClampNeg) := z_lpe
  generalize hg1 : (s_X1_votesOfSet_28_4 M a ((0 : Int32)) ((M 15 1).toNatClampNeg)) = r1 at *
  generalize hg2 : nI ((M 15 1).toNatClampNeg) = r2 at *
  refine g_k 5 (pc' := (if z_cmp .ge r2 (M 15 1) = true then 37 else 15)) (LI' := [some (.ref 28), some (.int a), some (.int r1), some (.int r2)]) (LL' := []) (st' := []) (S' := (z_SH, M, L)) (fun nq hq => And.intro rfl (And.intro rfl (And.intro rfl (And.intro rfl (And.intro rfl hq))))) ?_
  refine g_ge (fun hc1 => ?_) (fun hc1 => absurd (hx1) hc1)
  refine g_k 1 (pc' := 38) (LI' := [some (.ref 28), some (.int a), some (.int r1), some (.int r2)]) (LL' := []) (st' := [.int r1]) (S' := (z_SH, M, L)) (fun nq hq => And.intro rfl hq) ?_
  exact ⟨1, And.intro rfl (⟨(by subst hg2; subst hg1; rfl), rfl⟩)⟩
def e_X1_setThatGoes_28_4_c2 (M : Nat → Nat → Int32) (a : Int32) (i : Int32) (c2 : Int32) : Int32 := if ¬ M 31 ((i).toNatClampNeg) = a then c2 else c2 ||| (((1 : Int32)) <<< (i &&& 31))
def qi_X1_setThatGoes_28_4 (M : Nat → Nat → Int32) (a : Int32) (i : Int32) (c2 : Int32) : Prop := (z_vin i 6 = true) ∧ True
theorem it_X1_setThatGoes_28_4 {d : Nat} {L : Nat → Nat → Int64} {Q : Option Value → z_St → Prop} (M : Nat → Nat → Int32) (a : Int32) (i : Int32) (c2 : Int32) (hc : ¬ (M 15 1 ≤ i)) (p1 : qi_X1_setThatGoes_28_4 M a i c2) (h : z_G (d + 0) tb_X1_setThatGoes 4 [some (.ref 28), some (.int a), some (.int (e_X1_setThatGoes_28_4_c2 M a i c2)), some (.int (i + 1))] [] [] (z_SH, M, L) Q) : z_G (d + 0) tb_X1_setThatGoes 4 [some (.ref 28), some (.int a), some (.int c2), some (.int i)] [] [] (z_SH, M, L) Q := by
  unfold qi_X1_setThatGoes_28_4 at p1
  obtain ⟨p1, -⟩ := p1
  refine g_k 5 (pc' := (if z_cmp .ge i (M 15 1) = true then 37 else 15)) (LI' := [some (.ref 28), some (.int a), some (.int c2), some (.int i)]) (LL' := []) (st' := []) (S' := (z_SH, M, L)) (fun nq hq => And.intro rfl (And.intro rfl (And.intro rfl (And.intro rfl (And.intro rfl hq))))) ?_
  refine g_ge (fun hc1 => ?_) (fun hc1 => ?_)
  · exact absurd hc1 hc
  · refine g_k 6 (pc' := (if z_cmp .ne (M 31 ((i).toNatClampNeg)) a = true then 31 else 25)) (LI' := [some (.ref 28), some (.int a), some (.int c2), some (.int i)]) (LL' := []) (st' := []) (S' := (z_SH, M, L)) (fun nq hq => And.intro rfl (And.intro rfl (And.intro rfl (And.intro p1 (And.intro rfl (And.intro rfl hq)))))) ?_
    refine g_ne (fun hc2 => ?_) (fun hc2 => ?_)
    · refine g_k 2 (pc' := 4) (LI' := [some (.ref 28), some (.int a), some (.int c2), some (.int (i + 1))]) (LL' := []) (st' := []) (S' := (z_SH, M, L)) (fun nq hq => And.intro rfl (And.intro rfl hq)) ?_
      (unfold e_X1_setThatGoes_28_4_c2 at h; (try simp only [if_pos hc2] at h); exact h )
    · refine g_k 8 (pc' := 4) (LI' := [some (.ref 28), some (.int a), some (.int (c2 ||| (((1 : Int32)) <<< (i &&& 31)))), some (.int (i + 1))]) (LL' := []) (st' := []) (S' := (z_SH, M, L)) (fun nq hq => And.intro rfl (And.intro rfl (And.intro rfl (And.intro rfl (And.intro rfl (And.intro rfl (And.intro rfl (And.intro rfl hq)))))))) ?_
      (unfold e_X1_setThatGoes_28_4_c2 at h; (try simp only [if_neg (not_not_intro hc2)] at h); exact h )
def s_X1_setThatGoes_28_4 (M : Nat → Nat → Int32) (a : Int32) (c2 : Int32) (n : Nat) : Int32 := Nat.rec (motive := fun _ => Int32) (c2) (fun k r => (e_X1_setThatGoes_28_4_c2 M a (nI k) r)) n
theorem l_X1_setThatGoes_28_4 {d : Nat} {L : Nat → Nat → Int64} {Q : Option Value → z_St → Prop} (M : Nat → Nat → Int32) (a : Int32) (c2 : Int32) (n : Nat) : (∀ k, k < n → ¬ (M 15 1 ≤ (nI k))) → (∀ k, k < n → qi_X1_setThatGoes_28_4 M a (nI k) ((s_X1_setThatGoes_28_4 M a c2 k))) → (z_G (d + 0) tb_X1_setThatGoes 4 [some (.ref 28), some (.int a), some (.int ((s_X1_setThatGoes_28_4 M a c2 n))), some (.int (nI n))] [] [] (z_SH, M, L) Q) → z_G (d + 0) tb_X1_setThatGoes 4 [some (.ref 28), some (.int a), some (.int c2), some (.int (nI 0))] [] [] (z_SH, M, L) Q := by
  induction n with
  | zero =>
    intro hc p1 h
    exact h
  | succ n ih =>
    intro hc p1 h
    refine ih (fun k hk => hc k (by omega)) (fun k hk => p1 k (by omega)) ?_
    have hcn := hc n (by omega)
    have p1n := p1 n (by omega)
    clear ih hc p1
    have hs : s_X1_setThatGoes_28_4 M a c2 (n + 1) = (e_X1_setThatGoes_28_4_c2 M a (nI n) ((s_X1_setThatGoes_28_4 M a c2 n))) := rfl
    rw [hs] at h
    clear hs
    generalize s_X1_setThatGoes_28_4 M a c2 n = sg at *
    refine it_X1_setThatGoes_28_4 M a (nI n) sg hcn p1n ?_
    rw [nI_1]
    exact h
def f_X1_setThatGoes_28 (M : Nat → Nat → Int32) (a : Int32) : Int32 := ((s_X1_setThatGoes_28_4 M a ((0 : Int32)) ((M 15 1).toNatClampNeg)))
def q_X1_setThatGoes_28 (M : Nat → Nat → Int32) (a : Int32) : Prop := (∀ k13, k13 < (M 15 1).toNatClampNeg → qi_X1_setThatGoes_28_4 M a (nI k13) ((s_X1_setThatGoes_28_4 M a ((0 : Int32)) k13))) ∧ True
theorem c_X1_setThatGoes_28 {d : Nat} {L : Nat → Nat → Int64} (M : Nat → Nat → Int32) (a : Int32)  (hpre : q_X1_setThatGoes_28 M a) : z_C (d + 1) 24 [.ref 28, .int a] (z_SH, M, L) (some (.int (f_X1_setThatGoes_28 M a))) (z_SH, M, L) := by
  unfold q_X1_setThatGoes_28 at hpre
  obtain ⟨p1, -⟩ := hpre
  refine z_mkA (tb := tb_X1_setThatGoes) rfl (by decide) rfl rfl rfl ?_
  refine g_k 4 (pc' := 4) (LI' := [some (.ref 28), some (.int a), some (.int 0), some (.int 0)]) (LL' := []) (st' := []) (S' := (z_SH, M, L)) (fun nq hq => And.intro rfl (And.intro rfl (And.intro rfl (And.intro rfl hq)))) ?_
  refine l_X1_setThatGoes_28_4 (d := d) M a ((0 : Int32)) ((M 15 1).toNatClampNeg) (fun k hk => z_lpc hk) p1 ?_ 
  have hx1 : M 15 1 ≤ nI ((M 15 1).toNatClampNeg) := z_lpe
  generalize hg1 : (s_X1_setThatGoes_28_4 M a ((0 : Int32)) ((M 15 1).toNatClampNeg)) = r1 at *
  generalize hg2 : nI ((M 15 1).toNatClampNeg) = r2 at *
  refine g_k 5 (pc' := (if z_cmp .ge r2 (M 15 1) = true then 37 else 15)) (LI' := [some (.ref 28), some (.int a), some (.int r1), some (.int r2)]) (LL' := []) (st' := []) (S' := (z_SH, M, L)) (fun nq hq => And.intro rfl (And.intro rfl (And.intro rfl (And.intro rfl (And.intro rfl hq))))) ?_
  refine g_ge (fun hc1 => ?_) (fun hc1 => absurd (hx1) hc1)
  refine g_k 1 (pc' := 38) (LI' := [some (.ref 28), some (.int a), some (.int r1), some (.int r2)]) (LL' := []) (st' := [.int r1]) (S' := (z_SH, M, L)) (fun nq hq => And.intro rfl hq) ?_
  exact ⟨1, And.intro rfl (⟨(by subst hg2; subst hg1; rfl), rfl⟩)⟩
def e_X6_putMatter_19_27_M (M : Nat → Nat → Int32) (t : Int32) (v2 : Int32) (i : Int32)  : Nat → Nat → Int32 := z_row M 26 (upd (M 26) ((i).toNatClampNeg) ((M 26 ((i).toNatClampNeg)) + (f_X1_strainOn_28 M i)))
def qi_X6_putMatter_19_27 (M : Nat → Nat → Int32) (t : Int32) (v2 : Int32) (i : Int32)  : Prop := (z_vin i 12 = true) ∧ (q_X1_strainOn_28 M i) ∧ True
theorem it_X6_putMatter_19_27 {d : Nat} {L : Nat → Nat → Int64} {Q : Option Value → z_St → Prop} (M : Nat → Nat → Int32) (t : Int32) (v2 : Int32) (i : Int32)  (hc : ¬ (M 20 1 ≤ i)) (p1 : qi_X6_putMatter_19_27 M t v2 i) (h : z_G (d + 3) tb_X6_putMatter 27 [some (.ref 19), some (.int t), some (.int v2), some (.int (i + 1))] [] [] (z_SH, e_X6_putMatter_19_27_M M t v2 i, L) Q) : z_G (d + 3) tb_X6_putMatter 27 [some (.ref 19), some (.int t), some (.int v2), some (.int i)] [] [] (z_SH, M, L) Q := by
  unfold qi_X6_putMatter_19_27 at p1
  obtain ⟨p1, p2, -⟩ := p1
  refine g_k 5 (pc' := (if z_cmp .ge i (M 20 1) = true then 64 else 38)) (LI' := [some (.ref 19), some (.int t), some (.int v2), some (.int i)]) (LL' := []) (st' := []) (S' := (z_SH, M, L)) (fun nq hq => And.intro rfl (And.intro rfl (And.intro rfl (And.intro rfl (And.intro rfl hq))))) ?_
  refine g_ge (fun hc1 => ?_) (fun hc1 => ?_)
  · exact absurd hc1 hc
  · refine g_k 9 (pc' := 53) (LI' := [some (.ref 19), some (.int t), some (.int v2), some (.int i)]) (LL' := []) (st' := [.int i, .ref 28, .int (M 26 ((i).toNatClampNeg)), .int i, .ref 26]) (S' := (z_SH, M, L)) (fun nq hq => And.intro rfl (And.intro rfl (And.intro rfl (And.intro rfl (And.intro rfl (And.intro p1 (And.intro rfl (And.intro rfl (And.intro rfl hq))))))))) ?_
    refine g_k 1 (pc' := 56) (LI' := [some (.ref 19), some (.int t), some (.int v2), some (.int i)]) (LL' := []) (st' := [.int (f_X1_strainOn_28 M i), .int (M 26 ((i).toNatClampNeg)), .int i, .ref 26]) (S' := (z_SH, M, L)) (fun nq hq => And.intro rfl (Exists.intro _ (Exists.intro _ (And.intro (c_X1_strainOn_28 (d := d) M i p2) (And.intro (z_fit_same _ _ _ _ _ _ _ _) hq))))) ?_
    generalize hg1 : f_X1_strainOn_28 M i = r1 at *
    refine g_k 4 (pc' := 27) (LI' := [some (.ref 19), some (.int t), some (.int v2), some (.int (i + 1))]) (LL' := []) (st' := []) (S' := (z_SH, z_row M 26 (upd (M 26) ((i).toNatClampNeg) ((M 26 ((i).toNatClampNeg)) + r1)), L)) (fun nq hq => And.intro rfl (And.intro p1 (And.intro rfl (And.intro rfl hq)))) ?_
    (subst hg1; unfold e_X6_putMatter_19_27_M at h; exact h )
def s_X6_putMatter_19_27 (M : Nat → Nat → Int32) (t : Int32) (v2 : Int32)  (n : Nat) : (Nat → Nat → Int32) := Nat.rec (motive := fun _ => (Nat → Nat → Int32)) (M) (fun k r => (e_X6_putMatter_19_27_M r t v2 (nI k))) n
theorem fr_e_X6_putMatter_19_27_M (M : Nat → Nat → Int32) (t : Int32) (v2 : Int32) (i : Int32)  (c : Nat) (h26 : c ≠ 26) : e_X6_putMatter_19_27_M M t v2 i c = M c := by
  unfold e_X6_putMatter_19_27_M
  repeat' split
  all_goals simp only [z_row_ne h26]
theorem fr_s_X6_putMatter_19_27 (M : Nat → Nat → Int32) (t : Int32) (v2 : Int32)  (n : Nat) (c : Nat) (h26 : c ≠ 26) : ((s_X6_putMatter_19_27 M t v2 n)) c = M c := by
  induction n with
  | zero => rfl
  | succ n ih => exact (fr_e_X6_putMatter_19_27_M _ t v2 (nI n)  c h26).trans ih
theorem l_X6_putMatter_19_27 {d : Nat} {L : Nat → Nat → Int64} {Q : Option Value → z_St → Prop} (M : Nat → Nat → Int32) (t : Int32) (v2 : Int32)  (n : Nat) : (∀ k, k < n → ¬ (((s_X6_putMatter_19_27 M t v2 k)) 20 1 ≤ (nI k))) → (∀ k, k < n → qi_X6_putMatter_19_27 ((s_X6_putMatter_19_27 M t v2 k)) t v2 (nI k)) → (z_G (d + 3) tb_X6_putMatter 27 [some (.ref 19), some (.int t), some (.int v2), some (.int (nI n))] [] [] (z_SH, (s_X6_putMatter_19_27 M t v2 n), L) Q) → z_G (d + 3) tb_X6_putMatter 27 [some (.ref 19), some (.int t), some (.int v2), some (.int (nI 0))] [] [] (z_SH, M, L) Q := by
  induction n with
  | zero =>
    intro hc p1 h
    exact h
  | succ n ih =>
    intro hc p1 h
    refine ih (fun k hk => hc k (by omega)) (fun k hk => p1 k (by omega)) ?_
    have hcn := hc n (by omega)
    have p1n := p1 n (by omega)
    clear ih hc p1
    have hs : s_X6_putMatter_19_27 M t v2 (n + 1) = (e_X6_putMatter_19_27_M ((s_X6_putMatter_19_27 M t v2 n)) t v2 (nI n)) := rfl
    rw [hs] at h
    clear hs
    generalize s_X6_putMatter_19_27 M t v2 n = sg at *
    refine it_X6_putMatter_19_27 sg t v2 (nI n)  hcn p1n ?_
    rw [nI_1]
    exact h
def e_X6_putMatter_19_66_M (M : Nat → Nat → Int32) (t : Int32) (v2 : Int32) (i : Int32)  : Nat → Nat → Int32 := if (f_X1_isOn_28 M i) = (0 : Int32) then M else if M 26 ((i).toNatClampNeg) < (M 15 0) * (M 25 ((i).toNatClampNeg)) then M else z_row (z_row M 27 (upd (M 27) ((i).toNatClampNeg) ((1 : Int32)))) 20 (upd (M 20) 10 ((M 20 10) + ((1 : Int32))))
def qi_X6_putMatter_19_66 (M : Nat → Nat → Int32) (t : Int32) (v2 : Int32) (i : Int32)  : Prop := (q_X1_isOn_28 M i) ∧ ((¬ ((f_X1_isOn_28 M i) = (0 : Int32))) → (z_vin i 12 = true)) ∧ True
theorem it_X6_putMatter_19_66 {d : Nat} {L : Nat → Nat → Int64} {Q : Option Value → z_St → Prop} (M : Nat → Nat → Int32) (t : Int32) (v2 : Int32) (i : Int32)  (hc : ¬ (M 20 1 ≤ i)) (p1 : qi_X6_putMatter_19_66 M t v2 i) (h : z_G (d + 2) tb_X6_putMatter 66 [some (.ref 19), some (.int t), some (.int v2), some (.int (i + 1))] [] [] (z_SH, e_X6_putMatter_19_66_M M t v2 i, L) Q) : z_G (d + 2) tb_X6_putMatter 66 [some (.ref 19), some (.int t), some (.int v2), some (.int i)] [] [] (z_SH, M, L) Q := by
  unfold qi_X6_putMatter_19_66 at p1
  obtain ⟨p1, p2, -⟩ := p1
  refine g_k 5 (pc' := (if z_cmp .ge i (M 20 1) = true then 146 else 77)) (LI' := [some (.ref 19), some (.int t), some (.int v2), some (.int i)]) (LL' := []) (st' := []) (S' := (z_SH, M, L)) (fun nq hq => And.intro rfl (And.intro rfl (And.intro rfl (And.intro rfl (And.intro rfl hq))))) ?_
  refine g_ge (fun hc1 => ?_) (fun hc1 => ?_)
  · exact absurd hc1 hc
  · refine g_k 3 (pc' := 82) (LI' := [some (.ref 19), some (.int t), some (.int v2), some (.int i)]) (LL' := []) (st' := [.int i, .ref 28]) (S' := (z_SH, M, L)) (fun nq hq => And.intro rfl (And.intro rfl (And.intro rfl hq))) ?_
    refine g_k 1 (pc' := 85) (LI' := [some (.ref 19), some (.int t), some (.int v2), some (.int i)]) (LL' := []) (st' := [.int (f_X1_isOn_28 M i)]) (S' := (z_SH, M, L)) (fun nq hq => And.intro rfl (Exists.intro _ (Exists.intro _ (And.intro (c_X1_isOn_28 (d := d) M i p1) (And.intro (z_fit_same _ _ _ _ _ _ _ _) hq))))) ?_
    generalize hg1 : f_X1_isOn_28 M i = r1 at *
    refine g_k 1 (pc' := (if z_cmp .eq r1 ((0 : Int32)) = true then 140 else 88)) (LI' := [some (.ref 19), some (.int t), some (.int v2), some (.int i)]) (LL' := []) (st' := []) (S' := (z_SH, M, L)) (fun nq hq => And.intro rfl hq) ?_
    refine g_eq (fun hc2 => ?_) (fun hc2 => ?_)
    · refine g_k 2 (pc' := 66) (LI' := [some (.ref 19), some (.int t), some (.int v2), some (.int (i + 1))]) (LL' := []) (st' := []) (S' := (z_SH, M, L)) (fun nq hq => And.intro rfl (And.intro rfl hq)) ?_
      (subst hg1; unfold e_X6_putMatter_19_66_M at h; (try simp only [if_pos hc2] at h); exact h )
    · refine g_k 9 (pc' := 105) (LI' := [some (.ref 19), some (.int t), some (.int v2), some (.int i)]) (LL' := []) (st' := [.ref 19, .int (M 15 0), .int (M 26 ((i).toNatClampNeg))]) (S' := (z_SH, M, L)) (fun nq hq => And.intro rfl (And.intro rfl (And.intro rfl (And.intro rfl (And.intro (p2 hc2) (And.intro rfl (And.intro rfl (And.intro rfl (And.intro rfl hq))))))))) ?_
      refine g_k 6 (pc' := (if z_cmp .lt (M 26 ((i).toNatClampNeg)) ((M 15 0) * (M 25 ((i).toNatClampNeg))) = true then 140 else 117)) (LI' := [some (.ref 19), some (.int t), some (.int v2), some (.int i)]) (LL' := []) (st' := []) (S' := (z_SH, M, L)) (fun nq hq => And.intro rfl (And.intro rfl (And.intro rfl (And.intro (p2 hc2) (And.intro rfl (And.intro rfl hq)))))) ?_
      refine g_lt (fun hc3 => ?_) (fun hc3 => ?_)
      · refine g_k 2 (pc' := 66) (LI' := [some (.ref 19), some (.int t), some (.int v2), some (.int (i + 1))]) (LL' := []) (st' := []) (S' := (z_SH, M, L)) (fun nq hq => And.intro rfl (And.intro rfl hq)) ?_
        (subst hg1; unfold e_X6_putMatter_19_66_M at h; (try simp only [if_neg hc2] at h); (try simp only [if_pos hc3] at h); exact h )
      · refine g_k 9 (pc' := 132) (LI' := [some (.ref 19), some (.int t), some (.int v2), some (.int i)]) (LL' := []) (st' := [.ref 20, .ref 20]) (S' := (z_SH, z_row M 27 (upd (M 27) ((i).toNatClampNeg) ((1 : Int32))), L)) (fun nq hq => And.intro rfl (And.intro rfl (And.intro rfl (And.intro rfl (And.intro rfl (And.intro (p2 hc2) (And.intro rfl (And.intro rfl (And.intro rfl hq))))))))) ?_
        refine g_k 6 (pc' := 66) (LI' := [some (.ref 19), some (.int t), some (.int v2), some (.int (i + 1))]) (LL' := []) (st' := []) (S' := (z_SH, z_row (z_row M 27 (upd (M 27) ((i).toNatClampNeg) ((1 : Int32)))) 20 (upd (M 20) 10 ((M 20 10) + ((1 : Int32)))), L)) (fun nq hq => And.intro rfl (And.intro rfl (And.intro rfl (And.intro rfl (And.intro rfl (And.intro rfl hq)))))) ?_
        (subst hg1; unfold e_X6_putMatter_19_66_M at h; (try simp only [if_neg hc2] at h); (try simp only [if_neg hc3] at h); exact h )
def s_X6_putMatter_19_66 (M : Nat → Nat → Int32) (t : Int32) (v2 : Int32)  (n : Nat) : (Nat → Nat → Int32) := Nat.rec (motive := fun _ => (Nat → Nat → Int32)) (M) (fun k r => (e_X6_putMatter_19_66_M r t v2 (nI k))) n
theorem fr_e_X6_putMatter_19_66_M (M : Nat → Nat → Int32) (t : Int32) (v2 : Int32) (i : Int32)  (c : Nat) (h20 : c ≠ 20) (h27 : c ≠ 27) : e_X6_putMatter_19_66_M M t v2 i c = M c := by
  unfold e_X6_putMatter_19_66_M
  repeat' split
  all_goals simp only [z_row_ne h20, z_row_ne h27]
theorem fr_s_X6_putMatter_19_66 (M : Nat → Nat → Int32) (t : Int32) (v2 : Int32)  (n : Nat) (c : Nat) (h20 : c ≠ 20) (h27 : c ≠ 27) : ((s_X6_putMatter_19_66 M t v2 n)) c = M c := by
  induction n with
  | zero => rfl
  | succ n ih => exact (fr_e_X6_putMatter_19_66_M _ t v2 (nI n)  c h20 h27).trans ih
theorem fb_e_X6_putMatter_19_66 (M : Nat → Nat → Int32) (t : Int32) (v2 : Int32) (i : Int32)  : e_X6_putMatter_19_66_M M t v2 i 20 1 = M 20 1 := by
  unfold e_X6_putMatter_19_66_M
  repeat' split
  all_goals rfl
theorem fb_s_X6_putMatter_19_66 (M : Nat → Nat → Int32) (t : Int32) (v2 : Int32)  (n : Nat) : ((s_X6_putMatter_19_66 M t v2 n)) 20 1 = M 20 1 := by
  induction n with
  | zero => rfl
  | succ n ih => exact (fb_e_X6_putMatter_19_66 _ t v2 (nI n) ).trans ih
theorem l_X6_putMatter_19_66 {d : Nat} {L : Nat → Nat → Int64} {Q : Option Value → z_St → Prop} (M : Nat → Nat → Int32) (t : Int32) (v2 : Int32)  (n : Nat) : (∀ k, k < n → ¬ (((s_X6_putMatter_19_66 M t v2 k)) 20 1 ≤ (nI k))) → (∀ k, k < n → qi_X6_putMatter_19_66 ((s_X6_putMatter_19_66 M t v2 k)) t v2 (nI k)) → (z_G (d + 2) tb_X6_putMatter 66 [some (.ref 19), some (.int t), some (.int v2), some (.int (nI n))] [] [] (z_SH, (s_X6_putMatter_19_66 M t v2 n), L) Q) → z_G (d + 2) tb_X6_putMatter 66 [some (.ref 19), some (.int t), some (.int v2), some (.int (nI 0))] [] [] (z_SH, M, L) Q := by
  induction n with
  | zero =>
    intro hc p1 h
    exact h
  | succ n ih =>
    intro hc p1 h
    refine ih (fun k hk => hc k (by omega)) (fun k hk => p1 k (by omega)) ?_
    have hcn := hc n (by omega)
    have p1n := p1 n (by omega)
    clear ih hc p1
    have hs : s_X6_putMatter_19_66 M t v2 (n + 1) = (e_X6_putMatter_19_66_M ((s_X6_putMatter_19_66 M t v2 n)) t v2 (nI n)) := rfl
    rw [hs] at h
    clear hs
    generalize s_X6_putMatter_19_66 M t v2 n = sg at *
    refine it_X6_putMatter_19_66 sg t v2 (nI n)  hcn p1n ?_
    rw [nI_1]
    exact h
def f_X6_putMatter_19 (M : Nat → Nat → Int32) (t : Int32) : Int32 := if (f_X1_margin_28 (g_X1_take_28 M t ((0 : Int32)))) ≤ (0 : Int32) then (0 : Int32) else (1 : Int32)
def g_X6_putMatter_19 (M : Nat → Nat → Int32) (t : Int32) : Nat → Nat → Int32 := if (f_X1_margin_28 (g_X1_take_28 M t ((0 : Int32)))) ≤ (0 : Int32) then z_row ((s_X6_putMatter_19_66 ((s_X6_putMatter_19_27 (g_X1_take_28 M t ((0 : Int32))) t ((0 : Int32)) (((g_X1_take_28 M t ((0 : Int32))) 20 1).toNatClampNeg))) t ((0 : Int32)) ((((s_X6_putMatter_19_27 (g_X1_take_28 M t ((0 : Int32))) t ((0 : Int32)) (((g_X1_take_28 M t ((0 : Int32))) 20 1).toNatClampNeg))) 20 1).toNatClampNeg))) 20 (upd (((s_X6_putMatter_19_66 ((s_X6_putMatter_19_27 (g_X1_take_28 M t ((0 : Int32))) t ((0 : Int32)) (((g_X1_take_28 M t ((0 : Int32))) 20 1).toNatClampNeg))) t ((0 : Int32)) ((((s_X6_putMatter_19_27 (g_X1_take_28 M t ((0 : Int32))) t ((0 : Int32)) (((g_X1_take_28 M t ((0 : Int32))) 20 1).toNatClampNeg))) 20 1).toNatClampNeg))) 20) 8 ((((s_X6_putMatter_19_66 ((s_X6_putMatter_19_27 (g_X1_take_28 M t ((0 : Int32))) t ((0 : Int32)) (((g_X1_take_28 M t ((0 : Int32))) 20 1).toNatClampNeg))) t ((0 : Int32)) ((((s_X6_putMatter_19_27 (g_X1_take_28 M t ((0 : Int32))) t ((0 : Int32)) (((g_X1_take_28 M t ((0 : Int32))) 20 1).toNatClampNeg))) 20 1).toNatClampNeg))) 20 8) + ((1 : Int32)))) else z_row (z_row ((s_X6_putMatter_19_66 ((s_X6_putMatter_19_27 (g_X1_take_28 M t ((0 : Int32))) t ((1 : Int32)) (((g_X1_take_28 M t ((0 : Int32))) 20 1).toNatClampNeg))) t ((1 : Int32)) ((((s_X6_putMatter_19_27 (g_X1_take_28 M t ((0 : Int32))) t ((1 : Int32)) (((g_X1_take_28 M t ((0 : Int32))) 20 1).toNatClampNeg))) 20 1).toNatClampNeg))) 20 (upd (((s_X6_putMatter_19_66 ((s_X6_putMatter_19_27 (g_X1_take_28 M t ((0 : Int32))) t ((1 : Int32)) (((g_X1_take_28 M t ((0 : Int32))) 20 1).toNatClampNeg))) t ((1 : Int32)) ((((s_X6_putMatter_19_27 (g_X1_take_28 M t ((0 : Int32))) t ((1 : Int32)) (((g_X1_take_28 M t ((0 : Int32))) 20 1).toNatClampNeg))) 20 1).toNatClampNeg))) 20) 8 ((((s_X6_putMatter_19_66 ((s_X6_putMatter_19_27 (g_X1_take_28 M t ((0 : Int32))) t ((1 : Int32)) (((g_X1_take_28 M t ((0 : Int32))) 20 1).toNatClampNeg))) t ((1 : Int32)) ((((s_X6_putMatter_19_27 (g_X1_take_28 M t ((0 : Int32))) t ((1 : Int32)) (((g_X1_take_28 M t ((0 : Int32))) 20 1).toNatClampNeg))) 20 1).toNatClampNeg))) 20 8) + ((1 : Int32))))) 20 (upd (upd (((s_X6_putMatter_19_66 ((s_X6_putMatter_19_27 (g_X1_take_28 M t ((0 : Int32))) t ((1 : Int32)) (((g_X1_take_28 M t ((0 : Int32))) 20 1).toNatClampNeg))) t ((1 : Int32)) ((((s_X6_putMatter_19_27 (g_X1_take_28 M t ((0 : Int32))) t ((1 : Int32)) (((g_X1_take_28 M t ((0 : Int32))) 20 1).toNatClampNeg))) 20 1).toNatClampNeg))) 20) 8 ((((s_X6_putMatter_19_66 ((s_X6_putMatter_19_27 (g_X1_take_28 M t ((0 : Int32))) t ((1 : Int32)) (((g_X1_take_28 M t ((0 : Int32))) 20 1).toNatClampNeg))) t ((1 : Int32)) ((((s_X6_putMatter_19_27 (g_X1_take_28 M t ((0 : Int32))) t ((1 : Int32)) (((g_X1_take_28 M t ((0 : Int32))) 20 1).toNatClampNeg))) 20 1).toNatClampNeg))) 20 8) + ((1 : Int32)))) 9 ((((s_X6_putMatter_19_66 ((s_X6_putMatter_19_27 (g_X1_take_28 M t ((0 : Int32))) t ((1 : Int32)) (((g_X1_take_28 M t ((0 : Int32))) 20 1).toNatClampNeg))) t ((1 : Int32)) ((((s_X6_putMatter_19_27 (g_X1_take_28 M t ((0 : Int32))) t ((1 : Int32)) (((g_X1_take_28 M t ((0 : Int32))) 20 1).toNatClampNeg))) 20 1).toNatClampNeg))) 20 9) + ((1 : Int32))))
theorem b_X6_putMatter_19 (M : Nat → Nat → Int32) (t : Int32) : f_X6_putMatter_19 M t = 0 ∨ f_X6_putMatter_19 M t = 1 := by
  unfold f_X6_putMatter_19
  repeat' split
  all_goals first | exact Or.inl rfl | exact Or.inr rfl
theorem fr_g_X6_putMatter_19 (M : Nat → Nat → Int32) (t : Int32) (c : Nat) (h20 : c ≠ 20) (h26 : c ≠ 26) (h27 : c ≠ 27) (h28 : c ≠ 28) (h29 : c ≠ 29) (h30 : c ≠ 30) (h31 : c ≠ 31) : g_X6_putMatter_19 M t c = M c := by
  unfold g_X6_putMatter_19
  repeat' split
  all_goals simp only [z_row_ne h20, z_row_ne h26, z_row_ne h27, z_row_ne h28, z_row_ne h29, z_row_ne h30, z_row_ne h31, fr_g_X1_take_28 (c := c) (h28 := h28) (h29 := h29) (h30 := h30) (h31 := h31), fr_s_X6_putMatter_19_27 (c := c) (h26 := h26), fr_s_X6_putMatter_19_66 (c := c) (h20 := h20) (h27 := h27)]
def q_X6_putMatter_19 (M : Nat → Nat → Int32) (t : Int32) : Prop := (q_X1_take_28 M t ((0 : Int32))) ∧ (q_X1_margin_28 (g_X1_take_28 M t ((0 : Int32)))) ∧ (((f_X1_margin_28 (g_X1_take_28 M t ((0 : Int32)))) ≤ (0 : Int32)) → (∀ k14, k14 < ((g_X1_take_28 M t ((0 : Int32))) 20 1).toNatClampNeg → qi_X6_putMatter_19_27 ((s_X6_putMatter_19_27 (g_X1_take_28 M t ((0 : Int32))) t ((0 : Int32)) k14)) t ((0 : Int32)) (nI k14))) ∧ (((f_X1_margin_28 (g_X1_take_28 M t ((0 : Int32)))) ≤ (0 : Int32)) → (∀ k15, k15 < (((s_X6_putMatter_19_27 (g_X1_take_28 M t ((0 : Int32))) t ((0 : Int32)) (((g_X1_take_28 M t ((0 : Int32))) 20 1).toNatClampNeg))) 20 1).toNatClampNeg → qi_X6_putMatter_19_66 ((s_X6_putMatter_19_66 ((s_X6_putMatter_19_27 (g_X1_take_28 M t ((0 : Int32))) t ((0 : Int32)) (((g_X1_take_28 M t ((0 : Int32))) 20 1).toNatClampNeg))) t ((0 : Int32)) k15)) t ((0 : Int32)) (nI k15))) ∧ ((¬ ((f_X1_margin_28 (g_X1_take_28 M t ((0 : Int32)))) ≤ (0 : Int32))) → (∀ k14, k14 < ((g_X1_take_28 M t ((0 : Int32))) 20 1).toNatClampNeg → qi_X6_putMatter_19_27 ((s_X6_putMatter_19_27 (g_X1_take_28 M t ((0 : Int32))) t ((1 : Int32)) k14)) t ((1 : Int32)) (nI k14))) ∧ ((¬ ((f_X1_margin_28 (g_X1_take_28 M t ((0 : Int32)))) ≤ (0 : Int32))) → (∀ k15, k15 < (((s_X6_putMatter_19_27 (g_X1_take_28 M t ((0 : Int32))) t ((1 : Int32)) (((g_X1_take_28 M t ((0 : Int32))) 20 1).toNatClampNeg))) 20 1).toNatClampNeg → qi_X6_putMatter_19_66 ((s_X6_putMatter_19_66 ((s_X6_putMatter_19_27 (g_X1_take_28 M t ((0 : Int32))) t ((1 : Int32)) (((g_X1_take_28 M t ((0 : Int32))) 20 1).toNatClampNeg))) t ((1 : Int32)) k15)) t ((1 : Int32)) (nI k15))) ∧ True
theorem c_X6_putMatter_19 {d : Nat} {L : Nat → Nat → Int64} (M : Nat → Nat → Int32) (t : Int32)  (hpre : q_X6_putMatter_19 M t) : z_C (d + 5) 56 [.ref 19, .int t] (z_SH, M, L) (some (.int (f_X6_putMatter_19 M t))) (z_SH, g_X6_putMatter_19 M t, L) := by
  unfold q_X6_putMatter_19 at hpre
  obtain ⟨p1, p2, p3, p4, p5, p6, -⟩ := hpre
  refine z_mkA (tb := tb_X6_putMatter) rfl (by decide) rfl rfl rfl ?_
  refine g_k 4 (pc' := 6) (LI' := [some (.ref 19), some (.int t), none, none]) (LL' := []) (st' := [.int 0, .int t, .ref 28]) (S' := (z_SH, M, L)) (fun nq hq => And.intro rfl (And.intro rfl (And.intro rfl (And.intro rfl hq)))) ?_
  refine g_k 1 (pc' := 9) (LI' := [some (.ref 19), some (.int t), none, none]) (LL' := []) (st' := []) (S' := (z_SH, g_X1_take_28 M t ((0 : Int32)), L)) (fun nq hq => And.intro rfl (Exists.intro _ (Exists.intro _ (And.intro (c_X1_take_28 (d := d + 1) M t ((0 : Int32)) p1) (And.intro (z_fit_same _ _ _ _ _ _ _ _) hq))))) ?_
  generalize hg1 : g_X1_take_28 M t ((0 : Int32)) = m1 at *
  refine g_k 2 (pc' := 13) (LI' := [some (.ref 19), some (.int t), none, none]) (LL' := []) (st' := [.ref 28]) (S' := (z_SH, m1, L)) (fun nq hq => And.intro rfl (And.intro rfl hq)) ?_
  refine g_k 1 (pc' := 16) (LI' := [some (.ref 19), some (.int t), none, none]) (LL' := []) (st' := [.int (f_X1_margin_28 m1)]) (S' := (z_SH, m1, L)) (fun nq hq => And.intro rfl (Exists.intro _ (Exists.intro _ (And.intro (c_X1_margin_28 (d := d) m1  p2) (And.intro (z_fit_same _ _ _ _ _ _ _ _) hq))))) ?_
  generalize hg2 : f_X1_margin_28 m1 = r2 at *
  refine g_k 1 (pc' := (if z_cmp .le r2 ((0 : Int32)) = true then 23 else 19)) (LI' := [some (.ref 19), some (.int t), none, none]) (LL' := []) (st' := []) (S' := (z_SH, m1, L)) (fun nq hq => And.intro rfl hq) ?_
  refine g_le (fun hc1 => ?_) (fun hc1 => ?_)
  · refine g_k 4 (pc' := 27) (LI' := [some (.ref 19), some (.int t), some (.int 0), some (.int 0)]) (LL' := []) (st' := []) (S' := (z_SH, m1, L)) (fun nq hq => And.intro rfl (And.intro rfl (And.intro rfl (And.intro rfl hq)))) ?_
    refine l_X6_putMatter_19_27 (d := d + 1) m1 t ((0 : Int32)) ((m1 20 1).toNatClampNeg) (fun k hk => by rw [fr_s_X6_putMatter_19_27 m1 t ((0 : Int32)) k 20 (by decide)]; exact z_lpc hk) (p3 hc1) ?_ 
    have hx1 : ((s_X6_putMatter_19_27 m1 t ((0 : Int32)) ((m1 20 1).toNatClampNeg))) 20 1 ≤ nI ((m1 20 1).toNatClampNeg) := by rw [fr_s_X6_putMatter_19_27 m1 t ((0 : Int32)) ((m1 20 1).toNatClampNeg) 20 (by decide)]; exact z_lpe
    generalize hg3 : nI ((m1 20 1).toNatClampNeg) = r3 at *
    generalize hg4 : (s_X6_putMatter_19_27 m1 t ((0 : Int32)) ((m1 20 1).toNatClampNeg)) = m4 at *
    refine g_k 5 (pc' := (if z_cmp .ge r3 (m4 20 1) = true then 64 else 38)) (LI' := [some (.ref 19), some (.int t), some (.int 0), some (.int r3)]) (LL' := []) (st' := []) (S' := (z_SH, m4, L)) (fun nq hq => And.intro rfl (And.intro rfl (And.intro rfl (And.intro rfl (And.intro rfl hq))))) ?_
    refine g_ge (fun hc2 => ?_) (fun hc2 => absurd (hx1) hc2)
    refine g_k 2 (pc' := 66) (LI' := [some (.ref 19), some (.int t), some (.int 0), some (.int 0)]) (LL' := []) (st' := []) (S' := (z_SH, m4, L)) (fun nq hq => And.intro rfl (And.intro rfl hq)) ?_
    refine l_X6_putMatter_19_66 (d := d + 2) m4 t ((0 : Int32)) ((m4 20 1).toNatClampNeg) (fun k hk => by rw [fb_s_X6_putMatter_19_66 m4 t ((0 : Int32)) k]; exact z_lpc hk) (p4 hc1) ?_ 
    have hx2 : ((s_X6_putMatter_19_66 m4 t ((0 : Int32)) ((m4 20 1).toNatClampNeg))) 20 1 ≤ nI ((m4 20 1).toNatClampNeg) := by rw [fb_s_X6_putMatter_19_66 m4 t ((0 : Int32)) ((m4 20 1).toNatClampNeg)]; exact z_lpe
    generalize hg5 : nI ((m4 20 1).toNatClampNeg) = r5 at *
    generalize hg6 : (s_X6_putMatter_19_66 m4 t ((0 : Int32)) ((m4 20 1).toNatClampNeg)) = m6 at *
    refine g_k 5 (pc' := (if z_cmp .ge r5 (m6 20 1) = true then 146 else 77)) (LI' := [some (.ref 19), some (.int t), some (.int 0), some (.int r5)]) (LL' := []) (st' := []) (S' := (z_SH, m6, L)) (fun nq hq => And.intro rfl (And.intro rfl (And.intro rfl (And.intro rfl (And.intro rfl hq))))) ?_
    refine g_ge (fun hc3 => ?_) (fun hc3 => absurd (hx2) hc3)
    refine g_k 9 (pc' := 176) (LI' := [some (.ref 19), some (.int t), some (.int 0), some (.int r5)]) (LL' := []) (st' := []) (S' := (z_SH, z_row m6 20 (upd (m6 20) 8 ((m6 20 8) + ((1 : Int32)))), L)) (fun nq hq => And.intro rfl (And.intro rfl (And.intro rfl (And.intro rfl (And.intro rfl (And.intro rfl (And.intro rfl (And.intro rfl (And.intro rfl hq))))))))) ?_
    refine g_k 1 (pc' := 177) (LI' := [some (.ref 19), some (.int t), some (.int 0), some (.int r5)]) (LL' := []) (st' := [.int 0]) (S' := (z_SH, z_row m6 20 (upd (m6 20) 8 ((m6 20 8) + ((1 : Int32)))), L)) (fun nq hq => And.intro rfl hq) ?_
    exact ⟨1, And.intro rfl (⟨(by subst hg6; subst hg5; subst hg4; subst hg3; subst hg2; subst hg1; unfold f_X6_putMatter_19; (first | rw [if_pos hc1] | skip); try rfl), (by subst hg6; subst hg5; subst hg4; subst hg3; subst hg2; subst hg1; unfold g_X6_putMatter_19; (first | rw [if_pos hc1] | skip); try rfl)⟩)⟩
  · refine g_k 5 (pc' := 27) (LI' := [some (.ref 19), some (.int t), some (.int 1), some (.int 0)]) (LL' := []) (st' := []) (S' := (z_SH, m1, L)) (fun nq hq => And.intro rfl (And.intro rfl (And.intro rfl (And.intro rfl (And.intro rfl hq))))) ?_
    refine l_X6_putMatter_19_27 (d := d + 1) m1 t ((1 : Int32)) ((m1 20 1).toNatClampNeg) (fun k hk => by rw [fr_s_X6_putMatter_19_27 m1 t ((1 : Int32)) k 20 (by decide)]; exact z_lpc hk) (p5 hc1) ?_ 
    have hx3 : ((s_X6_putMatter_19_27 m1 t ((1 : Int32)) ((m1 20 1).toNatClampNeg))) 20 1 ≤ nI ((m1 20 1).toNatClampNeg) := by rw [fr_s_X6_putMatter_19_27 m1 t ((1 : Int32)) ((m1 20 1).toNatClampNeg) 20 (by decide)]; exact z_lpe
    generalize hg7 : nI ((m1 20 1).toNatClampNeg) = r7 at *
    generalize hg8 : (s_X6_putMatter_19_27 m1 t ((1 : Int32)) ((m1 20 1).toNatClampNeg)) = m8 at *
    refine g_k 5 (pc' := (if z_cmp .ge r7 (m8 20 1) = true then 64 else 38)) (LI' := [some (.ref 19), some (.int t), some (.int 1), some (.int r7)]) (LL' := []) (st' := []) (S' := (z_SH, m8, L)) (fun nq hq => And.intro rfl (And.intro rfl (And.intro rfl (And.intro rfl (And.intro rfl hq))))) ?_
    refine g_ge (fun hc4 => ?_) (fun hc4 => absurd (hx3) hc4)
    refine g_k 2 (pc' := 66) (LI' := [some (.ref 19), some (.int t), some (.int 1), some (.int 0)]) (LL' := []) (st' := []) (S' := (z_SH, m8, L)) (fun nq hq => And.intro rfl (And.intro rfl hq)) ?_
    refine l_X6_putMatter_19_66 (d := d + 2) m8 t ((1 : Int32)) ((m8 20 1).toNatClampNeg) (fun k hk => by rw [fb_s_X6_putMatter_19_66 m8 t ((1 : Int32)) k]; exact z_lpc hk) (p6 hc1) ?_ 
    have hx4 : ((s_X6_putMatter_19_66 m8 t ((1 : Int32)) ((m8 20 1).toNatClampNeg))) 20 1 ≤ nI ((m8 20 1).toNatClampNeg) := by rw [fb_s_X6_putMatter_19_66 m8 t ((1 : Int32)) ((m8 20 1).toNatClampNeg)]; exact z_lpe
    generalize hg9 : nI ((m8 20 1).toNatClampNeg) = r9 at *
    generalize hg10 : (s_X6_putMatter_19_66 m8 t ((1 : Int32)) ((m8 20 1).toNatClampNeg)) = m10 at *
    refine g_k 5 (pc' := (if z_cmp .ge r9 (m10 20 1) = true then 146 else 77)) (LI' := [some (.ref 19), some (.int t), some (.int 1), some (.int r9)]) (LL' := []) (st' := []) (S' := (z_SH, m10, L)) (fun nq hq => And.intro rfl (And.intro rfl (And.intro rfl (And.intro rfl (And.intro rfl hq))))) ?_
    refine g_ge (fun hc5 => ?_) (fun hc5 => absurd (hx4) hc5)
    refine g_k 9 (pc' := 163) (LI' := [some (.ref 19), some (.int t), some (.int 1), some (.int r9)]) (LL' := []) (st' := []) (S' := (z_SH, z_row m10 20 (upd (m10 20) 8 ((m10 20 8) + ((1 : Int32)))), L)) (fun nq hq => And.intro rfl (And.intro rfl (And.intro rfl (And.intro rfl (And.intro rfl (And.intro rfl (And.intro rfl (And.intro rfl (And.intro rfl hq))))))))) ?_
    refine g_k 8 (pc' := 177) (LI' := [some (.ref 19), some (.int t), some (.int 1), some (.int r9)]) (LL' := []) (st' := [.int 1]) (S' := (z_SH, z_row (z_row m10 20 (upd (m10 20) 8 ((m10 20 8) + ((1 : Int32))))) 20 (upd (upd (m10 20) 8 ((m10 20 8) + ((1 : Int32)))) 9 ((m10 20 9) + ((1 : Int32)))), L)) (fun nq hq => And.intro rfl (And.intro rfl (And.intro rfl (And.intro rfl (And.intro rfl (And.intro rfl (And.intro rfl (And.intro rfl hq)))))))) ?_
    exact ⟨1, And.intro rfl (⟨(by subst hg10; subst hg9; subst hg8; subst hg7; subst hg2; subst hg1; unfold f_X6_putMatter_19; (first | rw [if_neg hc1] | skip); try rfl), (by subst hg10; subst hg9; subst hg8; subst hg7; subst hg2; subst hg1; unfold g_X6_putMatter_19; (first | rw [if_neg hc1] | skip); try rfl)⟩)⟩
def e_X6_putMatter_33_27_M (M : Nat → Nat → Int32) (t : Int32) (v2 : Int32) (i : Int32)  : Nat → Nat → Int32 := z_row M 40 (upd (M 40) ((i).toNatClampNeg) ((M 40 ((i).toNatClampNeg)) + (f_X1_strainOn_42 M i)))
def qi_X6_putMatter_33_27 (M : Nat → Nat → Int32) (t : Int32) (v2 : Int32) (i : Int32)  : Prop := (z_vin i 12 = true) ∧ (q_X1_strainOn_42 M i) ∧ True
theorem it_X6_putMatter_33_27 {d : Nat} {L : Nat → Nat → Int64} {Q : Option Value → z_St → Prop} (M : Nat → Nat → Int32) (t : Int32) (v2 : Int32) (i : Int32)  (hc : ¬ (M 34 1 ≤ i)) (p1 : qi_X6_putMatter_33_27 M t v2 i) (h : z_G (d + 3) tb_X6_putMatter 27 [some (.ref 33), some (.int t), some (.int v2), some (.int (i + 1))] [] [] (z_SH, e_X6_putMatter_33_27_M M t v2 i, L) Q) : z_G (d + 3) tb_X6_putMatter 27 [some (.ref 33), some (.int t), some (.int v2), some (.int i)] [] [] (z_SH, M, L) Q := by
  unfold qi_X6_putMatter_33_27 at p1
  obtain ⟨p1, p2, -⟩ := p1
  refine g_k 5 (pc' := (if z_cmp .ge i (M 34 1) = true then 64 else 38)) (LI' := [some (.ref 33), some (.int t), some (.int v2), some (.int i)]) (LL' := []) (st' := []) (S' := (z_SH, M, L)) (fun nq hq => And.intro rfl (And.intro rfl (And.intro rfl (And.intro rfl (And.intro rfl hq))))) ?_
  refine g_ge (fun hc1 => ?_) (fun hc1 => ?_)
  · exact absurd hc1 hc
  · refine g_k 9 (pc' := 53) (LI' := [some (.ref 33), some (.int t), some (.int v2), some (.int i)]) (LL' := []) (st' := [.int i, .ref 42, .int (M 40 ((i).toNatClampNeg)), .int i, .ref 40]) (S' := (z_SH, M, L)) (fun nq hq => And.intro rfl (And.intro rfl (And.intro rfl (And.intro rfl (And.intro rfl (And.intro p1 (And.intro rfl (And.intro rfl (And.intro rfl hq))))))))) ?_
    refine g_k 1 (pc' := 56) (LI' := [some (.ref 33), some (.int t), some (.int v2), some (.int i)]) (LL' := []) (st' := [.int (f_X1_strainOn_42 M i), .int (M 40 ((i).toNatClampNeg)), .int i, .ref 40]) (S' := (z_SH, M, L)) (fun nq hq => And.intro rfl (Exists.intro _ (Exists.intro _ (And.intro (c_X1_strainOn_42 (d := d) M i p2) (And.intro (z_fit_same _ _ _ _ _ _ _ _) hq))))) ?_
    generalize hg1 : f_X1_strainOn_42 M i = r1 at *
    refine g_k 4 (pc' := 27) (LI' := [some (.ref 33), some (.int t), some (.int v2), some (.int (i + 1))]) (LL' := []) (st' := []) (S' := (z_SH, z_row M 40 (upd (M 40) ((i).toNatClampNeg) ((M 40 ((i).toNatClampNeg)) + r1)), L)) (fun nq hq => And.intro rfl (And.intro p1 (And.intro rfl (And.intro rfl hq)))) ?_
    (subst hg1; unfold e_X6_putMatter_33_27_M at h; exact h )
def s_X6_putMatter_33_27 (M : Nat → Nat → Int32) (t : Int32) (v2 : Int32)  (n : Nat) : (Nat → Nat → Int32) := Nat.rec (motive := fun _ => (Nat → Nat → Int32)) (M) (fun k r => (e_X6_putMatter_33_27_M r t v2 (nI k))) n
theorem fr_e_X6_putMatter_33_27_M (M : Nat → Nat → Int32) (t : Int32) (v2 : Int32) (i : Int32)  (c : Nat) (h40 : c ≠ 40) : e_X6_putMatter_33_27_M M t v2 i c = M c := by
  unfold e_X6_putMatter_33_27_M
  repeat' split
  all_goals simp only [z_row_ne h40]
theorem fr_s_X6_putMatter_33_27 (M : Nat → Nat → Int32) (t : Int32) (v2 : Int32)  (n : Nat) (c : Nat) (h40 : c ≠ 40) : ((s_X6_putMatter_33_27 M t v2 n)) c = M c := by
  induction n with
  | zero => rfl
  | succ n ih => exact (fr_e_X6_putMatter_33_27_M _ t v2 (nI n)  c h40).trans ih
theorem l_X6_putMatter_33_27 {d : Nat} {L : Nat → Nat → Int64} {Q : Option Value → z_St → Prop} (M : Nat → Nat → Int32) (t : Int32) (v2 : Int32)  (n : Nat) : (∀ k, k < n → ¬ (((s_X6_putMatter_33_27 M t v2 k)) 34 1 ≤ (nI k))) → (∀ k, k < n → qi_X6_putMatter_33_27 ((s_X6_putMatter_33_27 M t v2 k)) t v2 (nI k)) → (z_G (d + 3) tb_X6_putMatter 27 [some (.ref 33), some (.int t), some (.int v2), some (.int (nI n))] [] [] (z_SH, (s_X6_putMatter_33_27 M t v2 n), L) Q) → z_G (d + 3) tb_X6_putMatter 27 [some (.ref 33), some (.int t), some (.int v2), some (.int (nI 0))] [] [] (z_SH, M, L) Q := by
  induction n with
  | zero =>
    intro hc p1 h
    exact h
  | succ n ih =>
    intro hc p1 h
    refine ih (fun k hk => hc k (by omega)) (fun k hk => p1 k (by omega)) ?_
    have hcn := hc n (by omega)
    have p1n := p1 n (by omega)
    clear ih hc p1
    have hs : s_X6_putMatter_33_27 M t v2 (n + 1) = (e_X6_putMatter_33_27_M ((s_X6_putMatter_33_27 M t v2 n)) t v2 (nI n)) := rfl
    rw [hs] at h
    clear hs
    generalize s_X6_putMatter_33_27 M t v2 n = sg at *
    refine it_X6_putMatter_33_27 sg t v2 (nI n)  hcn p1n ?_
    rw [nI_1]
    exact h
def e_X6_putMatter_33_66_M (M : Nat → Nat → Int32) (t : Int32) (v2 : Int32) (i : Int32)  : Nat → Nat → Int32 := if (f_X1_isOn_42 M i) = (0 : Int32) then M else if M 40 ((i).toNatClampNeg) < (M 15 0) * (M 39 ((i).toNatClampNeg)) then M else z_row (z_row M 41 (upd (M 41) ((i).toNatClampNeg) ((1 : Int32)))) 34 (upd (M 34) 10 ((M 34 10) + ((1 : Int32))))
def qi_X6_putMatter_33_66 (M : Nat → Nat → Int32) (t : Int32) (v2 : Int32) (i : Int32)  : Prop := (q_X1_isOn_42 M i) ∧ ((¬ ((f_X1_isOn_42 M i) = (0 : Int32))) → (z_vin i 12 = true)) ∧ True
theorem it_X6_putMatter_33_66 {d : Nat} {L : Nat → Nat → Int64} {Q : Option Value → z_St → Prop} (M : Nat → Nat → Int32) (t : Int32) (v2 : Int32) (i : Int32)  (hc : ¬ (M 34 1 ≤ i)) (p1 : qi_X6_putMatter_33_66 M t v2 i) (h : z_G (d + 2) tb_X6_putMatter 66 [some (.ref 33), some (.int t), some (.int v2), some (.int (i + 1))] [] [] (z_SH, e_X6_putMatter_33_66_M M t v2 i, L) Q) : z_G (d + 2) tb_X6_putMatter 66 [some (.ref 33), some (.int t), some (.int v2), some (.int i)] [] [] (z_SH, M, L) Q := by
  unfold qi_X6_putMatter_33_66 at p1
  obtain ⟨p1, p2, -⟩ := p1
  refine g_k 5 (pc' := (if z_cmp .ge i (M 34 1) = true then 146 else 77)) (LI' := [some (.ref 33), some (.int t), some (.int v2), some (.int i)]) (LL' := []) (st' := []) (S' := (z_SH, M, L)) (fun nq hq => And.intro rfl (And.intro rfl (And.intro rfl (And.intro rfl (And.intro rfl hq))))) ?_
  refine g_ge (fun hc1 => ?_) (fun hc1 => ?_)
  · exact absurd hc1 hc
  · refine g_k 3 (pc' := 82) (LI' := [some (.ref 33), some (.int t), some (.int v2), some (.int i)]) (LL' := []) (st' := [.int i, .ref 42]) (S' := (z_SH, M, L)) (fun nq hq => And.intro rfl (And.intro rfl (And.intro rfl hq))) ?_
    refine g_k 1 (pc' := 85) (LI' := [some (.ref 33), some (.int t), some (.int v2), some (.int i)]) (LL' := []) (st' := [.int (f_X1_isOn_42 M i)]) (S' := (z_SH, M, L)) (fun nq hq => And.intro rfl (Exists.intro _ (Exists.intro _ (And.intro (c_X1_isOn_42 (d := d) M i p1) (And.intro (z_fit_same _ _ _ _ _ _ _ _) hq))))) ?_
    generalize hg1 : f_X1_isOn_42 M i = r1 at *
    refine g_k 1 (pc' := (if z_cmp .eq r1 ((0 : Int32)) = true then 140 else 88)) (LI' := [some (.ref 33), some (.int t), some (.int v2), some (.int i)]) (LL' := []) (st' := []) (S' := (z_SH, M, L)) (fun nq hq => And.intro rfl hq) ?_
    refine g_eq (fun hc2 => ?_) (fun hc2 => ?_)
    · refine g_k 2 (pc' := 66) (LI' := [some (.ref 33), some (.int t), some (.int v2), some (.int (i + 1))]) (LL' := []) (st' := []) (S' := (z_SH, M, L)) (fun nq hq => And.intro rfl (And.intro rfl hq)) ?_
      (subst hg1; unfold e_X6_putMatter_33_66_M at h; (try simp only [if_pos hc2] at h); exact h )
    · refine g_k 9 (pc' := 105) (LI' := [some (.ref 33), some (.int t), some (.int v2), some (.int i)]) (LL' := []) (st' := [.ref 33, .int (M 15 0), .int (M 40 ((i).toNatClampNeg))]) (S' := (z_SH, M, L)) (fun nq hq => And.intro rfl (And.intro rfl (And.intro rfl (And.intro rfl (And.intro (p2 hc2) (And.intro rfl (And.intro rfl (And.intro rfl (And.intro rfl hq))))))))) ?_
      refine g_k 6 (pc' := (if z_cmp .lt (M 40 ((i).toNatClampNeg)) ((M 15 0) * (M 39 ((i).toNatClampNeg))) = true then 140 else 117)) (LI' := [some (.ref 33), some (.int t), some (.int v2), some (.int i)]) (LL' := []) (st' := []) (S' := (z_SH, M, L)) (fun nq hq => And.intro rfl (And.intro rfl (And.intro rfl (And.intro (p2 hc2) (And.intro rfl (And.intro rfl hq)))))) ?_
      refine g_lt (fun hc3 => ?_) (fun hc3 => ?_)
      · refine g_k 2 (pc' := 66) (LI' := [some (.ref 33), some (.int t), some (.int v2), some (.int (i + 1))]) (LL' := []) (st' := []) (S' := (z_SH, M, L)) (fun nq hq => And.intro rfl (And.intro rfl hq)) ?_
        (subst hg1; unfold e_X6_putMatter_33_66_M at h; (try simp only [if_neg hc2] at h); (try simp only [if_pos hc3] at h); exact h )
      · refine g_k 9 (pc' := 132) (LI' := [some (.ref 33), some (.int t), some (.int v2), some (.int i)]) (LL' := []) (st' := [.ref 34, .ref 34]) (S' := (z_SH, z_row M 41 (upd (M 41) ((i).toNatClampNeg) ((1 : Int32))), L)) (fun nq hq => And.intro rfl (And.intro rfl (And.intro rfl (And.intro rfl (And.intro rfl (And.intro (p2 hc2) (And.intro rfl (And.intro rfl (And.intro rfl hq))))))))) ?_
        refine g_k 6 (pc' := 66) (LI' := [some (.ref 33), some (.int t), some (.int v2), some (.int (i + 1))]) (LL' := []) (st' := []) (S' := (z_SH, z_row (z_row M 41 (upd (M 41) ((i).toNatClampNeg) ((1 : Int32)))) 34 (upd (M 34) 10 ((M 34 10) + ((1 : Int32)))), L)) (fun nq hq => And.intro rfl (And.intro rfl (And.intro rfl (And.intro rfl (And.intro rfl (And.intro rfl hq)))))) ?_
        (subst hg1; unfold e_X6_putMatter_33_66_M at h; (try simp only [if_neg hc2] at h); (try simp only [if_neg hc3] at h); exact h )
def s_X6_putMatter_33_66 (M : Nat → Nat → Int32) (t : Int32) (v2 : Int32)  (n : Nat) : (Nat → Nat → Int32) := Nat.rec (motive := fun _ => (Nat → Nat → Int32)) (M) (fun k r => (e_X6_putMatter_33_66_M r t v2 (nI k))) n
theorem fr_e_X6_putMatter_33_66_M (M : Nat → Nat → Int32) (t : Int32) (v2 : Int32) (i : Int32)  (c : Nat) (h34 : c ≠ 34) (h41 : c ≠ 41) : e_X6_putMatter_33_66_M M t v2 i c = M c := by
  unfold e_X6_putMatter_33_66_M
  repeat' split
  all_goals simp only [z_row_ne h34, z_row_ne h41]
theorem fr_s_X6_putMatter_33_66 (M : Nat → Nat → Int32) (t : Int32) (v2 : Int32)  (n : Nat) (c : Nat) (h34 : c ≠ 34) (h41 : c ≠ 41) : ((s_X6_putMatter_33_66 M t v2 n)) c = M c := by
  induction n with
  | zero => rfl
  | succ n ih => exact (fr_e_X6_putMatter_33_66_M _ t v2 (nI n)  c h34 h41).trans ih
theorem fb_e_X6_putMatter_33_66 (M : Nat → Nat → Int32) (t : Int32) (v2 : Int32) (i : Int32)  : e_X6_putMatter_33_66_M M t v2 i 34 1 = M 34 1 := by
  unfold e_X6_putMatter_33_66_M
  repeat' split
  all_goals rfl
theorem fb_s_X6_putMatter_33_66 (M : Nat → Nat → Int32) (t : Int32) (v2 : Int32)  (n : Nat) : ((s_X6_putMatter_33_66 M t v2 n)) 34 1 = M 34 1 := by
  induction n with
  | zero => rfl
  | succ n ih => exact (fb_e_X6_putMatter_33_66 _ t v2 (nI n) ).trans ih
theorem l_X6_putMatter_33_66 {d : Nat} {L : Nat → Nat → Int64} {Q : Option Value → z_St → Prop} (M : Nat → Nat → Int32) (t : Int32) (v2 : Int32)  (n : Nat) : (∀ k, k < n → ¬ (((s_X6_putMatter_33_66 M t v2 k)) 34 1 ≤ (nI k))) → (∀ k, k < n → qi_X6_putMatter_33_66 ((s_X6_putMatter_33_66 M t v2 k)) t v2 (nI k)) → (z_G (d + 2) tb_X6_putMatter 66 [some (.ref 33), some (.int t), some (.int v2), some (.int (nI n))] [] [] (z_SH, (s_X6_putMatter_33_66 M t v2 n), L) Q) → z_G (d + 2) tb_X6_putMatter 66 [some (.ref 33), some (.int t), some (.int v2), some (.int (nI 0))] [] [] (z_SH, M, L) Q := by
  induction n with
  | zero =>
    intro hc p1 h
    exact h
  | succ n ih =>
    intro hc p1 h
    refine ih (fun k hk => hc k (by omega)) (fun k hk => p1 k (by omega)) ?_
    have hcn := hc n (by omega)
    have p1n := p1 n (by omega)
    clear ih hc p1
    have hs : s_X6_putMatter_33_66 M t v2 (n + 1) = (e_X6_putMatter_33_66_M ((s_X6_putMatter_33_66 M t v2 n)) t v2 (nI n)) := rfl
    rw [hs] at h
    clear hs
    generalize s_X6_putMatter_33_66 M t v2 n = sg at *
    refine it_X6_putMatter_33_66 sg t v2 (nI n)  hcn p1n ?_
    rw [nI_1]
    exact h
def f_X6_putMatter_33 (M : Nat → Nat → Int32) (t : Int32) : Int32 := if (f_X1_margin_42 (g_X1_take_42 M t ((0 : Int32)))) ≤ (0 : Int32) then (0 : Int32) else (1 : Int32)
def g_X6_putMatter_33 (M : Nat → Nat → Int32) (t : Int32) : Nat → Nat → Int32 := if (f_X1_margin_42 (g_X1_take_42 M t ((0 : Int32)))) ≤ (0 : Int32) then z_row ((s_X6_putMatter_33_66 ((s_X6_putMatter_33_27 (g_X1_take_42 M t ((0 : Int32))) t ((0 : Int32)) (((g_X1_take_42 M t ((0 : Int32))) 34 1).toNatClampNeg))) t ((0 : Int32)) ((((s_X6_putMatter_33_27 (g_X1_take_42 M t ((0 : Int32))) t ((0 : Int32)) (((g_X1_take_42 M t ((0 : Int32))) 34 1).toNatClampNeg))) 34 1).toNatClampNeg))) 34 (upd (((s_X6_putMatter_33_66 ((s_X6_putMatter_33_27 (g_X1_take_42 M t ((0 : Int32))) t ((0 : Int32)) (((g_X1_take_42 M t ((0 : Int32))) 34 1).toNatClampNeg))) t ((0 : Int32)) ((((s_X6_putMatter_33_27 (g_X1_take_42 M t ((0 : Int32))) t ((0 : Int32)) (((g_X1_take_42 M t ((0 : Int32))) 34 1).toNatClampNeg))) 34 1).toNatClampNeg))) 34) 8 ((((s_X6_putMatter_33_66 ((s_X6_putMatter_33_27 (g_X1_take_42 M t ((0 : Int32))) t ((0 : Int32)) (((g_X1_take_42 M t ((0 : Int32))) 34 1).toNatClampNeg))) t ((0 : Int32)) ((((s_X6_putMatter_33_27 (g_X1_take_42 M t ((0 : Int32))) t ((0 : Int32)) (((g_X1_take_42 M t ((0 : Int32))) 34 1).toNatClampNeg))) 34 1).toNatClampNeg))) 34 8) + ((1 : Int32)))) else z_row (z_row ((s_X6_putMatter_33_66 ((s_X6_putMatter_33_27 (g_X1_take_42 M t ((0 : Int32))) t ((1 : Int32)) (((g_X1_take_42 M t ((0 : Int32))) 34 1).toNatClampNeg))) t ((1 : Int32)) ((((s_X6_putMatter_33_27 (g_X1_take_42 M t ((0 : Int32))) t ((1 : Int32)) (((g_X1_take_42 M t ((0 : Int32))) 34 1).toNatClampNeg))) 34 1).toNatClampNeg))) 34 (upd (((s_X6_putMatter_33_66 ((s_X6_putMatter_33_27 (g_X1_take_42 M t ((0 : Int32))) t ((1 : Int32)) (((g_X1_take_42 M t ((0 : Int32))) 34 1).toNatClampNeg))) t ((1 : Int32)) ((((s_X6_putMatter_33_27 (g_X1_take_42 M t ((0 : Int32))) t ((1 : Int32)) (((g_X1_take_42 M t ((0 : Int32))) 34 1).toNatClampNeg))) 34 1).toNatClampNeg))) 34) 8 ((((s_X6_putMatter_33_66 ((s_X6_putMatter_33_27 (g_X1_take_42 M t ((0 : Int32))) t ((1 : Int32)) (((g_X1_take_42 M t ((0 : Int32))) 34 1).toNatClampNeg))) t ((1 : Int32)) ((((s_X6_putMatter_33_27 (g_X1_take_42 M t ((0 : Int32))) t ((1 : Int32)) (((g_X1_take_42 M t ((0 : Int32))) 34 1).toNatClampNeg))) 34 1).toNatClampNeg))) 34 8) + ((1 : Int32))))) 34 (upd (upd (((s_X6_putMatter_33_66 ((s_X6_putMatter_33_27 (g_X1_take_42 M t ((0 : Int32))) t ((1 : Int32)) (((g_X1_take_42 M t ((0 : Int32))) 34 1).toNatClampNeg))) t ((1 : Int32)) ((((s_X6_putMatter_33_27 (g_X1_take_42 M t ((0 : Int32))) t ((1 : Int32)) (((g_X1_take_42 M t ((0 : Int32))) 34 1).toNatClampNeg))) 34 1).toNatClampNeg))) 34) 8 ((((s_X6_putMatter_33_66 ((s_X6_putMatter_33_27 (g_X1_take_42 M t ((0 : Int32))) t ((1 : Int32)) (((g_X1_take_42 M t ((0 : Int32))) 34 1).toNatClampNeg))) t ((1 : Int32)) ((((s_X6_putMatter_33_27 (g_X1_take_42 M t ((0 : Int32))) t ((1 : Int32)) (((g_X1_take_42 M t ((0 : Int32))) 34 1).toNatClampNeg))) 34 1).toNatClampNeg))) 34 8) + ((1 : Int32)))) 9 ((((s_X6_putMatter_33_66 ((s_X6_putMatter_33_27 (g_X1_take_42 M t ((0 : Int32))) t ((1 : Int32)) (((g_X1_take_42 M t ((0 : Int32))) 34 1).toNatClampNeg))) t ((1 : Int32)) ((((s_X6_putMatter_33_27 (g_X1_take_42 M t ((0 : Int32))) t ((1 : Int32)) (((g_X1_take_42 M t ((0 : Int32))) 34 1).toNatClampNeg))) 34 1).toNatClampNeg))) 34 9) + ((1 : Int32))))
theorem b_X6_putMatter_33 (M : Nat → Nat → Int32) (t : Int32) : f_X6_putMatter_33 M t = 0 ∨ f_X6_putMatter_33 M t = 1 := by
  unfold f_X6_putMatter_33
  repeat' split
  all_goals first | exact Or.inl rfl | exact Or.inr rfl
theorem fr_g_X6_putMatter_33 (M : Nat → Nat → Int32) (t : Int32) (c : Nat) (h34 : c ≠ 34) (h40 : c ≠ 40) (h41 : c ≠ 41) (h42 : c ≠ 42) (h43 : c ≠ 43) (h44 : c ≠ 44) (h45 : c ≠ 45) : g_X6_putMatter_33 M t c = M c := by
  unfold g_X6_putMatter_33
  repeat' split
  all_goals simp only [z_row_ne h34, z_row_ne h40, z_row_ne h41, z_row_ne h42, z_row_ne h43, z_row_ne h44, z_row_ne h45, fr_g_X1_take_42 (c := c) (h42 := h42) (h43 := h43) (h44 := h44) (h45 := h45), fr_s_X6_putMatter_33_27 (c := c) (h40 := h40), fr_s_X6_putMatter_33_66 (c := c) (h34 := h34) (h41 := h41)]
def q_X6_putMatter_33 (M : Nat → Nat → Int32) (t : Int32) : Prop := (q_X1_take_42 M t ((0 : Int32))) ∧ (q_X1_margin_42 (g_X1_take_42 M t ((0 : Int32)))) ∧ (((f_X1_margin_42 (g_X1_take_42 M t ((0 : Int32)))) ≤ (0 : Int32)) → (∀ k16, k16 < ((g_X1_take_42 M t ((0 : Int32))) 34 1).toNatClampNeg → qi_X6_putMatter_33_27 ((s_X6_putMatter_33_27 (g_X1_take_42 M t ((0 : Int32))) t ((0 : Int32)) k16)) t ((0 : Int32)) (nI k16))) ∧ (((f_X1_margin_42 (g_X1_take_42 M t ((0 : Int32)))) ≤ (0 : Int32)) → (∀ k17, k17 < (((s_X6_putMatter_33_27 (g_X1_take_42 M t ((0 : Int32))) t ((0 : Int32)) (((g_X1_take_42 M t ((0 : Int32))) 34 1).toNatClampNeg))) 34 1).toNatClampNeg → qi_X6_putMatter_33_66 ((s_X6_putMatter_33_66 ((s_X6_putMatter_33_27 (g_X1_take_42 M t ((0 : Int32))) t ((0 : Int32)) (((g_X1_take_42 M t ((0 : Int32))) 34 1).toNatClampNeg))) t ((0 : Int32)) k17)) t ((0 : Int32)) (nI k17))) ∧ ((¬ ((f_X1_margin_42 (g_X1_take_42 M t ((0 : Int32)))) ≤ (0 : Int32))) → (∀ k16, k16 < ((g_X1_take_42 M t ((0 : Int32))) 34 1).toNatClampNeg → qi_X6_putMatter_33_27 ((s_X6_putMatter_33_27 (g_X1_take_42 M t ((0 : Int32))) t ((1 : Int32)) k16)) t ((1 : Int32)) (nI k16))) ∧ ((¬ ((f_X1_margin_42 (g_X1_take_42 M t ((0 : Int32)))) ≤ (0 : Int32))) → (∀ k17, k17 < (((s_X6_putMatter_33_27 (g_X1_take_42 M t ((0 : Int32))) t ((1 : Int32)) (((g_X1_take_42 M t ((0 : Int32))) 34 1).toNatClampNeg))) 34 1).toNatClampNeg → qi_X6_putMatter_33_66 ((s_X6_putMatter_33_66 ((s_X6_putMatter_33_27 (g_X1_take_42 M t ((0 : Int32))) t ((1 : Int32)) (((g_X1_take_42 M t ((0 : Int32))) 34 1).toNatClampNeg))) t ((1 : Int32)) k17)) t ((1 : Int32)) (nI k17))) ∧ True
theorem c_X6_putMatter_33 {d : Nat} {L : Nat → Nat → Int64} (M : Nat → Nat → Int32) (t : Int32)  (hpre : q_X6_putMatter_33 M t) : z_C (d + 5) 56 [.ref 33, .int t] (z_SH, M, L) (some (.int (f_X6_putMatter_33 M t))) (z_SH, g_X6_putMatter_33 M t, L) := by
  unfold q_X6_putMatter_33 at hpre
  obtain ⟨p1, p2, p3, p4, p5, p6, -⟩ := hpre
  refine z_mkA (tb := tb_X6_putMatter) rfl (by decide) rfl rfl rfl ?_
  refine g_k 4 (pc' := 6) (LI' := [some (.ref 33), some (.int t), none, none]) (LL' := []) (st' := [.int 0, .int t, .ref 42]) (S' := (z_SH, M, L)) (fun nq hq => And.intro rfl (And.intro rfl (And.intro rfl (And.intro rfl hq)))) ?_
  refine g_k 1 (pc' := 9) (LI' := [some (.ref 33), some (.int t), none, none]) (LL' := []) (st' := []) (S' := (z_SH, g_X1_take_42 M t ((0 : Int32)), L)) (fun nq hq => And.intro rfl (Exists.intro _ (Exists.intro _ (And.intro (c_X1_take_42 (d := d + 1) M t ((0 : Int32)) p1) (And.intro (z_fit_same _ _ _ _ _ _ _ _) hq))))) ?_
  generalize hg1 : g_X1_take_42 M t ((0 : Int32)) = m1 at *
  refine g_k 2 (pc' := 13) (LI' := [some (.ref 33), some (.int t), none, none]) (LL' := []) (st' := [.ref 42]) (S' := (z_SH, m1, L)) (fun nq hq => And.intro rfl (And.intro rfl hq)) ?_
  refine g_k 1 (pc' := 16) (LI' := [some (.ref 33), some (.int t), none, none]) (LL' := []) (st' := [.int (f_X1_margin_42 m1)]) (S' := (z_SH, m1, L)) (fun nq hq => And.intro rfl (Exists.intro _ (Exists.intro _ (And.intro (c_X1_margin_42 (d := d) m1  p2) (And.intro (z_fit_same _ _ _ _ _ _ _ _) hq))))) ?_
  generalize hg2 : f_X1_margin_42 m1 = r2 at *
  refine g_k 1 (pc' := (if z_cmp .le r2 ((0 : Int32)) = true then 23 else 19)) (LI' := [some (.ref 33), some (.int t), none, none]) (LL' := []) (st' := []) (S' := (z_SH, m1, L)) (fun nq hq => And.intro rfl hq) ?_
  refine g_le (fun hc1 => ?_) (fun hc1 => ?_)
  · refine g_k 4 (pc' := 27) (LI' := [some (.ref 33), some (.int t), some (.int 0), some (.int 0)]) (LL' := []) (st' := []) (S' := (z_SH, m1, L)) (fun nq hq => And.intro rfl (And.intro rfl (And.intro rfl (And.intro rfl hq)))) ?_
    refine l_X6_putMatter_33_27 (d := d + 1) m1 t ((0 : Int32)) ((m1 34 1).toNatClampNeg) (fun k hk => by rw [fr_s_X6_putMatter_33_27 m1 t ((0 : Int32)) k 34 (by decide)]; exact z_lpc hk) (p3 hc1) ?_ 
    have hx1 : ((s_X6_putMatter_33_27 m1 t ((0 : Int32)) ((m1 34 1).toNatClampNeg))) 34 1 ≤ nI ((m1 34 1).toNatClampNeg) := by rw [fr_s_X6_putMatter_33_27 m1 t ((0 : Int32)) ((m1 34 1).toNatClampNeg) 34 (by decide)]; exact z_lpe
    generalize hg3 : nI ((m1 34 1).toNatClampNeg) = r3 at *
    generalize hg4 : (s_X6_putMatter_33_27 m1 t ((0 : Int32)) ((m1 34 1).toNatClampNeg)) = m4 at *
    refine g_k 5 (pc' := (if z_cmp .ge r3 (m4 34 1) = true then 64 else 38)) (LI' := [some (.ref 33), some (.int t), some (.int 0), some (.int r3)]) (LL' := []) (st' := []) (S' := (z_SH, m4, L)) (fun nq hq => And.intro rfl (And.intro rfl (And.intro rfl (And.intro rfl (And.intro rfl hq))))) ?_
    refine g_ge (fun hc2 => ?_) (fun hc2 => absurd (hx1) hc2)
    refine g_k 2 (pc' := 66) (LI' := [some (.ref 33), some (.int t), some (.int 0), some (.int 0)]) (LL' := []) (st' := []) (S' := (z_SH, m4, L)) (fun nq hq => And.intro rfl (And.intro rfl hq)) ?_
    refine l_X6_putMatter_33_66 (d := d + 2) m4 t ((0 : Int32)) ((m4 34 1).toNatClampNeg) (fun k hk => by rw [fb_s_X6_putMatter_33_66 m4 t ((0 : Int32)) k]; exact z_lpc hk) (p4 hc1) ?_ 
    have hx2 : ((s_X6_putMatter_33_66 m4 t ((0 : Int32)) ((m4 34 1).toNatClampNeg))) 34 1 ≤ nI ((m4 34 1).toNatClampNeg) := by rw [fb_s_X6_putMatter_33_66 m4 t ((0 : Int32)) ((m4 34 1).toNatClampNeg)]; exact z_lpe
    generalize hg5 : nI ((m4 34 1).toNatClampNeg) = r5 at *
    generalize hg6 : (s_X6_putMatter_33_66 m4 t ((0 : Int32)) ((m4 34 1).toNatClampNeg)) = m6 at *
    refine g_k 5 (pc' := (if z_cmp .ge r5 (m6 34 1) = true then 146 else 77)) (LI' := [some (.ref 33), some (.int t), some (.int 0), some (.int r5)]) (LL' := []) (st' := []) (S' := (z_SH, m6, L)) (fun nq hq => And.intro rfl (And.intro rfl (And.intro rfl (And.intro rfl (And.intro rfl hq))))) ?_
    refine g_ge (fun hc3 => ?_) (fun hc3 => absurd (hx2) hc3)
    refine g_k 9 (pc' := 176) (LI' := [some (.ref 33), some (.int t), some (.int 0), some (.int r5)]) (LL' := []) (st' := []) (S' := (z_SH, z_row m6 34 (upd (m6 34) 8 ((m6 34 8) + ((1 : Int32)))), L)) (fun nq hq => And.intro rfl (And.intro rfl (And.intro rfl (And.intro rfl (And.intro rfl (And.intro rfl (And.intro rfl (And.intro rfl (And.intro rfl hq))))))))) ?_
    refine g_k 1 (pc' := 177) (LI' := [some (.ref 33), some (.int t), some (.int 0), some (.int r5)]) (LL' := []) (st' := [.int 0]) (S' := (z_SH, z_row m6 34 (upd (m6 34) 8 ((m6 34 8) + ((1 : Int32)))), L)) (fun nq hq => And.intro rfl hq) ?_
    exact ⟨1, And.intro rfl (⟨(by subst hg6; subst hg5; subst hg4; subst hg3; subst hg2; subst hg1; unfold f_X6_putMatter_33; (first | rw [if_pos hc1] | skip); try rfl), (by subst hg6; subst hg5; subst hg4; subst hg3; subst hg2; subst hg1; unfold g_X6_putMatter_33; (first | rw [if_pos hc1] | skip); try rfl)⟩)⟩
  · refine g_k 5 (pc' := 27) (LI' := [some (.ref 33), some (.int t), some (.int 1), some (.int 0)]) (LL' := []) (st' := []) (S' := (z_SH, m1, L)) (fun nq hq => And.intro rfl (And.intro rfl (And.intro rfl (And.intro rfl (And.intro rfl hq))))) ?_
    refine l_X6_putMatter_33_27 (d := d + 1) m1 t ((1 : Int32)) ((m1 34 1).toNatClampNeg) (fun k hk => by rw [fr_s_X6_putMatter_33_27 m1 t ((1 : Int32)) k 34 (by decide)]; exact z_lpc hk) (p5 hc1) ?_ 
    have hx3 : ((s_X6_putMatter_33_27 m1 t ((1 : Int32)) ((m1 34 1).toNatClampNeg))) 34 1 ≤ nI ((m1 34 1).toNatClampNeg) := by rw [fr_s_X6_putMatter_33_27 m1 t ((1 : Int32)) ((m1 34 1).toNatClampNeg) 34 (by decide)]; exact z_lpe
    generalize hg7 : nI ((m1 34 1).toNatClampNeg) = r7 at *
    generalize hg8 : (s_X6_putMatter_33_27 m1 t ((1 : Int32)) ((m1 34 1).toNatClampNeg)) = m8 at *
    refine g_k 5 (pc' := (if z_cmp .ge r7 (m8 34 1) = true then 64 else 38)) (LI' := [some (.ref 33), some (.int t), some (.int 1), some (.int r7)]) (LL' := []) (st' := []) (S' := (z_SH, m8, L)) (fun nq hq => And.intro rfl (And.intro rfl (And.intro rfl (And.intro rfl (And.intro rfl hq))))) ?_
    refine g_ge (fun hc4 => ?_) (fun hc4 => absurd (hx3) hc4)
    refine g_k 2 (pc' := 66) (LI' := [some (.ref 33), some (.int t), some (.int 1), some (.int 0)]) (LL' := []) (st' := []) (S' := (z_SH, m8, L)) (fun nq hq => And.intro rfl (And.intro rfl hq)) ?_
    refine l_X6_putMatter_33_66 (d := d + 2) m8 t ((1 : Int32)) ((m8 34 1).toNatClampNeg) (fun k hk => by rw [fb_s_X6_putMatter_33_66 m8 t ((1 : Int32)) k]; exact z_lpc hk) (p6 hc1) ?_ 
    have hx4 : ((s_X6_putMatter_33_66 m8 t ((1 : Int32)) ((m8 34 1).toNatClampNeg))) 34 1 ≤ nI ((m8 34 1).toNatClampNeg) := by rw [fb_s_X6_putMatter_33_66 m8 t ((1 : Int32)) ((m8 34 1).toNatClampNeg)]; exact z_lpe
    generalize hg9 : nI ((m8 34 1).toNatClampNeg) = r9 at *
    generalize hg10 : (s_X6_putMatter_33_66 m8 t ((1 : Int32)) ((m8 34 1).toNatClampNeg)) = m10 at *
    refine g_k 5 (pc' := (if z_cmp .ge r9 (m10 34 1) = true then 146 else 77)) (LI' := [some (.ref 33), some (.int t), some (.int 1), some (.int r9)]) (LL' := []) (st' := []) (S' := (z_SH, m10, L)) (fun nq hq => And.intro rfl (And.intro rfl (And.intro rfl (And.intro rfl (And.intro rfl hq))))) ?_
    refine g_ge (fun hc5 => ?_) (fun hc5 => absurd (hx4) hc5)
    refine g_k 9 (pc' := 163) (LI' := [some (.ref 33), some (.int t), some (.int 1), some (.int r9)]) (LL' := []) (st' := []) (S' := (z_SH, z_row m10 34 (upd (m10 34) 8 ((m10 34 8) + ((1 : Int32)))), L)) (fun nq hq => And.intro rfl (And.intro rfl (And.intro rfl (And.intro rfl (And.intro rfl (And.intro rfl (And.intro rfl (And.intro rfl (And.intro rfl hq))))))))) ?_
    refine g_k 8 (pc' := 177) (LI' := [some (.ref 33), some (.int t), some (.int 1), some (.int r9)]) (LL' := []) (st' := [.int 1]) (S' := (z_SH, z_row (z_row m10 34 (upd (m10 34) 8 ((m10 34 8) + ((1 : Int32))))) 34 (upd (upd (m10 34) 8 ((m10 34 8) + ((1 : Int32)))) 9 ((m10 34 9) + ((1 : Int32)))), L)) (fun nq hq => And.intro rfl (And.intro rfl (And.intro rfl (And.intro rfl (And.intro rfl (And.intro rfl (And.intro rfl (And.intro rfl hq)))))))) ?_
    exact ⟨1, And.intro rfl (⟨(by subst hg10; subst hg9; subst hg8; subst hg7; subst hg2; subst hg1; unfold f_X6_putMatter_33; (first | rw [if_neg hc1] | skip); try rfl), (by subst hg10; subst hg9; subst hg8; subst hg7; subst hg2; subst hg1; unfold g_X6_putMatter_33; (first | rw [if_neg hc1] | skip); try rfl)⟩)⟩
def e_X6_endSession_19_58_M (M : Nat → Nat → Int32)  (i : Int32)  : Nat → Nat → Int32 := z_row M 26 (upd (M 26) ((i).toNatClampNeg) ((M 26 ((i).toNatClampNeg)) / ((2 : Int32))))
def qi_X6_endSession_19_58 (M : Nat → Nat → Int32)  (i : Int32)  : Prop := (z_vin i 12 = true) ∧ True
theorem it_X6_endSession_19_58 {d : Nat} {L : Nat → Nat → Int64} {Q : Option Value → z_St → Prop} (M : Nat → Nat → Int32)  (i : Int32)  (hc : ¬ (M 20 1 ≤ i)) (p1 : qi_X6_endSession_19_58 M i) (h : z_G (d + 0) tb_X6_endSession 58 [some (.ref 19), some (.int (i + 1))] [] [] (z_SH, e_X6_endSession_19_58_M M i, L) Q) : z_G (d + 0) tb_X6_endSession 58 [some (.ref 19), some (.int i)] [] [] (z_SH, M, L) Q := by
  unfold qi_X6_endSession_19_58 at p1
  obtain ⟨p1, -⟩ := p1
  refine g_k 5 (pc' := (if z_cmp .ge i (M 20 1) = true then 88 else 69)) (LI' := [some (.ref 19), some (.int i)]) (LL' := []) (st' := []) (S' := (z_SH, M, L)) (fun nq hq => And.intro rfl (And.intro rfl (And.intro rfl (And.intro rfl (And.intro rfl hq))))) ?_
  refine g_ge (fun hc1 => ?_) (fun hc1 => ?_)
  · exact absurd hc1 hc
  · refine g_k 9 (pc' := 82) (LI' := [some (.ref 19), some (.int i)]) (LL' := []) (st' := []) (S' := (z_SH, z_row M 26 (upd (M 26) ((i).toNatClampNeg) ((M 26 ((i).toNatClampNeg)) / ((2 : Int32)))), L)) (fun nq hq => And.intro rfl (And.intro rfl (And.intro rfl (And.intro rfl (And.intro rfl (And.intro p1 (And.intro rfl (And.intro rfl (And.intro p1 hq))))))))) ?_
    refine g_k 2 (pc' := 58) (LI' := [some (.ref 19), some (.int (i + 1))]) (LL' := []) (st' := []) (S' := (z_SH, z_row M 26 (upd (M 26) ((i).toNatClampNeg) ((M 26 ((i).toNatClampNeg)) / ((2 : Int32)))), L)) (fun nq hq => And.intro rfl (And.intro rfl hq)) ?_
    (unfold e_X6_endSession_19_58_M at h; exact h )
def s_X6_endSession_19_58 (M : Nat → Nat → Int32)   (n : Nat) : (Nat → Nat → Int32) := Nat.rec (motive := fun _ => (Nat → Nat → Int32)) (M) (fun k r => (e_X6_endSession_19_58_M r (nI k))) n
theorem fr_e_X6_endSession_19_58_M (M : Nat → Nat → Int32)  (i : Int32)  (c : Nat) (h26 : c ≠ 26) : e_X6_endSession_19_58_M M i c = M c := by
  unfold e_X6_endSession_19_58_M
  repeat' split
  all_goals simp only [z_row_ne h26]
theorem fr_s_X6_endSession_19_58 (M : Nat → Nat → Int32)   (n : Nat) (c : Nat) (h26 : c ≠ 26) : ((s_X6_endSession_19_58 M n)) c = M c := by
  induction n with
  | zero => rfl
  | succ n ih => exact (fr_e_X6_endSession_19_58_M _  (nI n)  c h26).trans ih
theorem l_X6_endSession_19_58 {d : Nat} {L : Nat → Nat → Int64} {Q : Option Value → z_St → Prop} (M : Nat → Nat → Int32)   (n : Nat) : (∀ k, k < n → ¬ (((s_X6_endSession_19_58 M k)) 20 1 ≤ (nI k))) → (∀ k, k < n → qi_X6_endSession_19_58 ((s_X6_endSession_19_58 M k)) (nI k)) → (z_G (d + 0) tb_X6_endSession 58 [some (.ref 19), some (.int (nI n))] [] [] (z_SH, (s_X6_endSession_19_58 M n), L) Q) → z_G (d + 0) tb_X6_endSession 58 [some (.ref 19), some (.int (nI 0))] [] [] (z_SH, M, L) Q := by
  induction n with
  | zero =>
    intro hc p1 h
    exact h
  | succ n ih =>
    intro hc p1 h
    refine ih (fun k hk => hc k (by omega)) (fun k hk => p1 k (by omega)) ?_
    have hcn := hc n (by omega)
    have p1n := p1 n (by omega)
    clear ih hc p1
    have hs : s_X6_endSession_19_58 M (n + 1) = (e_X6_endSession_19_58_M ((s_X6_endSession_19_58 M n)) (nI n)) := rfl
    rw [hs] at h
    clear hs
    generalize s_X6_endSession_19_58 M n = sg at *
    refine it_X6_endSession_19_58 sg  (nI n)  hcn p1n ?_
    rw [nI_1]
    exact h
def e_X6_endSession_19_2_M (M : Nat → Nat → Int32)  (i : Int32)  : Nat → Nat → Int32 := if ¬ M 16 ((i).toNatClampNeg) = (1 : Int32) then M else z_row M 21 (upd (M 21) ((i).toNatClampNeg) (if (1 : Int32) < (M 21 ((i).toNatClampNeg)) - ((1 : Int32)) then (M 21 ((i).toNatClampNeg)) - ((1 : Int32)) else (1 : Int32)))
def qi_X6_endSession_19_2 (M : Nat → Nat → Int32)  (i : Int32)  : Prop := (z_vin i 6 = true) ∧ True
theorem it_X6_endSession_19_2 {d : Nat} {L : Nat → Nat → Int64} {Q : Option Value → z_St → Prop} (M : Nat → Nat → Int32)  (i : Int32)  (hc : ¬ (M 15 1 ≤ i)) (p1 : qi_X6_endSession_19_2 M i) (h : z_G (d + 1) tb_X6_endSession 2 [some (.ref 19), some (.int (i + 1))] [] [] (z_SH, e_X6_endSession_19_2_M M i, L) Q) : z_G (d + 1) tb_X6_endSession 2 [some (.ref 19), some (.int i)] [] [] (z_SH, M, L) Q := by
  unfold qi_X6_endSession_19_2 at p1
  obtain ⟨p1, -⟩ := p1
  refine g_k 5 (pc' := (if z_cmp .ge i (M 15 1) = true then 56 else 13)) (LI' := [some (.ref 19), some (.int i)]) (LL' := []) (st' := []) (S' := (z_SH, M, L)) (fun nq hq => And.intro rfl (And.intro rfl (And.intro rfl (And.intro rfl (And.intro rfl hq))))) ?_
  refine g_ge (fun hc1 => ?_) (fun hc1 => ?_)
  · exact absurd hc1 hc
  · refine g_k 7 (pc' := (if z_cmp .ne (M 16 ((i).toNatClampNeg)) ((1 : Int32)) = true then 50 else 26)) (LI' := [some (.ref 19), some (.int i)]) (LL' := []) (st' := []) (S' := (z_SH, M, L)) (fun nq hq => And.intro rfl (And.intro rfl (And.intro rfl (And.intro rfl (And.intro p1 (And.intro rfl (And.intro rfl hq))))))) ?_
    refine g_ne (fun hc2 => ?_) (fun hc2 => ?_)
    · refine g_k 2 (pc' := 2) (LI' := [some (.ref 19), some (.int (i + 1))]) (LL' := []) (st' := []) (S' := (z_SH, M, L)) (fun nq hq => And.intro rfl (And.intro rfl hq)) ?_
      (unfold e_X6_endSession_19_2_M at h; (try simp only [if_pos hc2] at h); exact h )
    · refine g_k 9 (pc' := 43) (LI' := [some (.ref 19), some (.int i)]) (LL' := []) (st' := [.int i, .ref 21, .int 1, .int i, .ref 21]) (S' := (z_SH, M, L)) (fun nq hq => And.intro rfl (And.intro rfl (And.intro rfl (And.intro rfl (And.intro rfl (And.intro rfl (And.intro rfl (And.intro rfl (And.intro rfl hq))))))))) ?_
      refine g_k 7 (pc' := 2) (LI' := [some (.ref 19), some (.int (i + 1))]) (LL' := []) (st' := []) (S' := (z_SH, z_row M 21 (upd (M 21) ((i).toNatClampNeg) (if (1 : Int32) < (M 21 ((i).toNatClampNeg)) - ((1 : Int32)) then (M 21 ((i).toNatClampNeg)) - ((1 : Int32)) else (1 : Int32))), L)) (fun nq hq => And.intro p1 (And.intro rfl (And.intro rfl (And.intro rfl (And.intro p1 (And.intro rfl (And.intro rfl hq))))))) ?_
      (unfold e_X6_endSession_19_2_M at h; (try simp only [if_neg (not_not_intro hc2)] at h); exact h )
def s_X6_endSession_19_2 (M : Nat → Nat → Int32)   (n : Nat) : (Nat → Nat → Int32) := Nat.rec (motive := fun _ => (Nat → Nat → Int32)) (M) (fun k r => (e_X6_endSession_19_2_M r (nI k))) n
theorem fr_e_X6_endSession_19_2_M (M : Nat → Nat → Int32)  (i : Int32)  (c : Nat) (h21 : c ≠ 21) : e_X6_endSession_19_2_M M i c = M c := by
  unfold e_X6_endSession_19_2_M
  repeat' split
  all_goals simp only [z_row_ne h21]
theorem fr_s_X6_endSession_19_2 (M : Nat → Nat → Int32)   (n : Nat) (c : Nat) (h21 : c ≠ 21) : ((s_X6_endSession_19_2 M n)) c = M c := by
  induction n with
  | zero => rfl
  | succ n ih => exact (fr_e_X6_endSession_19_2_M _  (nI n)  c h21).trans ih
theorem l_X6_endSession_19_2 {d : Nat} {L : Nat → Nat → Int64} {Q : Option Value → z_St → Prop} (M : Nat → Nat → Int32)   (n : Nat) : (∀ k, k < n → ¬ (((s_X6_endSession_19_2 M k)) 15 1 ≤ (nI k))) → (∀ k, k < n → qi_X6_endSession_19_2 ((s_X6_endSession_19_2 M k)) (nI k)) → (z_G (d + 1) tb_X6_endSession 2 [some (.ref 19), some (.int (nI n))] [] [] (z_SH, (s_X6_endSession_19_2 M n), L) Q) → z_G (d + 1) tb_X6_endSession 2 [some (.ref 19), some (.int (nI 0))] [] [] (z_SH, M, L) Q := by
  induction n with
  | zero =>
    intro hc p1 h
    exact h
  | succ n ih =>
    intro hc p1 h
    refine ih (fun k hk => hc k (by omega)) (fun k hk => p1 k (by omega)) ?_
    have hcn := hc n (by omega)
    have p1n := p1 n (by omega)
    clear ih hc p1
    have hs : s_X6_endSession_19_2 M (n + 1) = (e_X6_endSession_19_2_M ((s_X6_endSession_19_2 M n)) (nI n)) := rfl
    rw [hs] at h
    clear hs
    generalize s_X6_endSession_19_2 M n = sg at *
    refine it_X6_endSession_19_2 sg  (nI n)  hcn p1n ?_
    rw [nI_1]
    exact h
def g_X6_endSession_19 (M : Nat → Nat → Int32)  : Nat → Nat → Int32 := z_row ((s_X6_endSession_19_58 ((s_X6_endSession_19_2 M ((M 15 1).toNatClampNeg))) ((((s_X6_endSession_19_2 M ((M 15 1).toNatClampNeg))) 20 1).toNatClampNeg))) 20 (upd (((s_X6_endSession_19_58 ((s_X6_endSession_19_2 M ((M 15 1).toNatClampNeg))) ((((s_X6_endSession_19_2 M ((M 15 1).toNatClampNeg))) 20 1).toNatClampNeg))) 20) 11 ((((s_X6_endSession_19_58 ((s_X6_endSession_19_2 M ((M 15 1).toNatClampNeg))) ((((s_X6_endSession_19_2 M ((M 15 1).toNatClampNeg))) 20 1).toNatClampNeg))) 20 11) + ((1 : Int32))))
theorem fr_g_X6_endSession_19 (M : Nat → Nat → Int32)  (c : Nat) (h20 : c ≠ 20) (h21 : c ≠ 21) (h26 : c ≠ 26) : g_X6_endSession_19 M c = M c := by
  unfold g_X6_endSession_19
  repeat' split
  all_goals simp only [z_row_ne h20, z_row_ne h21, z_row_ne h26, fr_s_X6_endSession_19_2 (c := c) (h21 := h21), fr_s_X6_endSession_19_58 (c := c) (h26 := h26)]
def q_X6_endSession_19 (M : Nat → Nat → Int32)  : Prop := (∀ k19, k19 < (M 15 1).toNatClampNeg → qi_X6_endSession_19_2 ((s_X6_endSession_19_2 M k19)) (nI k19)) ∧ (∀ k18, k18 < (((s_X6_endSession_19_2 M ((M 15 1).toNatClampNeg))) 20 1).toNatClampNeg → qi_X6_endSession_19_58 ((s_X6_endSession_19_58 ((s_X6_endSession_19_2 M ((M 15 1).toNatClampNeg))) k18)) (nI k18)) ∧ True
theorem c_X6_endSession_19 {d : Nat} {L : Nat → Nat → Int64} (M : Nat → Nat → Int32)   (hpre : q_X6_endSession_19 M) : z_C (d + 2) 57 [.ref 19] (z_SH, M, L) none (z_SH, g_X6_endSession_19 M, L) := by
  unfold q_X6_endSession_19 at hpre
  obtain ⟨p1, p2, -⟩ := hpre
  refine z_mkA (tb := tb_X6_endSession) rfl (by decide) rfl rfl rfl ?_
  refine g_k 2 (pc' := 2) (LI' := [some (.ref 19), some (.int 0)]) (LL' := []) (st' := []) (S' := (z_SH, M, L)) (fun nq hq => And.intro rfl (And.intro rfl hq)) ?_
  refine l_X6_endSession_19_2 (d := d) M ((M 15 1).toNatClampNeg) (fun k hk => by rw [fr_s_X6_endSession_19_2 M k 15 (by decide)]; exact z_lpc hk) p1 ?_ 
  have hx1 : ((s_X6_endSession_19_2 M ((M 15 1).toNatClampNeg))) 15 1 ≤ nI ((M 15 1).toNatClampNeg) := by rw [fr_s_X6_endSession_19_2 M ((M 15 1).toNatClampNeg) 15 (by decide)]; exact z_lpe
  generalize hg1 : nI ((M 15 1).toNatClampNeg) = r1 at *
  generalize hg2 : (s_X6_endSession_19_2 M ((M 15 1).toNatClampNeg)) = m2 at *
  refine g_k 5 (pc' := (if z_cmp .ge r1 (m2 15 1) = true then 56 else 13)) (LI' := [some (.ref 19), some (.int r1)]) (LL' := []) (st' := []) (S' := (z_SH, m2, L)) (fun nq hq => And.intro rfl (And.intro rfl (And.intro rfl (And.intro rfl (And.intro rfl hq))))) ?_
  refine g_ge (fun hc1 => ?_) (fun hc1 => absurd (hx1) hc1)
  refine g_k 2 (pc' := 58) (LI' := [some (.ref 19), some (.int 0)]) (LL' := []) (st' := []) (S' := (z_SH, m2, L)) (fun nq hq => And.intro rfl (And.intro rfl hq)) ?_
  refine l_X6_endSession_19_58 (d := d + 1) m2 ((m2 20 1).toNatClampNeg) (fun k hk => by rw [fr_s_X6_endSession_19_58 m2 k 20 (by decide)]; exact z_lpc hk) p2 ?_ 
  have hx2 : ((s_X6_endSession_19_58 m2 ((m2 20 1).toNatClampNeg))) 20 1 ≤ nI ((m2 20 1).toNatClampNeg) := by rw [fr_s_X6_endSession_19_58 m2 ((m2 20 1).toNatClampNeg) 20 (by decide)]; exact z_lpe
  generalize hg3 : nI ((m2 20 1).toNatClampNeg) = r3 at *
  generalize hg4 : (s_X6_endSession_19_58 m2 ((m2 20 1).toNatClampNeg)) = m4 at *
  refine g_k 5 (pc' := (if z_cmp .ge r3 (m4 20 1) = true then 88 else 69)) (LI' := [some (.ref 19), some (.int r3)]) (LL' := []) (st' := []) (S' := (z_SH, m4, L)) (fun nq hq => And.intro rfl (And.intro rfl (And.intro rfl (And.intro rfl (And.intro rfl hq))))) ?_
  refine g_ge (fun hc2 => ?_) (fun hc2 => absurd (hx2) hc2)
  refine g_k 7 (pc' := 101) (LI' := [some (.ref 19), some (.int r3)]) (LL' := []) (st' := []) (S' := (z_SH, z_row m4 20 (upd (m4 20) 11 ((m4 20 11) + ((1 : Int32)))), L)) (fun nq hq => And.intro rfl (And.intro rfl (And.intro rfl (And.intro rfl (And.intro rfl (And.intro rfl (And.intro rfl hq))))))) ?_
  exact ⟨1, And.intro rfl (⟨rfl, (by subst hg4; subst hg3; subst hg2; subst hg1; rfl)⟩)⟩
