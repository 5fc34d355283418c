def f_X6_marginOn_19 (M : Nat → Nat → Int32) (t : Int32) : Int32 := (f_X1_margin_28 (g_X1_take_28 M t))
def g_X6_marginOn_19 (M : Nat → Nat → Int32) (t : Int32) : Nat → Nat → Int32 := (g_X1_take_28 M t)
theorem fr_g_X6_marginOn_19 (M : Nat → Nat → Int32) (t : Int32) (c : Nat) (h28 : c ≠ 28) (h29 : c ≠ 29) (h30 : c ≠ 30) (h31 : c ≠ 31) (h268 : c ≠ 268) (h269 : c ≠ 269) (h270 : c ≠ 270) : g_X6_marginOn_19 M t c = M c := by
  unfold g_X6_marginOn_19
  repeat' split
  all_goals simp only [z_row_ne h28, z_row_ne h29, z_row_ne h30, z_row_ne h31, z_row_ne h268, z_row_ne h269, z_row_ne h270, fr_g_X1_take_28 (c := c) (h28 := h28) (h29 := h29) (h30 := h30) (h31 := h31) (h268 := h268) (h269 := h269) (h270 := h270)]
def q_X6_marginOn_19 (M : Nat → Nat → Int32) (t : Int32) : Prop := (q_X1_take_28 M t) ∧ (q_X1_margin_28 (g_X1_take_28 M t)) ∧ True
theorem c_X6_marginOn_19 {d : Nat} {L : Nat → Nat → Int64} (M : Nat → Nat → Int32) (t : Int32)  (hpre : q_X6_marginOn_19 M t) : z_C (d + 4) 58 [.ref 19, .int t] (z_SH, M, L) (some (.int (f_X6_marginOn_19 M t))) (z_SH, g_X6_marginOn_19 M t, L) := by
  unfold q_X6_marginOn_19 at hpre
  obtain ⟨p1, p2, -⟩ := hpre
  refine z_mkA (tb := tb_X6_marginOn) rfl (by decide) rfl rfl rfl ?_
  refine g_k 3 (pc' := 5) (LI' := [some (.ref 19), some (.int t)]) (LL' := []) (st' := [.int t, .ref 28]) (S' := (z_SH, M, L)) (fun nq hq => And.intro rfl (And.intro rfl (And.intro rfl hq))) ?_
  refine g_k 1 (pc' := 8) (LI' := [some (.ref 19), some (.int t)]) (LL' := []) (st' := []) (S' := (z_SH, g_X1_take_28 M t, L)) (fun nq hq => And.intro rfl (Exists.intro _ (Exists.intro _ (And.intro (c_X1_take_28 (d := d) M t p1) (And.intro (z_fit_same _ _ _ _ _ _ _ _) hq))))) ?_
  generalize hg1 : g_X1_take_28 M t = m1 at *
  refine g_k 2 (pc' := 12) (LI' := [some (.ref 19), some (.int t)]) (LL' := []) (st' := [.ref 28]) (S' := (z_SH, m1, L)) (fun nq hq => And.intro rfl (And.intro rfl hq)) ?_
  refine g_k 1 (pc' := 15) (LI' := [some (.ref 19), some (.int t)]) (LL' := []) (st' := [.int (f_X1_margin_28 m1)]) (S' := (z_SH, m1, L)) (fun nq hq => And.intro rfl (Exists.intro _ (Exists.intro _ (And.intro (c_X1_margin_28 (d := d + 1) m1  p2) (And.intro (z_fit_same _ _ _ _ _ _ _ _) hq))))) ?_
  generalize hg2 : f_X1_margin_28 m1 = r2 at *
  exact ⟨1, And.intro rfl (⟨(by subst hg2; subst hg1; rfl), (by subst hg2; subst hg1; rfl)⟩)⟩
def e_X6_setOfPassing_19_4_c1 (M : Nat → Nat → Int32)  (i : Int32) (c1 : Int32) : Int32 := if (f_X6_marginOn_19 M i) ≤ (0 : Int32) then c1 else c1 ||| (((1 : Int32)) <<< (i &&& 31))
def e_X6_setOfPassing_19_4_M (M : Nat → Nat → Int32)  (i : Int32) (c1 : Int32) : Nat → Nat → Int32 := (g_X6_marginOn_19 M i)
def qi_X6_setOfPassing_19_4 (M : Nat → Nat → Int32)  (i : Int32) (c1 : Int32) : Prop := (q_X6_marginOn_19 M i) ∧ True
theorem it_X6_setOfPassing_19_4 {d : Nat} {L : Nat → Nat → Int64} {Q : Option Value → z_St → Prop} (M : Nat → Nat → Int32)  (i : Int32) (c1 : Int32) (hc : ¬ ((8 : Int32) ≤ i)) (p1 : qi_X6_setOfPassing_19_4 M i c1) (h : z_G (d + 4) tb_X6_setOfPassing 4 [some (.ref 19), some (.int (e_X6_setOfPassing_19_4_c1 M i c1)), some (.int (i + 1))] [] [] (z_SH, e_X6_setOfPassing_19_4_M M i c1, L) Q) : z_G (d + 4) tb_X6_setOfPassing 4 [some (.ref 19), some (.int c1), some (.int i)] [] [] (z_SH, M, L) Q := by
  unfold qi_X6_setOfPassing_19_4 at p1
  obtain ⟨p1, -⟩ := p1
  refine g_k 3 (pc' := (if z_cmp .ge i ((8 : Int32)) = true then 30 else 10)) (LI' := [some (.ref 19), some (.int c1), some (.int i)]) (LL' := []) (st' := []) (S' := (z_SH, M, L)) (fun nq hq => And.intro rfl (And.intro rfl (And.intro rfl hq))) ?_
  refine g_ge (fun hc1 => ?_) (fun hc1 => ?_)
  · exact absurd hc1 hc
  · refine g_k 2 (pc' := 12) (LI' := [some (.ref 19), some (.int c1), some (.int i)]) (LL' := []) (st' := [.int i, .ref 19]) (S' := (z_SH, M, L)) (fun nq hq => And.intro rfl (And.intro rfl hq)) ?_
    refine g_k 1 (pc' := 15) (LI' := [some (.ref 19), some (.int c1), some (.int i)]) (LL' := []) (st' := [.int (f_X6_marginOn_19 M i)]) (S' := (z_SH, g_X6_marginOn_19 M i, L)) (fun nq hq => And.intro rfl (Exists.intro _ (Exists.intro _ (And.intro (c_X6_marginOn_19 (d := d) M i p1) (And.intro (z_fit_same _ _ _ _ _ _ _ _) hq))))) ?_
    generalize hg1 : f_X6_marginOn_19 M i = r1 at *
    generalize hg2 : g_X6_marginOn_19 M i = m2 at *
    refine g_k 1 (pc' := (if z_cmp .le r1 ((0 : Int32)) = true then 24 else 18)) (LI' := [some (.ref 19), some (.int c1), some (.int i)]) (LL' := []) (st' := []) (S' := (z_SH, m2, L)) (fun nq hq => And.intro rfl hq) ?_
    refine g_le (fun hc2 => ?_) (fun hc2 => ?_)
    · refine g_k 2 (pc' := 4) (LI' := [some (.ref 19), some (.int c1), some (.int (i + 1))]) (LL' := []) (st' := []) (S' := (z_SH, m2, L)) (fun nq hq => And.intro rfl (And.intro rfl hq)) ?_
      (subst hg2; subst hg1; unfold e_X6_setOfPassing_19_4_c1 e_X6_setOfPassing_19_4_M at h; (try simp only [if_pos hc2] at h); exact h )
    · refine g_k 8 (pc' := 4) (LI' := [some (.ref 19), some (.int (c1 ||| (((1 : Int32)) <<< (i &&& 31)))), some (.int (i + 1))]) (LL' := []) (st' := []) (S' := (z_SH, m2, L)) (fun nq hq => And.intro rfl (And.intro rfl (And.intro rfl (And.intro rfl (And.intro rfl (And.intro rfl (And.intro rfl (And.intro rfl hq)))))))) ?_
      (subst hg2; subst hg1; unfold e_X6_setOfPassing_19_4_c1 e_X6_setOfPassing_19_4_M at h; (try simp only [if_neg hc2] at h); exact h )
def s_X6_setOfPassing_19_4 (M : Nat → Nat → Int32)  (c1 : Int32) (n : Nat) : Int32 × (Nat → Nat → Int32) := Nat.rec (motive := fun _ => Int32 × (Nat → Nat → Int32)) (c1, M) (fun k r => (e_X6_setOfPassing_19_4_c1 r.2 (nI k) r.1, e_X6_setOfPassing_19_4_M r.2 (nI k) r.1)) n
theorem fr_e_X6_setOfPassing_19_4_M (M : Nat → Nat → Int32)  (i : Int32) (c1 : Int32) (c : Nat) (h28 : c ≠ 28) (h29 : c ≠ 29) (h30 : c ≠ 30) (h31 : c ≠ 31) (h268 : c ≠ 268) (h269 : c ≠ 269) (h270 : c ≠ 270) : e_X6_setOfPassing_19_4_M M i c1 c = M c := by
  unfold e_X6_setOfPassing_19_4_M
  repeat' split
  all_goals simp only [z_row_ne h28, z_row_ne h29, z_row_ne h30, z_row_ne h31, z_row_ne h268, z_row_ne h269, z_row_ne h270, fr_g_X6_marginOn_19 (c := c) (h28 := h28) (h29 := h29) (h30 := h30) (h31 := h31) (h268 := h268) (h269 := h269) (h270 := h270)]
theorem fr_s_X6_setOfPassing_19_4 (M : Nat → Nat → Int32)  (c1 : Int32) (n : Nat) (c : Nat) (h28 : c ≠ 28) (h29 : c ≠ 29) (h30 : c ≠ 30) (h31 : c ≠ 31) (h268 : c ≠ 268) (h269 : c ≠ 269) (h270 : c ≠ 270) : ((s_X6_setOfPassing_19_4 M c1 n).2) c = M c := by
  induction n with
  | zero => rfl
  | succ n ih => exact (fr_e_X6_setOfPassing_19_4_M _  (nI n) ((s_X6_setOfPassing_19_4 M c1 n).1) c h28 h29 h30 h31 h268 h269 h270).trans ih
theorem l_X6_setOfPassing_19_4 {d : Nat} {L : Nat → Nat → Int64} {Q : Option Value → z_St → Prop} (M : Nat → Nat → Int32)  (c1 : Int32) (n : Nat) : (∀ k, k < n → ¬ ((8 : Int32) ≤ (nI k))) → (∀ k, k < n → qi_X6_setOfPassing_19_4 ((s_X6_setOfPassing_19_4 M c1 k).2) (nI k) ((s_X6_setOfPassing_19_4 M c1 k).1)) → (z_G (d + 4) tb_X6_setOfPassing 4 [some (.ref 19), some (.int ((s_X6_setOfPassing_19_4 M c1 n).1)), some (.int (nI n))] [] [] (z_SH, (s_X6_setOfPassing_19_4 M c1 n).2, L) Q) → z_G (d + 4) tb_X6_setOfPassing 4 [some (.ref 19), some (.int c1), some (.int (nI 0))] [] [] (z_SH, M, L) Q := by
  induction n with
  | zero =>
    intro hc p1 h
    exact h
  | succ n ih =>
    intro hc p1 h
    refine ih (fun k hk => hc k (by omega)) (fun k hk => p1 k (by omega)) ?_
    have hcn := hc n (by omega)
    have p1n := p1 n (by omega)
    clear ih hc p1
    have hs : s_X6_setOfPassing_19_4 M c1 (n + 1) = (e_X6_setOfPassing_19_4_c1 ((s_X6_setOfPassing_19_4 M c1 n).2) (nI n) ((s_X6_setOfPassing_19_4 M c1 n).1), e_X6_setOfPassing_19_4_M ((s_X6_setOfPassing_19_4 M c1 n).2) (nI n) ((s_X6_setOfPassing_19_4 M c1 n).1)) := rfl
    rw [hs] at h
    clear hs
    try dsimp only at h
    generalize s_X6_setOfPassing_19_4 M c1 n = sg at *
    refine it_X6_setOfPassing_19_4 sg.2  (nI n) sg.1 hcn p1n ?_
    rw [nI_1]
    exact h
def f_X6_setOfPassing_19 (M : Nat → Nat → Int32)  : Int32 := ((s_X6_setOfPassing_19_4 M ((0 : Int32)) 8).1)
def g_X6_setOfPassing_19 (M : Nat → Nat → Int32)  : Nat → Nat → Int32 := ((s_X6_setOfPassing_19_4 M ((0 : Int32)) 8).2)
theorem fr_g_X6_setOfPassing_19 (M : Nat → Nat → Int32)  (c : Nat) (h28 : c ≠ 28) (h29 : c ≠ 29) (h30 : c ≠ 30) (h31 : c ≠ 31) (h268 : c ≠ 268) (h269 : c ≠ 269) (h270 : c ≠ 270) : g_X6_setOfPassing_19 M c = M c := by
  unfold g_X6_setOfPassing_19
  repeat' split
  all_goals simp only [z_row_ne h28, z_row_ne h29, z_row_ne h30, z_row_ne h31, z_row_ne h268, z_row_ne h269, z_row_ne h270, fr_s_X6_setOfPassing_19_4 (c := c) (h28 := h28) (h29 := h29) (h30 := h30) (h31 := h31) (h268 := h268) (h269 := h269) (h270 := h270)]
def q_X6_setOfPassing_19 (M : Nat → Nat → Int32)  : Prop := (∀ k17, k17 < 8 → qi_X6_setOfPassing_19_4 ((s_X6_setOfPassing_19_4 M ((0 : Int32)) k17).2) (nI k17) ((s_X6_setOfPassing_19_4 M ((0 : Int32)) k17).1)) ∧ True
theorem c_X6_setOfPassing_19 {d : Nat} {L : Nat → Nat → Int64} (M : Nat → Nat → Int32)   (hpre : q_X6_setOfPassing_19 M) : z_C (d + 5) 59 [.ref 19] (z_SH, M, L) (some (.int (f_X6_setOfPassing_19 M))) (z_SH, g_X6_setOfPassing_19 M, L) := by
  unfold q_X6_setOfPassing_19 at hpre
  obtain ⟨p1, -⟩ := hpre
  refine z_mkA (tb := tb_X6_setOfPassing) rfl (by decide) rfl rfl rfl ?_
  refine g_k 4 (pc' := 4) (LI' := [some (.ref 19), some (.int 0), some (.int 0)]) (LL' := []) (st' := []) (S' := (z_SH, M, L)) (fun nq hq => And.intro rfl (And.intro rfl (And.intro rfl (And.intro rfl hq)))) ?_
  refine l_X6_setOfPassing_19_4 (d := d) M ((0 : Int32)) 8 (fun k hk => z_lpc hk) p1 ?_ 
  have hx1 : (8 : Int32) ≤ nI 8 := z_lpe
  generalize hg1 : (s_X6_setOfPassing_19_4 M ((0 : Int32)) 8).1 = r1 at *
  generalize hg2 : nI 8 = r2 at *
  generalize hg3 : (s_X6_setOfPassing_19_4 M ((0 : Int32)) 8).2 = m3 at *
  refine g_k 3 (pc' := (if z_cmp .ge r2 ((8 : Int32)) = true then 30 else 10)) (LI' := [some (.ref 19), some (.int r1), some (.int r2)]) (LL' := []) (st' := []) (S' := (z_SH, m3, L)) (fun nq hq => And.intro rfl (And.intro rfl (And.intro rfl hq))) ?_
  refine g_ge (fun hc1 => ?_) (fun hc1 => absurd (hx1) hc1)
  refine g_k 1 (pc' := 31) (LI' := [some (.ref 19), some (.int r1), some (.int r2)]) (LL' := []) (st' := [.int r1]) (S' := (z_SH, m3, L)) (fun nq hq => And.intro rfl hq) ?_
  exact ⟨1, And.intro rfl (⟨(by subst hg3; subst hg2; subst hg1; rfl), (by subst hg3; subst hg2; subst hg1; rfl)⟩)⟩
def e_X6_setOfHanging_19_12_c1 (M : Nat → Nat → Int32)  (i : Int32) (c1 : Int32) : Int32 := if M 268 ((i).toNatClampNeg) = (0 : Int32) then c1 else c1 ||| (((1 : Int32)) <<< (i &&& 31))
def qi_X6_setOfHanging_19_12 (M : Nat → Nat → Int32)  (i : Int32) (c1 : Int32) : Prop := (z_vin i 6 = true) ∧ True
theorem it_X6_setOfHanging_19_12 {d : Nat} {L : Nat → Nat → Int64} {Q : Option Value → z_St → Prop} (M : Nat → Nat → Int32)  (i : Int32) (c1 : Int32) (hc : ¬ (M 15 1 ≤ i)) (p1 : qi_X6_setOfHanging_19_12 M i c1) (h : z_G (d + 0) tb_X6_setOfHanging 12 [some (.ref 19), some (.int (e_X6_setOfHanging_19_12_c1 M i c1)), some (.int (i + 1))] [] [] (z_SH, M, L) Q) : z_G (d + 0) tb_X6_setOfHanging 12 [some (.ref 19), some (.int c1), some (.int i)] [] [] (z_SH, M, L) Q := by
  unfold qi_X6_setOfHanging_19_12 at p1
  obtain ⟨p1, -⟩ := p1
  refine g_k 5 (pc' := (if z_cmp .ge i (M 15 1) = true then 47 else 23)) (LI' := [some (.ref 19), some (.int c1), some (.int i)]) (LL' := []) (st' := []) (S' := (z_SH, M, L)) (fun nq hq => And.intro rfl (And.intro rfl (And.intro rfl (And.intro rfl (And.intro rfl hq))))) ?_
  refine g_ge (fun hc1 => ?_) (fun hc1 => ?_)
  · exact absurd hc1 hc
  · refine g_k 6 (pc' := (if z_cmp .eq (M 268 ((i).toNatClampNeg)) ((0 : Int32)) = true then 41 else 35)) (LI' := [some (.ref 19), some (.int c1), some (.int i)]) (LL' := []) (st' := []) (S' := (z_SH, M, L)) (fun nq hq => And.intro rfl (And.intro rfl (And.intro rfl (And.intro rfl (And.intro p1 (And.intro rfl hq)))))) ?_
    refine g_eq (fun hc2 => ?_) (fun hc2 => ?_)
    · refine g_k 2 (pc' := 12) (LI' := [some (.ref 19), some (.int c1), some (.int (i + 1))]) (LL' := []) (st' := []) (S' := (z_SH, M, L)) (fun nq hq => And.intro rfl (And.intro rfl hq)) ?_
      (unfold e_X6_setOfHanging_19_12_c1 at h; (try simp only [if_pos hc2] at h); exact h )
    · refine g_k 8 (pc' := 12) (LI' := [some (.ref 19), some (.int (c1 ||| (((1 : Int32)) <<< (i &&& 31)))), some (.int (i + 1))]) (LL' := []) (st' := []) (S' := (z_SH, M, L)) (fun nq hq => And.intro rfl (And.intro rfl (And.intro rfl (And.intro rfl (And.intro rfl (And.intro rfl (And.intro rfl (And.intro rfl hq)))))))) ?_
      (unfold e_X6_setOfHanging_19_12_c1 at h; (try simp only [if_neg hc2] at h); exact h )
def s_X6_setOfHanging_19_12 (M : Nat → Nat → Int32)  (c1 : Int32) (n : Nat) : Int32 := Nat.rec (motive := fun _ => Int32) (c1) (fun k r => (e_X6_setOfHanging_19_12_c1 M (nI k) r)) n
theorem l_X6_setOfHanging_19_12 {d : Nat} {L : Nat → Nat → Int64} {Q : Option Value → z_St → Prop} (M : Nat → Nat → Int32)  (c1 : Int32) (n : Nat) : (∀ k, k < n → ¬ (M 15 1 ≤ (nI k))) → (∀ k, k < n → qi_X6_setOfHanging_19_12 M (nI k) ((s_X6_setOfHanging_19_12 M c1 k))) → (z_G (d + 0) tb_X6_setOfHanging 12 [some (.ref 19), some (.int ((s_X6_setOfHanging_19_12 M c1 n))), some (.int (nI n))] [] [] (z_SH, M, L) Q) → z_G (d + 0) tb_X6_setOfHanging 12 [some (.ref 19), some (.int c1), some (.int (nI 0))] [] [] (z_SH, M, L) Q := by
  induction n with
  | zero =>
    intro hc p1 h
    exact h
  | succ n ih =>
    intro hc p1 h
    refine ih (fun k hk => hc k (by omega)) (fun k hk => p1 k (by omega)) ?_
    have hcn := hc n (by omega)
    have p1n := p1 n (by omega)
    clear ih hc p1
    have hs : s_X6_setOfHanging_19_12 M c1 (n + 1) = (e_X6_setOfHanging_19_12_c1 M (nI n) ((s_X6_setOfHanging_19_12 M c1 n))) := rfl
    rw [hs] at h
    clear hs
    generalize s_X6_setOfHanging_19_12 M c1 n = sg at *
    refine it_X6_setOfHanging_19_12 M  (nI n) sg hcn p1n ?_
    rw [nI_1]
    exact h
def f_X6_setOfHanging_19 (M : Nat → Nat → Int32)  : Int32 := ((s_X6_setOfHanging_19_12 (g_X1_take_28 M ((0 : Int32))) ((0 : Int32)) (((g_X1_take_28 M ((0 : Int32))) 15 1).toNatClampNeg)))
def g_X6_setOfHanging_19 (M : Nat → Nat → Int32)  : Nat → Nat → Int32 := (g_X1_take_28 M ((0 : Int32)))
theorem fr_g_X6_setOfHanging_19 (M : Nat → Nat → Int32)  (c : Nat) (h28 : c ≠ 28) (h29 : c ≠ 29) (h30 : c ≠ 30) (h31 : c ≠ 31) (h268 : c ≠ 268) (h269 : c ≠ 269) (h270 : c ≠ 270) : g_X6_setOfHanging_19 M c = M c := by
  unfold g_X6_setOfHanging_19
  repeat' split
  all_goals simp only [z_row_ne h28, z_row_ne h29, z_row_ne h30, z_row_ne h31, z_row_ne h268, z_row_ne h269, z_row_ne h270, fr_g_X1_take_28 (c := c) (h28 := h28) (h29 := h29) (h30 := h30) (h31 := h31) (h268 := h268) (h269 := h269) (h270 := h270)]
def q_X6_setOfHanging_19 (M : Nat → Nat → Int32)  : Prop := (q_X1_take_28 M ((0 : Int32))) ∧ (∀ k18, k18 < ((g_X1_take_28 M ((0 : Int32))) 15 1).toNatClampNeg → qi_X6_setOfHanging_19_12 (g_X1_take_28 M ((0 : Int32))) (nI k18) ((s_X6_setOfHanging_19_12 (g_X1_take_28 M ((0 : Int32))) ((0 : Int32)) k18))) ∧ True
theorem c_X6_setOfHanging_19 {d : Nat} {L : Nat → Nat → Int64} (M : Nat → Nat → Int32)   (hpre : q_X6_setOfHanging_19 M) : z_C (d + 4) 60 [.ref 19] (z_SH, M, L) (some (.int (f_X6_setOfHanging_19 M))) (z_SH, g_X6_setOfHanging_19 M, L) := by
  unfold q_X6_setOfHanging_19 at hpre
  obtain ⟨p1, p2, -⟩ := hpre
  refine z_mkA (tb := tb_X6_setOfHanging) rfl (by decide) rfl rfl rfl ?_
  refine g_k 3 (pc' := 5) (LI' := [some (.ref 19), none, none]) (LL' := []) (st' := [.int 0, .ref 28]) (S' := (z_SH, M, L)) (fun nq hq => And.intro rfl (And.intro rfl (And.intro rfl hq))) ?_
  refine g_k 1 (pc' := 8) (LI' := [some (.ref 19), none, none]) (LL' := []) (st' := []) (S' := (z_SH, g_X1_take_28 M ((0 : Int32)), L)) (fun nq hq => And.intro rfl (Exists.intro _ (Exists.intro _ (And.intro (c_X1_take_28 (d := d) M ((0 : Int32)) p1) (And.intro (z_fit_same _ _ _ _ _ _ _ _) hq))))) ?_
  generalize hg1 : g_X1_take_28 M ((0 : Int32)) = m1 at *
  refine g_k 4 (pc' := 12) (LI' := [some (.ref 19), some (.int 0), some (.int 0)]) (LL' := []) (st' := []) (S' := (z_SH, m1, L)) (fun nq hq => And.intro rfl (And.intro rfl (And.intro rfl (And.intro rfl hq)))) ?_
  refine l_X6_setOfHanging_19_12 (d := d + 3) m1 ((0 : Int32)) ((m1 15 1).toNatClampNeg) (fun k hk => z_lpc hk) p2 ?_ 
  have hx1 : m1 15 1 ≤ nI ((m1 15 1).toNatClampNeg) := z_lpe
  generalize hg2 : (s_X6_setOfHanging_19_12 m1 ((0 : Int32)) ((m1 15 1).toNatClampNeg)) = r2 at *
  generalize hg3 : nI ((m1 15 1).toNatClampNeg) = r3 at *
  refine g_k 5 (pc' := (if z_cmp .ge r3 (m1 15 1) = true then 47 else 23)) (LI' := [some (.ref 19), some (.int r2), some (.int r3)]) (LL' := []) (st' := []) (S' := (z_SH, m1, L)) (fun nq hq => And.intro rfl (And.intro rfl (And.intro rfl (And.intro rfl (And.intro rfl hq))))) ?_
  refine g_ge (fun hc1 => ?_) (fun hc1 => absurd (hx1) hc1)
  refine g_k 1 (pc' := 48) (LI' := [some (.ref 19), some (.int r2), some (.int r3)]) (LL' := []) (st' := [.int r2]) (S' := (z_SH, m1, L)) (fun nq hq => And.intro rfl hq) ?_
  exact ⟨1, And.intro rfl (⟨(by subst hg3; subst hg2; subst hg1; rfl), (by subst hg3; subst hg2; subst hg1; rfl)⟩)⟩
def e_X6_setOfHeldOn_19_4_c2 (M : Nat → Nat → Int32) (m : Int32) (i : Int32) (c2 : Int32) : Int32 := if (f_X1_isHeld_28 (g_X1_take_28 M i) m) = (0 : Int32) then c2 else c2 ||| (((1 : Int32)) <<< (i &&& 31))
def e_X6_setOfHeldOn_19_4_M (M : Nat → Nat → Int32) (m : Int32) (i : Int32) (c2 : Int32) : Nat → Nat → Int32 := (g_X1_take_28 M i)
def qi_X6_setOfHeldOn_19_4 (M : Nat → Nat → Int32) (m : Int32) (i : Int32) (c2 : Int32) : Prop := (q_X1_take_28 M i) ∧ (q_X1_isHeld_28 (g_X1_take_28 M i) m) ∧ True
theorem it_X6_setOfHeldOn_19_4 {d : Nat} {L : Nat → Nat → Int64} {Q : Option Value → z_St → Prop} (M : Nat → Nat → Int32) (m : Int32) (i : Int32) (c2 : Int32) (hc : ¬ ((8 : Int32) ≤ i)) (p1 : qi_X6_setOfHeldOn_19_4 M m i c2) (h : z_G (d + 3) tb_X6_setOfHeldOn 4 [some (.ref 19), some (.int m), some (.int (e_X6_setOfHeldOn_19_4_c2 M m i c2)), some (.int (i + 1))] [] [] (z_SH, e_X6_setOfHeldOn_19_4_M M m i c2, L) Q) : z_G (d + 3) tb_X6_setOfHeldOn 4 [some (.ref 19), some (.int m), some (.int c2), some (.int i)] [] [] (z_SH, M, L) Q := by
  unfold qi_X6_setOfHeldOn_19_4 at p1
  obtain ⟨p1, p2, -⟩ := p1
  refine g_k 3 (pc' := (if z_cmp .ge i ((8 : Int32)) = true then 41 else 10)) (LI' := [some (.ref 19), some (.int m), some (.int c2), some (.int i)]) (LL' := []) (st' := []) (S' := (z_SH, M, L)) (fun nq hq => And.intro rfl (And.intro rfl (And.intro rfl hq))) ?_
  refine g_ge (fun hc1 => ?_) (fun hc1 => ?_)
  · exact absurd hc1 hc
  · refine g_k 3 (pc' := 15) (LI' := [some (.ref 19), some (.int m), some (.int c2), some (.int i)]) (LL' := []) (st' := [.int i, .ref 28]) (S' := (z_SH, M, L)) (fun nq hq => And.intro rfl (And.intro rfl (And.intro rfl hq))) ?_
    refine g_k 1 (pc' := 18) (LI' := [some (.ref 19), some (.int m), some (.int c2), some (.int i)]) (LL' := []) (st' := []) (S' := (z_SH, g_X1_take_28 M i, L)) (fun nq hq => And.intro rfl (Exists.intro _ (Exists.intro _ (And.intro (c_X1_take_28 (d := d) M i p1) (And.intro (z_fit_same _ _ _ _ _ _ _ _) hq))))) ?_
    generalize hg1 : g_X1_take_28 M i = m1 at *
    refine g_k 3 (pc' := 23) (LI' := [some (.ref 19), some (.int m), some (.int c2), some (.int i)]) (LL' := []) (st' := [.int m, .ref 28]) (S' := (z_SH, m1, L)) (fun nq hq => And.intro rfl (And.intro rfl (And.intro rfl hq))) ?_
    refine g_k 1 (pc' := 26) (LI' := [some (.ref 19), some (.int m), some (.int c2), some (.int i)]) (LL' := []) (st' := [.int (f_X1_isHeld_28 m1 m)]) (S' := (z_SH, m1, L)) (fun nq hq => And.intro rfl (Exists.intro _ (Exists.intro _ (And.intro (c_X1_isHeld_28 (d := d + 2) m1 m p2) (And.intro (z_fit_same _ _ _ _ _ _ _ _) hq))))) ?_
    generalize hg2 : f_X1_isHeld_28 m1 m = r2 at *
    refine g_k 1 (pc' := (if z_cmp .eq r2 ((0 : Int32)) = true then 35 else 29)) (LI' := [some (.ref 19), some (.int m), some (.int c2), some (.int i)]) (LL' := []) (st' := []) (S' := (z_SH, m1, L)) (fun nq hq => And.intro rfl hq) ?_
    refine g_eq (fun hc2 => ?_) (fun hc2 => ?_)
    · refine g_k 2 (pc' := 4) (LI' := [some (.ref 19), some (.int m), some (.int c2), some (.int (i + 1))]) (LL' := []) (st' := []) (S' := (z_SH, m1, L)) (fun nq hq => And.intro rfl (And.intro rfl hq)) ?_
      (subst hg2; subst hg1; unfold e_X6_setOfHeldOn_19_4_c2 e_X6_setOfHeldOn_19_4_M at h; (try simp only [if_pos hc2] at h); exact h )
    · refine g_k 8 (pc' := 4) (LI' := [some (.ref 19), some (.int m), some (.int (c2 ||| (((1 : Int32)) <<< (i &&& 31)))), some (.int (i + 1))]) (LL' := []) (st' := []) (S' := (z_SH, m1, L)) (fun nq hq => And.intro rfl (And.intro rfl (And.intro rfl (And.intro rfl (And.intro rfl (And.intro rfl (And.intro rfl (And.intro rfl hq)))))))) ?_
      (subst hg2; subst hg1; unfold e_X6_setOfHeldOn_19_4_c2 e_X6_setOfHeldOn_19_4_M at h; (try simp only [if_neg hc2] at h); exact h )
def s_X6_setOfHeldOn_19_4 (M : Nat → Nat → Int32) (m : Int32) (c2 : Int32) (n : Nat) : Int32 × (Nat → Nat → Int32) := Nat.rec (motive := fun _ => Int32 × (Nat → Nat → Int32)) (c2, M) (fun k r => (e_X6_setOfHeldOn_19_4_c2 r.2 m (nI k) r.1, e_X6_setOfHeldOn_19_4_M r.2 m (nI k) r.1)) n
theorem fr_e_X6_setOfHeldOn_19_4_M (M : Nat → Nat → Int32) (m : Int32) (i : Int32) (c2 : Int32) (c : Nat) (h28 : c ≠ 28) (h29 : c ≠ 29) (h30 : c ≠ 30) (h31 : c ≠ 31) (h268 : c ≠ 268) (h269 : c ≠ 269) (h270 : c ≠ 270) : e_X6_setOfHeldOn_19_4_M M m i c2 c = M c := by
  unfold e_X6_setOfHeldOn_19_4_M
  repeat' split
  all_goals simp only [z_row_ne h28, z_row_ne h29, z_row_ne h30, z_row_ne h31, z_row_ne h268, z_row_ne h269, z_row_ne h270, fr_g_X1_take_28 (c := c) (h28 := h28) (h29 := h29) (h30 := h30) (h31 := h31) (h268 := h268) (h269 := h269) (h270 := h270)]
theorem fr_s_X6_setOfHeldOn_19_4 (M : Nat → Nat → Int32) (m : Int32) (c2 : Int32) (n : Nat) (c : Nat) (h28 : c ≠ 28) (h29 : c ≠ 29) (h30 : c ≠ 30) (h31 : c ≠ 31) (h268 : c ≠ 268) (h269 : c ≠ 269) (h270 : c ≠ 270) : ((s_X6_setOfHeldOn_19_4 M m c2 n).2) c = M c := by
  induction n with
  | zero => rfl
  | succ n ih => exact (fr_e_X6_setOfHeldOn_19_4_M _ m (nI n) ((s_X6_setOfHeldOn_19_4 M m c2 n).1) c h28 h29 h30 h31 h268 h269 h270).trans ih
theorem l_X6_setOfHeldOn_19_4 {d : Nat} {L : Nat → Nat → Int64} {Q : Option Value → z_St → Prop} (M : Nat → Nat → Int32) (m : Int32) (c2 : Int32) (n : Nat) : (∀ k, k < n → ¬ ((8 : Int32) ≤ (nI k))) → (∀ k, k < n → qi_X6_setOfHeldOn_19_4 ((s_X6_setOfHeldOn_19_4 M m c2 k).2) m (nI k) ((s_X6_setOfHeldOn_19_4 M m c2 k).1)) → (z_G (d + 3) tb_X6_setOfHeldOn 4 [some (.ref 19), some (.int m), some (.int ((s_X6_setOfHeldOn_19_4 M m c2 n).1)), some (.int (nI n))] [] [] (z_SH, (s_X6_setOfHeldOn_19_4 M m c2 n).2, L) Q) → z_G (d + 3) tb_X6_setOfHeldOn 4 [some (.ref 19), some (.int m), some (.int c2), some (.int (nI 0))] [] [] (z_SH, M, L) Q := by
  induction n with
  | zero =>
    intro hc p1 h
    exact h
  | succ n ih =>
    intro hc p1 h
    refine ih (fun k hk => hc k (by omega)) (fun k hk => p1 k (by omega)) ?_
    have hcn := hc n (by omega)
    have p1n := p1 n (by omega)
    clear ih hc p1
    have hs : s_X6_setOfHeldOn_19_4 M m c2 (n + 1) = (e_X6_setOfHeldOn_19_4_c2 ((s_X6_setOfHeldOn_19_4 M m c2 n).2) m (nI n) ((s_X6_setOfHeldOn_19_4 M m c2 n).1), e_X6_setOfHeldOn_19_4_M ((s_X6_setOfHeldOn_19_4 M m c2 n).2) m (nI n) ((s_X6_setOfHeldOn_19_4 M m c2 n).1)) := rfl
    rw [hs] at h
    clear hs
    try dsimp only at h
    generalize s_X6_setOfHeldOn_19_4 M m c2 n = sg at *
    refine it_X6_setOfHeldOn_19_4 sg.2 m (nI n) sg.1 hcn p1n ?_
    rw [nI_1]
    exact h
def f_X6_setOfHeldOn_19 (M : Nat → Nat → Int32) (m : Int32) : Int32 := ((s_X6_setOfHeldOn_19_4 M m ((0 : Int32)) 8).1)
def g_X6_setOfHeldOn_19 (M : Nat → Nat → Int32) (m : Int32) : Nat → Nat → Int32 := ((s_X6_setOfHeldOn_19_4 M m ((0 : Int32)) 8).2)
theorem fr_g_X6_setOfHeldOn_19 (M : Nat → Nat → Int32) (m : Int32) (c : Nat) (h28 : c ≠ 28) (h29 : c ≠ 29) (h30 : c ≠ 30) (h31 : c ≠ 31) (h268 : c ≠ 268) (h269 : c ≠ 269) (h270 : c ≠ 270) : g_X6_setOfHeldOn_19 M m c = M c := by
  unfold g_X6_setOfHeldOn_19
  repeat' split
  all_goals simp only [z_row_ne h28, z_row_ne h29, z_row_ne h30, z_row_ne h31, z_row_ne h268, z_row_ne h269, z_row_ne h270, fr_s_X6_setOfHeldOn_19_4 (c := c) (h28 := h28) (h29 := h29) (h30 := h30) (h31 := h31) (h268 := h268) (h269 := h269) (h270 := h270)]
def q_X6_setOfHeldOn_19 (M : Nat → Nat → Int32) (m : Int32) : Prop := (∀ k19, k19 < 8 → qi_X6_setOfHeldOn_19_4 ((s_X6_setOfHeldOn_19_4 M m ((0 : Int32)) k19).2) m (nI k19) ((s_X6_setOfHeldOn_19_4 M m ((0 : Int32)) k19).1)) ∧ True
theorem c_X6_setOfHeldOn_19 {d : Nat} {L : Nat → Nat → Int64} (M : Nat → Nat → Int32) (m : Int32)  (hpre : q_X6_setOfHeldOn_19 M m) : z_C (d + 4) 61 [.ref 19, .int m] (z_SH, M, L) (some (.int (f_X6_setOfHeldOn_19 M m))) (z_SH, g_X6_setOfHeldOn_19 M m, L) := by
  unfold q_X6_setOfHeldOn_19 at hpre
  obtain ⟨p1, -⟩ := hpre
  refine z_mkA (tb := tb_X6_setOfHeldOn) rfl (by decide) rfl rfl rfl ?_
  refine g_k 4 (pc' := 4) (LI' := [some (.ref 19), some (.int m), some (.int 0), some (.int 0)]) (LL' := []) (st' := []) (S' := (z_SH, M, L)) (fun nq hq => And.intro rfl (And.intro rfl (And.intro rfl (And.intro rfl hq)))) ?_
  refine l_X6_setOfHeldOn_19_4 (d := d) M m ((0 : Int32)) 8 (fun k hk => z_lpc hk) p1 ?_ 
  have hx1 : (8 : Int32) ≤ nI 8 := z_lpe
  generalize hg1 : (s_X6_setOfHeldOn_19_4 M m ((0 : Int32)) 8).1 = r1 at *
  generalize hg2 : nI 8 = r2 at *
  generalize hg3 : (s_X6_setOfHeldOn_19_4 M m ((0 : Int32)) 8).2 = m3 at *
  refine g_k 3 (pc' := (if z_cmp .ge r2 ((8 : Int32)) = true then 41 else 10)) (LI' := [some (.ref 19), some (.int m), some (.int r1), some (.int r2)]) (LL' := []) (st' := []) (S' := (z_SH, m3, L)) (fun nq hq => And.intro rfl (And.intro rfl (And.intro rfl hq))) ?_
  refine g_ge (fun hc1 => ?_) (fun hc1 => absurd (hx1) hc1)
  refine g_k 1 (pc' := 42) (LI' := [some (.ref 19), some (.int m), some (.int r1), some (.int r2)]) (LL' := []) (st' := [.int r1]) (S' := (z_SH, m3, L)) (fun nq hq => And.intro rfl hq) ?_
  exact ⟨1, And.intro rfl (⟨(by subst hg3; subst hg2; subst hg1; rfl), (by subst hg3; subst hg2; subst hg1; rfl)⟩)⟩
def e_X6_setOfCreaking_19_12_c2 (M : Nat → Nat → Int32) (t : Int32) (i : Int32) (c2 : Int32) : Int32 := if (f_X1_strainOn_28 M i) ≤ (0 : Int32) then c2 else c2 ||| (((1 : Int32)) <<< (i &&& 31))
def qi_X6_setOfCreaking_19_12 (M : Nat → Nat → Int32) (t : Int32) (i : Int32) (c2 : Int32) : Prop := (q_X1_strainOn_28 M i) ∧ True
theorem it_X6_setOfCreaking_19_12 {d : Nat} {L : Nat → Nat → Int64} {Q : Option Value → z_St → Prop} (M : Nat → Nat → Int32) (t : Int32) (i : Int32) (c2 : Int32) (hc : ¬ (M 20 1 ≤ i)) (p1 : qi_X6_setOfCreaking_19_12 M t i c2) (h : z_G (d + 3) tb_X6_setOfCreaking 12 [some (.ref 19), some (.int t), some (.int (e_X6_setOfCreaking_19_12_c2 M t i c2)), some (.int (i + 1))] [] [] (z_SH, M, L) Q) : z_G (d + 3) tb_X6_setOfCreaking 12 [some (.ref 19), some (.int t), some (.int c2), some (.int i)] [] [] (z_SH, M, L) Q := by
  unfold qi_X6_setOfCreaking_19_12 at p1
  obtain ⟨p1, -⟩ := p1
  refine g_k 5 (pc' := (if z_cmp .ge i (M 20 1) = true then 46 else 23)) (LI' := [some (.ref 19), some (.int t), some (.int c2), some (.int i)]) (LL' := []) (st' := []) (S' := (z_SH, M, L)) (fun nq hq => And.intro rfl (And.intro rfl (And.intro rfl (And.intro rfl (And.intro rfl hq))))) ?_
  refine g_ge (fun hc1 => ?_) (fun hc1 => ?_)
  · exact absurd hc1 hc
  · refine g_k 3 (pc' := 28) (LI' := [some (.ref 19), some (.int t), some (.int c2), some (.int i)]) (LL' := []) (st' := [.int i, .ref 28]) (S' := (z_SH, M, L)) (fun nq hq => And.intro rfl (And.intro rfl (And.intro rfl hq))) ?_
    refine g_k 1 (pc' := 31) (LI' := [some (.ref 19), some (.int t), some (.int c2), some (.int i)]) (LL' := []) (st' := [.int (f_X1_strainOn_28 M i)]) (S' := (z_SH, M, L)) (fun nq hq => And.intro rfl (Exists.intro _ (Exists.intro _ (And.intro (c_X1_strainOn_28 (d := d) M i p1) (And.intro (z_fit_same _ _ _ _ _ _ _ _) hq))))) ?_
    generalize hg1 : f_X1_strainOn_28 M i = r1 at *
    refine g_k 1 (pc' := (if z_cmp .le r1 ((0 : Int32)) = true then 40 else 34)) (LI' := [some (.ref 19), some (.int t), some (.int c2), some (.int i)]) (LL' := []) (st' := []) (S' := (z_SH, M, L)) (fun nq hq => And.intro rfl hq) ?_
    refine g_le (fun hc2 => ?_) (fun hc2 => ?_)
    · refine g_k 2 (pc' := 12) (LI' := [some (.ref 19), some (.int t), some (.int c2), some (.int (i + 1))]) (LL' := []) (st' := []) (S' := (z_SH, M, L)) (fun nq hq => And.intro rfl (And.intro rfl hq)) ?_
      (subst hg1; unfold e_X6_setOfCreaking_19_12_c2 at h; (try simp only [if_pos hc2] at h); exact h )
    · refine g_k 8 (pc' := 12) (LI' := [some (.ref 19), some (.int t), some (.int (c2 ||| (((1 : Int32)) <<< (i &&& 31)))), some (.int (i + 1))]) (LL' := []) (st' := []) (S' := (z_SH, M, L)) (fun nq hq => And.intro rfl (And.intro rfl (And.intro rfl (And.intro rfl (And.intro rfl (And.intro rfl (And.intro rfl (And.intro rfl hq)))))))) ?_
      (subst hg1; unfold e_X6_setOfCreaking_19_12_c2 at h; (try simp only [if_neg hc2] at h); exact h )
def s_X6_setOfCreaking_19_12 (M : Nat → Nat → Int32) (t : Int32) (c2 : Int32) (n : Nat) : Int32 := Nat.rec (motive := fun _ => Int32) (c2) (fun k r => (e_X6_setOfCreaking_19_12_c2 M t (nI k) r)) n
theorem l_X6_setOfCreaking_19_12 {d : Nat} {L : Nat → Nat → Int64} {Q : Option Value → z_St → Prop} (M : Nat → Nat → Int32) (t : Int32) (c2 : Int32) (n : Nat) : (∀ k, k < n → ¬ (M 20 1 ≤ (nI k))) → (∀ k, k < n → qi_X6_setOfCreaking_19_12 M t (nI k) ((s_X6_setOfCreaking_19_12 M t c2 k))) → (z_G (d + 3) tb_X6_setOfCreaking 12 [some (.ref 19), some (.int t), some (.int ((s_X6_setOfCreaking_19_12 M t c2 n))), some (.int (nI n))] [] [] (z_SH, M, L) Q) → z_G (d + 3) tb_X6_setOfCreaking 12 [some (.ref 19), some (.int t), some (.int c2), some (.int (nI 0))] [] [] (z_SH, M, L) Q := by
  induction n with
  | zero =>
    intro hc p1 h
    exact h
  | succ n ih =>
    intro hc p1 h
    refine ih (fun k hk => hc k (by omega)) (fun k hk => p1 k (by omega)) ?_
    have hcn := hc n (by omega)
    have p1n := p1 n (by omega)
    clear ih hc p1
    have hs : s_X6_setOfCreaking_19_12 M t c2 (n + 1) = (e_X6_setOfCreaking_19_12_c2 M t (nI n) ((s_X6_setOfCreaking_19_12 M t c2 n))) := rfl
    rw [hs] at h
    clear hs
    generalize s_X6_setOfCreaking_19_12 M t c2 n = sg at *
    refine it_X6_setOfCreaking_19_12 M t (nI n) sg hcn p1n ?_
    rw [nI_1]
    exact h
def f_X6_setOfCreaking_19 (M : Nat → Nat → Int32) (t : Int32) : Int32 := ((s_X6_setOfCreaking_19_12 (g_X1_take_28 M t) t ((0 : Int32)) (((g_X1_take_28 M t) 20 1).toNatClampNeg)))
def g_X6_setOfCreaking_19 (M : Nat → Nat → Int32) (t : Int32) : Nat → Nat → Int32 := (g_X1_take_28 M t)
theorem fr_g_X6_setOfCreaking_19 (M : Nat → Nat → Int32) (t : Int32) (c : Nat) (h28 : c ≠ 28) (h29 : c ≠ 29) (h30 : c ≠ 30) (h31 : c ≠ 31) (h268 : c ≠ 268) (h269 : c ≠ 269) (h270 : c ≠ 270) : g_X6_setOfCreaking_19 M t c = M c := by
  unfold g_X6_setOfCreaking_19
  repeat' split
  all_goals simp only [z_row_ne h28, z_row_ne h29, z_row_ne h30, z_row_ne h31, z_row_ne h268, z_row_ne h269, z_row_ne h270, fr_g_X1_take_28 (c := c) (h28 := h28) (h29 := h29) (h30 := h30) (h31 := h31) (h268 := h268) (h269 := h269) (h270 := h270)]
def q_X6_setOfCreaking_19 (M : Nat → Nat → Int32) (t : Int32) : Prop := (q_X1_take_28 M t) ∧ (∀ k20, k20 < ((g_X1_take_28 M t) 20 1).toNatClampNeg → qi_X6_setOfCreaking_19_12 (g_X1_take_28 M t) t (nI k20) ((s_X6_setOfCreaking_19_12 (g_X1_take_28 M t) t ((0 : Int32)) k20))) ∧ True
theorem c_X6_setOfCreaking_19 {d : Nat} {L : Nat → Nat → Int64} (M : Nat → Nat → Int32) (t : Int32)  (hpre : q_X6_setOfCreaking_19 M t) : z_C (d + 4) 62 [.ref 19, .int t] (z_SH, M, L) (some (.int (f_X6_setOfCreaking_19 M t))) (z_SH, g_X6_setOfCreaking_19 M t, L) := by
  unfold q_X6_setOfCreaking_19 at hpre
  obtain ⟨p1, p2, -⟩ := hpre
  refine z_mkA (tb := tb_X6_setOfCreaking) rfl (by decide) rfl rfl rfl ?_
  refine g_k 3 (pc' := 5) (LI' := [some (.ref 19), some (.int t), none, none]) (LL' := []) (st' := [.int t, .ref 28]) (S' := (z_SH, M, L)) (fun nq hq => And.intro rfl (And.intro rfl (And.intro rfl hq))) ?_
  refine g_k 1 (pc' := 8) (LI' := [some (.ref 19), some (.int t), none, none]) (LL' := []) (st' := []) (S' := (z_SH, g_X1_take_28 M t, L)) (fun nq hq => And.intro rfl (Exists.intro _ (Exists.intro _ (And.intro (c_X1_take_28 (d := d) M t p1) (And.intro (z_fit_same _ _ _ _ _ _ _ _) hq))))) ?_
  generalize hg1 : g_X1_take_28 M t = m1 at *
  refine g_k 4 (pc' := 12) (LI' := [some (.ref 19), some (.int t), some (.int 0), some (.int 0)]) (LL' := []) (st' := []) (S' := (z_SH, m1, L)) (fun nq hq => And.intro rfl (And.intro rfl (And.intro rfl (And.intro rfl hq)))) ?_
  refine l_X6_setOfCreaking_19_12 (d := d) m1 t ((0 : Int32)) ((m1 20 1).toNatClampNeg) (fun k hk => z_lpc hk) p2 ?_ 
  have hx1 : m1 20 1 ≤ nI ((m1 20 1).toNatClampNeg) := z_lpe
  generalize hg2 : (s_X6_setOfCreaking_19_12 m1 t ((0 : Int32)) ((m1 20 1).toNatClampNeg)) = r2 at *
  generalize hg3 : nI ((m1 20 1).toNatClampNeg) = r3 at *
  refine g_k 5 (pc' := (if z_cmp .ge r3 (m1 20 1) = true then 46 else 23)) (LI' := [some (.ref 19), some (.int t), some (.int r2), some (.int r3)]) (LL' := []) (st' := []) (S' := (z_SH, m1, L)) (fun nq hq => And.intro rfl (And.intro rfl (And.intro rfl (And.intro rfl (And.intro rfl hq))))) ?_
  refine g_ge (fun hc1 => ?_) (fun hc1 => absurd (hx1) hc1)
  refine g_k 1 (pc' := 47) (LI' := [some (.ref 19), some (.int t), some (.int r2), some (.int r3)]) (LL' := []) (st' := [.int r2]) (S' := (z_SH, m1, L)) (fun nq hq => And.intro rfl hq) ?_
  exact ⟨1, And.intro rfl (⟨(by subst hg3; subst hg2; subst hg1; rfl), (by subst hg3; subst hg2; subst hg1; rfl)⟩)⟩
def e_X6_sideHeldMost_19_12_c1 (M : Nat → Nat → Int32)  (i : Int32) (c1 : Int32) : Int32 := if ¬ M 17 ((i).toNatClampNeg) = (1 : Int32) then c1 + (-(M 30 ((i).toNatClampNeg))) else c1 + (M 30 ((i).toNatClampNeg))
def qi_X6_sideHeldMost_19_12 (M : Nat → Nat → Int32)  (i : Int32) (c1 : Int32) : Prop := (z_vin i 6 = true) ∧ True
theorem it_X6_sideHeldMost_19_12 {d : Nat} {L : Nat → Nat → Int64} {Q : Option Value → z_St → Prop} (M : Nat → Nat → Int32)  (i : Int32) (c1 : Int32) (hc : ¬ (M 15 1 ≤ i)) (p1 : qi_X6_sideHeldMost_19_12 M i c1) (h : z_G (d + 0) tb_X6_sideHeldMost 12 [some (.ref 19), some (.int (e_X6_sideHeldMost_19_12_c1 M i c1)), some (.int (i + 1))] [] [] (z_SH, M, L) Q) : z_G (d + 0) tb_X6_sideHeldMost 12 [some (.ref 19), some (.int c1), some (.int i)] [] [] (z_SH, M, L) Q := by
  unfold qi_X6_sideHeldMost_19_12 at p1
  obtain ⟨p1, -⟩ := p1
  refine g_k 5 (pc' := (if z_cmp .ge i (M 15 1) = true then 67 else 23)) (LI' := [some (.ref 19), some (.int c1), some (.int i)]) (LL' := []) (st' := []) (S' := (z_SH, M, L)) (fun nq hq => And.intro rfl (And.intro rfl (And.intro rfl (And.intro rfl (And.intro rfl hq))))) ?_
  refine g_ge (fun hc1 => ?_) (fun hc1 => ?_)
  · exact absurd hc1 hc
  · refine g_k 8 (pc' := (if z_cmp .ne (M 17 ((i).toNatClampNeg)) ((1 : Int32)) = true then 49 else 37)) (LI' := [some (.ref 19), some (.int c1), some (.int i)]) (LL' := []) (st' := [.int c1]) (S' := (z_SH, M, L)) (fun nq hq => And.intro rfl (And.intro rfl (And.intro rfl (And.intro rfl (And.intro rfl (And.intro p1 (And.intro rfl (And.intro rfl hq)))))))) ?_
    refine g_ne (fun hc2 => ?_) (fun hc2 => ?_)
    · refine g_k 9 (pc' := 64) (LI' := [some (.ref 19), some (.int (c1 + (-(M 30 ((i).toNatClampNeg))))), some (.int (i + 1))]) (LL' := []) (st' := []) (S' := (z_SH, M, L)) (fun nq hq => And.intro rfl (And.intro rfl (And.intro rfl (And.intro rfl (And.intro p1 (And.intro rfl (And.intro rfl (And.intro rfl (And.intro rfl hq))))))))) ?_
      refine g_k 1 (pc' := 12) (LI' := [some (.ref 19), some (.int (c1 + (-(M 30 ((i).toNatClampNeg))))), some (.int (i + 1))]) (LL' := []) (st' := []) (S' := (z_SH, M, L)) (fun nq hq => And.intro rfl hq) ?_
      (unfold e_X6_sideHeldMost_19_12_c1 at h; (try simp only [if_pos hc2] at h); exact h )
    · refine g_k 9 (pc' := 64) (LI' := [some (.ref 19), some (.int (c1 + (M 30 ((i).toNatClampNeg)))), some (.int (i + 1))]) (LL' := []) (st' := []) (S' := (z_SH, M, L)) (fun nq hq => And.intro rfl (And.intro rfl (And.intro rfl (And.intro rfl (And.intro p1 (And.intro rfl (And.intro rfl (And.intro rfl (And.intro rfl hq))))))))) ?_
      refine g_k 1 (pc' := 12) (LI' := [some (.ref 19), some (.int (c1 + (M 30 ((i).toNatClampNeg)))), some (.int (i + 1))]) (LL' := []) (st' := []) (S' := (z_SH, M, L)) (fun nq hq => And.intro rfl hq) ?_
      (unfold e_X6_sideHeldMost_19_12_c1 at h; (try simp only [if_neg (not_not_intro hc2)] at h); exact h )
def s_X6_sideHeldMost_19_12 (M : Nat → Nat → Int32)  (c1 : Int32) (n : Nat) : Int32 := Nat.rec (motive := fun _ => Int32) (c1) (fun k r => (e_X6_sideHeldMost_19_12_c1 M (nI k) r)) n
theorem l_X6_sideHeldMost_19_12 {d : Nat} {L : Nat → Nat → Int64} {Q : Option Value → z_St → Prop} (M : Nat → Nat → Int32)  (c1 : Int32) (n : Nat) : (∀ k, k < n → ¬ (M 15 1 ≤ (nI k))) → (∀ k, k < n → qi_X6_sideHeldMost_19_12 M (nI k) ((s_X6_sideHeldMost_19_12 M c1 k))) → (z_G (d + 0) tb_X6_sideHeldMost 12 [some (.ref 19), some (.int ((s_X6_sideHeldMost_19_12 M c1 n))), some (.int (nI n))] [] [] (z_SH, M, L) Q) → z_G (d + 0) tb_X6_sideHeldMost 12 [some (.ref 19), some (.int c1), some (.int (nI 0))] [] [] (z_SH, M, L) Q := by
  induction n with
  | zero =>
    intro hc p1 h
    exact h
  | succ n ih =>
    intro hc p1 h
    refine ih (fun k hk => hc k (by omega)) (fun k hk => p1 k (by omega)) ?_
    have hcn := hc n (by omega)
    have p1n := p1 n (by omega)
    clear ih hc p1
    have hs : s_X6_sideHeldMost_19_12 M c1 (n + 1) = (e_X6_sideHeldMost_19_12_c1 M (nI n) ((s_X6_sideHeldMost_19_12 M c1 n))) := rfl
    rw [hs] at h
    clear hs
    generalize s_X6_sideHeldMost_19_12 M c1 n = sg at *
    refine it_X6_sideHeldMost_19_12 M  (nI n) sg hcn p1n ?_
    rw [nI_1]
    exact h
def f_X6_sideHeldMost_19 (M : Nat → Nat → Int32)  : Int32 := if ((s_X6_sideHeldMost_19_12 (g_X1_take_28 M ((0 : Int32))) ((0 : Int32)) (((g_X1_take_28 M ((0 : Int32))) 15 1).toNatClampNeg))) ≤ (0 : Int32) then (0 : Int32) else (1 : Int32)
def g_X6_sideHeldMost_19 (M : Nat → Nat → Int32)  : Nat → Nat → Int32 := (g_X1_take_28 M ((0 : Int32)))
theorem fr_g_X6_sideHeldMost_19 (M : Nat → Nat → Int32)  (c : Nat) (h28 : c ≠ 28) (h29 : c ≠ 29) (h30 : c ≠ 30) (h31 : c ≠ 31) (h268 : c ≠ 268) (h269 : c ≠ 269) (h270 : c ≠ 270) : g_X6_sideHeldMost_19 M c = M c := by
  unfold g_X6_sideHeldMost_19
  repeat' split
  all_goals simp only [z_row_ne h28, z_row_ne h29, z_row_ne h30, z_row_ne h31, z_row_ne h268, z_row_ne h269, z_row_ne h270, fr_g_X1_take_28 (c := c) (h28 := h28) (h29 := h29) (h30 := h30) (h31 := h31) (h268 := h268) (h269 := h269) (h270 := h270)]
def q_X6_sideHeldMost_19 (M : Nat → Nat → Int32)  : Prop := (q_X1_take_28 M ((0 : Int32))) ∧ (∀ k21, k21 < ((g_X1_take_28 M ((0 : Int32))) 15 1).toNatClampNeg → qi_X6_sideHeldMost_19_12 (g_X1_take_28 M ((0 : Int32))) (nI k21) ((s_X6_sideHeldMost_19_12 (g_X1_take_28 M ((0 : Int32))) ((0 : Int32)) k21))) ∧ True
theorem c_X6_sideHeldMost_19 {d : Nat} {L : Nat → Nat → Int64} (M : Nat → Nat → Int32)   (hpre : q_X6_sideHeldMost_19 M) : z_C (d + 4) 63 [.ref 19] (z_SH, M, L) (some (.int (f_X6_sideHeldMost_19 M))) (z_SH, g_X6_sideHeldMost_19 M, L) := by
  unfold q_X6_sideHeldMost_19 at hpre
  obtain ⟨p1, p2, -⟩ := hpre
  refine z_mkA (tb := tb_X6_sideHeldMost) rfl (by decide) rfl rfl rfl ?_
  refine g_k 3 (pc' := 5) (LI' := [some (.ref 19), none, none]) (LL' := []) (st' := [.int 0, .ref 28]) (S' := (z_SH, M, L)) (fun nq hq => And.intro rfl (And.intro rfl (And.intro rfl hq))) ?_
  refine g_k 1 (pc' := 8) (LI' := [some (.ref 19), none, none]) (LL' := []) (st' := []) (S' := (z_SH, g_X1_take_28 M ((0 : Int32)), L)) (fun nq hq => And.intro rfl (Exists.intro _ (Exists.intro _ (And.intro (c_X1_take_28 (d := d) M ((0 : Int32)) p1) (And.intro (z_fit_same _ _ _ _ _ _ _ _) hq))))) ?_
  generalize hg1 : g_X1_take_28 M ((0 : Int32)) = m1 at *
  refine g_k 4 (pc' := 12) (LI' := [some (.ref 19), some (.int 0), some (.int 0)]) (LL' := []) (st' := []) (S' := (z_SH, m1, L)) (fun nq hq => And.intro rfl (And.intro rfl (And.intro rfl (And.intro rfl hq)))) ?_
  refine l_X6_sideHeldMost_19_12 (d := d + 3) m1 ((0 : Int32)) ((m1 15 1).toNatClampNeg) (fun k hk => z_lpc hk) p2 ?_ 
  have hx1 : m1 15 1 ≤ nI ((m1 15 1).toNatClampNeg) := z_lpe
  generalize hg2 : (s_X6_sideHeldMost_19_12 m1 ((0 : Int32)) ((m1 15 1).toNatClampNeg)) = r2 at *
  generalize hg3 : nI ((m1 15 1).toNatClampNeg) = r3 at *
  refine g_k 5 (pc' := (if z_cmp .ge r3 (m1 15 1) = true then 67 else 23)) (LI' := [some (.ref 19), some (.int r2), some (.int r3)]) (LL' := []) (st' := []) (S' := (z_SH, m1, L)) (fun nq hq => And.intro rfl (And.intro rfl (And.intro rfl (And.intro rfl (And.intro rfl hq))))) ?_
  refine g_ge (fun hc1 => ?_) (fun hc1 => absurd (hx1) hc1)
  refine g_k 2 (pc' := (if z_cmp .le r2 ((0 : Int32)) = true then 75 else 71)) (LI' := [some (.ref 19), some (.int r2), some (.int r3)]) (LL' := []) (st' := []) (S' := (z_SH, m1, L)) (fun nq hq => And.intro rfl (And.intro rfl hq)) ?_
  refine g_le (fun hc2 => ?_) (fun hc2 => ?_)
  · refine g_k 1 (pc' := 76) (LI' := [some (.ref 19), some (.int r2), some (.int r3)]) (LL' := []) (st' := [.int 0]) (S' := (z_SH, m1, L)) (fun nq hq => And.intro rfl hq) ?_
    exact ⟨1, And.intro rfl (⟨(by subst hg3; subst hg2; subst hg1; unfold f_X6_sideHeldMost_19; (first | rw [if_pos hc2] | skip); try rfl), (by subst hg3; subst hg2; subst hg1; unfold g_X6_sideHeldMost_19; (first | rw [if_pos hc2] | skip); try rfl)⟩)⟩
  · refine g_k 2 (pc' := 76) (LI' := [some (.ref 19), some (.int r2), some (.int r3)]) (LL' := []) (st' := [.int 1]) (S' := (z_SH, m1, L)) (fun nq hq => And.intro rfl (And.intro rfl hq)) ?_
    exact ⟨1, And.intro rfl (⟨(by subst hg3; subst hg2; subst hg1; unfold f_X6_sideHeldMost_19; (first | rw [if_neg hc2] | skip); try rfl), (by subst hg3; subst hg2; subst hg1; unfold g_X6_sideHeldMost_19; (first | rw [if_neg hc2] | skip); try rfl)⟩)⟩
def e_X0_setSaid_20_6_c4 (M : Nat → Nat → Int32) (m : Int32) (t : Int32) (w : Int32) (i : Int32) (c4 : Int32) : Int32 := if (f_X0_holds_20 M i) = (0 : Int32) then c4 else if ¬ M 22 ((i).toNatClampNeg) = m then c4 else if ¬ M 23 ((i).toNatClampNeg) = t then c4 else if ¬ M 24 ((i).toNatClampNeg) = w then c4 else c4 ||| (((1 : Int32)) <<< (i &&& 31))
def qi_X0_setSaid_20_6 (M : Nat → Nat → Int32) (m : Int32) (t : Int32) (w : Int32) (i : Int32) (c4 : Int32) : Prop := (q_X0_holds_20 M i) ∧ ((¬ ((f_X0_holds_20 M i) = (0 : Int32))) → (z_vin i 12 = true)) ∧ True
theorem it_X0_setSaid_20_6 {d : Nat} {L : Nat → Nat → Int64} {Q : Option Value → z_St → Prop} (M : Nat → Nat → Int32) (m : Int32) (t : Int32) (w : Int32) (i : Int32) (c4 : Int32) (hc : ¬ (M 20 1 ≤ i)) (p1 : qi_X0_setSaid_20_6 M m t w i c4) (h : z_G (d + 1) tb_X0_setSaid 6 [some (.ref 20), some (.int m), some (.int t), some (.int w), some (.int (e_X0_setSaid_20_6_c4 M m t w i c4)), some (.int (i + 1))] [] [] (z_SH, M, L) Q) : z_G (d + 1) tb_X0_setSaid 6 [some (.ref 20), some (.int m), some (.int t), some (.int w), some (.int c4), some (.int i)] [] [] (z_SH, M, L) Q := by
  unfold qi_X0_setSaid_20_6 at p1
  obtain ⟨p1, p2, -⟩ := p1
  refine g_k 4 (pc' := (if z_cmp .ge i (M 20 1) = true then 72 else 15)) (LI' := [some (.ref 20), some (.int m), some (.int t), some (.int w), some (.int c4), some (.int i)]) (LL' := []) (st' := []) (S' := (z_SH, M, L)) (fun nq hq => And.intro rfl (And.intro rfl (And.intro rfl (And.intro rfl hq)))) ?_
  refine g_ge (fun hc1 => ?_) (fun hc1 => ?_)
  · exact absurd hc1 hc
  · refine g_k 2 (pc' := 18) (LI' := [some (.ref 20), some (.int m), some (.int t), some (.int w), some (.int c4), some (.int i)]) (LL' := []) (st' := [.int i, .ref 20]) (S' := (z_SH, M, L)) (fun nq hq => And.intro rfl (And.intro rfl hq)) ?_
    refine g_k 1 (pc' := 21) (LI' := [some (.ref 20), some (.int m), some (.int t), some (.int w), some (.int c4), some (.int i)]) (LL' := []) (st' := [.int (f_X0_holds_20 M i)]) (S' := (z_SH, M, L)) (fun nq hq => And.intro rfl (Exists.intro _ (Exists.intro _ (And.intro (c_X0_holds_20 (d := d) M i p1) (And.intro (z_fit_same _ _ _ _ _ _ _ _) hq))))) ?_
    generalize hg1 : f_X0_holds_20 M i = r1 at *
    refine g_k 1 (pc' := (if z_cmp .eq r1 ((0 : Int32)) = true then 66 else 24)) (LI' := [some (.ref 20), some (.int m), some (.int t), some (.int w), some (.int c4), some (.int i)]) (LL' := []) (st' := []) (S' := (z_SH, M, L)) (fun nq hq => And.intro rfl hq) ?_
    refine g_eq (fun hc2 => ?_) (fun hc2 => ?_)
    · refine g_k 2 (pc' := 6) (LI' := [some (.ref 20), some (.int m), some (.int t), some (.int w), some (.int c4), some (.int (i + 1))]) (LL' := []) (st' := []) (S' := (z_SH, M, L)) (fun nq hq => And.intro rfl (And.intro rfl hq)) ?_
      (subst hg1; unfold e_X0_setSaid_20_6_c4 at h; (try simp only [if_pos hc2] at h); exact h )
    · refine g_k 6 (pc' := (if z_cmp .ne (M 22 ((i).toNatClampNeg)) m = true then 66 else 35)) (LI' := [some (.ref 20), some (.int m), some (.int t), some (.int w), some (.int c4), some (.int i)]) (LL' := []) (st' := []) (S' := (z_SH, M, L)) (fun nq hq => And.intro rfl (And.intro rfl (And.intro rfl (And.intro (p2 hc2) (And.intro rfl (And.intro rfl hq)))))) ?_
      refine g_ne (fun hc3 => ?_) (fun hc3 => ?_)
      · refine g_k 2 (pc' := 6) (LI' := [some (.ref 20), some (.int m), some (.int t), some (.int w), some (.int c4), some (.int (i + 1))]) (LL' := []) (st' := []) (S' := (z_SH, M, L)) (fun nq hq => And.intro rfl (And.intro rfl hq)) ?_
        (subst hg1; unfold e_X0_setSaid_20_6_c4 at h; (try simp only [if_neg hc2] at h); (try simp only [if_pos hc3] at h); exact h )
      · refine g_k 6 (pc' := (if z_cmp .ne (M 23 ((i).toNatClampNeg)) t = true then 66 else 46)) (LI' := [some (.ref 20), some (.int m), some (.int t), some (.int w), some (.int c4), some (.int i)]) (LL' := []) (st' := []) (S' := (z_SH, M, L)) (fun nq hq => And.intro rfl (And.intro rfl (And.intro rfl (And.intro (p2 hc2) (And.intro rfl (And.intro rfl hq)))))) ?_
        refine g_ne (fun hc4 => ?_) (fun hc4 => ?_)
        · refine g_k 2 (pc' := 6) (LI' := [some (.ref 20), some (.int m), some (.int t), some (.int w), some (.int c4), some (.int (i + 1))]) (LL' := []) (st' := []) (S' := (z_SH, M, L)) (fun nq hq => And.intro rfl (And.intro rfl hq)) ?_
          (subst hg1; unfold e_X0_setSaid_20_6_c4 at h; (try simp only [if_neg hc2] at h); (try simp only [if_neg (not_not_intro hc3)] at h); (try simp only [if_pos hc4] at h); exact h )
        · refine g_k 6 (pc' := (if z_cmp .ne (M 24 ((i).toNatClampNeg)) w = true then 66 else 57)) (LI' := [some (.ref 20), some (.int m), some (.int t), some (.int w), some (.int c4), some (.int i)]) (LL' := []) (st' := []) (S' := (z_SH, M, L)) (fun nq hq => And.intro rfl (And.intro rfl (And.intro rfl (And.intro (p2 hc2) (And.intro rfl (And.intro rfl hq)))))) ?_
          refine g_ne (fun hc5 => ?_) (fun hc5 => ?_)
          · refine g_k 2 (pc' := 6) (LI' := [some (.ref 20), some (.int m), some (.int t), some (.int w), some (.int c4), some (.int (i + 1))]) (LL' := []) (st' := []) (S' := (z_SH, M, L)) (fun nq hq => And.intro rfl (And.intro rfl hq)) ?_
            (subst hg1; unfold e_X0_setSaid_20_6_c4 at h; (try simp only [if_neg hc2] at h); (try simp only [if_neg (not_not_intro hc3)] at h); (try simp only [if_neg (not_not_intro hc4)] at h); (try simp only [if_pos hc5] at h); exact h )
          · refine g_k 8 (pc' := 6) (LI' := [some (.ref 20), some (.int m), some (.int t), some (.int w), some (.int (c4 ||| (((1 : Int32)) <<< (i &&& 31)))), some (.int (i + 1))]) (LL' := []) (st' := []) (S' := (z_SH, M, L)) (fun nq hq => And.intro rfl (And.intro rfl (And.intro rfl (And.intro rfl (And.intro rfl (And.intro rfl (And.intro rfl (And.intro rfl hq)))))))) ?_
            (subst hg1; unfold e_X0_setSaid_20_6_c4 at h; (try simp only [if_neg hc2] at h); (try simp only [if_neg (not_not_intro hc3)] at h); (try simp only [if_neg (not_not_intro hc4)] at h); (try simp only [if_neg (not_not_intro hc5)] at h); exact h )
def s_X0_setSaid_20_6 (M : Nat → Nat → Int32) (m : Int32) (t : Int32) (w : Int32) (c4 : Int32) (n : Nat) : Int32 := Nat.rec (motive := fun _ => Int32) (c4) (fun k r => (e_X0_setSaid_20_6_c4 M m t w (nI k) r)) n
theorem l_X0_setSaid_20_6 {d : Nat} {L : Nat → Nat → Int64} {Q : Option Value → z_St → Prop} (M : Nat → Nat → Int32) (m : Int32) (t : Int32) (w : Int32) (c4 : Int32) (n : Nat) : (∀ k, k < n → ¬ (M 20 1 ≤ (nI k))) → (∀ k, k < n → qi_X0_setSaid_20_6 M m t w (nI k) ((s_X0_setSaid_20_6 M m t w c4 k))) → (z_G (d + 1) tb_X0_setSaid 6 [some (.ref 20), some (.int m), some (.int t), some (.int w), some (.int ((s_X0_setSaid_20_6 M m t w c4 n))), some (.int (nI n))] [] [] (z_SH, M, L) Q) → z_G (d + 1) tb_X0_setSaid 6 [some (.ref 20), some (.int m), some (.int t), some (.int w), some (.int c4), some (.int (nI 0))] [] [] (z_SH, M, L) Q := by
  induction n with
  | zero =>
    intro hc p1 h
    exact h
  | succ n ih =>
    intro hc p1 h
    refine ih (fun k hk => hc k (by omega)) (fun k hk => p1 k (by omega)) ?_
    have hcn := hc n (by omega)
    have p1n := p1 n (by omega)
    clear ih hc p1
    have hs : s_X0_setSaid_20_6 M m t w c4 (n + 1) = (e_X0_setSaid_20_6_c4 M m t w (nI n) ((s_X0_setSaid_20_6 M m t w c4 n))) := rfl
    rw [hs] at h
    clear hs
    generalize s_X0_setSaid_20_6 M m t w c4 n = sg at *
    refine it_X0_setSaid_20_6 M m t w (nI n) sg hcn p1n ?_
    rw [nI_1]
    exact h
def f_X0_setSaid_20 (M : Nat → Nat → Int32) (m : Int32) (t : Int32) (w : Int32) : Int32 := ((s_X0_setSaid_20_6 M m t w ((0 : Int32)) ((M 20 1).toNatClampNeg)))
def q_X0_setSaid_20 (M : Nat → Nat → Int32) (m : Int32) (t : Int32) (w : Int32) : Prop := (∀ k22, k22 < (M 20 1).toNatClampNeg → qi_X0_setSaid_20_6 M m t w (nI k22) ((s_X0_setSaid_20_6 M m t w ((0 : Int32)) k22))) ∧ True
theorem c_X0_setSaid_20 {d : Nat} {L : Nat → Nat → Int64} (M : Nat → Nat → Int32) (m : Int32) (t : Int32) (w : Int32)  (hpre : q_X0_setSaid_20 M m t w) : z_C (d + 2) 10 [.ref 20, .int m, .int t, .int w] (z_SH, M, L) (some (.int (f_X0_setSaid_20 M m t w))) (z_SH, M, L) := by
  unfold q_X0_setSaid_20 at hpre
  obtain ⟨p1, -⟩ := hpre
  refine z_mkA (tb := tb_X0_setSaid) rfl (by decide) rfl rfl rfl ?_
  refine g_k 4 (pc' := 6) (LI' := [some (.ref 20), some (.int m), some (.int t), some (.int w), some (.int 0), some (.int 0)]) (LL' := []) (st' := []) (S' := (z_SH, M, L)) (fun nq hq => And.intro rfl (And.intro rfl (And.intro rfl (And.intro rfl hq)))) ?_
  refine l_X0_setSaid_20_6 (d := d) M m t w ((0 : Int32)) ((M 20 1).toNatClampNeg) (fun k hk => z_lpc hk) p1 ?_ 
  have hx1 : M 20 1 ≤ nI ((M 20 1).toNatClampNeg) := z_lpe
  generalize hg1 : (s_X0_setSaid_20_6 M m t w ((0 : Int32)) ((M 20 1).toNatClampNeg)) = r1 at *
  generalize hg2 : nI ((M 20 1).toNatClampNeg) = r2 at *
  refine g_k 4 (pc' := (if z_cmp .ge r2 (M 20 1) = true then 72 else 15)) (LI' := [some (.ref 20), some (.int m), some (.int t), some (.int w), some (.int r1), some (.int r2)]) (LL' := []) (st' := []) (S' := (z_SH, M, L)) (fun nq hq => And.intro rfl (And.intro rfl (And.intro rfl (And.intro rfl hq)))) ?_
  refine g_ge (fun hc1 => ?_) (fun hc1 => absurd (hx1) hc1)
  refine g_k 1 (pc' := 74) (LI' := [some (.ref 20), some (.int m), some (.int t), some (.int w), some (.int r1), some (.int r2)]) (LL' := []) (st' := [.int r1]) (S' := (z_SH, M, L)) (fun nq hq => And.intro rfl hq) ?_
  exact ⟨1, And.intro rfl (⟨(by subst hg2; subst hg1; rfl), rfl⟩)⟩
def f_J6_bitCount_0f7a4 (M : Nat → Nat → Int32) (a0 : Int32) : Int32 := (((((((a0 - (((a0.toUInt32 >>> (((1 : Int32)).toUInt32 &&& Int32.toUInt32 31)).toInt32) &&& ((1431655765 : Int32)))) &&& ((858993459 : Int32))) + ((((a0 - (((a0.toUInt32 >>> (((1 : Int32)).toUInt32 &&& Int32.toUInt32 31)).toInt32) &&& ((1431655765 : Int32)))).toUInt32 >>> (((2 : Int32)).toUInt32 &&& Int32.toUInt32 31)).toInt32) &&& ((858993459 : Int32)))) + (((((a0 - (((a0.toUInt32 >>> (((1 : Int32)).toUInt32 &&& Int32.toUInt32 31)).toInt32) &&& ((1431655765 : Int32)))) &&& ((858993459 : Int32))) + ((((a0 - (((a0.toUInt32 >>> (((1 : Int32)).toUInt32 &&& Int32.toUInt32 31)).toInt32) &&& ((1431655765 : Int32)))).toUInt32 >>> (((2 : Int32)).toUInt32 &&& Int32.toUInt32 31)).toInt32) &&& ((858993459 : Int32)))).toUInt32 >>> (((4 : Int32)).toUInt32 &&& Int32.toUInt32 31)).toInt32)) &&& ((252645135 : Int32))) + (((((((a0 - (((a0.toUInt32 >>> (((1 : Int32)).toUInt32 &&& Int32.toUInt32 31)).toInt32) &&& ((1431655765 : Int32)))) &&& ((858993459 : Int32))) + ((((a0 - (((a0.toUInt32 >>> (((1 : Int32)).toUInt32 &&& Int32.toUInt32 31)).toInt32) &&& ((1431655765 : Int32)))).toUInt32 >>> (((2 : Int32)).toUInt32 &&& Int32.toUInt32 31)).toInt32) &&& ((858993459 : Int32)))) + (((((a0 - (((a0.toUInt32 >>> (((1 : Int32)).toUInt32 &&& Int32.toUInt32 31)).toInt32) &&& ((1431655765 : Int32)))) &&& ((858993459 : Int32))) + ((((a0 - (((a0.toUInt32 >>> (((1 : Int32)).toUInt32 &&& Int32.toUInt32 31)).toInt32) &&& ((1431655765 : Int32)))).toUInt32 >>> (((2 : Int32)).toUInt32 &&& Int32.toUInt32 31)).toInt32) &&& ((858993459 : Int32)))).toUInt32 >>> (((4 : Int32)).toUInt32 &&& Int32.toUInt32 31)).toInt32)) &&& ((252645135 : Int32))).toUInt32 >>> (((8 : Int32)).toUInt32 &&& Int32.toUInt32 31)).toInt32)) + ((((((((a0 - (((a0.toUInt32 >>> (((1 : Int32)).toUInt32 &&& Int32.toUInt32 31)).toInt32) &&& ((1431655765 : Int32)))) &&& ((858993459 : Int32))) + ((((a0 - (((a0.toUInt32 >>> (((1 : Int32)).toUInt32 &&& Int32.toUInt32 31)).toInt32) &&& ((1431655765 : Int32)))).toUInt32 >>> (((2 : Int32)).toUInt32 &&& Int32.toUInt32 31)).toInt32) &&& ((858993459 : Int32)))) + (((((a0 - (((a0.toUInt32 >>> (((1 : Int32)).toUInt32 &&& Int32.toUInt32 31)).toInt32) &&& ((1431655765 : Int32)))) &&& ((858993459 : Int32))) + ((((a0 - (((a0.toUInt32 >>> (((1 : Int32)).toUInt32 &&& Int32.toUInt32 31)).toInt32) &&& ((1431655765 : Int32)))).toUInt32 >>> (((2 : Int32)).toUInt32 &&& Int32.toUInt32 31)).toInt32) &&& ((858993459 : Int32)))).toUInt32 >>> (((4 : Int32)).toUInt32 &&& Int32.toUInt32 31)).toInt32)) &&& ((252645135 : Int32))) + (((((((a0 - (((a0.toUInt32 >>> (((1 : Int32)).toUInt32 &&& Int32.toUInt32 31)).toInt32) &&& ((1431655765 : Int32)))) &&& ((858993459 : Int32))) + ((((a0 - (((a0.toUInt32 >>> (((1 : Int32)).toUInt32 &&& Int32.toUInt32 31)).toInt32) &&& ((1431655765 : Int32)))).toUInt32 >>> (((2 : Int32)).toUInt32 &&& Int32.toUInt32 31)).toInt32) &&& ((858993459 : Int32)))) + (((((a0 - (((a0.toUInt32 >>> (((1 : Int32)).toUInt32 &&& Int32.toUInt32 31)).toInt32) &&& ((1431655765 : Int32)))) &&& ((858993459 : Int32))) + ((((a0 - (((a0.toUInt32 >>> (((1 : Int32)).toUInt32 &&& Int32.toUInt32 31)).toInt32) &&& ((1431655765 : Int32)))).toUInt32 >>> (((2 : Int32)).toUInt32 &&& Int32.toUInt32 31)).toInt32) &&& ((858993459 : Int32)))).toUInt32 >>> (((4 : Int32)).toUInt32 &&& Int32.toUInt32 31)).toInt32)) &&& ((252645135 : Int32))).toUInt32 >>> (((8 : Int32)).toUInt32 &&& Int32.toUInt32 31)).toInt32)).toUInt32 >>> (((16 : Int32)).toUInt32 &&& Int32.toUInt32 31)).toInt32)) &&& ((63 : Int32))
theorem c_J6_bitCount_0f7a4 {d : Nat} {L : Nat → Nat → Int64} (M : Nat → Nat → Int32) (a0 : Int32)  : z_C (d + 1) 180 [.int a0] (z_SH, M, L) (some (.int (f_J6_bitCount_0f7a4 M a0))) (z_SH, M, L) := by
  refine z_mkA (tb := tb_J6_bitCount_0f7a4) rfl (by decide) rfl rfl rfl ?_
  refine g_k 9 (pc' := 11) (LI' := [some (.int (a0 - (((a0.toUInt32 >>> (((1 : Int32)).toUInt32 &&& Int32.toUInt32 31)).toInt32) &&& ((1431655765 : Int32)))))]) (LL' := []) (st' := [.int (a0 - (((a0.toUInt32 >>> (((1 : Int32)).toUInt32 &&& Int32.toUInt32 31)).toInt32) &&& ((1431655765 : Int32))))]) (S' := (z_SH, M, L)) (fun nq hq => And.intro rfl (And.intro rfl (And.intro rfl (And.intro rfl (And.intro rfl (And.intro rfl (And.intro rfl (And.intro rfl (And.intro rfl hq))))))))) ?_
  refine g_k 9 (pc' := 24) (LI' := [some (.int (((a0 - (((a0.toUInt32 >>> (((1 : Int32)).toUInt32 &&& Int32.toUInt32 31)).toInt32) &&& ((1431655765 : Int32)))) &&& ((858993459 : Int32))) + ((((a0 - (((a0.toUInt32 >>> (((1 : Int32)).toUInt32 &&& Int32.toUInt32 31)).toInt32) &&& ((1431655765 : Int32)))).toUInt32 >>> (((2 : Int32)).toUInt32 &&& Int32.toUInt32 31)).toInt32) &&& ((858993459 : Int32)))))]) (LL' := []) (st' := []) (S' := (z_SH, M, L)) (fun nq hq => And.intro rfl (And.intro rfl (And.intro rfl (And.intro rfl (And.intro rfl (And.intro rfl (And.intro rfl (And.intro rfl (And.intro rfl hq))))))))) ?_
  refine g_k 9 (pc' := 35) (LI' := [some (.int (((((a0 - (((a0.toUInt32 >>> (((1 : Int32)).toUInt32 &&& Int32.toUInt32 31)).toInt32) &&& ((1431655765 : Int32)))) &&& ((858993459 : Int32))) + ((((a0 - (((a0.toUInt32 >>> (((1 : Int32)).toUInt32 &&& Int32.toUInt32 31)).toInt32) &&& ((1431655765 : Int32)))).toUInt32 >>> (((2 : Int32)).toUInt32 &&& Int32.toUInt32 31)).toInt32) &&& ((858993459 : Int32)))) + (((((a0 - (((a0.toUInt32 >>> (((1 : Int32)).toUInt32 &&& Int32.toUInt32 31)).toInt32) &&& ((1431655765 : Int32)))) &&& ((858993459 : Int32))) + ((((a0 - (((a0.toUInt32 >>> (((1 : Int32)).toUInt32 &&& Int32.toUInt32 31)).toInt32) &&& ((1431655765 : Int32)))).toUInt32 >>> (((2 : Int32)).toUInt32 &&& Int32.toUInt32 31)).toInt32) &&& ((858993459 : Int32)))).toUInt32 >>> (((4 : Int32)).toUInt32 &&& Int32.toUInt32 31)).toInt32)) &&& ((252645135 : Int32))))]) (LL' := []) (st' := [.int (((((a0 - (((a0.toUInt32 >>> (((1 : Int32)).toUInt32 &&& Int32.toUInt32 31)).toInt32) &&& ((1431655765 : Int32)))) &&& ((858993459 : Int32))) + ((((a0 - (((a0.toUInt32 >>> (((1 : Int32)).toUInt32 &&& Int32.toUInt32 31)).toInt32) &&& ((1431655765 : Int32)))).toUInt32 >>> (((2 : Int32)).toUInt32 &&& Int32.toUInt32 31)).toInt32) &&& ((858993459 : Int32)))) + (((((a0 - (((a0.toUInt32 >>> (((1 : Int32)).toUInt32 &&& Int32.toUInt32 31)).toInt32) &&& ((1431655765 : Int32)))) &&& ((858993459 : Int32))) + ((((a0 - (((a0.toUInt32 >>> (((1 : Int32)).toUInt32 &&& Int32.toUInt32 31)).toInt32) &&& ((1431655765 : Int32)))).toUInt32 >>> (((2 : Int32)).toUInt32 &&& Int32.toUInt32 31)).toInt32) &&& ((858993459 : Int32)))).toUInt32 >>> (((4 : Int32)).toUInt32 &&& Int32.toUInt32 31)).toInt32)) &&& ((252645135 : Int32)))]) (S' := (z_SH, M, L)) (fun nq hq => And.intro rfl (And.intro rfl (And.intro rfl (And.intro rfl (And.intro rfl (And.intro rfl (And.intro rfl (And.intro rfl (And.intro rfl hq))))))))) ?_
  refine g_k 9 (pc' := 46) (LI' := [some (.int ((((((a0 - (((a0.toUInt32 >>> (((1 : Int32)).toUInt32 &&& Int32.toUInt32 31)).toInt32) &&& ((1431655765 : Int32)))) &&& ((858993459 : Int32))) + ((((a0 - (((a0.toUInt32 >>> (((1 : Int32)).toUInt32 &&& Int32.toUInt32 31)).toInt32) &&& ((1431655765 : Int32)))).toUInt32 >>> (((2 : Int32)).toUInt32 &&& Int32.toUInt32 31)).toInt32) &&& ((858993459 : Int32)))) + (((((a0 - (((a0.toUInt32 >>> (((1 : Int32)).toUInt32 &&& Int32.toUInt32 31)).toInt32) &&& ((1431655765 : Int32)))) &&& ((858993459 : Int32))) + ((((a0 - (((a0.toUInt32 >>> (((1 : Int32)).toUInt32 &&& Int32.toUInt32 31)).toInt32) &&& ((1431655765 : Int32)))).toUInt32 >>> (((2 : Int32)).toUInt32 &&& Int32.toUInt32 31)).toInt32) &&& ((858993459 : Int32)))).toUInt32 >>> (((4 : Int32)).toUInt32 &&& Int32.toUInt32 31)).toInt32)) &&& ((252645135 : Int32))) + (((((((a0 - (((a0.toUInt32 >>> (((1 : Int32)).toUInt32 &&& Int32.toUInt32 31)).toInt32) &&& ((1431655765 : Int32)))) &&& ((858993459 : Int32))) + ((((a0 - (((a0.toUInt32 >>> (((1 : Int32)).toUInt32 &&& Int32.toUInt32 31)).toInt32) &&& ((1431655765 : Int32)))).toUInt32 >>> (((2 : Int32)).toUInt32 &&& Int32.toUInt32 31)).toInt32) &&& ((858993459 : Int32)))) + (((((a0 - (((a0.toUInt32 >>> (((1 : Int32)).toUInt32 &&& Int32.toUInt32 31)).toInt32) &&& ((1431655765 : Int32)))) &&& ((858993459 : Int32))) + ((((a0 - (((a0.toUInt32 >>> (((1 : Int32)).toUInt32 &&& Int32.toUInt32 31)).toInt32) &&& ((1431655765 : Int32)))).toUInt32 >>> (((2 : Int32)).toUInt32 &&& Int32.toUInt32 31)).toInt32) &&& ((858993459 : Int32)))).toUInt32 >>> (((4 : Int32)).toUInt32 &&& Int32.toUInt32 31)).toInt32)) &&& ((252645135 : Int32))).toUInt32 >>> (((8 : Int32)).toUInt32 &&& Int32.toUInt32 31)).toInt32)))]) (LL' := []) (st' := [.int ((((((((a0 - (((a0.toUInt32 >>> (((1 : Int32)).toUInt32 &&& Int32.toUInt32 31)).toInt32) &&& ((1431655765 : Int32)))) &&& ((858993459 : Int32))) + ((((a0 - (((a0.toUInt32 >>> (((1 : Int32)).toUInt32 &&& Int32.toUInt32 31)).toInt32) &&& ((1431655765 : Int32)))).toUInt32 >>> (((2 : Int32)).toUInt32 &&& Int32.toUInt32 31)).toInt32) &&& ((858993459 : Int32)))) + (((((a0 - (((a0.toUInt32 >>> (((1 : Int32)).toUInt32 &&& Int32.toUInt32 31)).toInt32) &&& ((1431655765 : Int32)))) &&& ((858993459 : Int32))) + ((((a0 - (((a0.toUInt32 >>> (((1 : Int32)).toUInt32 &&& Int32.toUInt32 31)).toInt32) &&& ((1431655765 : Int32)))).toUInt32 >>> (((2 : Int32)).toUInt32 &&& Int32.toUInt32 31)).toInt32) &&& ((858993459 : Int32)))).toUInt32 >>> (((4 : Int32)).toUInt32 &&& Int32.toUInt32 31)).toInt32)) &&& ((252645135 : Int32))) + (((((((a0 - (((a0.toUInt32 >>> (((1 : Int32)).toUInt32 &&& Int32.toUInt32 31)).toInt32) &&& ((1431655765 : Int32)))) &&& ((858993459 : Int32))) + ((((a0 - (((a0.toUInt32 >>> (((1 : Int32)).toUInt32 &&& Int32.toUInt32 31)).toInt32) &&& ((1431655765 : Int32)))).toUInt32 >>> (((2 : Int32)).toUInt32 &&& Int32.toUInt32 31)).toInt32) &&& ((858993459 : Int32)))) + (((((a0 - (((a0.toUInt32 >>> (((1 : Int32)).toUInt32 &&& Int32.toUInt32 31)).toInt32) &&& ((1431655765 : Int32)))) &&& ((858993459 : Int32))) + ((((a0 - (((a0.toUInt32 >>> (((1 : Int32)).toUInt32 &&& Int32.toUInt32 31)).toInt32) &&& ((1431655765 : Int32)))).toUInt32 >>> (((2 : Int32)).toUInt32 &&& Int32.toUInt32 31)).toInt32) &&& ((858993459 : Int32)))).toUInt32 >>> (((4 : Int32)).toUInt32 &&& Int32.toUInt32 31)).toInt32)) &&& ((252645135 : Int32))).toUInt32 >>> (((8 : Int32)).toUInt32 &&& Int32.toUInt32 31)).toInt32)).toUInt32 >>> (((16 : Int32)).toUInt32 &&& Int32.toUInt32 31)).toInt32), .int ((((((a0 - (((a0.toUInt32 >>> (((1 : Int32)).toUInt32 &&& Int32.toUInt32 31)).toInt32) &&& ((1431655765 : Int32)))) &&& ((858993459 : Int32))) + ((((a0 - (((a0.toUInt32 >>> (((1 : Int32)).toUInt32 &&& Int32.toUInt32 31)).toInt32) &&& ((1431655765 : Int32)))).toUInt32 >>> (((2 : Int32)).toUInt32 &&& Int32.toUInt32 31)).toInt32) &&& ((858993459 : Int32)))) + (((((a0 - (((a0.toUInt32 >>> (((1 : Int32)).toUInt32 &&& Int32.toUInt32 31)).toInt32) &&& ((1431655765 : Int32)))) &&& ((858993459 : Int32))) + ((((a0 - (((a0.toUInt32 >>> (((1 : Int32)).toUInt32 &&& Int32.toUInt32 31)).toInt32) &&& ((1431655765 : Int32)))).toUInt32 >>> (((2 : Int32)).toUInt32 &&& Int32.toUInt32 31)).toInt32) &&& ((858993459 : Int32)))).toUInt32 >>> (((4 : Int32)).toUInt32 &&& Int32.toUInt32 31)).toInt32)) &&& ((252645135 : Int32))) + (((((((a0 - (((a0.toUInt32 >>> (((1 : Int32)).toUInt32 &&& Int32.toUInt32 31)).toInt32) &&& ((1431655765 : Int32)))) &&& ((858993459 : Int32))) + ((((a0 - (((a0.toUInt32 >>> (((1 : Int32)).toUInt32 &&& Int32.toUInt32 31)).toInt32) &&& ((1431655765 : Int32)))).toUInt32 >>> (((2 : Int32)).toUInt32 &&& Int32.toUInt32 31)).toInt32) &&& ((858993459 : Int32)))) + (((((a0 - (((a0.toUInt32 >>> (((1 : Int32)).toUInt32 &&& Int32.toUInt32 31)).toInt32) &&& ((1431655765 : Int32)))) &&& ((858993459 : Int32))) + ((((a0 - (((a0.toUInt32 >>> (((1 : Int32)).toUInt32 &&& Int32.toUInt32 31)).toInt32) &&& ((1431655765 : Int32)))).toUInt32 >>> (((2 : Int32)).toUInt32 &&& Int32.toUInt32 31)).toInt32) &&& ((858993459 : Int32)))).toUInt32 >>> (((4 : Int32)).toUInt32 &&& Int32.toUInt32 31)).toInt32)) &&& ((252645135 : Int32))).toUInt32 >>> (((8 : Int32)).toUInt32 &&& Int32.toUInt32 31)).toInt32))]) (S' := (z_SH, M, L)) (fun nq hq => And.intro rfl (And.intro rfl (And.intro rfl (And.intro rfl (And.intro rfl (And.intro rfl (And.intro rfl (And.intro rfl (And.intro rfl hq))))))))) ?_
  refine g_k 5 (pc' := 52) (LI' := [some (.int (((((((a0 - (((a0.toUInt32 >>> (((1 : Int32)).toUInt32 &&& Int32.toUInt32 31)).toInt32) &&& ((1431655765 : Int32)))) &&& ((858993459 : Int32))) + ((((a0 - (((a0.toUInt32 >>> (((1 : Int32)).toUInt32 &&& Int32.toUInt32 31)).toInt32) &&& ((1431655765 : Int32)))).toUInt32 >>> (((2 : Int32)).toUInt32 &&& Int32.toUInt32 31)).toInt32) &&& ((858993459 : Int32)))) + (((((a0 - (((a0.toUInt32 >>> (((1 : Int32)).toUInt32 &&& Int32.toUInt32 31)).toInt32) &&& ((1431655765 : Int32)))) &&& ((858993459 : Int32))) + ((((a0 - (((a0.toUInt32 >>> (((1 : Int32)).toUInt32 &&& Int32.toUInt32 31)).toInt32) &&& ((1431655765 : Int32)))).toUInt32 >>> (((2 : Int32)).toUInt32 &&& Int32.toUInt32 31)).toInt32) &&& ((858993459 : Int32)))).toUInt32 >>> (((4 : Int32)).toUInt32 &&& Int32.toUInt32 31)).toInt32)) &&& ((252645135 : Int32))) + (((((((a0 - (((a0.toUInt32 >>> (((1 : Int32)).toUInt32 &&& Int32.toUInt32 31)).toInt32) &&& ((1431655765 : Int32)))) &&& ((858993459 : Int32))) + ((((a0 - (((a0.toUInt32 >>> (((1 : Int32)).toUInt32 &&& Int32.toUInt32 31)).toInt32) &&& ((1431655765 : Int32)))).toUInt32 >>> (((2 : Int32)).toUInt32 &&& Int32.toUInt32 31)).toInt32) &&& ((858993459 : Int32)))) + (((((a0 - (((a0.toUInt32 >>> (((1 : Int32)).toUInt32 &&& Int32.toUInt32 31)).toInt32) &&& ((1431655765 : Int32)))) &&& ((858993459 : Int32))) + ((((a0 - (((a0.toUInt32 >>> (((1 : Int32)).toUInt32 &&& Int32.toUInt32 31)).toInt32) &&& ((1431655765 : Int32)))).toUInt32 >>> (((2 : Int32)).toUInt32 &&& Int32.toUInt32 31)).toInt32) &&& ((858993459 : Int32)))).toUInt32 >>> (((4 : Int32)).toUInt32 &&& Int32.toUInt32 31)).toInt32)) &&& ((252645135 : Int32))).toUInt32 >>> (((8 : Int32)).toUInt32 &&& Int32.toUInt32 31)).toInt32)) + ((((((((a0 - (((a0.toUInt32 >>> (((1 : Int32)).toUInt32 &&& Int32.toUInt32 31)).toInt32) &&& ((1431655765 : Int32)))) &&& ((858993459 : Int32))) + ((((a0 - (((a0.toUInt32 >>> (((1 : Int32)).toUInt32 &&& Int32.toUInt32 31)).toInt32) &&& ((1431655765 : Int32)))).toUInt32 >>> (((2 : Int32)).toUInt32 &&& Int32.toUInt32 31)).toInt32) &&& ((858993459 : Int32)))) + (((((a0 - (((a0.toUInt32 >>> (((1 : Int32)).toUInt32 &&& Int32.toUInt32 31)).toInt32) &&& ((1431655765 : Int32)))) &&& ((858993459 : Int32))) + ((((a0 - (((a0.toUInt32 >>> (((1 : Int32)).toUInt32 &&& Int32.toUInt32 31)).toInt32) &&& ((1431655765 : Int32)))).toUInt32 >>> (((2 : Int32)).toUInt32 &&& Int32.toUInt32 31)).toInt32) &&& ((858993459 : Int32)))).toUInt32 >>> (((4 : Int32)).toUInt32 &&& Int32.toUInt32 31)).toInt32)) &&& ((252645135 : Int32))) + (((((((a0 - (((a0.toUInt32 >>> (((1 : Int32)).toUInt32 &&& Int32.toUInt32 31)).toInt32) &&& ((1431655765 : Int32)))) &&& ((858993459 : Int32))) + ((((a0 - (((a0.toUInt32 >>> (((1 : Int32)).toUInt32 &&& Int32.toUInt32 31)).toInt32) &&& ((1431655765 : Int32)))).toUInt32 >>> (((2 : Int32)).toUInt32 &&& Int32.toUInt32 31)).toInt32) &&& ((858993459 : Int32)))) + (((((a0 - (((a0.toUInt32 >>> (((1 : Int32)).toUInt32 &&& Int32.toUInt32 31)).toInt32) &&& ((1431655765 : Int32)))) &&& ((858993459 : Int32))) + ((((a0 - (((a0.toUInt32 >>> (((1 : Int32)).toUInt32 &&& Int32.toUInt32 31)).toInt32) &&& ((1431655765 : Int32)))).toUInt32 >>> (((2 : Int32)).toUInt32 &&& Int32.toUInt32 31)).toInt32) &&& ((858993459 : Int32)))).toUInt32 >>> (((4 : Int32)).toUInt32 &&& Int32.toUInt32 31)).toInt32)) &&& ((252645135 : Int32))).toUInt32 >>> (((8 : Int32)).toUInt32 &&& Int32.toUInt32 31)).toInt32)).toUInt32 >>> (((16 : Int32)).toUInt32 &&& Int32.toUInt32 31)).toInt32)))]) (LL' := []) (st' := [.int ((((((((a0 - (((a0.toUInt32 >>> (((1 : Int32)).toUInt32 &&& Int32.toUInt32 31)).toInt32) &&& ((1431655765 : Int32)))) &&& ((858993459 : Int32))) + ((((a0 - (((a0.toUInt32 >>> (((1 : Int32)).toUInt32 &&& Int32.toUInt32 31)).toInt32) &&& ((1431655765 : Int32)))).toUInt32 >>> (((2 : Int32)).toUInt32 &&& Int32.toUInt32 31)).toInt32) &&& ((858993459 : Int32)))) + (((((a0 - (((a0.toUInt32 >>> (((1 : Int32)).toUInt32 &&& Int32.toUInt32 31)).toInt32) &&& ((1431655765 : Int32)))) &&& ((858993459 : Int32))) + ((((a0 - (((a0.toUInt32 >>> (((1 : Int32)).toUInt32 &&& Int32.toUInt32 31)).toInt32) &&& ((1431655765 : Int32)))).toUInt32 >>> (((2 : Int32)).toUInt32 &&& Int32.toUInt32 31)).toInt32) &&& ((858993459 : Int32)))).toUInt32 >>> (((4 : Int32)).toUInt32 &&& Int32.toUInt32 31)).toInt32)) &&& ((252645135 : Int32))) + (((((((a0 - (((a0.toUInt32 >>> (((1 : Int32)).toUInt32 &&& Int32.toUInt32 31)).toInt32) &&& ((1431655765 : Int32)))) &&& ((858993459 : Int32))) + ((((a0 - (((a0.toUInt32 >>> (((1 : Int32)).toUInt32 &&& Int32.toUInt32 31)).toInt32) &&& ((1431655765 : Int32)))).toUInt32 >>> (((2 : Int32)).toUInt32 &&& Int32.toUInt32 31)).toInt32) &&& ((858993459 : Int32)))) + (((((a0 - (((a0.toUInt32 >>> (((1 : Int32)).toUInt32 &&& Int32.toUInt32 31)).toInt32) &&& ((1431655765 : Int32)))) &&& ((858993459 : Int32))) + ((((a0 - (((a0.toUInt32 >>> (((1 : Int32)).toUInt32 &&& Int32.toUInt32 31)).toInt32) &&& ((1431655765 : Int32)))).toUInt32 >>> (((2 : Int32)).toUInt32 &&& Int32.toUInt32 31)).toInt32) &&& ((858993459 : Int32)))).toUInt32 >>> (((4 : Int32)).toUInt32 &&& Int32.toUInt32 31)).toInt32)) &&& ((252645135 : Int32))).toUInt32 >>> (((8 : Int32)).toUInt32 &&& Int32.toUInt32 31)).toInt32)) + ((((((((a0 - (((a0.toUInt32 >>> (((1 : Int32)).toUInt32 &&& Int32.toUInt32 31)).toInt32) &&& ((1431655765 : Int32)))) &&& ((858993459 : Int32))) + ((((a0 - (((a0.toUInt32 >>> (((1 : Int32)).toUInt32 &&& Int32.toUInt32 31)).toInt32) &&& ((1431655765 : Int32)))).toUInt32 >>> (((2 : Int32)).toUInt32 &&& Int32.toUInt32 31)).toInt32) &&& ((858993459 : Int32)))) + (((((a0 - (((a0.toUInt32 >>> (((1 : Int32)).toUInt32 &&& Int32.toUInt32 31)).toInt32) &&& ((1431655765 : Int32)))) &&& ((858993459 : Int32))) + ((((a0 - (((a0.toUInt32 >>> (((1 : Int32)).toUInt32 &&& Int32.toUInt32 31)).toInt32) &&& ((1431655765 : Int32)))).toUInt32 >>> (((2 : Int32)).toUInt32 &&& Int32.toUInt32 31)).toInt32) &&& ((858993459 : Int32)))).toUInt32 >>> (((4 : Int32)).toUInt32 &&& Int32.toUInt32 31)).toInt32)) &&& ((252645135 : Int32))) + (((((((a0 - (((a0.toUInt32 >>> (((1 : Int32)).toUInt32 &&& Int32.toUInt32 31)).toInt32) &&& ((1431655765 : Int32)))) &&& ((858993459 : Int32))) + ((((a0 - (((a0.toUInt32 >>> (((1 : Int32)).toUInt32 &&& Int32.toUInt32 31)).toInt32) &&& ((1431655765 : Int32)))).toUInt32 >>> (((2 : Int32)).toUInt32 &&& Int32.toUInt32 31)).toInt32) &&& ((858993459 : Int32)))) + (((((a0 - (((a0.toUInt32 >>> (((1 : Int32)).toUInt32 &&& Int32.toUInt32 31)).toInt32) &&& ((1431655765 : Int32)))) &&& ((858993459 : Int32))) + ((((a0 - (((a0.toUInt32 >>> (((1 : Int32)).toUInt32 &&& Int32.toUInt32 31)).toInt32) &&& ((1431655765 : Int32)))).toUInt32 >>> (((2 : Int32)).toUInt32 &&& Int32.toUInt32 31)).toInt32) &&& ((858993459 : Int32)))).toUInt32 >>> (((4 : Int32)).toUInt32 &&& Int32.toUInt32 31)).toInt32)) &&& ((252645135 : Int32))).toUInt32 >>> (((8 : Int32)).toUInt32 &&& Int32.toUInt32 31)).toInt32)).toUInt32 >>> (((16 : Int32)).toUInt32 &&& Int32.toUInt32 31)).toInt32)) &&& ((63 : Int32)))]) (S' := (z_SH, M, L)) (fun nq hq => And.intro rfl (And.intro rfl (And.intro rfl (And.intro rfl (And.intro rfl hq))))) ?_
  exact ⟨1, And.intro rfl (⟨rfl, rfl⟩)⟩
def e_X0_clashesOf_20_4_c2 (M : Nat → Nat → Int32) (m : Int32) (i : Int32) (c2 : Int32) : Int32 := c2 + ((f_J6_bitCount_0f7a4 M (f_X0_setSaid_20 M m i ((1 : Int32)))) * (f_J6_bitCount_0f7a4 M (f_X0_setSaid_20 M m i ((0 : Int32)))))
def qi_X0_clashesOf_20_4 (M : Nat → Nat → Int32) (m : Int32) (i : Int32) (c2 : Int32) : Prop := (q_X0_setSaid_20 M m i ((1 : Int32))) ∧ (q_X0_setSaid_20 M m i ((0 : Int32))) ∧ True
theorem it_X0_clashesOf_20_4 {d : Nat} {L : Nat → Nat → Int64} {Q : Option Value → z_St → Prop} (M : Nat → Nat → Int32) (m : Int32) (i : Int32) (c2 : Int32) (hc : ¬ ((8 : Int32) ≤ i)) (p1 : qi_X0_clashesOf_20_4 M m i c2) (h : z_G (d + 2) tb_X0_clashesOf 4 [some (.ref 20), some (.int m), some (.int (e_X0_clashesOf_20_4_c2 M m i c2)), some (.int (i + 1))] [] [] (z_SH, M, L) Q) : z_G (d + 2) tb_X0_clashesOf 4 [some (.ref 20), some (.int m), some (.int c2), some (.int i)] [] [] (z_SH, M, L) Q := by
  unfold qi_X0_clashesOf_20_4 at p1
  obtain ⟨p1, p2, -⟩ := p1
  refine g_k 3 (pc' := (if z_cmp .ge i ((8 : Int32)) = true then 40 else 10)) (LI' := [some (.ref 20), some (.int m), some (.int c2), some (.int i)]) (LL' := []) (st' := []) (S' := (z_SH, M, L)) (fun nq hq => And.intro rfl (And.intro rfl (And.intro rfl hq))) ?_
  refine g_ge (fun hc1 => ?_) (fun hc1 => ?_)
  · exact absurd hc1 hc
  · refine g_k 5 (pc' := 15) (LI' := [some (.ref 20), some (.int m), some (.int c2), some (.int i)]) (LL' := []) (st' := [.int 1, .int i, .int m, .ref 20, .int c2]) (S' := (z_SH, M, L)) (fun nq hq => And.intro rfl (And.intro rfl (And.intro rfl (And.intro rfl (And.intro rfl hq))))) ?_
    refine g_k 1 (pc' := 18) (LI' := [some (.ref 20), some (.int m), some (.int c2), some (.int i)]) (LL' := []) (st' := [.int (f_X0_setSaid_20 M m i ((1 : Int32))), .int c2]) (S' := (z_SH, M, L)) (fun nq hq => And.intro rfl (Exists.intro _ (Exists.intro _ (And.intro (c_X0_setSaid_20 (d := d) M m i ((1 : Int32)) p1) (And.intro (z_fit_same _ _ _ _ _ _ _ _) hq))))) ?_
    generalize hg1 : f_X0_setSaid_20 M m i ((1 : Int32)) = r1 at *
    refine g_k 1 (pc' := 21) (LI' := [some (.ref 20), some (.int m), some (.int c2), some (.int i)]) (LL' := []) (st' := [.int (f_J6_bitCount_0f7a4 M r1), .int c2]) (S' := (z_SH, M, L)) (fun nq hq => And.intro rfl (Exists.intro _ (Exists.intro _ (And.intro (c_J6_bitCount_0f7a4 (d := d + 1) M r1) (And.intro (z_fit_same _ _ _ _ _ _ _ _) hq))))) ?_
    generalize hg2 : f_J6_bitCount_0f7a4 M r1 = r2 at *
    refine g_k 4 (pc' := 25) (LI' := [some (.ref 20), some (.int m), some (.int c2), some (.int i)]) (LL' := []) (st' := [.int 0, .int i, .int m, .ref 20, .int r2, .int c2]) (S' := (z_SH, M, L)) (fun nq hq => And.intro rfl (And.intro rfl (And.intro rfl (And.intro rfl hq)))) ?_
    refine g_k 1 (pc' := 28) (LI' := [some (.ref 20), some (.int m), some (.int c2), some (.int i)]) (LL' := []) (st' := [.int (f_X0_setSaid_20 M m i ((0 : Int32))), .int r2, .int c2]) (S' := (z_SH, M, L)) (fun nq hq => And.intro rfl (Exists.intro _ (Exists.intro _ (And.intro (c_X0_setSaid_20 (d := d) M m i ((0 : Int32)) p2) (And.intro (z_fit_same _ _ _ _ _ _ _ _) hq))))) ?_
    generalize hg3 : f_X0_setSaid_20 M m i ((0 : Int32)) = r3 at *
    refine g_k 1 (pc' := 31) (LI' := [some (.ref 20), some (.int m), some (.int c2), some (.int i)]) (LL' := []) (st' := [.int (f_J6_bitCount_0f7a4 M r3), .int r2, .int c2]) (S' := (z_SH, M, L)) (fun nq hq => And.intro rfl (Exists.intro _ (Exists.intro _ (And.intro (c_J6_bitCount_0f7a4 (d := d + 1) M r3) (And.intro (z_fit_same _ _ _ _ _ _ _ _) hq))))) ?_
    generalize hg4 : f_J6_bitCount_0f7a4 M r3 = r4 at *
    refine g_k 5 (pc' := 4) (LI' := [some (.ref 20), some (.int m), some (.int (c2 + (r2 * r4))), some (.int (i + 1))]) (LL' := []) (st' := []) (S' := (z_SH, M, L)) (fun nq hq => And.intro rfl (And.intro rfl (And.intro rfl (And.intro rfl (And.intro rfl hq))))) ?_
    (subst hg4; subst hg3; subst hg2; subst hg1; unfold e_X0_clashesOf_20_4_c2 at h; exact h )
def s_X0_clashesOf_20_4 (M : Nat → Nat → Int32) (m : Int32) (c2 : Int32) (n : Nat) : Int32 := Nat.rec (motive := fun _ => Int32) (c2) (fun k r => (e_X0_clashesOf_20_4_c2 M m (nI k) r)) n
theorem l_X0_clashesOf_20_4 {d : Nat} {L : Nat → Nat → Int64} {Q : Option Value → z_St → Prop} (M : Nat → Nat → Int32) (m : Int32) (c2 : Int32) (n : Nat) : (∀ k, k < n → ¬ ((8 : Int32) ≤ (nI k))) → (∀ k, k < n → qi_X0_clashesOf_20_4 M m (nI k) ((s_X0_clashesOf_20_4 M m c2 k))) → (z_G (d + 2) tb_X0_clashesOf 4 [some (.ref 20), some (.int m), some (.int ((s_X0_clashesOf_20_4 M m c2 n))), some (.int (nI n))] [] [] (z_SH, M, L) Q) → z_G (d + 2) tb_X0_clashesOf 4 [some (.ref 20), some (.int m), some (.int c2), some (.int (nI 0))] [] [] (z_SH, M, L) Q := by
  induction n with
  | zero =>
    intro hc p1 h
    exact h
  | succ n ih =>
    intro hc p1 h
    refine ih (fun k hk => hc k (by omega)) (fun k hk => p1 k (by omega)) ?_
    have hcn := hc n (by omega)
    have p1n := p1 n (by omega)
    clear ih hc p1
    have hs : s_X0_clashesOf_20_4 M m c2 (n + 1) = (e_X0_clashesOf_20_4_c2 M m (nI n) ((s_X0_clashesOf_20_4 M m c2 n))) := rfl
    rw [hs] at h
    clear hs
    generalize s_X0_clashesOf_20_4 M m c2 n = sg at *
    refine it_X0_clashesOf_20_4 M m (nI n) sg hcn p1n ?_
    rw [nI_1]
    exact h
def f_X0_clashesOf_20 (M : Nat → Nat → Int32) (m : Int32) : Int32 := ((s_X0_clashesOf_20_4 M m ((0 : Int32)) 8))
def q_X0_clashesOf_20 (M : Nat → Nat → Int32) (m : Int32) : Prop := (∀ k23, k23 < 8 → qi_X0_clashesOf_20_4 M m (nI k23) ((s_X0_clashesOf_20_4 M m ((0 : Int32)) k23))) ∧ True
theorem c_X0_clashesOf_20 {d : Nat} {L : Nat → Nat → Int64} (M : Nat → Nat → Int32) (m : Int32)  (hpre : q_X0_clashesOf_20 M m) : z_C (d + 3) 8 [.ref 20, .int m] (z_SH, M, L) (some (.int (f_X0_clashesOf_20 M m))) (z_SH, M, L) := by
  unfold q_X0_clashesOf_20 at hpre
  obtain ⟨p1, -⟩ := hpre
  refine z_mkA (tb := tb_X0_clashesOf) rfl (by decide) rfl rfl rfl ?_
  refine g_k 4 (pc' := 4) (LI' := [some (.ref 20), some (.int m), some (.int 0), some (.int 0)]) (LL' := []) (st' := []) (S' := (z_SH, M, L)) (fun nq hq => And.intro rfl (And.intro rfl (And.intro rfl (And.intro rfl hq)))) ?_
  refine l_X0_clashesOf_20_4 (d := d) M m ((0 : Int32)) 8 (fun k hk => z_lpc hk) p1 ?_ 
  have hx1 : (8 : Int32) ≤ nI 8 := z_lpe
  generalize hg1 : (s_X0_clashesOf_20_4 M m ((0 : Int32)) 8) = r1 at *
  generalize hg2 : nI 8 = r2 at *
  refine g_k 3 (pc' := (if z_cmp .ge r2 ((8 : Int32)) = true then 40 else 10)) (LI' := [some (.ref 20), some (.int m), some (.int r1), some (.int r2)]) (LL' := []) (st' := []) (S' := (z_SH, M, L)) (fun nq hq => And.intro rfl (And.intro rfl (And.intro rfl hq))) ?_
  refine g_ge (fun hc1 => ?_) (fun hc1 => absurd (hx1) hc1)
  refine g_k 1 (pc' := 41) (LI' := [some (.ref 20), some (.int m), some (.int r1), some (.int r2)]) (LL' := []) (st' := [.int r1]) (S' := (z_SH, M, L)) (fun nq hq => And.intro rfl hq) ?_
  exact ⟨1, And.intro rfl (⟨(by subst hg2; subst hg1; rfl), rfl⟩)⟩
def f_X0_lesserSet (M : Nat → Nat → Int32) (a0 : Int32) (a1 : Int32) : Int32 := if ¬ (f_J6_bitCount_0f7a4 M a0) - (f_J6_bitCount_0f7a4 M a1) = (0 : Int32) then if (0 : Int32) ≤ (f_J6_bitCount_0f7a4 M a0) - (f_J6_bitCount_0f7a4 M a1) then a1 else a0 else if a1 < a0 then a1 else a0
theorem c_X0_lesserSet {d : Nat} {L : Nat → Nat → Int64} (M : Nat → Nat → Int32) (a0 : Int32) (a1 : Int32)  : z_C (d + 2) 11 [.int a0, .int a1] (z_SH, M, L) (some (.int (f_X0_lesserSet M a0 a1))) (z_SH, M, L) := by
  refine z_mkA (tb := tb_X0_lesserSet) rfl (by decide) rfl rfl rfl ?_
  refine g_k 1 (pc' := 1) (LI' := [some (.int a0), some (.int a1), none]) (LL' := []) (st' := [.int a0]) (S' := (z_SH, M, L)) (fun nq hq => And.intro rfl hq) ?_
  refine g_k 1 (pc' := 4) (LI' := [some (.int a0), some (.int a1), none]) (LL' := []) (st' := [.int (f_J6_bitCount_0f7a4 M a0)]) (S' := (z_SH, M, L)) (fun nq hq => And.intro rfl (Exists.intro _ (Exists.intro _ (And.intro (c_J6_bitCount_0f7a4 (d := d) M a0) (And.intro (z_fit_same _ _ _ _ _ _ _ _) hq))))) ?_
  generalize hg1 : f_J6_bitCount_0f7a4 M a0 = r1 at *
  refine g_k 1 (pc' := 5) (LI' := [some (.int a0), some (.int a1), none]) (LL' := []) (st' := [.int a1, .int r1]) (S' := (z_SH, M, L)) (fun nq hq => And.intro rfl hq) ?_
  refine g_k 1 (pc' := 8) (LI' := [some (.int a0), some (.int a1), none]) (LL' := []) (st' := [.int (f_J6_bitCount_0f7a4 M a1), .int r1]) (S' := (z_SH, M, L)) (fun nq hq => And.intro rfl (Exists.intro _ (Exists.intro _ (And.intro (c_J6_bitCount_0f7a4 (d := d) M a1) (And.intro (z_fit_same _ _ _ _ _ _ _ _) hq))))) ?_
  generalize hg2 : f_J6_bitCount_0f7a4 M a1 = r2 at *
  refine g_k 4 (pc' := (if z_cmp .ne (r1 - r2) ((0 : Int32)) = true then 20 else 14)) (LI' := [some (.int a0), some (.int a1), some (.int (r1 - r2))]) (LL' := []) (st' := []) (S' := (z_SH, M, L)) (fun nq hq => And.intro rfl (And.intro rfl (And.intro rfl (And.intro rfl hq)))) ?_
  refine g_ne (fun hc1 => ?_) (fun hc1 => ?_)
  · refine g_k 2 (pc' := (if z_cmp .ge (r1 - r2) ((0 : Int32)) = true then 28 else 24)) (LI' := [some (.int a0), some (.int a1), some (.int (r1 - r2))]) (LL' := []) (st' := []) (S' := (z_SH, M, L)) (fun nq hq => And.intro rfl (And.intro rfl hq)) ?_
    refine g_ge (fun hc2 => ?_) (fun hc2 => ?_)
    · refine g_k 1 (pc' := 29) (LI' := [some (.int a0), some (.int a1), some (.int (r1 - r2))]) (LL' := []) (st' := [.int a1]) (S' := (z_SH, M, L)) (fun nq hq => And.intro rfl hq) ?_
      exact ⟨1, And.intro rfl (⟨(by subst hg2; subst hg1; unfold f_X0_lesserSet; (first | rw [if_pos hc1] | skip); (first | rw [if_pos hc2] | skip); try rfl), rfl⟩)⟩
    · refine g_k 2 (pc' := 29) (LI' := [some (.int a0), some (.int a1), some (.int (r1 - r2))]) (LL' := []) (st' := [.int a0]) (S' := (z_SH, M, L)) (fun nq hq => And.intro rfl (And.intro rfl hq)) ?_
      exact ⟨1, And.intro rfl (⟨(by subst hg2; subst hg1; unfold f_X0_lesserSet; (first | rw [if_pos hc1] | skip); (first | rw [if_neg hc2] | skip); try rfl), rfl⟩)⟩
  · refine g_k 3 (pc' := 19) (LI' := [some (.int a0), some (.int a1), some (.int (r1 - r2))]) (LL' := []) (st' := [.int (if a1 < a0 then a1 else a0)]) (S' := (z_SH, M, L)) (fun nq hq => And.intro rfl (And.intro rfl (And.intro rfl hq))) ?_
    exact ⟨1, And.intro rfl (⟨(by subst hg2; subst hg1; unfold f_X0_lesserSet; (first | rw [if_neg (not_not_intro hc1)] | skip); try rfl), rfl⟩)⟩
def e_X0_freedOf_20_4_c2 (M : Nat → Nat → Int32) (m : Int32) (i : Int32) (c2 : Int32) : Int32 := c2 ||| (f_X0_lesserSet M (f_X0_setSaid_20 M m i ((1 : Int32))) (f_X0_setSaid_20 M m i ((0 : Int32))))
def qi_X0_freedOf_20_4 (M : Nat → Nat → Int32) (m : Int32) (i : Int32) (c2 : Int32) : Prop := (q_X0_setSaid_20 M m i ((1 : Int32))) ∧ (q_X0_setSaid_20 M m i ((0 : Int32))) ∧ True
theorem it_X0_freedOf_20_4 {d : Nat} {L : Nat → Nat → Int64} {Q : Option Value → z_St → Prop} (M : Nat → Nat → Int32) (m : Int32) (i : Int32) (c2 : Int32) (hc : ¬ ((8 : Int32) ≤ i)) (p1 : qi_X0_freedOf_20_4 M m i c2) (h : z_G (d + 2) tb_X0_freedOf 4 [some (.ref 20), some (.int m), some (.int (e_X0_freedOf_20_4_c2 M m i c2)), some (.int (i + 1))] [] [] (z_SH, M, L) Q) : z_G (d + 2) tb_X0_freedOf 4 [some (.ref 20), some (.int m), some (.int c2), some (.int i)] [] [] (z_SH, M, L) Q := by
  unfold qi_X0_freedOf_20_4 at p1
  obtain ⟨p1, p2, -⟩ := p1
  refine g_k 3 (pc' := (if z_cmp .ge i ((8 : Int32)) = true then 36 else 10)) (LI' := [some (.ref 20), some (.int m), some (.int c2), some (.int i)]) (LL' := []) (st' := []) (S' := (z_SH, M, L)) (fun nq hq => And.intro rfl (And.intro rfl (And.intro rfl hq))) ?_
  refine g_ge (fun hc1 => ?_) (fun hc1 => ?_)
  · exact absurd hc1 hc
  · refine g_k 5 (pc' := 15) (LI' := [some (.ref 20), some (.int m), some (.int c2), some (.int i)]) (LL' := []) (st' := [.int 1, .int i, .int m, .ref 20, .int c2]) (S' := (z_SH, M, L)) (fun nq hq => And.intro rfl (And.intro rfl (And.intro rfl (And.intro rfl (And.intro rfl hq))))) ?_
    refine g_k 1 (pc' := 18) (LI' := [some (.ref 20), some (.int m), some (.int c2), some (.int i)]) (LL' := []) (st' := [.int (f_X0_setSaid_20 M m i ((1 : Int32))), .int c2]) (S' := (z_SH, M, L)) (fun nq hq => And.intro rfl (Exists.intro _ (Exists.intro _ (And.intro (c_X0_setSaid_20 (d := d) M m i ((1 : Int32)) p1) (And.intro (z_fit_same _ _ _ _ _ _ _ _) hq))))) ?_
    generalize hg1 : f_X0_setSaid_20 M m i ((1 : Int32)) = r1 at *
    refine g_k 4 (pc' := 22) (LI' := [some (.ref 20), some (.int m), some (.int c2), some (.int i)]) (LL' := []) (st' := [.int 0, .int i, .int m, .ref 20, .int r1, .int c2]) (S' := (z_SH, M, L)) (fun nq hq => And.intro rfl (And.intro rfl (And.intro rfl (And.intro rfl hq)))) ?_
    refine g_k 1 (pc' := 25) (LI' := [some (.ref 20), some (.int m), some (.int c2), some (.int i)]) (LL' := []) (st' := [.int (f_X0_setSaid_20 M m i ((0 : Int32))), .int r1, .int c2]) (S' := (z_SH, M, L)) (fun nq hq => And.intro rfl (Exists.intro _ (Exists.intro _ (And.intro (c_X0_setSaid_20 (d := d) M m i ((0 : Int32)) p2) (And.intro (z_fit_same _ _ _ _ _ _ _ _) hq))))) ?_
    generalize hg2 : f_X0_setSaid_20 M m i ((0 : Int32)) = r2 at *
    refine g_k 1 (pc' := 28) (LI' := [some (.ref 20), some (.int m), some (.int c2), some (.int i)]) (LL' := []) (st' := [.int (f_X0_lesserSet M r1 r2), .int c2]) (S' := (z_SH, M, L)) (fun nq hq => And.intro rfl (Exists.intro _ (Exists.intro _ (And.intro (c_X0_lesserSet (d := d) M r1 r2) (And.intro (z_fit_same _ _ _ _ _ _ _ _) hq))))) ?_
    generalize hg3 : f_X0_lesserSet M r1 r2 = r3 at *
    refine g_k 4 (pc' := 4) (LI' := [some (.ref 20), some (.int m), some (.int (c2 ||| r3)), some (.int (i + 1))]) (LL' := []) (st' := []) (S' := (z_SH, M, L)) (fun nq hq => And.intro rfl (And.intro rfl (And.intro rfl (And.intro rfl hq)))) ?_
    (subst hg3; subst hg2; subst hg1; unfold e_X0_freedOf_20_4_c2 at h; exact h )
def s_X0_freedOf_20_4 (M : Nat → Nat → Int32) (m : Int32) (c2 : Int32) (n : Nat) : Int32 := Nat.rec (motive := fun _ => Int32) (c2) (fun k r => (e_X0_freedOf_20_4_c2 M m (nI k) r)) n
theorem l_X0_freedOf_20_4 {d : Nat} {L : Nat → Nat → Int64} {Q : Option Value → z_St → Prop} (M : Nat → Nat → Int32) (m : Int32) (c2 : Int32) (n : Nat) : (∀ k, k < n → ¬ ((8 : Int32) ≤ (nI k))) → (∀ k, k < n → qi_X0_freedOf_20_4 M m (nI k) ((s_X0_freedOf_20_4 M m c2 k))) → (z_G (d + 2) tb_X0_freedOf 4 [some (.ref 20), some (.int m), some (.int ((s_X0_freedOf_20_4 M m c2 n))), some (.int (nI n))] [] [] (z_SH, M, L) Q) → z_G (d + 2) tb_X0_freedOf 4 [some (.ref 20), some (.int m), some (.int c2), some (.int (nI 0))] [] [] (z_SH, M, L) Q := by
  induction n with
  | zero =>
    intro hc p1 h
    exact h
  | succ n ih =>
    intro hc p1 h
    refine ih (fun k hk => hc k (by omega)) (fun k hk => p1 k (by omega)) ?_
    have hcn := hc n (by omega)
    have p1n := p1 n (by omega)
    clear ih hc p1
    have hs : s_X0_freedOf_20_4 M m c2 (n + 1) = (e_X0_freedOf_20_4_c2 M m (nI n) ((s_X0_freedOf_20_4 M m c2 n))) := rfl
    rw [hs] at h
    clear hs
    generalize s_X0_freedOf_20_4 M m c2 n = sg at *
    refine it_X0_freedOf_20_4 M m (nI n) sg hcn p1n ?_
    rw [nI_1]
    exact h
def f_X0_freedOf_20 (M : Nat → Nat → Int32) (m : Int32) : Int32 := ((s_X0_freedOf_20_4 M m ((0 : Int32)) 8))
def q_X0_freedOf_20 (M : Nat → Nat → Int32) (m : Int32) : Prop := (∀ k24, k24 < 8 → qi_X0_freedOf_20_4 M m (nI k24) ((s_X0_freedOf_20_4 M m ((0 : Int32)) k24))) ∧ True
theorem c_X0_freedOf_20 {d : Nat} {L : Nat → Nat → Int64} (M : Nat → Nat → Int32) (m : Int32)  (hpre : q_X0_freedOf_20 M m) : z_C (d + 3) 9 [.ref 20, .int m] (z_SH, M, L) (some (.int (f_X0_freedOf_20 M m))) (z_SH, M, L) := by
  unfold q_X0_freedOf_20 at hpre
  obtain ⟨p1, -⟩ := hpre
  refine z_mkA (tb := tb_X0_freedOf) rfl (by decide) rfl rfl rfl ?_
  refine g_k 4 (pc' := 4) (LI' := [some (.ref 20), some (.int m), some (.int 0), some (.int 0)]) (LL' := []) (st' := []) (S' := (z_SH, M, L)) (fun nq hq => And.intro rfl (And.intro rfl (And.intro rfl (And.intro rfl hq)))) ?_
  refine l_X0_freedOf_20_4 (d := d) M m ((0 : Int32)) 8 (fun k hk => z_lpc hk) p1 ?_ 
  have hx1 : (8 : Int32) ≤ nI 8 := z_lpe
  generalize hg1 : (s_X0_freedOf_20_4 M m ((0 : Int32)) 8) = r1 at *
  generalize hg2 : nI 8 = r2 at *
  refine g_k 3 (pc' := (if z_cmp .ge r2 ((8 : Int32)) = true then 36 else 10)) (LI' := [some (.ref 20), some (.int m), some (.int r1), some (.int r2)]) (LL' := []) (st' := []) (S' := (z_SH, M, L)) (fun nq hq => And.intro rfl (And.intro rfl (And.intro rfl hq))) ?_
  refine g_ge (fun hc1 => ?_) (fun hc1 => absurd (hx1) hc1)
  refine g_k 1 (pc' := 37) (LI' := [some (.ref 20), some (.int m), some (.int r1), some (.int r2)]) (LL' := []) (st' := [.int r1]) (S' := (z_SH, M, L)) (fun nq hq => And.intro rfl hq) ?_
  exact ⟨1, And.intro rfl (⟨(by subst hg2; subst hg1; rfl), rfl⟩)⟩
def g_X0_copyFrom_20_7 (M : Nat → Nat → Int32)  : Nat → Nat → Int32 := z_row (z_row (z_row (z_row (z_row (z_row (z_row (z_row (z_row (z_row (z_row (z_row M 20 (upd (M 20) 1 (M 7 1))) 20 (upd (upd (M 20) 1 (M 7 1)) 8 (M 7 8))) 20 (upd (upd (upd (M 20) 1 (M 7 1)) 8 (M 7 8)) 9 (M 7 9))) 20 (upd (upd (upd (upd (M 20) 1 (M 7 1)) 8 (M 7 8)) 9 (M 7 9)) 10 (M 7 10))) 20 (upd (upd (upd (upd (upd (M 20) 1 (M 7 1)) 8 (M 7 8)) 9 (M 7 9)) 10 (M 7 10)) 11 (M 7 11))) 21 (va_cpy (M 8) (M 21) 0 0 6)) 22 (va_cpy (M 9) (M 22) 0 0 12)) 23 (va_cpy (M 10) (M 23) 0 0 12)) 24 (va_cpy (M 11) (M 24) 0 0 12)) 25 (va_cpy (M 12) (M 25) 0 0 12)) 26 (va_cpy (M 13) (M 26) 0 0 12)) 27 (va_cpy (M 14) (M 27) 0 0 12)
theorem fr_g_X0_copyFrom_20_7 (M : Nat → Nat → Int32)  (c : Nat) (h20 : c ≠ 20) (h21 : c ≠ 21) (h22 : c ≠ 22) (h23 : c ≠ 23) (h24 : c ≠ 24) (h25 : c ≠ 25) (h26 : c ≠ 26) (h27 : c ≠ 27) : g_X0_copyFrom_20_7 M c = M c := by
  unfold g_X0_copyFrom_20_7
  repeat' split
  all_goals simp only [z_row_ne h20, z_row_ne h21, z_row_ne h22, z_row_ne h23, z_row_ne h24, z_row_ne h25, z_row_ne h26, z_row_ne h27]
theorem c_X0_copyFrom_20_7 {d : Nat} {L : Nat → Nat → Int64} (M : Nat → Nat → Int32)   : z_C (d + 2) 2 [.ref 20, .ref 7] (z_SH, M, L) none (z_SH, g_X0_copyFrom_20_7 M, L) := by
  refine z_mkA (tb := tb_X0_copyFrom) rfl (by decide) rfl rfl rfl ?_
  refine g_k 9 (pc' := 17) (LI' := [some (.ref 20), some (.ref 7)]) (LL' := []) (st' := [.ref 20]) (S' := (z_SH, z_row (z_row M 20 (upd (M 20) 1 (M 7 1))) 20 (upd (upd (M 20) 1 (M 7 1)) 8 (M 7 8)), L)) (fun nq hq => And.intro rfl (And.intro rfl (And.intro rfl (And.intro rfl (And.intro rfl (And.intro rfl (And.intro rfl (And.intro rfl (And.intro rfl hq))))))))) ?_
  refine g_k 9 (pc' := 34) (LI' := [some (.ref 20), some (.ref 7)]) (LL' := []) (st' := [.ref 7, .ref 20]) (S' := (z_SH, z_row (z_row (z_row (z_row M 20 (upd (M 20) 1 (M 7 1))) 20 (upd (upd (M 20) 1 (M 7 1)) 8 (M 7 8))) 20 (upd (upd (upd (M 20) 1 (M 7 1)) 8 (M 7 8)) 9 (M 7 9))) 20 (upd (upd (upd (upd (M 20) 1 (M 7 1)) 8 (M 7 8)) 9 (M 7 9)) 10 (M 7 10)), L)) (fun nq hq => And.intro rfl (And.intro rfl (And.intro rfl (And.intro rfl (And.intro rfl (And.intro rfl (And.intro rfl (And.intro rfl (And.intro rfl hq))))))))) ?_
  refine g_k 9 (pc' := 52) (LI' := [some (.ref 20), some (.ref 7)]) (LL' := []) (st' := [.int 6, .int 0, .ref 21, .int 0, .ref 8]) (S' := (z_SH, z_row (z_row (z_row (z_row (z_row M 20 (upd (M 20) 1 (M 7 1))) 20 (upd (upd (M 20) 1 (M 7 1)) 8 (M 7 8))) 20 (upd (upd (upd (M 20) 1 (M 7 1)) 8 (M 7 8)) 9 (M 7 9))) 20 (upd (upd (upd (upd (M 20) 1 (M 7 1)) 8 (M 7 8)) 9 (M 7 9)) 10 (M 7 10))) 20 (upd (upd (upd (upd (upd (M 20) 1 (M 7 1)) 8 (M 7 8)) 9 (M 7 9)) 10 (M 7 10)) 11 (M 7 11)), L)) (fun nq hq => And.intro rfl (And.intro rfl (And.intro rfl (And.intro rfl (And.intro rfl (And.intro rfl (And.intro rfl (And.intro rfl (And.intro rfl hq))))))))) ?_
  refine g_k 9 (pc' := 70) (LI' := [some (.ref 20), some (.ref 7)]) (LL' := []) (st' := []) (S' := (z_SH, z_row (z_row (z_row (z_row (z_row (z_row (z_row M 20 (upd (M 20) 1 (M 7 1))) 20 (upd (upd (M 20) 1 (M 7 1)) 8 (M 7 8))) 20 (upd (upd (upd (M 20) 1 (M 7 1)) 8 (M 7 8)) 9 (M 7 9))) 20 (upd (upd (upd (upd (M 20) 1 (M 7 1)) 8 (M 7 8)) 9 (M 7 9)) 10 (M 7 10))) 20 (upd (upd (upd (upd (upd (M 20) 1 (M 7 1)) 8 (M 7 8)) 9 (M 7 9)) 10 (M 7 10)) 11 (M 7 11))) 21 (va_cpy (M 8) (M 21) 0 0 6)) 22 (va_cpy (M 9) (M 22) 0 0 12), L)) (fun nq hq => And.intro rfl (And.intro rfl (And.intro rfl (And.intro rfl (And.intro rfl (And.intro rfl (And.intro rfl (And.intro rfl (And.intro rfl hq))))))))) ?_
  refine g_k 9 (pc' := 86) (LI' := [some (.ref 20), some (.ref 7)]) (LL' := []) (st' := [.ref 7]) (S' := (z_SH, z_row (z_row (z_row (z_row (z_row (z_row (z_row (z_row M 20 (upd (M 20) 1 (M 7 1))) 20 (upd (upd (M 20) 1 (M 7 1)) 8 (M 7 8))) 20 (upd (upd (upd (M 20) 1 (M 7 1)) 8 (M 7 8)) 9 (M 7 9))) 20 (upd (upd (upd (upd (M 20) 1 (M 7 1)) 8 (M 7 8)) 9 (M 7 9)) 10 (M 7 10))) 20 (upd (upd (upd (upd (upd (M 20) 1 (M 7 1)) 8 (M 7 8)) 9 (M 7 9)) 10 (M 7 10)) 11 (M 7 11))) 21 (va_cpy (M 8) (M 21) 0 0 6)) 22 (va_cpy (M 9) (M 22) 0 0 12)) 23 (va_cpy (M 10) (M 23) 0 0 12), L)) (fun nq hq => And.intro rfl (And.intro rfl (And.intro rfl (And.intro rfl (And.intro rfl (And.intro rfl (And.intro rfl (And.intro rfl (And.intro rfl hq))))))))) ?_
  refine g_k 9 (pc' := 104) (LI' := [some (.ref 20), some (.ref 7)]) (LL' := []) (st' := [.ref 12]) (S' := (z_SH, z_row (z_row (z_row (z_row (z_row (z_row (z_row (z_row (z_row M 20 (upd (M 20) 1 (M 7 1))) 20 (upd (upd (M 20) 1 (M 7 1)) 8 (M 7 8))) 20 (upd (upd (upd (M 20) 1 (M 7 1)) 8 (M 7 8)) 9 (M 7 9))) 20 (upd (upd (upd (upd (M 20) 1 (M 7 1)) 8 (M 7 8)) 9 (M 7 9)) 10 (M 7 10))) 20 (upd (upd (upd (upd (upd (M 20) 1 (M 7 1)) 8 (M 7 8)) 9 (M 7 9)) 10 (M 7 10)) 11 (M 7 11))) 21 (va_cpy (M 8) (M 21) 0 0 6)) 22 (va_cpy (M 9) (M 22) 0 0 12)) 23 (va_cpy (M 10) (M 23) 0 0 12)) 24 (va_cpy (M 11) (M 24) 0 0 12), L)) (fun nq hq => And.intro rfl (And.intro rfl (And.intro rfl (And.intro rfl (And.intro rfl (And.intro rfl (And.intro rfl (And.intro rfl (And.intro rfl hq))))))))) ?_
  refine g_k 9 (pc' := 120) (LI' := [some (.ref 20), some (.ref 7)]) (LL' := []) (st' := [.int 0, .ref 13]) (S' := (z_SH, z_row (z_row (z_row (z_row (z_row (z_row (z_row (z_row (z_row (z_row M 20 (upd (M 20) 1 (M 7 1))) 20 (upd (upd (M 20) 1 (M 7 1)) 8 (M 7 8))) 20 (upd (upd (upd (M 20) 1 (M 7 1)) 8 (M 7 8)) 9 (M 7 9))) 20 (upd (upd (upd (upd (M 20) 1 (M 7 1)) 8 (M 7 8)) 9 (M 7 9)) 10 (M 7 10))) 20 (upd (upd (upd (upd (upd (M 20) 1 (M 7 1)) 8 (M 7 8)) 9 (M 7 9)) 10 (M 7 10)) 11 (M 7 11))) 21 (va_cpy (M 8) (M 21) 0 0 6)) 22 (va_cpy (M 9) (M 22) 0 0 12)) 23 (va_cpy (M 10) (M 23) 0 0 12)) 24 (va_cpy (M 11) (M 24) 0 0 12)) 25 (va_cpy (M 12) (M 25) 0 0 12), L)) (fun nq hq => And.intro rfl (And.intro rfl (And.intro rfl (And.intro rfl (And.intro rfl (And.intro rfl (And.intro rfl (And.intro rfl (And.intro rfl hq))))))))) ?_
  refine g_k 9 (pc' := 136) (LI' := [some (.ref 20), some (.ref 7)]) (LL' := []) (st' := [.ref 20, .int 0, .ref 14]) (S' := (z_SH, z_row (z_row (z_row (z_row (z_row (z_row (z_row (z_row (z_row (z_row (z_row M 20 (upd (M 20) 1 (M 7 1))) 20 (upd (upd (M 20) 1 (M 7 1)) 8 (M 7 8))) 20 (upd (upd (upd (M 20) 1 (M 7 1)) 8 (M 7 8)) 9 (M 7 9))) 20 (upd (upd (upd (upd (M 20) 1 (M 7 1)) 8 (M 7 8)) 9 (M 7 9)) 10 (M 7 10))) 20 (upd (upd (upd (upd (upd (M 20) 1 (M 7 1)) 8 (M 7 8)) 9 (M 7 9)) 10 (M 7 10)) 11 (M 7 11))) 21 (va_cpy (M 8) (M 21) 0 0 6)) 22 (va_cpy (M 9) (M 22) 0 0 12)) 23 (va_cpy (M 10) (M 23) 0 0 12)) 24 (va_cpy (M 11) (M 24) 0 0 12)) 25 (va_cpy (M 12) (M 25) 0 0 12)) 26 (va_cpy (M 13) (M 26) 0 0 12), L)) (fun nq hq => And.intro rfl (And.intro rfl (And.intro rfl (And.intro rfl (And.intro rfl (And.intro rfl (And.intro rfl (And.intro rfl (And.intro rfl hq))))))))) ?_
  refine g_k 4 (pc' := 145) (LI' := [some (.ref 20), some (.ref 7)]) (LL' := []) (st' := []) (S' := (z_SH, z_row (z_row (z_row (z_row (z_row (z_row (z_row (z_row (z_row (z_row (z_row (z_row M 20 (upd (M 20) 1 (M 7 1))) 20 (upd (upd (M 20) 1 (M 7 1)) 8 (M 7 8))) 20 (upd (upd (upd (M 20) 1 (M 7 1)) 8 (M 7 8)) 9 (M 7 9))) 20 (upd (upd (upd (upd (M 20) 1 (M 7 1)) 8 (M 7 8)) 9 (M 7 9)) 10 (M 7 10))) 20 (upd (upd (upd (upd (upd (M 20) 1 (M 7 1)) 8 (M 7 8)) 9 (M 7 9)) 10 (M 7 10)) 11 (M 7 11))) 21 (va_cpy (M 8) (M 21) 0 0 6)) 22 (va_cpy (M 9) (M 22) 0 0 12)) 23 (va_cpy (M 10) (M 23) 0 0 12)) 24 (va_cpy (M 11) (M 24) 0 0 12)) 25 (va_cpy (M 12) (M 25) 0 0 12)) 26 (va_cpy (M 13) (M 26) 0 0 12)) 27 (va_cpy (M 14) (M 27) 0 0 12), L)) (fun nq hq => And.intro rfl (And.intro rfl (And.intro rfl (And.intro rfl hq)))) ?_
  exact ⟨1, And.intro rfl (⟨rfl, rfl⟩)⟩
def g_X0_copyFrom_34_20 (M : Nat → Nat → Int32)  : Nat → Nat → Int32 := z_row (z_row (z_row (z_row (z_row (z_row (z_row (z_row (z_row (z_row (z_row (z_row M 34 (upd (M 34) 1 (M 20 1))) 34 (upd (upd (M 34) 1 (M 20 1)) 8 (M 20 8))) 34 (upd (upd (upd (M 34) 1 (M 20 1)) 8 (M 20 8)) 9 (M 20 9))) 34 (upd (upd (upd (upd (M 34) 1 (M 20 1)) 8 (M 20 8)) 9 (M 20 9)) 10 (M 20 10))) 34 (upd (upd (upd (upd (upd (M 34) 1 (M 20 1)) 8 (M 20 8)) 9 (M 20 9)) 10 (M 20 10)) 11 (M 20 11))) 35 (va_cpy (M 21) (M 35) 0 0 6)) 36 (va_cpy (M 22) (M 36) 0 0 12)) 37 (va_cpy (M 23) (M 37) 0 0 12)) 38 (va_cpy (M 24) (M 38) 0 0 12)) 39 (va_cpy (M 25) (M 39) 0 0 12)) 40 (va_cpy (M 26) (M 40) 0 0 12)) 41 (va_cpy (M 27) (M 41) 0 0 12)
theorem fr_g_X0_copyFrom_34_20 (M : Nat → Nat → Int32)  (c : Nat) (h34 : c ≠ 34) (h35 : c ≠ 35) (h36 : c ≠ 36) (h37 : c ≠ 37) (h38 : c ≠ 38) (h39 : c ≠ 39) (h40 : c ≠ 40) (h41 : c ≠ 41) : g_X0_copyFrom_34_20 M c = M c := by
  unfold g_X0_copyFrom_34_20
  repeat' split
  all_goals simp only [z_row_ne h34, z_row_ne h35, z_row_ne h36, z_row_ne h37, z_row_ne h38, z_row_ne h39, z_row_ne h40, z_row_ne h41]
theorem c_X0_copyFrom_34_20 {d : Nat} {L : Nat → Nat → Int64} (M : Nat → Nat → Int32)   : z_C (d + 2) 2 [.ref 34, .ref 20] (z_SH, M, L) none (z_SH, g_X0_copyFrom_34_20 M, L) := by
  refine z_mkA (tb := tb_X0_copyFrom) rfl (by decide) rfl rfl rfl ?_
  refine g_k 9 (pc' := 17) (LI' := [some (.ref 34), some (.ref 20)]) (LL' := []) (st' := [.ref 34]) (S' := (z_SH, z_row (z_row M 34 (upd (M 34) 1 (M 20 1))) 34 (upd (upd (M 34) 1 (M 20 1)) 8 (M 20 8)), L)) (fun nq hq => And.intro rfl (And.intro rfl (And.intro rfl (And.intro rfl (And.intro rfl (And.intro rfl (And.intro rfl (And.intro rfl (And.intro rfl hq))))))))) ?_
  refine g_k 9 (pc' := 34) (LI' := [some (.ref 34), some (.ref 20)]) (LL' := []) (st' := [.ref 20, .ref 34]) (S' := (z_SH, z_row (z_row (z_row (z_row M 34 (upd (M 34) 1 (M 20 1))) 34 (upd (upd (M 34) 1 (M 20 1)) 8 (M 20 8))) 34 (upd (upd (upd (M 34) 1 (M 20 1)) 8 (M 20 8)) 9 (M 20 9))) 34 (upd (upd (upd (upd (M 34) 1 (M 20 1)) 8 (M 20 8)) 9 (M 20 9)) 10 (M 20 10)), L)) (fun nq hq => And.intro rfl (And.intro rfl (And.intro rfl (And.intro rfl (And.intro rfl (And.intro rfl (And.intro rfl (And.intro rfl (And.intro rfl hq))))))))) ?_
  refine g_k 9 (pc' := 52) (LI' := [some (.ref 34), some (.ref 20)]) (LL' := []) (st' := [.int 6, .int 0, .ref 35, .int 0, .ref 21]) (S' := (z_SH, z_row (z_row (z_row (z_row (z_row M 34 (upd (M 34) 1 (M 20 1))) 34 (upd (upd (M 34) 1 (M 20 1)) 8 (M 20 8))) 34 (upd (upd (upd (M 34) 1 (M 20 1)) 8 (M 20 8)) 9 (M 20 9))) 34 (upd (upd (upd (upd (M 34) 1 (M 20 1)) 8 (M 20 8)) 9 (M 20 9)) 10 (M 20 10))) 34 (upd (upd (upd (upd (upd (M 34) 1 (M 20 1)) 8 (M 20 8)) 9 (M 20 9)) 10 (M 20 10)) 11 (M 20 11)), L)) (fun nq hq => And.intro rfl (And.intro rfl (And.intro rfl (And.intro rfl (And.intro rfl (And.intro rfl (And.intro rfl (And.intro rfl (And.intro rfl hq))))))))) ?_
  refine g_k 9 (pc' := 70) (LI' := [some (.ref 34), some (.ref 20)]) (LL' := []) (st' := []) (S' := (z_SH, z_row (z_row (z_row (z_row (z_row (z_row (z_row M 34 (upd (M 34) 1 (M 20 1))) 34 (upd (upd (M 34) 1 (M 20 1)) 8 (M 20 8))) 34 (upd (upd (upd (M 34) 1 (M 20 1)) 8 (M 20 8)) 9 (M 20 9))) 34 (upd (upd (upd (upd (M 34) 1 (M 20 1)) 8 (M 20 8)) 9 (M 20 9)) 10 (M 20 10))) 34 (upd (upd (upd (upd (upd (M 34) 1 (M 20 1)) 8 (M 20 8)) 9 (M 20 9)) 10 (M 20 10)) 11 (M 20 11))) 35 (va_cpy (M 21) (M 35) 0 0 6)) 36 (va_cpy (M 22) (M 36) 0 0 12), L)) (fun nq hq => And.intro rfl (And.intro rfl (And.intro rfl (And.intro rfl (And.intro rfl (And.intro rfl (And.intro rfl (And.intro rfl (And.intro rfl hq))))))))) ?_
  refine g_k 9 (pc' := 86) (LI' := [some (.ref 34), some (.ref 20)]) (LL' := []) (st' := [.ref 20]) (S' := (z_SH, z_row (z_row (z_row (z_row (z_row (z_row (z_row (z_row M 34 (upd (M 34) 1 (M 20 1))) 34 (upd (upd (M 34) 1 (M 20 1)) 8 (M 20 8))) 34 (upd (upd (upd (M 34) 1 (M 20 1)) 8 (M 20 8)) 9 (M 20 9))) 34 (upd (upd (upd (upd (M 34) 1 (M 20 1)) 8 (M 20 8)) 9 (M 20 9)) 10 (M 20 10))) 34 (upd (upd (upd (upd (upd (M 34) 1 (M 20 1)) 8 (M 20 8)) 9 (M 20 9)) 10 (M 20 10)) 11 (M 20 11))) 35 (va_cpy (M 21) (M 35) 0 0 6)) 36 (va_cpy (M 22) (M 36) 0 0 12)) 37 (va_cpy (M 23) (M 37) 0 0 12), L)) (fun nq hq => And.intro rfl (And.intro rfl (And.intro rfl (And.intro rfl (And.intro rfl (And.intro rfl (And.intro rfl (And.intro rfl (And.intro rfl hq))))))))) ?_
  refine g_k 9 (pc' := 104) (LI' := [some (.ref 34), some (.ref 20)]) (LL' := []) (st' := [.ref 25]) (S' := (z_SH, z_row (z_row (z_row (z_row (z_row (z_row (z_row (z_row (z_row M 34 (upd (M 34) 1 (M 20 1))) 34 (upd (upd (M 34) 1 (M 20 1)) 8 (M 20 8))) 34 (upd (upd (upd (M 34) 1 (M 20 1)) 8 (M 20 8)) 9 (M 20 9))) 34 (upd (upd (upd (upd (M 34) 1 (M 20 1)) 8 (M 20 8)) 9 (M 20 9)) 10 (M 20 10))) 34 (upd (upd (upd (upd (upd (M 34) 1 (M 20 1)) 8 (M 20 8)) 9 (M 20 9)) 10 (M 20 10)) 11 (M 20 11))) 35 (va_cpy (M 21) (M 35) 0 0 6)) 36 (va_cpy (M 22) (M 36) 0 0 12)) 37 (va_cpy (M 23) (M 37) 0 0 12)) 38 (va_cpy (M 24) (M 38) 0 0 12), L)) (fun nq hq => And.intro rfl (And.intro rfl (And.intro rfl (And.intro rfl (And.intro rfl (And.intro rfl (And.intro rfl (And.intro rfl (And.intro rfl hq))))))))) ?_
  refine g_k 9 (pc' := 120) (LI' := [some (.ref 34), some (.ref 20)]) (LL' := []) (st' := [.int 0, .ref 26]) (S' := (z_SH, z_row (z_row (z_row (z_row (z_row (z_row (z_row (z_row (z_row (z_row M 34 (upd (M 34) 1 (M 20 1))) 34 (upd (upd (M 34) 1 (M 20 1)) 8 (M 20 8))) 34 (upd (upd (upd (M 34) 1 (M 20 1)) 8 (M 20 8)) 9 (M 20 9))) 34 (upd (upd (upd (upd (M 34) 1 (M 20 1)) 8 (M 20 8)) 9 (M 20 9)) 10 (M 20 10))) 34 (upd (upd (upd (upd (upd (M 34) 1 (M 20 1)) 8 (M 20 8)) 9 (M 20 9)) 10 (M 20 10)) 11 (M 20 11))) 35 (va_cpy (M 21) (M 35) 0 0 6)) 36 (va_cpy (M 22) (M 36) 0 0 12)) 37 (va_cpy (M 23) (M 37) 0 0 12)) 38 (va_cpy (M 24) (M 38) 0 0 12)) 39 (va_cpy (M 25) (M 39) 0 0 12), L)) (fun nq hq => And.intro rfl (And.intro rfl (And.intro rfl (And.intro rfl (And.intro rfl (And.intro rfl (And.intro rfl (And.intro rfl (And.intro rfl hq))))))))) ?_
  refine g_k 9 (pc' := 136) (LI' := [some (.ref 34), some (.ref 20)]) (LL' := []) (st' := [.ref 34, .int 0, .ref 27]) (S' := (z_SH, z_row (z_row (z_row (z_row (z_row (z_row (z_row (z_row (z_row (z_row (z_row M 34 (upd (M 34) 1 (M 20 1))) 34 (upd (upd (M 34) 1 (M 20 1)) 8 (M 20 8))) 34 (upd (upd (upd (M 34) 1 (M 20 1)) 8 (M 20 8)) 9 (M 20 9))) 34 (upd (upd (upd (upd (M 34) 1 (M 20 1)) 8 (M 20 8)) 9 (M 20 9)) 10 (M 20 10))) 34 (upd (upd (upd (upd (upd (M 34) 1 (M 20 1)) 8 (M 20 8)) 9 (M 20 9)) 10 (M 20 10)) 11 (M 20 11))) 35 (va_cpy (M 21) (M 35) 0 0 6)) 36 (va_cpy (M 22) (M 36) 0 0 12)) 37 (va_cpy (M 23) (M 37) 0 0 12)) 38 (va_cpy (M 24) (M 38) 0 0 12)) 39 (va_cpy (M 25) (M 39) 0 0 12)) 40 (va_cpy (M 26) (M 40) 0 0 12), L)) (fun nq hq => And.intro rfl (And.intro rfl (And.intro rfl (And.intro rfl (And.intro rfl (And.intro rfl (And.intro rfl (And.intro rfl (And.intro rfl hq))))))))) ?_
  refine g_k 4 (pc' := 145) (LI' := [some (.ref 34), some (.ref 20)]) (LL' := []) (st' := []) (S' := (z_SH, z_row (z_row (z_row (z_row (z_row (z_row (z_row (z_row (z_row (z_row (z_row (z_row M 34 (upd (M 34) 1 (M 20 1))) 34 (upd (upd (M 34) 1 (M 20 1)) 8 (M 20 8))) 34 (upd (upd (upd (M 34) 1 (M 20 1)) 8 (M 20 8)) 9 (M 20 9))) 34 (upd (upd (upd (upd (M 34) 1 (M 20 1)) 8 (M 20 8)) 9 (M 20 9)) 10 (M 20 10))) 34 (upd (upd (upd (upd (upd (M 34) 1 (M 20 1)) 8 (M 20 8)) 9 (M 20 9)) 10 (M 20 10)) 11 (M 20 11))) 35 (va_cpy (M 21) (M 35) 0 0 6)) 36 (va_cpy (M 22) (M 36) 0 0 12)) 37 (va_cpy (M 23) (M 37) 0 0 12)) 38 (va_cpy (M 24) (M 38) 0 0 12)) 39 (va_cpy (M 25) (M 39) 0 0 12)) 40 (va_cpy (M 26) (M 40) 0 0 12)) 41 (va_cpy (M 27) (M 41) 0 0 12), L)) (fun nq hq => And.intro rfl (And.intro rfl (And.intro rfl (And.intro rfl hq)))) ?_
  exact ⟨1, And.intro rfl (⟨rfl, rfl⟩)⟩
