def t_X9_judge_268_2 (M : Nat → Nat → Int32)  (c1 : Int32) : Bool := if M 268 19 ≤ c1 then false else if (f_X9_goesOf_268_273 M (M 280 ((((3 : Int32)) * c1).toNatClampNeg)) (M 280 (((((3 : Int32)) * c1) + ((1 : Int32))).toNatClampNeg))) = M 280 (((((3 : Int32)) * c1) + ((2 : Int32))).toNatClampNeg) then true else false
def e_X9_judge_268_2_c1 (M : Nat → Nat → Int32)  (c1 : Int32) : Int32 := c1 + 1
def qi_X9_judge_268_2 (M : Nat → Nat → Int32)  (c1 : Int32) : Prop := (z_vin (((3 : Int32)) * c1) 60 = true) ∧ (z_vin ((((3 : Int32)) * c1) + ((1 : Int32))) 60 = true) ∧ (q_X9_goesOf_268_273 M (M 280 ((((3 : Int32)) * c1).toNatClampNeg)) (M 280 (((((3 : Int32)) * c1) + ((1 : Int32))).toNatClampNeg))) ∧ (z_vin ((((3 : Int32)) * c1) + ((2 : Int32))) 60 = true) ∧ True
theorem it_X9_judge_268_2 {d : Nat} {L : Nat → Nat → Int64} {Q : Option Value → z_St → Prop} (M : Nat → Nat → Int32)  (c1 : Int32) (ht : t_X9_judge_268_2 M c1 = true) (p1 : qi_X9_judge_268_2 M c1) (h : z_G (d + 4) tb_X9_judge 2 [some (.ref 268), some (.int (e_X9_judge_268_2_c1 M c1))] [] [] (z_SH, M, L) Q) : z_G (d + 4) tb_X9_judge 2 [some (.ref 268), some (.int c1)] [] [] (z_SH, M, L) Q := by
  unfold qi_X9_judge_268_2 at p1
  obtain ⟨p1, p2, p3, p4, -⟩ := p1
  refine g_k 4 (pc' := (if z_cmp .ge c1 (M 268 19) = true then 57 else 10)) (LI' := [some (.ref 268), some (.int c1)]) (LL' := []) (st' := []) (S' := (z_SH, M, L)) (fun nq hq => And.intro rfl (And.intro rfl (And.intro rfl (And.intro rfl hq)))) ?_
  refine g_ge (fun hc1 => ?_) (fun hc1 => ?_)
  · (exfalso; unfold t_X9_judge_268_2 at ht; (try simp only [if_pos hc1] at ht); exact Bool.noConfusion ht)
  · refine g_k 9 (pc' := 23) (LI' := [some (.ref 268), some (.int c1)]) (LL' := []) (st' := [.int (M 280 ((((3 : Int32)) * c1).toNatClampNeg)), .ref 273, .ref 268]) (S' := (z_SH, M, L)) (fun nq hq => And.intro rfl (And.intro rfl (And.intro rfl (And.intro rfl (And.intro rfl (And.intro rfl (And.intro rfl (And.intro rfl (And.intro p1 hq))))))))) ?_
    refine g_k 8 (pc' := 33) (LI' := [some (.ref 268), some (.int c1)]) (LL' := []) (st' := [.int (M 280 (((((3 : Int32)) * c1) + ((1 : Int32))).toNatClampNeg)), .int (M 280 ((((3 : Int32)) * c1).toNatClampNeg)), .ref 273, .ref 268]) (S' := (z_SH, M, L)) (fun nq hq => And.intro rfl (And.intro rfl (And.intro rfl (And.intro rfl (And.intro rfl (And.intro rfl (And.intro rfl (And.intro p2 hq)))))))) ?_
    refine g_k 1 (pc' := 36) (LI' := [some (.ref 268), some (.int c1)]) (LL' := []) (st' := [.int (f_X9_goesOf_268_273 M (M 280 ((((3 : Int32)) * c1).toNatClampNeg)) (M 280 (((((3 : Int32)) * c1) + ((1 : Int32))).toNatClampNeg)))]) (S' := (z_SH, M, L)) (fun nq hq => And.intro rfl (Exists.intro _ (Exists.intro _ (And.intro (c_X9_goesOf_268_273 (d := d) M (M 280 ((((3 : Int32)) * c1).toNatClampNeg)) (M 280 (((((3 : Int32)) * c1) + ((1 : Int32))).toNatClampNeg)) p3) (And.intro (z_fit_same _ _ _ _ _ _ _ _) hq))))) ?_
    generalize hg1 : f_X9_goesOf_268_273 M (M 280 ((((3 : Int32)) * c1).toNatClampNeg)) (M 280 (((((3 : Int32)) * c1) + ((1 : Int32))).toNatClampNeg)) = r1 at *
    refine g_k 9 (pc' := (if z_cmp .eq r1 (M 280 (((((3 : Int32)) * c1) + ((2 : Int32))).toNatClampNeg)) = true then 51 else 49)) (LI' := [some (.ref 268), some (.int c1)]) (LL' := []) (st' := []) (S' := (z_SH, M, L)) (fun nq hq => And.intro rfl (And.intro rfl (And.intro rfl (And.intro rfl (And.intro rfl (And.intro rfl (And.intro rfl (And.intro p4 (And.intro rfl hq))))))))) ?_
    refine g_eq (fun hc2 => ?_) (fun hc2 => ?_)
    · refine g_k 2 (pc' := 2) (LI' := [some (.ref 268), some (.int (c1 + 1))]) (LL' := []) (st' := []) (S' := (z_SH, M, L)) (fun nq hq => And.intro rfl (And.intro rfl hq)) ?_
      (clear ht; subst hg1; unfold e_X9_judge_268_2_c1 at h; (try simp only [if_neg hc1] at h); (try simp only [if_pos hc2] at h); exact h )
    · (exfalso; subst hg1; unfold t_X9_judge_268_2 at ht; (try simp only [if_neg hc1] at ht); (try simp only [if_neg hc2] at ht); exact Bool.noConfusion ht)
def s_X9_judge_268_2 (M : Nat → Nat → Int32)  (c1 : Int32) (n : Nat) : Int32 := Nat.rec (motive := fun _ => Int32) (c1) (fun _ r => (e_X9_judge_268_2_c1 M r)) n
def n_X9_judge_268_2 (M : Nat → Nat → Int32)  (c1 : Int32) : Nat := z_fst (fun k => t_X9_judge_268_2 M ((s_X9_judge_268_2 M c1 k))) 20
theorem n_X9_judge_268_2_t (M : Nat → Nat → Int32)  (c1 : Int32) : ∀ k, k < n_X9_judge_268_2 M c1 → t_X9_judge_268_2 M ((s_X9_judge_268_2 M c1 k)) = true := fun k hk => z_fst_t (p := (fun k => t_X9_judge_268_2 M ((s_X9_judge_268_2 M c1 k)))) (B := 20) hk
theorem n_X9_judge_268_2_f (M : Nat → Nat → Int32)  (c1 : Int32) (h : t_X9_judge_268_2 M ((s_X9_judge_268_2 M c1 20)) = false) : t_X9_judge_268_2 M ((s_X9_judge_268_2 M c1 ((n_X9_judge_268_2 M c1)))) = false := by
  have h2 := z_fst_f (p := (fun k => t_X9_judge_268_2 M ((s_X9_judge_268_2 M c1 k)))) (B := 20) h
  unfold n_X9_judge_268_2
  exact h2
theorem l_X9_judge_268_2 {d : Nat} {L : Nat → Nat → Int64} {Q : Option Value → z_St → Prop} (M : Nat → Nat → Int32)  (c1 : Int32) (n : Nat) : (∀ k, k < n → t_X9_judge_268_2 M ((s_X9_judge_268_2 M c1 k)) = true) → (∀ k, k < n → qi_X9_judge_268_2 M ((s_X9_judge_268_2 M c1 k))) → (z_G (d + 4) tb_X9_judge 2 [some (.ref 268), some (.int ((s_X9_judge_268_2 M c1 n)))] [] [] (z_SH, M, L) Q) → z_G (d + 4) tb_X9_judge 2 [some (.ref 268), some (.int c1)] [] [] (z_SH, M, L) Q := by
  induction n with
  | zero =>
    intro hc p1 h
    exact h
  | succ n ih =>
    intro hc p1 h
    refine ih (fun k hk => hc k (by omega)) (fun k hk => p1 k (by omega)) ?_
    have hcn := hc n (by omega)
    have p1n := p1 n (by omega)
    clear ih hc p1
    have hs : s_X9_judge_268_2 M c1 (n + 1) = (e_X9_judge_268_2_c1 M ((s_X9_judge_268_2 M c1 n))) := rfl
    rw [hs] at h
    clear hs
    generalize s_X9_judge_268_2 M c1 n = sg at *
    refine it_X9_judge_268_2 M  sg hcn p1n ?_
    exact h
def f_X9_judge_268 (M : Nat → Nat → Int32)  : Int32 := if M 268 19 ≤ ((s_X9_judge_268_2 M ((0 : Int32)) (n_X9_judge_268_2 M ((0 : Int32))))) then (-1 : Int32) else ((s_X9_judge_268_2 M ((0 : Int32)) (n_X9_judge_268_2 M ((0 : Int32)))))
def q_X9_judge_268 (M : Nat → Nat → Int32)  : Prop := (∀ k81, k81 < n_X9_judge_268_2 M ((0 : Int32)) → qi_X9_judge_268_2 M ((s_X9_judge_268_2 M ((0 : Int32)) k81))) ∧ (t_X9_judge_268_2 M ((s_X9_judge_268_2 M ((0 : Int32)) 20)) = false) ∧ (z_vin (((3 : Int32)) * ((s_X9_judge_268_2 M ((0 : Int32)) (n_X9_judge_268_2 M ((0 : Int32)))))) 60 = true) ∧ (z_vin ((((3 : Int32)) * ((s_X9_judge_268_2 M ((0 : Int32)) (n_X9_judge_268_2 M ((0 : Int32)))))) + ((1 : Int32))) 60 = true) ∧ (q_X9_goesOf_268_273 M (M 280 ((((3 : Int32)) * ((s_X9_judge_268_2 M ((0 : Int32)) (n_X9_judge_268_2 M ((0 : Int32)))))).toNatClampNeg)) (M 280 (((((3 : Int32)) * ((s_X9_judge_268_2 M ((0 : Int32)) (n_X9_judge_268_2 M ((0 : Int32)))))) + ((1 : Int32))).toNatClampNeg))) ∧ (z_vin ((((3 : Int32)) * ((s_X9_judge_268_2 M ((0 : Int32)) (n_X9_judge_268_2 M ((0 : Int32)))))) + ((2 : Int32))) 60 = true) ∧ True
theorem c_X9_judge_268 {d : Nat} {L : Nat → Nat → Int64} (M : Nat → Nat → Int32)  (hpre : q_X9_judge_268 M) : z_C (d + 5) 175 [.ref 268] (z_SH, M, L) (some (.int (f_X9_judge_268 M))) (z_SH, M, L) := by
  unfold q_X9_judge_268 at hpre
  obtain ⟨p1, p2, p3, p4, p5, p6, -⟩ := hpre
  refine z_mkA (tb := tb_X9_judge) rfl (by decide) rfl rfl rfl ?_
  refine g_k 2 (pc' := 2) (LI' := [some (.ref 268), some (.int 0)]) (LL' := []) (st' := []) (S' := (z_SH, M, L)) (fun nq hq => And.intro rfl (And.intro rfl hq)) ?_
  refine l_X9_judge_268_2 (d := d) M ((0 : Int32)) (n_X9_judge_268_2 M ((0 : Int32))) (n_X9_judge_268_2_t M ((0 : Int32))) p1 ?_ 
  have hx1 : t_X9_judge_268_2 M ((s_X9_judge_268_2 M ((0 : Int32)) ((n_X9_judge_268_2 M ((0 : Int32)))))) = false := n_X9_judge_268_2_f M ((0 : Int32)) p2
  generalize hg1 : (s_X9_judge_268_2 M ((0 : Int32)) (n_X9_judge_268_2 M ((0 : Int32)))) = r1 at *
  refine g_k 4 (pc' := (if z_cmp .ge r1 (M 268 19) = true then 57 else 10)) (LI' := [some (.ref 268), some (.int r1)]) (LL' := []) (st' := []) (S' := (z_SH, M, L)) (fun nq hq => And.intro rfl (And.intro rfl (And.intro rfl (And.intro rfl hq)))) ?_
  refine g_ge (fun hc1 => ?_) (fun hc1 => ?_)
  · refine g_k 1 (pc' := 58) (LI' := [some (.ref 268), some (.int r1)]) (LL' := []) (st' := [.int (-1)]) (S' := (z_SH, M, L)) (fun nq hq => And.intro rfl hq) ?_
    exact ⟨1, And.intro rfl (⟨(by subst hg1; unfold f_X9_judge_268; (first | rw [if_pos hc1] | skip); try rfl), rfl⟩)⟩
  · refine g_k 9 (pc' := 23) (LI' := [some (.ref 268), some (.int r1)]) (LL' := []) (st' := [.int (M 280 ((((3 : Int32)) * r1).toNatClampNeg)), .ref 273, .ref 268]) (S' := (z_SH, M, L)) (fun nq hq => And.intro rfl (And.intro rfl (And.intro rfl (And.intro rfl (And.intro rfl (And.intro rfl (And.intro rfl (And.intro rfl (And.intro p3 hq))))))))) ?_
    refine g_k 8 (pc' := 33) (LI' := [some (.ref 268), some (.int r1)]) (LL' := []) (st' := [.int (M 280 (((((3 : Int32)) * r1) + ((1 : Int32))).toNatClampNeg)), .int (M 280 ((((3 : Int32)) * r1).toNatClampNeg)), .ref 273, .ref 268]) (S' := (z_SH, M, L)) (fun nq hq => And.intro rfl (And.intro rfl (And.intro rfl (And.intro rfl (And.intro rfl (And.intro rfl (And.intro rfl (And.intro p4 hq)))))))) ?_
    refine g_k 1 (pc' := 36) (LI' := [some (.ref 268), some (.int r1)]) (LL' := []) (st' := [.int (f_X9_goesOf_268_273 M (M 280 ((((3 : Int32)) * r1).toNatClampNeg)) (M 280 (((((3 : Int32)) * r1) + ((1 : Int32))).toNatClampNeg)))]) (S' := (z_SH, M, L)) (fun nq hq => And.intro rfl (Exists.intro _ (Exists.intro _ (And.intro (c_X9_goesOf_268_273 (d := d) M (M 280 ((((3 : Int32)) * r1).toNatClampNeg)) (M 280 (((((3 : Int32)) * r1) + ((1 : Int32))).toNatClampNeg)) p5) (And.intro (z_fit_same _ _ _ _ _ _ _ _) hq))))) ?_
    generalize hg2 : f_X9_goesOf_268_273 M (M 280 ((((3 : Int32)) * r1).toNatClampNeg)) (M 280 (((((3 : Int32)) * r1) + ((1 : Int32))).toNatClampNeg)) = r2 at *
    refine g_k 9 (pc' := (if z_cmp .eq r2 (M 280 (((((3 : Int32)) * r1) + ((2 : Int32))).toNatClampNeg)) = true then 51 else 49)) (LI' := [some (.ref 268), some (.int r1)]) (LL' := []) (st' := []) (S' := (z_SH, M, L)) (fun nq hq => And.intro rfl (And.intro rfl (And.intro rfl (And.intro rfl (And.intro rfl (And.intro rfl (And.intro rfl (And.intro p6 (And.intro rfl hq))))))))) ?_
    refine g_eq (fun hc2 => ?_) (fun hc2 => ?_)
    · refine g_k 2 (pc' := 2) (LI' := [some (.ref 268), some (.int (r1 + 1))]) (LL' := []) (st' := []) (S' := (z_SH, M, L)) (fun nq hq => And.intro rfl (And.intro rfl hq)) ?_
      (exfalso; subst hg2; unfold t_X9_judge_268_2 at hx1; (try simp only [if_neg hc1] at hx1); (try simp only [if_pos hc2] at hx1); exact Bool.noConfusion hx1)
    · refine g_k 1 (pc' := 50) (LI' := [some (.ref 268), some (.int r1)]) (LL' := []) (st' := [.int r1]) (S' := (z_SH, M, L)) (fun nq hq => And.intro rfl hq) ?_
      exact ⟨1, And.intro rfl (⟨(by subst hg2; subst hg1; unfold f_X9_judge_268; (first | rw [if_neg hc1] | skip); (first | rw [if_neg hc2] | skip); try rfl), rfl⟩)⟩
def t_X7_tryAgenda_32_34 (M : Nat → Nat → Int32) (a : Int32) (b : Int32) (g : Int32) (c4 : Int32) (c5 : Int32) (c6 : Int32) (c7 : Int32) (c8 : Int32) : Bool := if c8 < (0 : Int32) then false else true
def e_X7_tryAgenda_32_34_c4 (M : Nat → Nat → Int32) (a : Int32) (b : Int32) (g : Int32) (c4 : Int32) (c5 : Int32) (c6 : Int32) (c7 : Int32) (c8 : Int32) : Int32 := c4 &&& ((((1 : Int32)) <<< ((f_X7_matterAt M c4 (c5 / (z_ord ((c8).toNatClampNeg)))) &&& 31)) ^^^ ((-1 : Int32)))
def e_X7_tryAgenda_32_34_c5 (M : Nat → Nat → Int32) (a : Int32) (b : Int32) (g : Int32) (c4 : Int32) (c5 : Int32) (c6 : Int32) (c7 : Int32) (c8 : Int32) : Int32 := c5 - c5 / (z_ord ((c8).toNatClampNeg)) * (z_ord ((c8).toNatClampNeg))
def e_X7_tryAgenda_32_34_c6 (M : Nat → Nat → Int32) (a : Int32) (b : Int32) (g : Int32) (c4 : Int32) (c5 : Int32) (c6 : Int32) (c7 : Int32) (c8 : Int32) : Int32 := ((c6 * ((10 : Int32))) + (f_X7_matterAt M c4 (c5 / (z_ord ((c8).toNatClampNeg))))) + ((1 : Int32))
def e_X7_tryAgenda_32_34_c7 (M : Nat → Nat → Int32) (a : Int32) (b : Int32) (g : Int32) (c4 : Int32) (c5 : Int32) (c6 : Int32) (c7 : Int32) (c8 : Int32) : Int32 := if (f_X6_putMatter_33 M (f_X7_matterAt M c4 (c5 / (z_ord ((c8).toNatClampNeg))))) = (0 : Int32) then c7 else c7 + 1
def e_X7_tryAgenda_32_34_c8 (M : Nat → Nat → Int32) (a : Int32) (b : Int32) (g : Int32) (c4 : Int32) (c5 : Int32) (c6 : Int32) (c7 : Int32) (c8 : Int32) : Int32 := c8 + (-1)
def e_X7_tryAgenda_32_34_M (M : Nat → Nat → Int32) (a : Int32) (b : Int32) (g : Int32) (c4 : Int32) (c5 : Int32) (c6 : Int32) (c7 : Int32) (c8 : Int32) : Nat → Nat → Int32 := (g_X6_putMatter_33 M (f_X7_matterAt M c4 (c5 / (z_ord ((c8).toNatClampNeg)))))
def qi_X7_tryAgenda_32_34 (M : Nat → Nat → Int32) (a : Int32) (b : Int32) (g : Int32) (c4 : Int32) (c5 : Int32) (c6 : Int32) (c7 : Int32) (c8 : Int32) : Prop := (z_vin c8 7 = true) ∧ (decide (¬ (z_ord ((c8).toNatClampNeg)) = 0) = true) ∧ (q_X7_matterAt M c4 (c5 / (z_ord ((c8).toNatClampNeg)))) ∧ (q_X6_putMatter_33 M (f_X7_matterAt M c4 (c5 / (z_ord ((c8).toNatClampNeg))))) ∧ True
theorem it_X7_tryAgenda_32_34 {d : Nat} {L : Nat → Nat → Int64} {Q : Option Value → z_St → Prop} (M : Nat → Nat → Int32) (a : Int32) (b : Int32) (g : Int32) (c4 : Int32) (c5 : Int32) (c6 : Int32) (c7 : Int32) (c8 : Int32) (ht : t_X7_tryAgenda_32_34 M a b g c4 c5 c6 c7 c8 = true) (p1 : qi_X7_tryAgenda_32_34 M a b g c4 c5 c6 c7 c8) (h : ∀ (y9 : Option Value), z_G (d + 5) tb_X7_tryAgenda 34 [some (.ref 32), some (.int a), some (.int b), some (.int g), some (.int (e_X7_tryAgenda_32_34_c4 M a b g c4 c5 c6 c7 c8)), some (.int (e_X7_tryAgenda_32_34_c5 M a b g c4 c5 c6 c7 c8)), some (.int (e_X7_tryAgenda_32_34_c6 M a b g c4 c5 c6 c7 c8)), some (.int (e_X7_tryAgenda_32_34_c7 M a b g c4 c5 c6 c7 c8)), some (.int (e_X7_tryAgenda_32_34_c8 M a b g c4 c5 c6 c7 c8)), y9] [] [] (z_SH, e_X7_tryAgenda_32_34_M M a b g c4 c5 c6 c7 c8, L) Q) : ∀ (x9 : Option Value), z_G (d + 5) tb_X7_tryAgenda 34 [some (.ref 32), some (.int a), some (.int b), some (.int g), some (.int c4), some (.int c5), some (.int c6), some (.int c7), some (.int c8), x9] [] [] (z_SH, M, L) Q := by
  intro x9
  unfold qi_X7_tryAgenda_32_34 at p1
  obtain ⟨p1, p2, p3, p4, -⟩ := p1
  refine g_k 2 (pc' := (if z_cmp .lt c8 ((0 : Int32)) = true then 110 else 39)) (LI' := [some (.ref 32), some (.int a), some (.int b), some (.int g), some (.int c4), some (.int c5), some (.int c6), some (.int c7), some (.int c8), x9]) (LL' := []) (st' := []) (S' := (z_SH, M, L)) (fun nq hq => And.intro rfl (And.intro rfl hq)) ?_
  refine g_lt (fun hc1 => ?_) (fun hc1 => ?_)
  · (exfalso; unfold t_X7_tryAgenda_32_34 at ht; (try simp only [if_pos hc1] at ht); exact Bool.noConfusion ht)
  · refine g_k 6 (pc' := 50) (LI' := [some (.ref 32), some (.int a), some (.int b), some (.int g), some (.int c4), some (.int c5), some (.int c6), some (.int c7), some (.int c8), x9]) (LL' := []) (st' := [.int (c5 / (z_ord ((c8).toNatClampNeg))), .int c4]) (S' := (z_SH, M, L)) (fun nq hq => And.intro rfl (And.intro rfl (And.intro rfl (And.intro rfl (And.intro p1 (And.intro p2 hq)))))) ?_
    refine g_k 1 (pc' := 53) (LI' := [some (.ref 32), some (.int a), some (.int b), some (.int g), some (.int c4), some (.int c5), some (.int c6), some (.int c7), some (.int c8), x9]) (LL' := []) (st' := [.int (f_X7_matterAt M c4 (c5 / (z_ord ((c8).toNatClampNeg))))]) (S' := (z_SH, M, L)) (fun nq hq => And.intro rfl (Exists.intro _ (Exists.intro _ (And.intro (c_X7_matterAt (d := d + 3) M c4 (c5 / (z_ord ((c8).toNatClampNeg))) p3) (And.intro (z_fit_same _ _ _ _ _ _ _ _) hq))))) ?_
    generalize hg1 : f_X7_matterAt M c4 (c5 / (z_ord ((c8).toNatClampNeg))) = r1 at *
    refine g_k 9 (pc' := 69) (LI' := [some (.ref 32), some (.int a), some (.int b), some (.int g), some (.int c4), some (.int (c5 - c5 / (z_ord ((c8).toNatClampNeg)) * (z_ord ((c8).toNatClampNeg)))), some (.int c6), some (.int c7), some (.int c8), some (.int r1)]) (LL' := []) (st' := [.int 1, .int c4]) (S' := (z_SH, M, L)) (fun nq hq => And.intro rfl (And.intro rfl (And.intro rfl (And.intro rfl (And.intro p1 (And.intro p2 (And.intro rfl (And.intro rfl (And.intro rfl hq))))))))) ?_
    refine g_k 9 (pc' := 82) (LI' := [some (.ref 32), some (.int a), some (.int b), some (.int g), some (.int (c4 &&& ((((1 : Int32)) <<< (r1 &&& 31)) ^^^ ((-1 : Int32))))), some (.int (c5 - c5 / (z_ord ((c8).toNatClampNeg)) * (z_ord ((c8).toNatClampNeg)))), some (.int c6), some (.int c7), some (.int c8), some (.int r1)]) (LL' := []) (st' := [.int (c6 * ((10 : Int32)))]) (S' := (z_SH, M, L)) (fun nq hq => And.intro rfl (And.intro rfl (And.intro rfl (And.intro rfl (And.intro rfl (And.intro rfl (And.intro rfl (And.intro rfl (And.intro rfl hq))))))))) ?_
    refine g_k 8 (pc' := 95) (LI' := [some (.ref 32), some (.int a), some (.int b), some (.int g), some (.int (c4 &&& ((((1 : Int32)) <<< (r1 &&& 31)) ^^^ ((-1 : Int32))))), some (.int (c5 - c5 / (z_ord ((c8).toNatClampNeg)) * (z_ord ((c8).toNatClampNeg)))), some (.int (((c6 * ((10 : Int32))) + r1) + ((1 : Int32)))), some (.int c7), some (.int c8), some (.int r1)]) (LL' := []) (st' := [.int r1, .ref 33]) (S' := (z_SH, M, L)) (fun nq hq => And.intro rfl (And.intro rfl (And.intro rfl (And.intro rfl (And.intro rfl (And.intro rfl (And.intro rfl (And.intro rfl hq)))))))) ?_
    refine g_k 1 (pc' := 98) (LI' := [some (.ref 32), some (.int a), some (.int b), some (.int g), some (.int (c4 &&& ((((1 : Int32)) <<< (r1 &&& 31)) ^^^ ((-1 : Int32))))), some (.int (c5 - c5 / (z_ord ((c8).toNatClampNeg)) * (z_ord ((c8).toNatClampNeg)))), some (.int (((c6 * ((10 : Int32))) + r1) + ((1 : Int32)))), some (.int c7), some (.int c8), some (.int r1)]) (LL' := []) (st' := [.int (f_X6_putMatter_33 M r1)]) (S' := (z_SH, g_X6_putMatter_33 M r1, L)) (fun nq hq => And.intro rfl (Exists.intro _ (Exists.intro _ (And.intro (c_X6_putMatter_33 (d := d) M r1 p4) (And.intro (z_fit_same _ _ _ _ _ _ _ _) hq))))) ?_
    generalize hg2 : f_X6_putMatter_33 M r1 = r2 at *
    generalize hg3 : g_X6_putMatter_33 M r1 = m3 at *
    refine g_k 1 (pc' := (if z_cmp .eq r2 ((0 : Int32)) = true then 104 else 101)) (LI' := [some (.ref 32), some (.int a), some (.int b), some (.int g), some (.int (c4 &&& ((((1 : Int32)) <<< (r1 &&& 31)) ^^^ ((-1 : Int32))))), some (.int (c5 - c5 / (z_ord ((c8).toNatClampNeg)) * (z_ord ((c8).toNatClampNeg)))), some (.int (((c6 * ((10 : Int32))) + r1) + ((1 : Int32)))), some (.int c7), some (.int c8), some (.int r1)]) (LL' := []) (st' := []) (S' := (z_SH, m3, L)) (fun nq hq => And.intro rfl hq) ?_
    refine g_eq (fun hc2 => ?_) (fun hc2 => ?_)
    · refine g_k 2 (pc' := 34) (LI' := [some (.ref 32), some (.int a), some (.int b), some (.int g), some (.int (c4 &&& ((((1 : Int32)) <<< (r1 &&& 31)) ^^^ ((-1 : Int32))))), some (.int (c5 - c5 / (z_ord ((c8).toNatClampNeg)) * (z_ord ((c8).toNatClampNeg)))), some (.int (((c6 * ((10 : Int32))) + r1) + ((1 : Int32)))), some (.int c7), some (.int (c8 + (-1))), some (.int r1)]) (LL' := []) (st' := []) (S' := (z_SH, m3, L)) (fun nq hq => And.intro rfl (And.intro rfl hq)) ?_
      (clear ht; subst hg3; subst hg2; subst hg1; unfold e_X7_tryAgenda_32_34_c4 e_X7_tryAgenda_32_34_c5 e_X7_tryAgenda_32_34_c6 e_X7_tryAgenda_32_34_c7 e_X7_tryAgenda_32_34_c8 e_X7_tryAgenda_32_34_M at h; (try simp only [if_neg hc1] at h); (try simp only [if_pos hc2] at h); exact h (some (.int (f_X7_matterAt M c4 (c5 / (z_ord ((c8).toNatClampNeg)))))))
    · refine g_k 3 (pc' := 34) (LI' := [some (.ref 32), some (.int a), some (.int b), some (.int g), some (.int (c4 &&& ((((1 : Int32)) <<< (r1 &&& 31)) ^^^ ((-1 : Int32))))), some (.int (c5 - c5 / (z_ord ((c8).toNatClampNeg)) * (z_ord ((c8).toNatClampNeg)))), some (.int (((c6 * ((10 : Int32))) + r1) + ((1 : Int32)))), some (.int (c7 + 1)), some (.int (c8 + (-1))), some (.int r1)]) (LL' := []) (st' := []) (S' := (z_SH, m3, L)) (fun nq hq => And.intro rfl (And.intro rfl (And.intro rfl hq))) ?_
      (clear ht; subst hg3; subst hg2; subst hg1; unfold e_X7_tryAgenda_32_34_c4 e_X7_tryAgenda_32_34_c5 e_X7_tryAgenda_32_34_c6 e_X7_tryAgenda_32_34_c7 e_X7_tryAgenda_32_34_c8 e_X7_tryAgenda_32_34_M at h; (try simp only [if_neg hc1] at h); (try simp only [if_neg hc2] at h); exact h (some (.int (f_X7_matterAt M c4 (c5 / (z_ord ((c8).toNatClampNeg)))))))
def s_X7_tryAgenda_32_34 (M : Nat → Nat → Int32) (a : Int32) (b : Int32) (g : Int32) (c4 : Int32) (c5 : Int32) (c6 : Int32) (c7 : Int32) (c8 : Int32) (n : Nat) : Int32 × Int32 × Int32 × Int32 × Int32 × (Nat → Nat → Int32) := Nat.rec (motive := fun _ => Int32 × Int32 × Int32 × Int32 × Int32 × (Nat → Nat → Int32)) (c4, c5, c6, c7, c8, M) (fun _ r => (e_X7_tryAgenda_32_34_c4 r.2.2.2.2.2 a b g r.1 r.2.1 r.2.2.1 r.2.2.2.1 r.2.2.2.2.1, e_X7_tryAgenda_32_34_c5 r.2.2.2.2.2 a b g r.1 r.2.1 r.2.2.1 r.2.2.2.1 r.2.2.2.2.1, e_X7_tryAgenda_32_34_c6 r.2.2.2.2.2 a b g r.1 r.2.1 r.2.2.1 r.2.2.2.1 r.2.2.2.2.1, e_X7_tryAgenda_32_34_c7 r.2.2.2.2.2 a b g r.1 r.2.1 r.2.2.1 r.2.2.2.1 r.2.2.2.2.1, e_X7_tryAgenda_32_34_c8 r.2.2.2.2.2 a b g r.1 r.2.1 r.2.2.1 r.2.2.2.1 r.2.2.2.2.1, e_X7_tryAgenda_32_34_M r.2.2.2.2.2 a b g r.1 r.2.1 r.2.2.1 r.2.2.2.1 r.2.2.2.2.1)) n
theorem fr_e_X7_tryAgenda_32_34_M (M : Nat → Nat → Int32) (a : Int32) (b : Int32) (g : Int32) (c4 : Int32) (c5 : Int32) (c6 : Int32) (c7 : Int32) (c8 : Int32) (c : Nat) (h34 : c ≠ 34) (h40 : c ≠ 40) (h41 : c ≠ 41) (h42 : c ≠ 42) (h43 : c ≠ 43) (h44 : c ≠ 44) (h45 : c ≠ 45) : e_X7_tryAgenda_32_34_M M a b g c4 c5 c6 c7 c8 c = M c := by
  unfold e_X7_tryAgenda_32_34_M
  repeat' split
  all_goals simp only [z_row_ne h34, z_row_ne h40, z_row_ne h41, z_row_ne h42, z_row_ne h43, z_row_ne h44, z_row_ne h45, fr_g_X6_putMatter_33 (c := c) (h34 := h34) (h40 := h40) (h41 := h41) (h42 := h42) (h43 := h43) (h44 := h44) (h45 := h45)]
theorem fr_s_X7_tryAgenda_32_34 (M : Nat → Nat → Int32) (a : Int32) (b : Int32) (g : Int32) (c4 : Int32) (c5 : Int32) (c6 : Int32) (c7 : Int32) (c8 : Int32) (n : Nat) (c : Nat) (h34 : c ≠ 34) (h40 : c ≠ 40) (h41 : c ≠ 41) (h42 : c ≠ 42) (h43 : c ≠ 43) (h44 : c ≠ 44) (h45 : c ≠ 45) : ((s_X7_tryAgenda_32_34 M a b g c4 c5 c6 c7 c8 n).2.2.2.2.2) c = M c := by
  induction n with
  | zero => rfl
  | succ n ih =>
    have hs : s_X7_tryAgenda_32_34 M a b g c4 c5 c6 c7 c8 (n + 1) = (e_X7_tryAgenda_32_34_c4 ((s_X7_tryAgenda_32_34 M a b g c4 c5 c6 c7 c8 n).2.2.2.2.2) a b g ((s_X7_tryAgenda_32_34 M a b g c4 c5 c6 c7 c8 n).1) ((s_X7_tryAgenda_32_34 M a b g c4 c5 c6 c7 c8 n).2.1) ((s_X7_tryAgenda_32_34 M a b g c4 c5 c6 c7 c8 n).2.2.1) ((s_X7_tryAgenda_32_34 M a b g c4 c5 c6 c7 c8 n).2.2.2.1) ((s_X7_tryAgenda_32_34 M a b g c4 c5 c6 c7 c8 n).2.2.2.2.1), e_X7_tryAgenda_32_34_c5 ((s_X7_tryAgenda_32_34 M a b g c4 c5 c6 c7 c8 n).2.2.2.2.2) a b g ((s_X7_tryAgenda_32_34 M a b g c4 c5 c6 c7 c8 n).1) ((s_X7_tryAgenda_32_34 M a b g c4 c5 c6 c7 c8 n).2.1) ((s_X7_tryAgenda_32_34 M a b g c4 c5 c6 c7 c8 n).2.2.1) ((s_X7_tryAgenda_32_34 M a b g c4 c5 c6 c7 c8 n).2.2.2.1) ((s_X7_tryAgenda_32_34 M a b g c4 c5 c6 c7 c8 n).2.2.2.2.1), e_X7_tryAgenda_32_34_c6 ((s_X7_tryAgenda_32_34 M a b g c4 c5 c6 c7 c8 n).2.2.2.2.2) a b g ((s_X7_tryAgenda_32_34 M a b g c4 c5 c6 c7 c8 n).1) ((s_X7_tryAgenda_32_34 M a b g c4 c5 c6 c7 c8 n).2.1) ((s_X7_tryAgenda_32_34 M a b g c4 c5 c6 c7 c8 n).2.2.1) ((s_X7_tryAgenda_32_34 M a b g c4 c5 c6 c7 c8 n).2.2.2.1) ((s_X7_tryAgenda_32_34 M a b g c4 c5 c6 c7 c8 n).2.2.2.2.1), e_X7_tryAgenda_32_34_c7 ((s_X7_tryAgenda_32_34 M a b g c4 c5 c6 c7 c8 n).2.2.2.2.2) a b g ((s_X7_tryAgenda_32_34 M a b g c4 c5 c6 c7 c8 n).1) ((s_X7_tryAgenda_32_34 M a b g c4 c5 c6 c7 c8 n).2.1) ((s_X7_tryAgenda_32_34 M a b g c4 c5 c6 c7 c8 n).2.2.1) ((s_X7_tryAgenda_32_34 M a b g c4 c5 c6 c7 c8 n).2.2.2.1) ((s_X7_tryAgenda_32_34 M a b g c4 c5 c6 c7 c8 n).2.2.2.2.1), e_X7_tryAgenda_32_34_c8 ((s_X7_tryAgenda_32_34 M a b g c4 c5 c6 c7 c8 n).2.2.2.2.2) a b g ((s_X7_tryAgenda_32_34 M a b g c4 c5 c6 c7 c8 n).1) ((s_X7_tryAgenda_32_34 M a b g c4 c5 c6 c7 c8 n).2.1) ((s_X7_tryAgenda_32_34 M a b g c4 c5 c6 c7 c8 n).2.2.1) ((s_X7_tryAgenda_32_34 M a b g c4 c5 c6 c7 c8 n).2.2.2.1) ((s_X7_tryAgenda_32_34 M a b g c4 c5 c6 c7 c8 n).2.2.2.2.1), e_X7_tryAgenda_32_34_M ((s_X7_tryAgenda_32_34 M a b g c4 c5 c6 c7 c8 n).2.2.2.2.2) a b g ((s_X7_tryAgenda_32_34 M a b g c4 c5 c6 c7 c8 n).1) ((s_X7_tryAgenda_32_34 M a b g c4 c5 c6 c7 c8 n).2.1) ((s_X7_tryAgenda_32_34 M a b g c4 c5 c6 c7 c8 n).2.2.1) ((s_X7_tryAgenda_32_34 M a b g c4 c5 c6 c7 c8 n).2.2.2.1) ((s_X7_tryAgenda_32_34 M a b g c4 c5 c6 c7 c8 n).2.2.2.2.1)) := rfl
    rw [hs]
    dsimp only
    exact (fr_e_X7_tryAgenda_32_34_M ((s_X7_tryAgenda_32_34 M a b g c4 c5 c6 c7 c8 n).2.2.2.2.2) a b g ((s_X7_tryAgenda_32_34 M a b g c4 c5 c6 c7 c8 n).1) ((s_X7_tryAgenda_32_34 M a b g c4 c5 c6 c7 c8 n).2.1) ((s_X7_tryAgenda_32_34 M a b g c4 c5 c6 c7 c8 n).2.2.1) ((s_X7_tryAgenda_32_34 M a b g c4 c5 c6 c7 c8 n).2.2.2.1) ((s_X7_tryAgenda_32_34 M a b g c4 c5 c6 c7 c8 n).2.2.2.2.1) c h34 h40 h41 h42 h43 h44 h45).trans ih
def n_X7_tryAgenda_32_34 (M : Nat → Nat → Int32) (a : Int32) (b : Int32) (g : Int32) (c4 : Int32) (c5 : Int32) (c6 : Int32) (c7 : Int32) (c8 : Int32) : Nat := z_fst (fun k => t_X7_tryAgenda_32_34 ((s_X7_tryAgenda_32_34 M a b g c4 c5 c6 c7 c8 k).2.2.2.2.2) a b g ((s_X7_tryAgenda_32_34 M a b g c4 c5 c6 c7 c8 k).1) ((s_X7_tryAgenda_32_34 M a b g c4 c5 c6 c7 c8 k).2.1) ((s_X7_tryAgenda_32_34 M a b g c4 c5 c6 c7 c8 k).2.2.1) ((s_X7_tryAgenda_32_34 M a b g c4 c5 c6 c7 c8 k).2.2.2.1) ((s_X7_tryAgenda_32_34 M a b g c4 c5 c6 c7 c8 k).2.2.2.2.1)) 6
theorem n_X7_tryAgenda_32_34_t (M : Nat → Nat → Int32) (a : Int32) (b : Int32) (g : Int32) (c4 : Int32) (c5 : Int32) (c6 : Int32) (c7 : Int32) (c8 : Int32) : ∀ k, k < n_X7_tryAgenda_32_34 M a b g c4 c5 c6 c7 c8 → t_X7_tryAgenda_32_34 ((s_X7_tryAgenda_32_34 M a b g c4 c5 c6 c7 c8 k).2.2.2.2.2) a b g ((s_X7_tryAgenda_32_34 M a b g c4 c5 c6 c7 c8 k).1) ((s_X7_tryAgenda_32_34 M a b g c4 c5 c6 c7 c8 k).2.1) ((s_X7_tryAgenda_32_34 M a b g c4 c5 c6 c7 c8 k).2.2.1) ((s_X7_tryAgenda_32_34 M a b g c4 c5 c6 c7 c8 k).2.2.2.1) ((s_X7_tryAgenda_32_34 M a b g c4 c5 c6 c7 c8 k).2.2.2.2.1) = true := fun k hk => z_fst_t (p := (fun k => t_X7_tryAgenda_32_34 ((s_X7_tryAgenda_32_34 M a b g c4 c5 c6 c7 c8 k).2.2.2.2.2) a b g ((s_X7_tryAgenda_32_34 M a b g c4 c5 c6 c7 c8 k).1) ((s_X7_tryAgenda_32_34 M a b g c4 c5 c6 c7 c8 k).2.1) ((s_X7_tryAgenda_32_34 M a b g c4 c5 c6 c7 c8 k).2.2.1) ((s_X7_tryAgenda_32_34 M a b g c4 c5 c6 c7 c8 k).2.2.2.1) ((s_X7_tryAgenda_32_34 M a b g c4 c5 c6 c7 c8 k).2.2.2.2.1))) (B := 6) hk
theorem n_X7_tryAgenda_32_34_f (M : Nat → Nat → Int32) (a : Int32) (b : Int32) (g : Int32) (c4 : Int32) (c5 : Int32) (c6 : Int32) (c7 : Int32) (c8 : Int32) (h : t_X7_tryAgenda_32_34 ((s_X7_tryAgenda_32_34 M a b g c4 c5 c6 c7 c8 6).2.2.2.2.2) a b g ((s_X7_tryAgenda_32_34 M a b g c4 c5 c6 c7 c8 6).1) ((s_X7_tryAgenda_32_34 M a b g c4 c5 c6 c7 c8 6).2.1) ((s_X7_tryAgenda_32_34 M a b g c4 c5 c6 c7 c8 6).2.2.1) ((s_X7_tryAgenda_32_34 M a b g c4 c5 c6 c7 c8 6).2.2.2.1) ((s_X7_tryAgenda_32_34 M a b g c4 c5 c6 c7 c8 6).2.2.2.2.1) = false) : t_X7_tryAgenda_32_34 ((s_X7_tryAgenda_32_34 M a b g c4 c5 c6 c7 c8 ((n_X7_tryAgenda_32_34 M a b g c4 c5 c6 c7 c8))).2.2.2.2.2) a b g ((s_X7_tryAgenda_32_34 M a b g c4 c5 c6 c7 c8 ((n_X7_tryAgenda_32_34 M a b g c4 c5 c6 c7 c8))).1) ((s_X7_tryAgenda_32_34 M a b g c4 c5 c6 c7 c8 ((n_X7_tryAgenda_32_34 M a b g c4 c5 c6 c7 c8))).2.1) ((s_X7_tryAgenda_32_34 M a b g c4 c5 c6 c7 c8 ((n_X7_tryAgenda_32_34 M a b g c4 c5 c6 c7 c8))).2.2.1) ((s_X7_tryAgenda_32_34 M a b g c4 c5 c6 c7 c8 ((n_X7_tryAgenda_32_34 M a b g c4 c5 c6 c7 c8))).2.2.2.1) ((s_X7_tryAgenda_32_34 M a b g c4 c5 c6 c7 c8 ((n_X7_tryAgenda_32_34 M a b g c4 c5 c6 c7 c8))).2.2.2.2.1) = false := by
  have h2 := z_fst_f (p := (fun k => t_X7_tryAgenda_32_34 ((s_X7_tryAgenda_32_34 M a b g c4 c5 c6 c7 c8 k).2.2.2.2.2) a b g ((s_X7_tryAgenda_32_34 M a b g c4 c5 c6 c7 c8 k).1) ((s_X7_tryAgenda_32_34 M a b g c4 c5 c6 c7 c8 k).2.1) ((s_X7_tryAgenda_32_34 M a b g c4 c5 c6 c7 c8 k).2.2.1) ((s_X7_tryAgenda_32_34 M a b g c4 c5 c6 c7 c8 k).2.2.2.1) ((s_X7_tryAgenda_32_34 M a b g c4 c5 c6 c7 c8 k).2.2.2.2.1))) (B := 6) h
  unfold n_X7_tryAgenda_32_34
  exact h2
theorem l_X7_tryAgenda_32_34 {d : Nat} {L : Nat → Nat → Int64} {Q : Option Value → z_St → Prop} (M : Nat → Nat → Int32) (a : Int32) (b : Int32) (g : Int32) (c4 : Int32) (c5 : Int32) (c6 : Int32) (c7 : Int32) (c8 : Int32) (n : Nat) : (∀ k, k < n → t_X7_tryAgenda_32_34 ((s_X7_tryAgenda_32_34 M a b g c4 c5 c6 c7 c8 k).2.2.2.2.2) a b g ((s_X7_tryAgenda_32_34 M a b g c4 c5 c6 c7 c8 k).1) ((s_X7_tryAgenda_32_34 M a b g c4 c5 c6 c7 c8 k).2.1) ((s_X7_tryAgenda_32_34 M a b g c4 c5 c6 c7 c8 k).2.2.1) ((s_X7_tryAgenda_32_34 M a b g c4 c5 c6 c7 c8 k).2.2.2.1) ((s_X7_tryAgenda_32_34 M a b g c4 c5 c6 c7 c8 k).2.2.2.2.1) = true) → (∀ k, k < n → qi_X7_tryAgenda_32_34 ((s_X7_tryAgenda_32_34 M a b g c4 c5 c6 c7 c8 k).2.2.2.2.2) a b g ((s_X7_tryAgenda_32_34 M a b g c4 c5 c6 c7 c8 k).1) ((s_X7_tryAgenda_32_34 M a b g c4 c5 c6 c7 c8 k).2.1) ((s_X7_tryAgenda_32_34 M a b g c4 c5 c6 c7 c8 k).2.2.1) ((s_X7_tryAgenda_32_34 M a b g c4 c5 c6 c7 c8 k).2.2.2.1) ((s_X7_tryAgenda_32_34 M a b g c4 c5 c6 c7 c8 k).2.2.2.2.1)) → (∀ (y9 : Option Value), z_G (d + 5) tb_X7_tryAgenda 34 [some (.ref 32), some (.int a), some (.int b), some (.int g), some (.int ((s_X7_tryAgenda_32_34 M a b g c4 c5 c6 c7 c8 n).1)), some (.int ((s_X7_tryAgenda_32_34 M a b g c4 c5 c6 c7 c8 n).2.1)), some (.int ((s_X7_tryAgenda_32_34 M a b g c4 c5 c6 c7 c8 n).2.2.1)), some (.int ((s_X7_tryAgenda_32_34 M a b g c4 c5 c6 c7 c8 n).2.2.2.1)), some (.int ((s_X7_tryAgenda_32_34 M a b g c4 c5 c6 c7 c8 n).2.2.2.2.1)), y9] [] [] (z_SH, (s_X7_tryAgenda_32_34 M a b g c4 c5 c6 c7 c8 n).2.2.2.2.2, L) Q) → ∀ (x9 : Option Value), z_G (d + 5) tb_X7_tryAgenda 34 [some (.ref 32), some (.int a), some (.int b), some (.int g), some (.int c4), some (.int c5), some (.int c6), some (.int c7), some (.int c8), x9] [] [] (z_SH, M, L) Q := by
  induction n with
  | zero =>
    intro hc p1 h
    exact h
  | succ n ih =>
    intro hc p1 h
    refine ih (fun k hk => hc k (by omega)) (fun k hk => p1 k (by omega)) ?_
    have hcn := hc n (by omega)
    have p1n := p1 n (by omega)
    clear ih hc p1
    have hs : s_X7_tryAgenda_32_34 M a b g c4 c5 c6 c7 c8 (n + 1) = (e_X7_tryAgenda_32_34_c4 ((s_X7_tryAgenda_32_34 M a b g c4 c5 c6 c7 c8 n).2.2.2.2.2) a b g ((s_X7_tryAgenda_32_34 M a b g c4 c5 c6 c7 c8 n).1) ((s_X7_tryAgenda_32_34 M a b g c4 c5 c6 c7 c8 n).2.1) ((s_X7_tryAgenda_32_34 M a b g c4 c5 c6 c7 c8 n).2.2.1) ((s_X7_tryAgenda_32_34 M a b g c4 c5 c6 c7 c8 n).2.2.2.1) ((s_X7_tryAgenda_32_34 M a b g c4 c5 c6 c7 c8 n).2.2.2.2.1), e_X7_tryAgenda_32_34_c5 ((s_X7_tryAgenda_32_34 M a b g c4 c5 c6 c7 c8 n).2.2.2.2.2) a b g ((s_X7_tryAgenda_32_34 M a b g c4 c5 c6 c7 c8 n).1) ((s_X7_tryAgenda_32_34 M a b g c4 c5 c6 c7 c8 n).2.1) ((s_X7_tryAgenda_32_34 M a b g c4 c5 c6 c7 c8 n).2.2.1) ((s_X7_tryAgenda_32_34 M a b g c4 c5 c6 c7 c8 n).2.2.2.1) ((s_X7_tryAgenda_32_34 M a b g c4 c5 c6 c7 c8 n).2.2.2.2.1), e_X7_tryAgenda_32_34_c6 ((s_X7_tryAgenda_32_34 M a b g c4 c5 c6 c7 c8 n).2.2.2.2.2) a b g ((s_X7_tryAgenda_32_34 M a b g c4 c5 c6 c7 c8 n).1) ((s_X7_tryAgenda_32_34 M a b g c4 c5 c6 c7 c8 n).2.1) ((s_X7_tryAgenda_32_34 M a b g c4 c5 c6 c7 c8 n).2.2.1) ((s_X7_tryAgenda_32_34 M a b g c4 c5 c6 c7 c8 n).2.2.2.1) ((s_X7_tryAgenda_32_34 M a b g c4 c5 c6 c7 c8 n).2.2.2.2.1), e_X7_tryAgenda_32_34_c7 ((s_X7_tryAgenda_32_34 M a b g c4 c5 c6 c7 c8 n).2.2.2.2.2) a b g ((s_X7_tryAgenda_32_34 M a b g c4 c5 c6 c7 c8 n).1) ((s_X7_tryAgenda_32_34 M a b g c4 c5 c6 c7 c8 n).2.1) ((s_X7_tryAgenda_32_34 M a b g c4 c5 c6 c7 c8 n).2.2.1) ((s_X7_tryAgenda_32_34 M a b g c4 c5 c6 c7 c8 n).2.2.2.1) ((s_X7_tryAgenda_32_34 M a b g c4 c5 c6 c7 c8 n).2.2.2.2.1), e_X7_tryAgenda_32_34_c8 ((s_X7_tryAgenda_32_34 M a b g c4 c5 c6 c7 c8 n).2.2.2.2.2) a b g ((s_X7_tryAgenda_32_34 M a b g c4 c5 c6 c7 c8 n).1) ((s_X7_tryAgenda_32_34 M a b g c4 c5 c6 c7 c8 n).2.1) ((s_X7_tryAgenda_32_34 M a b g c4 c5 c6 c7 c8 n).2.2.1) ((s_X7_tryAgenda_32_34 M a b g c4 c5 c6 c7 c8 n).2.2.2.1) ((s_X7_tryAgenda_32_34 M a b g c4 c5 c6 c7 c8 n).2.2.2.2.1), e_X7_tryAgenda_32_34_M ((s_X7_tryAgenda_32_34 M a b g c4 c5 c6 c7 c8 n).2.2.2.2.2) a b g ((s_X7_tryAgenda_32_34 M a b g c4 c5 c6 c7 c8 n).1) ((s_X7_tryAgenda_32_34 M a b g c4 c5 c6 c7 c8 n).2.1) ((s_X7_tryAgenda_32_34 M a b g c4 c5 c6 c7 c8 n).2.2.1) ((s_X7_tryAgenda_32_34 M a b g c4 c5 c6 c7 c8 n).2.2.2.1) ((s_X7_tryAgenda_32_34 M a b g c4 c5 c6 c7 c8 n).2.2.2.2.1)) := rfl
    rw [hs] at h
    clear hs
    try dsimp only at h
    generalize s_X7_tryAgenda_32_34 M a b g c4 c5 c6 c7 c8 n = sg at *
    refine it_X7_tryAgenda_32_34 sg.2.2.2.2.2 a b g sg.1 sg.2.1 sg.2.2.1 sg.2.2.2.1 sg.2.2.2.2.1 hcn p1n ?_
    exact h
def g_X7_tryAgenda_32 (M : Nat → Nat → Int32) (a : Int32) (b : Int32) (g : Int32) : Nat → Nat → Int32 := if ((s_X7_tryAgenda_32_34 (g_X0_copyFrom_34_20 M) a b g a g ((0 : Int32)) ((0 : Int32)) (b - ((1 : Int32))) (n_X7_tryAgenda_32_34 (g_X0_copyFrom_34_20 M) a b g a g ((0 : Int32)) ((0 : Int32)) (b - ((1 : Int32))))).2.2.2.1) ≤ ((s_X7_tryAgenda_32_34 (g_X0_copyFrom_34_20 M) a b g a g ((0 : Int32)) ((0 : Int32)) (b - ((1 : Int32))) (n_X7_tryAgenda_32_34 (g_X0_copyFrom_34_20 M) a b g a g ((0 : Int32)) ((0 : Int32)) (b - ((1 : Int32))))).2.2.2.2.2) 32 5 then ((s_X7_tryAgenda_32_34 (g_X0_copyFrom_34_20 M) a b g a g ((0 : Int32)) ((0 : Int32)) (b - ((1 : Int32))) (n_X7_tryAgenda_32_34 (g_X0_copyFrom_34_20 M) a b g a g ((0 : Int32)) ((0 : Int32)) (b - ((1 : Int32))))).2.2.2.2.2) else z_row (z_row ((s_X7_tryAgenda_32_34 (g_X0_copyFrom_34_20 M) a b g a g ((0 : Int32)) ((0 : Int32)) (b - ((1 : Int32))) (n_X7_tryAgenda_32_34 (g_X0_copyFrom_34_20 M) a b g a g ((0 : Int32)) ((0 : Int32)) (b - ((1 : Int32))))).2.2.2.2.2) 32 (upd (((s_X7_tryAgenda_32_34 (g_X0_copyFrom_34_20 M) a b g a g ((0 : Int32)) ((0 : Int32)) (b - ((1 : Int32))) (n_X7_tryAgenda_32_34 (g_X0_copyFrom_34_20 M) a b g a g ((0 : Int32)) ((0 : Int32)) (b - ((1 : Int32))))).2.2.2.2.2) 32) 5 ((s_X7_tryAgenda_32_34 (g_X0_copyFrom_34_20 M) a b g a g ((0 : Int32)) ((0 : Int32)) (b - ((1 : Int32))) (n_X7_tryAgenda_32_34 (g_X0_copyFrom_34_20 M) a b g a g ((0 : Int32)) ((0 : Int32)) (b - ((1 : Int32))))).2.2.2.1))) 32 (upd (upd (((s_X7_tryAgenda_32_34 (g_X0_copyFrom_34_20 M) a b g a g ((0 : Int32)) ((0 : Int32)) (b - ((1 : Int32))) (n_X7_tryAgenda_32_34 (g_X0_copyFrom_34_20 M) a b g a g ((0 : Int32)) ((0 : Int32)) (b - ((1 : Int32))))).2.2.2.2.2) 32) 5 ((s_X7_tryAgenda_32_34 (g_X0_copyFrom_34_20 M) a b g a g ((0 : Int32)) ((0 : Int32)) (b - ((1 : Int32))) (n_X7_tryAgenda_32_34 (g_X0_copyFrom_34_20 M) a b g a g ((0 : Int32)) ((0 : Int32)) (b - ((1 : Int32))))).2.2.2.1)) 6 ((s_X7_tryAgenda_32_34 (g_X0_copyFrom_34_20 M) a b g a g ((0 : Int32)) ((0 : Int32)) (b - ((1 : Int32))) (n_X7_tryAgenda_32_34 (g_X0_copyFrom_34_20 M) a b g a g ((0 : Int32)) ((0 : Int32)) (b - ((1 : Int32))))).2.2.1))
theorem fr_g_X7_tryAgenda_32 (M : Nat → Nat → Int32) (a : Int32) (b : Int32) (g : Int32) (c : Nat) (h32 : c ≠ 32) (h34 : c ≠ 34) (h35 : c ≠ 35) (h36 : c ≠ 36) (h37 : c ≠ 37) (h38 : c ≠ 38) (h39 : c ≠ 39) (h40 : c ≠ 40) (h41 : c ≠ 41) (h42 : c ≠ 42) (h43 : c ≠ 43) (h44 : c ≠ 44) (h45 : c ≠ 45) : g_X7_tryAgenda_32 M a b g c = M c := by
  unfold g_X7_tryAgenda_32
  repeat' split
  all_goals simp only [z_row_ne h32, z_row_ne h34, z_row_ne h35, z_row_ne h36, z_row_ne h37, z_row_ne h38, z_row_ne h39, z_row_ne h40, z_row_ne h41, z_row_ne h42, z_row_ne h43, z_row_ne h44, z_row_ne h45, fr_g_X0_copyFrom_34_20 (c := c) (h34 := h34) (h35 := h35) (h36 := h36) (h37 := h37) (h38 := h38) (h39 := h39) (h40 := h40) (h41 := h41), fr_s_X7_tryAgenda_32_34 (c := c) (h34 := h34) (h40 := h40) (h41 := h41) (h42 := h42) (h43 := h43) (h44 := h44) (h45 := h45)]
def q_X7_tryAgenda_32 (M : Nat → Nat → Int32) (a : Int32) (b : Int32) (g : Int32) : Prop := (∀ k82, k82 < n_X7_tryAgenda_32_34 (g_X0_copyFrom_34_20 M) a b g a g ((0 : Int32)) ((0 : Int32)) (b - ((1 : Int32))) → qi_X7_tryAgenda_32_34 ((s_X7_tryAgenda_32_34 (g_X0_copyFrom_34_20 M) a b g a g ((0 : Int32)) ((0 : Int32)) (b - ((1 : Int32))) k82).2.2.2.2.2) a b g ((s_X7_tryAgenda_32_34 (g_X0_copyFrom_34_20 M) a b g a g ((0 : Int32)) ((0 : Int32)) (b - ((1 : Int32))) k82).1) ((s_X7_tryAgenda_32_34 (g_X0_copyFrom_34_20 M) a b g a g ((0 : Int32)) ((0 : Int32)) (b - ((1 : Int32))) k82).2.1) ((s_X7_tryAgenda_32_34 (g_X0_copyFrom_34_20 M) a b g a g ((0 : Int32)) ((0 : Int32)) (b - ((1 : Int32))) k82).2.2.1) ((s_X7_tryAgenda_32_34 (g_X0_copyFrom_34_20 M) a b g a g ((0 : Int32)) ((0 : Int32)) (b - ((1 : Int32))) k82).2.2.2.1) ((s_X7_tryAgenda_32_34 (g_X0_copyFrom_34_20 M) a b g a g ((0 : Int32)) ((0 : Int32)) (b - ((1 : Int32))) k82).2.2.2.2.1)) ∧ (t_X7_tryAgenda_32_34 ((s_X7_tryAgenda_32_34 (g_X0_copyFrom_34_20 M) a b g a g ((0 : Int32)) ((0 : Int32)) (b - ((1 : Int32))) 6).2.2.2.2.2) a b g ((s_X7_tryAgenda_32_34 (g_X0_copyFrom_34_20 M) a b g a g ((0 : Int32)) ((0 : Int32)) (b - ((1 : Int32))) 6).1) ((s_X7_tryAgenda_32_34 (g_X0_copyFrom_34_20 M) a b g a g ((0 : Int32)) ((0 : Int32)) (b - ((1 : Int32))) 6).2.1) ((s_X7_tryAgenda_32_34 (g_X0_copyFrom_34_20 M) a b g a g ((0 : Int32)) ((0 : Int32)) (b - ((1 : Int32))) 6).2.2.1) ((s_X7_tryAgenda_32_34 (g_X0_copyFrom_34_20 M) a b g a g ((0 : Int32)) ((0 : Int32)) (b - ((1 : Int32))) 6).2.2.2.1) ((s_X7_tryAgenda_32_34 (g_X0_copyFrom_34_20 M) a b g a g ((0 : Int32)) ((0 : Int32)) (b - ((1 : Int32))) 6).2.2.2.2.1) = false) ∧ (z_vin ((s_X7_tryAgenda_32_34 (g_X0_copyFrom_34_20 M) a b g a g ((0 : Int32)) ((0 : Int32)) (b - ((1 : Int32))) (n_X7_tryAgenda_32_34 (g_X0_copyFrom_34_20 M) a b g a g ((0 : Int32)) ((0 : Int32)) (b - ((1 : Int32))))).2.2.2.2.1) 7 = true) ∧ (decide (¬ (z_ord ((((s_X7_tryAgenda_32_34 (g_X0_copyFrom_34_20 M) a b g a g ((0 : Int32)) ((0 : Int32)) (b - ((1 : Int32))) (n_X7_tryAgenda_32_34 (g_X0_copyFrom_34_20 M) a b g a g ((0 : Int32)) ((0 : Int32)) (b - ((1 : Int32))))).2.2.2.2.1)).toNatClampNeg)) = 0) = true) ∧ (q_X7_matterAt ((s_X7_tryAgenda_32_34 (g_X0_copyFrom_34_20 M) a b g a g ((0 : Int32)) ((0 : Int32)) (b - ((1 : Int32))) (n_X7_tryAgenda_32_34 (g_X0_copyFrom_34_20 M) a b g a g ((0 : Int32)) ((0 : Int32)) (b - ((1 : Int32))))).2.2.2.2.2) ((s_X7_tryAgenda_32_34 (g_X0_copyFrom_34_20 M) a b g a g ((0 : Int32)) ((0 : Int32)) (b - ((1 : Int32))) (n_X7_tryAgenda_32_34 (g_X0_copyFrom_34_20 M) a b g a g ((0 : Int32)) ((0 : Int32)) (b - ((1 : Int32))))).1) (((s_X7_tryAgenda_32_34 (g_X0_copyFrom_34_20 M) a b g a g ((0 : Int32)) ((0 : Int32)) (b - ((1 : Int32))) (n_X7_tryAgenda_32_34 (g_X0_copyFrom_34_20 M) a b g a g ((0 : Int32)) ((0 : Int32)) (b - ((1 : Int32))))).2.1) / (z_ord ((((s_X7_tryAgenda_32_34 (g_X0_copyFrom_34_20 M) a b g a g ((0 : Int32)) ((0 : Int32)) (b - ((1 : Int32))) (n_X7_tryAgenda_32_34 (g_X0_copyFrom_34_20 M) a b g a g ((0 : Int32)) ((0 : Int32)) (b - ((1 : Int32))))).2.2.2.2.1)).toNatClampNeg)))) ∧ (q_X6_putMatter_33 ((s_X7_tryAgenda_32_34 (g_X0_copyFrom_34_20 M) a b g a g ((0 : Int32)) ((0 : Int32)) (b - ((1 : Int32))) (n_X7_tryAgenda_32_34 (g_X0_copyFrom_34_20 M) a b g a g ((0 : Int32)) ((0 : Int32)) (b - ((1 : Int32))))).2.2.2.2.2) (f_X7_matterAt ((s_X7_tryAgenda_32_34 (g_X0_copyFrom_34_20 M) a b g a g ((0 : Int32)) ((0 : Int32)) (b - ((1 : Int32))) (n_X7_tryAgenda_32_34 (g_X0_copyFrom_34_20 M) a b g a g ((0 : Int32)) ((0 : Int32)) (b - ((1 : Int32))))).2.2.2.2.2) ((s_X7_tryAgenda_32_34 (g_X0_copyFrom_34_20 M) a b g a g ((0 : Int32)) ((0 : Int32)) (b - ((1 : Int32))) (n_X7_tryAgenda_32_34 (g_X0_copyFrom_34_20 M) a b g a g ((0 : Int32)) ((0 : Int32)) (b - ((1 : Int32))))).1) (((s_X7_tryAgenda_32_34 (g_X0_copyFrom_34_20 M) a b g a g ((0 : Int32)) ((0 : Int32)) (b - ((1 : Int32))) (n_X7_tryAgenda_32_34 (g_X0_copyFrom_34_20 M) a b g a g ((0 : Int32)) ((0 : Int32)) (b - ((1 : Int32))))).2.1) / (z_ord ((((s_X7_tryAgenda_32_34 (g_X0_copyFrom_34_20 M) a b g a g ((0 : Int32)) ((0 : Int32)) (b - ((1 : Int32))) (n_X7_tryAgenda_32_34 (g_X0_copyFrom_34_20 M) a b g a g ((0 : Int32)) ((0 : Int32)) (b - ((1 : Int32))))).2.2.2.2.1)).toNatClampNeg))))) ∧ True
theorem c_X7_tryAgenda_32 {d : Nat} {L : Nat → Nat → Int64} (M : Nat → Nat → Int32) (a : Int32) (b : Int32) (g : Int32) (hpre : q_X7_tryAgenda_32 M a b g) : z_C (d + 6) 70 [.ref 32, .int a, .int b, .int g] (z_SH, M, L) none (z_SH, g_X7_tryAgenda_32 M a b g, L) := by
  unfold q_X7_tryAgenda_32 at hpre
  obtain ⟨p1, p2, p3, p4, p5, p6, -⟩ := hpre
  refine z_mkA (tb := tb_X7_tryAgenda) rfl (by decide) rfl rfl rfl ?_
  refine g_k 6 (pc' := 14) (LI' := [some (.ref 32), some (.int a), some (.int b), some (.int g), none, none, none, none, none, none]) (LL' := []) (st' := [.ref 20, .ref 34]) (S' := (z_SH, M, L)) (fun nq hq => And.intro rfl (And.intro rfl (And.intro rfl (And.intro rfl (And.intro rfl (And.intro rfl hq)))))) ?_
  refine g_k 1 (pc' := 17) (LI' := [some (.ref 32), some (.int a), some (.int b), some (.int g), none, none, none, none, none, none]) (LL' := []) (st' := []) (S' := (z_SH, g_X0_copyFrom_34_20 M, L)) (fun nq hq => And.intro rfl (Exists.intro _ (Exists.intro _ (And.intro (c_X0_copyFrom_34_20 (d := d + 3) M) (And.intro (z_fit_same _ _ _ _ _ _ _ _) hq))))) ?_
  generalize hg1 : g_X0_copyFrom_34_20 M = m1 at *
  refine g_k 9 (pc' := 30) (LI' := [some (.ref 32), some (.int a), some (.int b), some (.int g), some (.int a), some (.int g), some (.int 0), some (.int 0), none, none]) (LL' := []) (st' := [.int b]) (S' := (z_SH, m1, L)) (fun nq hq => And.intro rfl (And.intro rfl (And.intro rfl (And.intro rfl (And.intro rfl (And.intro rfl (And.intro rfl (And.intro rfl (And.intro rfl hq))))))))) ?_
  refine g_k 3 (pc' := 34) (LI' := [some (.ref 32), some (.int a), some (.int b), some (.int g), some (.int a), some (.int g), some (.int 0), some (.int 0), some (.int (b - ((1 : Int32)))), none]) (LL' := []) (st' := []) (S' := (z_SH, m1, L)) (fun nq hq => And.intro rfl (And.intro rfl (And.intro rfl hq))) ?_
  refine l_X7_tryAgenda_32_34 (d := d) m1 a b g a g ((0 : Int32)) ((0 : Int32)) (b - ((1 : Int32))) (n_X7_tryAgenda_32_34 m1 a b g a g ((0 : Int32)) ((0 : Int32)) (b - ((1 : Int32)))) (n_X7_tryAgenda_32_34_t m1 a b g a g ((0 : Int32)) ((0 : Int32)) (b - ((1 : Int32)))) p1 (fun y1 => ?_) none
  have hx1 : t_X7_tryAgenda_32_34 ((s_X7_tryAgenda_32_34 m1 a b g a g ((0 : Int32)) ((0 : Int32)) (b - ((1 : Int32))) ((n_X7_tryAgenda_32_34 m1 a b g a g ((0 : Int32)) ((0 : Int32)) (b - ((1 : Int32)))))).2.2.2.2.2) a b g ((s_X7_tryAgenda_32_34 m1 a b g a g ((0 : Int32)) ((0 : Int32)) (b - ((1 : Int32))) ((n_X7_tryAgenda_32_34 m1 a b g a g ((0 : Int32)) ((0 : Int32)) (b - ((1 : Int32)))))).1) ((s_X7_tryAgenda_32_34 m1 a b g a g ((0 : Int32)) ((0 : Int32)) (b - ((1 : Int32))) ((n_X7_tryAgenda_32_34 m1 a b g a g ((0 : Int32)) ((0 : Int32)) (b - ((1 : Int32)))))).2.1) ((s_X7_tryAgenda_32_34 m1 a b g a g ((0 : Int32)) ((0 : Int32)) (b - ((1 : Int32))) ((n_X7_tryAgenda_32_34 m1 a b g a g ((0 : Int32)) ((0 : Int32)) (b - ((1 : Int32)))))).2.2.1) ((s_X7_tryAgenda_32_34 m1 a b g a g ((0 : Int32)) ((0 : Int32)) (b - ((1 : Int32))) ((n_X7_tryAgenda_32_34 m1 a b g a g ((0 : Int32)) ((0 : Int32)) (b - ((1 : Int32)))))).2.2.2.1) ((s_X7_tryAgenda_32_34 m1 a b g a g ((0 : Int32)) ((0 : Int32)) (b - ((1 : Int32))) ((n_X7_tryAgenda_32_34 m1 a b g a g ((0 : Int32)) ((0 : Int32)) (b - ((1 : Int32)))))).2.2.2.2.1) = false := n_X7_tryAgenda_32_34_f m1 a b g a g ((0 : Int32)) ((0 : Int32)) (b - ((1 : Int32))) p2
  generalize hg2 : (s_X7_tryAgenda_32_34 m1 a b g a g ((0 : Int32)) ((0 : Int32)) (b - ((1 : Int32))) (n_X7_tryAgenda_32_34 m1 a b g a g ((0 : Int32)) ((0 : Int32)) (b - ((1 : Int32))))).1 = r2 at *
  generalize hg3 : (s_X7_tryAgenda_32_34 m1 a b g a g ((0 : Int32)) ((0 : Int32)) (b - ((1 : Int32))) (n_X7_tryAgenda_32_34 m1 a b g a g ((0 : Int32)) ((0 : Int32)) (b - ((1 : Int32))))).2.1 = r3 at *
  generalize hg4 : (s_X7_tryAgenda_32_34 m1 a b g a g ((0 : Int32)) ((0 : Int32)) (b - ((1 : Int32))) (n_X7_tryAgenda_32_34 m1 a b g a g ((0 : Int32)) ((0 : Int32)) (b - ((1 : Int32))))).2.2.1 = r4 at *
  generalize hg5 : (s_X7_tryAgenda_32_34 m1 a b g a g ((0 : Int32)) ((0 : Int32)) (b - ((1 : Int32))) (n_X7_tryAgenda_32_34 m1 a b g a g ((0 : Int32)) ((0 : Int32)) (b - ((1 : Int32))))).2.2.2.1 = r5 at *
  generalize hg6 : (s_X7_tryAgenda_32_34 m1 a b g a g ((0 : Int32)) ((0 : Int32)) (b - ((1 : Int32))) (n_X7_tryAgenda_32_34 m1 a b g a g ((0 : Int32)) ((0 : Int32)) (b - ((1 : Int32))))).2.2.2.2.1 = r6 at *
  generalize hg7 : (s_X7_tryAgenda_32_34 m1 a b g a g ((0 : Int32)) ((0 : Int32)) (b - ((1 : Int32))) (n_X7_tryAgenda_32_34 m1 a b g a g ((0 : Int32)) ((0 : Int32)) (b - ((1 : Int32))))).2.2.2.2.2 = m7 at *
  refine g_k 2 (pc' := (if z_cmp .lt r6 ((0 : Int32)) = true then 110 else 39)) (LI' := [some (.ref 32), some (.int a), some (.int b), some (.int g), some (.int r2), some (.int r3), some (.int r4), some (.int r5), some (.int r6), y1]) (LL' := []) (st' := []) (S' := (z_SH, m7, L)) (fun nq hq => And.intro rfl (And.intro rfl hq)) ?_
  refine g_lt (fun hc1 => ?_) (fun hc1 => ?_)
  · refine g_k 4 (pc' := (if z_cmp .le r5 (m7 32 5) = true then 131 else 119)) (LI' := [some (.ref 32), some (.int a), some (.int b), some (.int g), some (.int r2), some (.int r3), some (.int r4), some (.int r5), some (.int r6), y1]) (LL' := []) (st' := []) (S' := (z_SH, m7, L)) (fun nq hq => And.intro rfl (And.intro rfl (And.intro rfl (And.intro rfl hq)))) ?_
    refine g_le (fun hc2 => ?_) (fun hc2 => ?_)
    · exact ⟨1, And.intro rfl (⟨rfl, (by subst hg7; subst hg6; subst hg5; subst hg4; subst hg3; subst hg2; subst hg1; unfold g_X7_tryAgenda_32; (first | rw [if_pos hc1] | skip); (first | rw [if_pos hc2] | skip); try rfl)⟩)⟩
    · refine g_k 6 (pc' := 131) (LI' := [some (.ref 32), some (.int a), some (.int b), some (.int g), some (.int r2), some (.int r3), some (.int r4), some (.int r5), some (.int r6), y1]) (LL' := []) (st' := []) (S' := (z_SH, z_row (z_row m7 32 (upd (m7 32) 5 r5)) 32 (upd (upd (m7 32) 5 r5) 6 r4), L)) (fun nq hq => And.intro rfl (And.intro rfl (And.intro rfl (And.intro rfl (And.intro rfl (And.intro rfl hq)))))) ?_
      exact ⟨1, And.intro rfl (⟨rfl, (by subst hg7; subst hg6; subst hg5; subst hg4; subst hg3; subst hg2; subst hg1; unfold g_X7_tryAgenda_32; (first | rw [if_pos hc1] | skip); (first | rw [if_neg hc2] | skip); try rfl)⟩)⟩
  · refine g_k 6 (pc' := 50) (LI' := [some (.ref 32), some (.int a), some (.int b), some (.int g), some (.int r2), some (.int r3), some (.int r4), some (.int r5), some (.int r6), y1]) (LL' := []) (st' := [.int (r3 / (z_ord ((r6).toNatClampNeg))), .int r2]) (S' := (z_SH, m7, L)) (fun nq hq => And.intro rfl (And.intro rfl (And.intro rfl (And.intro rfl (And.intro p3 (And.intro p4 hq)))))) ?_
    refine g_k 1 (pc' := 53) (LI' := [some (.ref 32), some (.int a), some (.int b), some (.int g), some (.int r2), some (.int r3), some (.int r4), some (.int r5), some (.int r6), y1]) (LL' := []) (st' := [.int (f_X7_matterAt m7 r2 (r3 / (z_ord ((r6).toNatClampNeg))))]) (S' := (z_SH, m7, L)) (fun nq hq => And.intro rfl (Exists.intro _ (Exists.intro _ (And.intro (c_X7_matterAt (d := d + 3) m7 r2 (r3 / (z_ord ((r6).toNatClampNeg))) p5) (And.intro (z_fit_same _ _ _ _ _ _ _ _) hq))))) ?_
    generalize hg8 : f_X7_matterAt m7 r2 (r3 / (z_ord ((r6).toNatClampNeg))) = r8 at *
    refine g_k 9 (pc' := 69) (LI' := [some (.ref 32), some (.int a), some (.int b), some (.int g), some (.int r2), some (.int (r3 - r3 / (z_ord ((r6).toNatClampNeg)) * (z_ord ((r6).toNatClampNeg)))), some (.int r4), some (.int r5), some (.int r6), some (.int r8)]) (LL' := []) (st' := [.int 1, .int r2]) (S' := (z_SH, m7, L)) (fun nq hq => And.intro rfl (And.intro rfl (And.intro rfl (And.intro rfl (And.intro p3 (And.intro p4 (And.intro rfl (And.intro rfl (And.intro rfl hq))))))))) ?_
    refine g_k 9 (pc' := 82) (LI' := [some (.ref 32), some (.int a), some (.int b), some (.int g), some (.int (r2 &&& ((((1 : Int32)) <<< (r8 &&& 31)) ^^^ ((-1 : Int32))))), some (.int (r3 - r3 / (z_ord ((r6).toNatClampNeg)) * (z_ord ((r6).toNatClampNeg)))), some (.int r4), some (.int r5), some (.int r6), some (.int r8)]) (LL' := []) (st' := [.int (r4 * ((10 : Int32)))]) (S' := (z_SH, m7, L)) (fun nq hq => And.intro rfl (And.intro rfl (And.intro rfl (And.intro rfl (And.intro rfl (And.intro rfl (And.intro rfl (And.intro rfl (And.intro rfl hq))))))))) ?_
    refine g_k 8 (pc' := 95) (LI' := [some (.ref 32), some (.int a), some (.int b), some (.int g), some (.int (r2 &&& ((((1 : Int32)) <<< (r8 &&& 31)) ^^^ ((-1 : Int32))))), some (.int (r3 - r3 / (z_ord ((r6).toNatClampNeg)) * (z_ord ((r6).toNatClampNeg)))), some (.int (((r4 * ((10 : Int32))) + r8) + ((1 : Int32)))), some (.int r5), some (.int r6), some (.int r8)]) (LL' := []) (st' := [.int r8, .ref 33]) (S' := (z_SH, m7, L)) (fun nq hq => And.intro rfl (And.intro rfl (And.intro rfl (And.intro rfl (And.intro rfl (And.intro rfl (And.intro rfl (And.intro rfl hq)))))))) ?_
    refine g_k 1 (pc' := 98) (LI' := [some (.ref 32), some (.int a), some (.int b), some (.int g), some (.int (r2 &&& ((((1 : Int32)) <<< (r8 &&& 31)) ^^^ ((-1 : Int32))))), some (.int (r3 - r3 / (z_ord ((r6).toNatClampNeg)) * (z_ord ((r6).toNatClampNeg)))), some (.int (((r4 * ((10 : Int32))) + r8) + ((1 : Int32)))), some (.int r5), some (.int r6), some (.int r8)]) (LL' := []) (st' := [.int (f_X6_putMatter_33 m7 r8)]) (S' := (z_SH, g_X6_putMatter_33 m7 r8, L)) (fun nq hq => And.intro rfl (Exists.intro _ (Exists.intro _ (And.intro (c_X6_putMatter_33 (d := d) m7 r8 p6) (And.intro (z_fit_same _ _ _ _ _ _ _ _) hq))))) ?_
    generalize hg9 : f_X6_putMatter_33 m7 r8 = r9 at *
    generalize hg10 : g_X6_putMatter_33 m7 r8 = m10 at *
    refine g_k 1 (pc' := (if z_cmp .eq r9 ((0 : Int32)) = true then 104 else 101)) (LI' := [some (.ref 32), some (.int a), some (.int b), some (.int g), some (.int (r2 &&& ((((1 : Int32)) <<< (r8 &&& 31)) ^^^ ((-1 : Int32))))), some (.int (r3 - r3 / (z_ord ((r6).toNatClampNeg)) * (z_ord ((r6).toNatClampNeg)))), some (.int (((r4 * ((10 : Int32))) + r8) + ((1 : Int32)))), some (.int r5), some (.int r6), some (.int r8)]) (LL' := []) (st' := []) (S' := (z_SH, m10, L)) (fun nq hq => And.intro rfl hq) ?_
    refine g_eq (fun hc3 => ?_) (fun hc3 => ?_)
    · refine g_k 2 (pc' := 34) (LI' := [some (.ref 32), some (.int a), some (.int b), some (.int g), some (.int (r2 &&& ((((1 : Int32)) <<< (r8 &&& 31)) ^^^ ((-1 : Int32))))), some (.int (r3 - r3 / (z_ord ((r6).toNatClampNeg)) * (z_ord ((r6).toNatClampNeg)))), some (.int (((r4 * ((10 : Int32))) + r8) + ((1 : Int32)))), some (.int r5), some (.int (r6 + (-1))), some (.int r8)]) (LL' := []) (st' := []) (S' := (z_SH, m10, L)) (fun nq hq => And.intro rfl (And.intro rfl hq)) ?_
      (exfalso; subst hg10; subst hg9; subst hg8; unfold t_X7_tryAgenda_32_34 at hx1; (try simp only [if_neg hc1] at hx1); (try simp only [if_pos hc3] at hx1); exact Bool.noConfusion hx1)
    · refine g_k 3 (pc' := 34) (LI' := [some (.ref 32), some (.int a), some (.int b), some (.int g), some (.int (r2 &&& ((((1 : Int32)) <<< (r8 &&& 31)) ^^^ ((-1 : Int32))))), some (.int (r3 - r3 / (z_ord ((r6).toNatClampNeg)) * (z_ord ((r6).toNatClampNeg)))), some (.int (((r4 * ((10 : Int32))) + r8) + ((1 : Int32)))), some (.int (r5 + 1)), some (.int (r6 + (-1))), some (.int r8)]) (LL' := []) (st' := []) (S' := (z_SH, m10, L)) (fun nq hq => And.intro rfl (And.intro rfl (And.intro rfl hq))) ?_
      (exfalso; subst hg10; subst hg9; subst hg8; unfold t_X7_tryAgenda_32_34 at hx1; (try simp only [if_neg hc1] at hx1); (try simp only [if_neg hc3] at hx1); exact Bool.noConfusion hx1)
def t_X5_skipBlanks_2_0 (M : Nat → Nat → Int32)   : Bool := if M 2 1 ≤ M 2 2 then false else if ¬ M 1 ((M 2 2).toNatClampNeg) = (32 : Int32) then false else true
def e_X5_skipBlanks_2_0_M (M : Nat → Nat → Int32)   : Nat → Nat → Int32 := z_row M 2 (upd (M 2) 2 ((M 2 2) + ((1 : Int32))))
def qi_X5_skipBlanks_2_0 (M : Nat → Nat → Int32)   : Prop := (z_vin (M 2 2) 240 = true) ∧ True
theorem it_X5_skipBlanks_2_0 {d : Nat} {L : Nat → Nat → Int64} {Q : Option Value → z_St → Prop} (M : Nat → Nat → Int32)   (ht : t_X5_skipBlanks_2_0 M = true) (p1 : qi_X5_skipBlanks_2_0 M) (h : z_G (d + 0) tb_X5_skipBlanks 0 [some (.ref 2)] [] [] (z_SH, e_X5_skipBlanks_2_0_M M, L) Q) : z_G (d + 0) tb_X5_skipBlanks 0 [some (.ref 2)] [] [] (z_SH, M, L) Q := by
  unfold qi_X5_skipBlanks_2_0 at p1
  obtain ⟨p1, -⟩ := p1
  refine g_k 5 (pc' := (if z_cmp .ge (M 2 2) (M 2 1) = true then 38 else 11)) (LI' := [some (.ref 2)]) (LL' := []) (st' := []) (S' := (z_SH, M, L)) (fun nq hq => And.intro rfl (And.intro rfl (And.intro rfl (And.intro rfl (And.intro rfl hq))))) ?_
  refine g_ge (fun hc1 => ?_) (fun hc1 => ?_)
  · (exfalso; unfold t_X5_skipBlanks_2_0 at ht; (try simp only [if_pos hc1] at ht); exact Bool.noConfusion ht)
  · refine g_k 7 (pc' := (if z_cmp .ne (M 1 ((M 2 2).toNatClampNeg)) ((32 : Int32)) = true then 38 else 25)) (LI' := [some (.ref 2)]) (LL' := []) (st' := []) (S' := (z_SH, M, L)) (fun nq hq => And.intro rfl (And.intro rfl (And.intro rfl (And.intro rfl (And.intro p1 (And.intro rfl (And.intro rfl hq))))))) ?_
    refine g_ne (fun hc2 => ?_) (fun hc2 => ?_)
    · (exfalso; unfold t_X5_skipBlanks_2_0 at ht; (try simp only [if_neg hc1] at ht); (try simp only [if_pos hc2] at ht); exact Bool.noConfusion ht)
    · refine g_k 7 (pc' := 0) (LI' := [some (.ref 2)]) (LL' := []) (st' := []) (S' := (z_SH, z_row M 2 (upd (M 2) 2 ((M 2 2) + ((1 : Int32)))), L)) (fun nq hq => And.intro rfl (And.intro rfl (And.intro rfl (And.intro rfl (And.intro rfl (And.intro rfl (And.intro rfl hq))))))) ?_
      (clear ht; unfold e_X5_skipBlanks_2_0_M at h; (try simp only [if_neg hc1] at h); (try simp only [if_neg (not_not_intro hc2)] at h); exact h )
def s_X5_skipBlanks_2_0 (M : Nat → Nat → Int32)   (n : Nat) : (Nat → Nat → Int32) := Nat.rec (motive := fun _ => (Nat → Nat → Int32)) (M) (fun _ r => (e_X5_skipBlanks_2_0_M r)) n
theorem fr_e_X5_skipBlanks_2_0_M (M : Nat → Nat → Int32)   (c : Nat) (h2 : c ≠ 2) : e_X5_skipBlanks_2_0_M M c = M c := by
  unfold e_X5_skipBlanks_2_0_M
  repeat' split
  all_goals simp only [z_row_ne h2]
theorem fr_s_X5_skipBlanks_2_0 (M : Nat → Nat → Int32)   (n : Nat) (c : Nat) (h2 : c ≠ 2) : ((s_X5_skipBlanks_2_0 M n)) c = M c := by
  induction n with
  | zero => rfl
  | succ n ih =>
    have hs : s_X5_skipBlanks_2_0 M (n + 1) = (e_X5_skipBlanks_2_0_M ((s_X5_skipBlanks_2_0 M n))) := rfl
    rw [hs]
    exact (fr_e_X5_skipBlanks_2_0_M ((s_X5_skipBlanks_2_0 M n))   c h2).trans ih
def n_X5_skipBlanks_2_0 (M : Nat → Nat → Int32)   : Nat := z_fst (fun k => t_X5_skipBlanks_2_0 ((s_X5_skipBlanks_2_0 M k))) 240
theorem n_X5_skipBlanks_2_0_t (M : Nat → Nat → Int32)   : ∀ k, k < n_X5_skipBlanks_2_0 M → t_X5_skipBlanks_2_0 ((s_X5_skipBlanks_2_0 M k)) = true := fun k hk => z_fst_t (p := (fun k => t_X5_skipBlanks_2_0 ((s_X5_skipBlanks_2_0 M k)))) (B := 240) hk
theorem n_X5_skipBlanks_2_0_f (M : Nat → Nat → Int32)   (h : t_X5_skipBlanks_2_0 ((s_X5_skipBlanks_2_0 M 240)) = false) : t_X5_skipBlanks_2_0 ((s_X5_skipBlanks_2_0 M ((n_X5_skipBlanks_2_0 M)))) = false := by
  have h2 := z_fst_f (p := (fun k => t_X5_skipBlanks_2_0 ((s_X5_skipBlanks_2_0 M k)))) (B := 240) h
  unfold n_X5_skipBlanks_2_0
  exact h2
theorem l_X5_skipBlanks_2_0 {d : Nat} {L : Nat → Nat → Int64} {Q : Option Value → z_St → Prop} (M : Nat → Nat → Int32)   (n : Nat) : (∀ k, k < n → t_X5_skipBlanks_2_0 ((s_X5_skipBlanks_2_0 M k)) = true) → (∀ k, k < n → qi_X5_skipBlanks_2_0 ((s_X5_skipBlanks_2_0 M k))) → (z_G (d + 0) tb_X5_skipBlanks 0 [some (.ref 2)] [] [] (z_SH, (s_X5_skipBlanks_2_0 M n), L) Q) → z_G (d + 0) tb_X5_skipBlanks 0 [some (.ref 2)] [] [] (z_SH, M, L) Q := by
  induction n with
  | zero =>
    intro hc p1 h
    exact h
  | succ n ih =>
    intro hc p1 h
    refine ih (fun k hk => hc k (by omega)) (fun k hk => p1 k (by omega)) ?_
    have hcn := hc n (by omega)
    have p1n := p1 n (by omega)
    clear ih hc p1
    have hs : s_X5_skipBlanks_2_0 M (n + 1) = (e_X5_skipBlanks_2_0_M ((s_X5_skipBlanks_2_0 M n))) := rfl
    rw [hs] at h
    clear hs
    generalize s_X5_skipBlanks_2_0 M n = sg at *
    refine it_X5_skipBlanks_2_0 sg   hcn p1n ?_
    exact h
def g_X5_skipBlanks_2 (M : Nat → Nat → Int32)  : Nat → Nat → Int32 := ((s_X5_skipBlanks_2_0 M (n_X5_skipBlanks_2_0 M)))
theorem fr_g_X5_skipBlanks_2 (M : Nat → Nat → Int32)  (c : Nat) (h2 : c ≠ 2) : g_X5_skipBlanks_2 M c = M c := by
  unfold g_X5_skipBlanks_2
  repeat' split
  all_goals simp only [z_row_ne h2, fr_s_X5_skipBlanks_2_0 (c := c) (h2 := h2)]
def q_X5_skipBlanks_2 (M : Nat → Nat → Int32)  : Prop := (∀ k83, k83 < n_X5_skipBlanks_2_0 M → qi_X5_skipBlanks_2_0 ((s_X5_skipBlanks_2_0 M k83))) ∧ (t_X5_skipBlanks_2_0 ((s_X5_skipBlanks_2_0 M 240)) = false) ∧ (z_vin (((s_X5_skipBlanks_2_0 M (n_X5_skipBlanks_2_0 M))) 2 2) 240 = true) ∧ True
theorem c_X5_skipBlanks_2 {d : Nat} {L : Nat → Nat → Int64} (M : Nat → Nat → Int32)  (hpre : q_X5_skipBlanks_2 M) : z_C (d + 1) 52 [.ref 2] (z_SH, M, L) none (z_SH, g_X5_skipBlanks_2 M, L) := by
  unfold q_X5_skipBlanks_2 at hpre
  obtain ⟨p1, p2, p3, -⟩ := hpre
  refine z_mkA (tb := tb_X5_skipBlanks) rfl (by decide) rfl rfl rfl ?_
  refine l_X5_skipBlanks_2_0 (d := d) M (n_X5_skipBlanks_2_0 M) (n_X5_skipBlanks_2_0_t M) p1 ?_ 
  have hx1 : t_X5_skipBlanks_2_0 ((s_X5_skipBlanks_2_0 M ((n_X5_skipBlanks_2_0 M)))) = false := n_X5_skipBlanks_2_0_f M p2
  generalize hg1 : (s_X5_skipBlanks_2_0 M (n_X5_skipBlanks_2_0 M)) = m1 at *
  refine g_k 5 (pc' := (if z_cmp .ge (m1 2 2) (m1 2 1) = true then 38 else 11)) (LI' := [some (.ref 2)]) (LL' := []) (st' := []) (S' := (z_SH, m1, L)) (fun nq hq => And.intro rfl (And.intro rfl (And.intro rfl (And.intro rfl (And.intro rfl hq))))) ?_
  refine g_ge (fun hc1 => ?_) (fun hc1 => ?_)
  · exact ⟨1, And.intro rfl (⟨rfl, (by subst hg1; unfold g_X5_skipBlanks_2; (first | rw [if_pos hc1] | skip); try rfl)⟩)⟩
  · refine g_k 7 (pc' := (if z_cmp .ne (m1 1 ((m1 2 2).toNatClampNeg)) ((32 : Int32)) = true then 38 else 25)) (LI' := [some (.ref 2)]) (LL' := []) (st' := []) (S' := (z_SH, m1, L)) (fun nq hq => And.intro rfl (And.intro rfl (And.intro rfl (And.intro rfl (And.intro p3 (And.intro rfl (And.intro rfl hq))))))) ?_
    refine g_ne (fun hc2 => ?_) (fun hc2 => ?_)
    · exact ⟨1, And.intro rfl (⟨rfl, (by subst hg1; unfold g_X5_skipBlanks_2; (first | rw [if_neg hc1] | skip); (first | rw [if_pos hc2] | skip); try rfl)⟩)⟩
    · refine g_k 7 (pc' := 0) (LI' := [some (.ref 2)]) (LL' := []) (st' := []) (S' := (z_SH, z_row m1 2 (upd (m1 2) 2 ((m1 2 2) + ((1 : Int32)))), L)) (fun nq hq => And.intro rfl (And.intro rfl (And.intro rfl (And.intro rfl (And.intro rfl (And.intro rfl (And.intro rfl hq))))))) ?_
      (exfalso; unfold t_X5_skipBlanks_2_0 at hx1; (try simp only [if_neg hc1] at hx1); (try simp only [if_neg (not_not_intro hc2)] at hx1); exact Bool.noConfusion hx1)
def t_X9_skips_268_0 (M : Nat → Nat → Int32)   : Bool := if ¬ (f_X9_here_268 M) = (32 : Int32) then false else true
def e_X9_skips_268_0_M (M : Nat → Nat → Int32)   : Nat → Nat → Int32 := z_row M 268 (upd (M 268) 20 ((M 268 20) + ((1 : Int32))))
def qi_X9_skips_268_0 (M : Nat → Nat → Int32)   : Prop := (q_X9_here_268 M) ∧ True
theorem it_X9_skips_268_0 {d : Nat} {L : Nat → Nat → Int64} {Q : Option Value → z_St → Prop} (M : Nat → Nat → Int32)   (ht : t_X9_skips_268_0 M = true) (p1 : qi_X9_skips_268_0 M) (h : z_G (d + 1) tb_X9_skips 0 [some (.ref 268)] [] [] (z_SH, e_X9_skips_268_0_M M, L) Q) : z_G (d + 1) tb_X9_skips 0 [some (.ref 268)] [] [] (z_SH, M, L) Q := by
  unfold qi_X9_skips_268_0 at p1
  obtain ⟨p1, -⟩ := p1
  refine g_k 1 (pc' := 1) (LI' := [some (.ref 268)]) (LL' := []) (st' := [.ref 268]) (S' := (z_SH, M, L)) (fun nq hq => And.intro rfl hq) ?_
  refine g_k 1 (pc' := 4) (LI' := [some (.ref 268)]) (LL' := []) (st' := [.int (f_X9_here_268 M)]) (S' := (z_SH, M, L)) (fun nq hq => And.intro rfl (Exists.intro _ (Exists.intro _ (And.intro (c_X9_here_268 (d := d) M  p1) (And.intro (z_fit_same _ _ _ _ _ _ _ _) hq))))) ?_
  generalize hg1 : f_X9_here_268 M = r1 at *
  refine g_k 2 (pc' := (if z_cmp .ne r1 ((32 : Int32)) = true then 22 else 9)) (LI' := [some (.ref 268)]) (LL' := []) (st' := []) (S' := (z_SH, M, L)) (fun nq hq => And.intro rfl (And.intro rfl hq)) ?_
  refine g_ne (fun hc1 => ?_) (fun hc1 => ?_)
  · (exfalso; subst hg1; unfold t_X9_skips_268_0 at ht; (try simp only [if_pos hc1] at ht); exact Bool.noConfusion ht)
  · refine g_k 7 (pc' := 0) (LI' := [some (.ref 268)]) (LL' := []) (st' := []) (S' := (z_SH, z_row M 268 (upd (M 268) 20 ((M 268 20) + ((1 : Int32)))), L)) (fun nq hq => And.intro rfl (And.intro rfl (And.intro rfl (And.intro rfl (And.intro rfl (And.intro rfl (And.intro rfl hq))))))) ?_
    (clear ht; subst hg1; unfold e_X9_skips_268_0_M at h; (try simp only [if_neg (not_not_intro hc1)] at h); exact h )
def s_X9_skips_268_0 (M : Nat → Nat → Int32)   (n : Nat) : (Nat → Nat → Int32) := Nat.rec (motive := fun _ => (Nat → Nat → Int32)) (M) (fun _ r => (e_X9_skips_268_0_M r)) n
theorem fr_e_X9_skips_268_0_M (M : Nat → Nat → Int32)   (c : Nat) (h268 : c ≠ 268) : e_X9_skips_268_0_M M c = M c := by
  unfold e_X9_skips_268_0_M
  repeat' split
  all_goals simp only [z_row_ne h268]
theorem fr_s_X9_skips_268_0 (M : Nat → Nat → Int32)   (n : Nat) (c : Nat) (h268 : c ≠ 268) : ((s_X9_skips_268_0 M n)) c = M c := by
  induction n with
  | zero => rfl
  | succ n ih =>
    have hs : s_X9_skips_268_0 M (n + 1) = (e_X9_skips_268_0_M ((s_X9_skips_268_0 M n))) := rfl
    rw [hs]
    exact (fr_e_X9_skips_268_0_M ((s_X9_skips_268_0 M n))   c h268).trans ih
def n_X9_skips_268_0 (M : Nat → Nat → Int32)   : Nat := z_fst (fun k => t_X9_skips_268_0 ((s_X9_skips_268_0 M k))) 240
theorem n_X9_skips_268_0_t (M : Nat → Nat → Int32)   : ∀ k, k < n_X9_skips_268_0 M → t_X9_skips_268_0 ((s_X9_skips_268_0 M k)) = true := fun k hk => z_fst_t (p := (fun k => t_X9_skips_268_0 ((s_X9_skips_268_0 M k)))) (B := 240) hk
theorem n_X9_skips_268_0_f (M : Nat → Nat → Int32)   (h : t_X9_skips_268_0 ((s_X9_skips_268_0 M 240)) = false) : t_X9_skips_268_0 ((s_X9_skips_268_0 M ((n_X9_skips_268_0 M)))) = false := by
  have h2 := z_fst_f (p := (fun k => t_X9_skips_268_0 ((s_X9_skips_268_0 M k)))) (B := 240) h
  unfold n_X9_skips_268_0
  exact h2
theorem l_X9_skips_268_0 {d : Nat} {L : Nat → Nat → Int64} {Q : Option Value → z_St → Prop} (M : Nat → Nat → Int32)   (n : Nat) : (∀ k, k < n → t_X9_skips_268_0 ((s_X9_skips_268_0 M k)) = true) → (∀ k, k < n → qi_X9_skips_268_0 ((s_X9_skips_268_0 M k))) → (z_G (d + 1) tb_X9_skips 0 [some (.ref 268)] [] [] (z_SH, (s_X9_skips_268_0 M n), L) Q) → z_G (d + 1) tb_X9_skips 0 [some (.ref 268)] [] [] (z_SH, M, L) Q := by
  induction n with
  | zero =>
    intro hc p1 h
    exact h
  | succ n ih =>
    intro hc p1 h
    refine ih (fun k hk => hc k (by omega)) (fun k hk => p1 k (by omega)) ?_
    have hcn := hc n (by omega)
    have p1n := p1 n (by omega)
    clear ih hc p1
    have hs : s_X9_skips_268_0 M (n + 1) = (e_X9_skips_268_0_M ((s_X9_skips_268_0 M n))) := rfl
    rw [hs] at h
    clear hs
    generalize s_X9_skips_268_0 M n = sg at *
    refine it_X9_skips_268_0 sg   hcn p1n ?_
    exact h
def g_X9_skips_268 (M : Nat → Nat → Int32)  : Nat → Nat → Int32 := ((s_X9_skips_268_0 M (n_X9_skips_268_0 M)))
theorem fr_g_X9_skips_268 (M : Nat → Nat → Int32)  (c : Nat) (h268 : c ≠ 268) : g_X9_skips_268 M c = M c := by
  unfold g_X9_skips_268
  repeat' split
  all_goals simp only [z_row_ne h268, fr_s_X9_skips_268_0 (c := c) (h268 := h268)]
def q_X9_skips_268 (M : Nat → Nat → Int32)  : Prop := (∀ k84, k84 < n_X9_skips_268_0 M → qi_X9_skips_268_0 ((s_X9_skips_268_0 M k84))) ∧ (t_X9_skips_268_0 ((s_X9_skips_268_0 M 240)) = false) ∧ (q_X9_here_268 ((s_X9_skips_268_0 M (n_X9_skips_268_0 M)))) ∧ True
theorem c_X9_skips_268 {d : Nat} {L : Nat → Nat → Int64} (M : Nat → Nat → Int32)  (hpre : q_X9_skips_268 M) : z_C (d + 2) 117 [.ref 268] (z_SH, M, L) none (z_SH, g_X9_skips_268 M, L) := by
  unfold q_X9_skips_268 at hpre
  obtain ⟨p1, p2, p3, -⟩ := hpre
  refine z_mkA (tb := tb_X9_skips) rfl (by decide) rfl rfl rfl ?_
  refine l_X9_skips_268_0 (d := d) M (n_X9_skips_268_0 M) (n_X9_skips_268_0_t M) p1 ?_ 
  have hx1 : t_X9_skips_268_0 ((s_X9_skips_268_0 M ((n_X9_skips_268_0 M)))) = false := n_X9_skips_268_0_f M p2
  generalize hg1 : (s_X9_skips_268_0 M (n_X9_skips_268_0 M)) = m1 at *
  refine g_k 1 (pc' := 1) (LI' := [some (.ref 268)]) (LL' := []) (st' := [.ref 268]) (S' := (z_SH, m1, L)) (fun nq hq => And.intro rfl hq) ?_
  refine g_k 1 (pc' := 4) (LI' := [some (.ref 268)]) (LL' := []) (st' := [.int (f_X9_here_268 m1)]) (S' := (z_SH, m1, L)) (fun nq hq => And.intro rfl (Exists.intro _ (Exists.intro _ (And.intro (c_X9_here_268 (d := d) m1  p3) (And.intro (z_fit_same _ _ _ _ _ _ _ _) hq))))) ?_
  generalize hg2 : f_X9_here_268 m1 = r2 at *
  refine g_k 2 (pc' := (if z_cmp .ne r2 ((32 : Int32)) = true then 22 else 9)) (LI' := [some (.ref 268)]) (LL' := []) (st' := []) (S' := (z_SH, m1, L)) (fun nq hq => And.intro rfl (And.intro rfl hq)) ?_
  refine g_ne (fun hc1 => ?_) (fun hc1 => ?_)
  · exact ⟨1, And.intro rfl (⟨rfl, (by subst hg2; subst hg1; unfold g_X9_skips_268; (first | rw [if_pos hc1] | skip); try rfl)⟩)⟩
  · refine g_k 7 (pc' := 0) (LI' := [some (.ref 268)]) (LL' := []) (st' := []) (S' := (z_SH, z_row m1 268 (upd (m1 268) 20 ((m1 268 20) + ((1 : Int32)))), L)) (fun nq hq => And.intro rfl (And.intro rfl (And.intro rfl (And.intro rfl (And.intro rfl (And.intro rfl (And.intro rfl hq))))))) ?_
    (exfalso; subst hg2; unfold t_X9_skips_268_0 at hx1; (try simp only [if_neg (not_not_intro hc1)] at hx1); exact Bool.noConfusion hx1)
def t_X7_firstTwang_32_30 (M : Nat → Nat → Int32) (t : Int32) (v2 : Int32) (c3 : Int32) : Bool := if (99 : Int32) < c3 then false else if (g_X6_putMatter_33 M t) 34 10 ≤ v2 then true else false
def e_X7_firstTwang_32_30_c3 (M : Nat → Nat → Int32) (t : Int32) (v2 : Int32) (c3 : Int32) : Int32 := c3 + 1
def e_X7_firstTwang_32_30_M (M : Nat → Nat → Int32) (t : Int32) (v2 : Int32) (c3 : Int32) : Nat → Nat → Int32 := (g_X6_putMatter_33 M t)
def qi_X7_firstTwang_32_30 (M : Nat → Nat → Int32) (t : Int32) (v2 : Int32) (c3 : Int32) : Prop := (q_X6_putMatter_33 M t) ∧ True
theorem it_X7_firstTwang_32_30 {d : Nat} {L : Nat → Nat → Int64} {Q : Option Value → z_St → Prop} (M : Nat → Nat → Int32) (t : Int32) (v2 : Int32) (c3 : Int32) (ht : t_X7_firstTwang_32_30 M t v2 c3 = true) (p1 : qi_X7_firstTwang_32_30 M t v2 c3) (h : z_G (d + 5) tb_X7_firstTwang 30 [some (.ref 32), some (.int t), some (.int v2), some (.int (e_X7_firstTwang_32_30_c3 M t v2 c3))] [] [] (z_SH, e_X7_firstTwang_32_30_M M t v2 c3, L) Q) : z_G (d + 5) tb_X7_firstTwang 30 [some (.ref 32), some (.int t), some (.int v2), some (.int c3)] [] [] (z_SH, M, L) Q := by
  unfold qi_X7_firstTwang_32_30 at p1
  obtain ⟨p1, -⟩ := p1
  refine g_k 3 (pc' := (if z_cmp .gt c3 ((99 : Int32)) = true then 67 else 36)) (LI' := [some (.ref 32), some (.int t), some (.int v2), some (.int c3)]) (LL' := []) (st' := []) (S' := (z_SH, M, L)) (fun nq hq => And.intro rfl (And.intro rfl (And.intro rfl hq))) ?_
  refine g_gt (fun hc1 => ?_) (fun hc1 => ?_)
  · (exfalso; unfold t_X7_firstTwang_32_30 at ht; (try simp only [if_pos hc1] at ht); exact Bool.noConfusion ht)
  · refine g_k 3 (pc' := 41) (LI' := [some (.ref 32), some (.int t), some (.int v2), some (.int c3)]) (LL' := []) (st' := [.int t, .ref 33]) (S' := (z_SH, M, L)) (fun nq hq => And.intro rfl (And.intro rfl (And.intro rfl hq))) ?_
    refine g_k 1 (pc' := 44) (LI' := [some (.ref 32), some (.int t), some (.int v2), some (.int c3)]) (LL' := []) (st' := [.int (f_X6_putMatter_33 M t)]) (S' := (z_SH, g_X6_putMatter_33 M t, L)) (fun nq hq => And.intro rfl (Exists.intro _ (Exists.intro _ (And.intro (c_X6_putMatter_33 (d := d) M t p1) (And.intro (z_fit_same _ _ _ _ _ _ _ _) hq))))) ?_
    generalize hg1 : f_X6_putMatter_33 M t = r1 at *
    generalize hg2 : g_X6_putMatter_33 M t = m2 at *
    refine g_k 7 (pc' := (if z_cmp .le (m2 34 10) v2 = true then 61 else 59)) (LI' := [some (.ref 32), some (.int t), some (.int v2), some (.int c3)]) (LL' := []) (st' := []) (S' := (z_SH, m2, L)) (fun nq hq => And.intro rfl (And.intro rfl (And.intro rfl (And.intro rfl (And.intro rfl (And.intro rfl (And.intro rfl hq))))))) ?_
    refine g_le (fun hc2 => ?_) (fun hc2 => ?_)
    · refine g_k 2 (pc' := 30) (LI' := [some (.ref 32), some (.int t), some (.int v2), some (.int (c3 + 1))]) (LL' := []) (st' := []) (S' := (z_SH, m2, L)) (fun nq hq => And.intro rfl (And.intro rfl hq)) ?_
      (clear ht; subst hg2; subst hg1; unfold e_X7_firstTwang_32_30_c3 e_X7_firstTwang_32_30_M at h; (try simp only [if_neg hc1] at h); (try simp only [if_pos hc2] at h); exact h )
    · (exfalso; subst hg2; subst hg1; unfold t_X7_firstTwang_32_30 at ht; (try simp only [if_neg hc1] at ht); (try simp only [if_neg hc2] at ht); exact Bool.noConfusion ht)
def s_X7_firstTwang_32_30 (M : Nat → Nat → Int32) (t : Int32) (v2 : Int32) (c3 : Int32) (n : Nat) : Int32 × (Nat → Nat → Int32) := Nat.rec (motive := fun _ => Int32 × (Nat → Nat → Int32)) (c3, M) (fun _ r => (e_X7_firstTwang_32_30_c3 r.2 t v2 r.1, e_X7_firstTwang_32_30_M r.2 t v2 r.1)) n
theorem fr_e_X7_firstTwang_32_30_M (M : Nat → Nat → Int32) (t : Int32) (v2 : Int32) (c3 : Int32) (c : Nat) (h34 : c ≠ 34) (h40 : c ≠ 40) (h41 : c ≠ 41) (h42 : c ≠ 42) (h43 : c ≠ 43) (h44 : c ≠ 44) (h45 : c ≠ 45) : e_X7_firstTwang_32_30_M M t v2 c3 c = M c := by
  unfold e_X7_firstTwang_32_30_M
  repeat' split
  all_goals simp only [z_row_ne h34, z_row_ne h40, z_row_ne h41, z_row_ne h42, z_row_ne h43, z_row_ne h44, z_row_ne h45, fr_g_X6_putMatter_33 (c := c) (h34 := h34) (h40 := h40) (h41 := h41) (h42 := h42) (h43 := h43) (h44 := h44) (h45 := h45)]
theorem fr_s_X7_firstTwang_32_30 (M : Nat → Nat → Int32) (t : Int32) (v2 : Int32) (c3 : Int32) (n : Nat) (c : Nat) (h34 : c ≠ 34) (h40 : c ≠ 40) (h41 : c ≠ 41) (h42 : c ≠ 42) (h43 : c ≠ 43) (h44 : c ≠ 44) (h45 : c ≠ 45) : ((s_X7_firstTwang_32_30 M t v2 c3 n).2) c = M c := by
  induction n with
  | zero => rfl
  | succ n ih =>
    have hs : s_X7_firstTwang_32_30 M t v2 c3 (n + 1) = (e_X7_firstTwang_32_30_c3 ((s_X7_firstTwang_32_30 M t v2 c3 n).2) t v2 ((s_X7_firstTwang_32_30 M t v2 c3 n).1), e_X7_firstTwang_32_30_M ((s_X7_firstTwang_32_30 M t v2 c3 n).2) t v2 ((s_X7_firstTwang_32_30 M t v2 c3 n).1)) := rfl
    rw [hs]
    dsimp only
    exact (fr_e_X7_firstTwang_32_30_M ((s_X7_firstTwang_32_30 M t v2 c3 n).2) t v2 ((s_X7_firstTwang_32_30 M t v2 c3 n).1) c h34 h40 h41 h42 h43 h44 h45).trans ih
def n_X7_firstTwang_32_30 (M : Nat → Nat → Int32) (t : Int32) (v2 : Int32) (c3 : Int32) : Nat := z_fst (fun k => t_X7_firstTwang_32_30 ((s_X7_firstTwang_32_30 M t v2 c3 k).2) t v2 ((s_X7_firstTwang_32_30 M t v2 c3 k).1)) 99
theorem n_X7_firstTwang_32_30_t (M : Nat → Nat → Int32) (t : Int32) (v2 : Int32) (c3 : Int32) : ∀ k, k < n_X7_firstTwang_32_30 M t v2 c3 → t_X7_firstTwang_32_30 ((s_X7_firstTwang_32_30 M t v2 c3 k).2) t v2 ((s_X7_firstTwang_32_30 M t v2 c3 k).1) = true := fun k hk => z_fst_t (p := (fun k => t_X7_firstTwang_32_30 ((s_X7_firstTwang_32_30 M t v2 c3 k).2) t v2 ((s_X7_firstTwang_32_30 M t v2 c3 k).1))) (B := 99) hk
theorem n_X7_firstTwang_32_30_f (M : Nat → Nat → Int32) (t : Int32) (v2 : Int32) (c3 : Int32) (h : t_X7_firstTwang_32_30 ((s_X7_firstTwang_32_30 M t v2 c3 99).2) t v2 ((s_X7_firstTwang_32_30 M t v2 c3 99).1) = false) : t_X7_firstTwang_32_30 ((s_X7_firstTwang_32_30 M t v2 c3 ((n_X7_firstTwang_32_30 M t v2 c3))).2) t v2 ((s_X7_firstTwang_32_30 M t v2 c3 ((n_X7_firstTwang_32_30 M t v2 c3))).1) = false := by
  have h2 := z_fst_f (p := (fun k => t_X7_firstTwang_32_30 ((s_X7_firstTwang_32_30 M t v2 c3 k).2) t v2 ((s_X7_firstTwang_32_30 M t v2 c3 k).1))) (B := 99) h
  unfold n_X7_firstTwang_32_30
  exact h2
theorem l_X7_firstTwang_32_30 {d : Nat} {L : Nat → Nat → Int64} {Q : Option Value → z_St → Prop} (M : Nat → Nat → Int32) (t : Int32) (v2 : Int32) (c3 : Int32) (n : Nat) : (∀ k, k < n → t_X7_firstTwang_32_30 ((s_X7_firstTwang_32_30 M t v2 c3 k).2) t v2 ((s_X7_firstTwang_32_30 M t v2 c3 k).1) = true) → (∀ k, k < n → qi_X7_firstTwang_32_30 ((s_X7_firstTwang_32_30 M t v2 c3 k).2) t v2 ((s_X7_firstTwang_32_30 M t v2 c3 k).1)) → (z_G (d + 5) tb_X7_firstTwang 30 [some (.ref 32), some (.int t), some (.int v2), some (.int ((s_X7_firstTwang_32_30 M t v2 c3 n).1))] [] [] (z_SH, (s_X7_firstTwang_32_30 M t v2 c3 n).2, L) Q) → z_G (d + 5) tb_X7_firstTwang 30 [some (.ref 32), some (.int t), some (.int v2), some (.int c3)] [] [] (z_SH, M, L) Q := by
  induction n with
  | zero =>
    intro hc p1 h
    exact h
  | succ n ih =>
    intro hc p1 h
    refine ih (fun k hk => hc k (by omega)) (fun k hk => p1 k (by omega)) ?_
    have hcn := hc n (by omega)
    have p1n := p1 n (by omega)
    clear ih hc p1
    have hs : s_X7_firstTwang_32_30 M t v2 c3 (n + 1) = (e_X7_firstTwang_32_30_c3 ((s_X7_firstTwang_32_30 M t v2 c3 n).2) t v2 ((s_X7_firstTwang_32_30 M t v2 c3 n).1), e_X7_firstTwang_32_30_M ((s_X7_firstTwang_32_30 M t v2 c3 n).2) t v2 ((s_X7_firstTwang_32_30 M t v2 c3 n).1)) := rfl
    rw [hs] at h
    clear hs
    try dsimp only at h
    generalize s_X7_firstTwang_32_30 M t v2 c3 n = sg at *
    refine it_X7_firstTwang_32_30 sg.2 t v2 sg.1 hcn p1n ?_
    exact h
def f_X7_firstTwang_32 (M : Nat → Nat → Int32) (t : Int32) : Int32 := if (99 : Int32) < ((s_X7_firstTwang_32_30 (g_X0_copyFrom_34_20 M) t ((g_X0_copyFrom_34_20 M) 20 10) ((1 : Int32)) (n_X7_firstTwang_32_30 (g_X0_copyFrom_34_20 M) t ((g_X0_copyFrom_34_20 M) 20 10) ((1 : Int32)))).1) then (-1 : Int32) else ((s_X7_firstTwang_32_30 (g_X0_copyFrom_34_20 M) t ((g_X0_copyFrom_34_20 M) 20 10) ((1 : Int32)) (n_X7_firstTwang_32_30 (g_X0_copyFrom_34_20 M) t ((g_X0_copyFrom_34_20 M) 20 10) ((1 : Int32)))).1)
def g_X7_firstTwang_32 (M : Nat → Nat → Int32) (t : Int32) : Nat → Nat → Int32 := if (99 : Int32) < ((s_X7_firstTwang_32_30 (g_X0_copyFrom_34_20 M) t ((g_X0_copyFrom_34_20 M) 20 10) ((1 : Int32)) (n_X7_firstTwang_32_30 (g_X0_copyFrom_34_20 M) t ((g_X0_copyFrom_34_20 M) 20 10) ((1 : Int32)))).1) then ((s_X7_firstTwang_32_30 (g_X0_copyFrom_34_20 M) t ((g_X0_copyFrom_34_20 M) 20 10) ((1 : Int32)) (n_X7_firstTwang_32_30 (g_X0_copyFrom_34_20 M) t ((g_X0_copyFrom_34_20 M) 20 10) ((1 : Int32)))).2) else (g_X6_putMatter_33 ((s_X7_firstTwang_32_30 (g_X0_copyFrom_34_20 M) t ((g_X0_copyFrom_34_20 M) 20 10) ((1 : Int32)) (n_X7_firstTwang_32_30 (g_X0_copyFrom_34_20 M) t ((g_X0_copyFrom_34_20 M) 20 10) ((1 : Int32)))).2) t)
theorem fr_g_X7_firstTwang_32 (M : Nat → Nat → Int32) (t : Int32) (c : Nat) (h34 : c ≠ 34) (h35 : c ≠ 35) (h36 : c ≠ 36) (h37 : c ≠ 37) (h38 : c ≠ 38) (h39 : c ≠ 39) (h40 : c ≠ 40) (h41 : c ≠ 41) (h42 : c ≠ 42) (h43 : c ≠ 43) (h44 : c ≠ 44) (h45 : c ≠ 45) : g_X7_firstTwang_32 M t c = M c := by
  unfold g_X7_firstTwang_32
  repeat' split
  all_goals simp only [z_row_ne h34, z_row_ne h35, z_row_ne h36, z_row_ne h37, z_row_ne h38, z_row_ne h39, z_row_ne h40, z_row_ne h41, z_row_ne h42, z_row_ne h43, z_row_ne h44, z_row_ne h45, fr_g_X0_copyFrom_34_20 (c := c) (h34 := h34) (h35 := h35) (h36 := h36) (h37 := h37) (h38 := h38) (h39 := h39) (h40 := h40) (h41 := h41), fr_g_X6_putMatter_33 (c := c) (h34 := h34) (h40 := h40) (h41 := h41) (h42 := h42) (h43 := h43) (h44 := h44) (h45 := h45), fr_s_X7_firstTwang_32_30 (c := c) (h34 := h34) (h40 := h40) (h41 := h41) (h42 := h42) (h43 := h43) (h44 := h44) (h45 := h45)]
def q_X7_firstTwang_32 (M : Nat → Nat → Int32) (t : Int32) : Prop := (∀ k85, k85 < n_X7_firstTwang_32_30 (g_X0_copyFrom_34_20 M) t ((g_X0_copyFrom_34_20 M) 20 10) ((1 : Int32)) → qi_X7_firstTwang_32_30 ((s_X7_firstTwang_32_30 (g_X0_copyFrom_34_20 M) t ((g_X0_copyFrom_34_20 M) 20 10) ((1 : Int32)) k85).2) t ((g_X0_copyFrom_34_20 M) 20 10) ((s_X7_firstTwang_32_30 (g_X0_copyFrom_34_20 M) t ((g_X0_copyFrom_34_20 M) 20 10) ((1 : Int32)) k85).1)) ∧ (t_X7_firstTwang_32_30 ((s_X7_firstTwang_32_30 (g_X0_copyFrom_34_20 M) t ((g_X0_copyFrom_34_20 M) 20 10) ((1 : Int32)) 99).2) t ((g_X0_copyFrom_34_20 M) 20 10) ((s_X7_firstTwang_32_30 (g_X0_copyFrom_34_20 M) t ((g_X0_copyFrom_34_20 M) 20 10) ((1 : Int32)) 99).1) = false) ∧ (q_X6_putMatter_33 ((s_X7_firstTwang_32_30 (g_X0_copyFrom_34_20 M) t ((g_X0_copyFrom_34_20 M) 20 10) ((1 : Int32)) (n_X7_firstTwang_32_30 (g_X0_copyFrom_34_20 M) t ((g_X0_copyFrom_34_20 M) 20 10) ((1 : Int32)))).2) t) ∧ True
theorem c_X7_firstTwang_32 {d : Nat} {L : Nat → Nat → Int64} (M : Nat → Nat → Int32) (t : Int32) (hpre : q_X7_firstTwang_32 M t) : z_C (d + 6) 68 [.ref 32, .int t] (z_SH, M, L) (some (.int (f_X7_firstTwang_32 M t))) (z_SH, g_X7_firstTwang_32 M t, L) := by
  unfold q_X7_firstTwang_32 at hpre
  obtain ⟨p1, p2, p3, -⟩ := hpre
  refine z_mkA (tb := tb_X7_firstTwang) rfl (by decide) rfl rfl rfl ?_
  refine g_k 6 (pc' := 14) (LI' := [some (.ref 32), some (.int t), none, none]) (LL' := []) (st' := [.ref 20, .ref 34]) (S' := (z_SH, M, L)) (fun nq hq => And.intro rfl (And.intro rfl (And.intro rfl (And.intro rfl (And.intro rfl (And.intro rfl hq)))))) ?_
  refine g_k 1 (pc' := 17) (LI' := [some (.ref 32), some (.int t), none, none]) (LL' := []) (st' := []) (S' := (z_SH, g_X0_copyFrom_34_20 M, L)) (fun nq hq => And.intro rfl (Exists.intro _ (Exists.intro _ (And.intro (c_X0_copyFrom_34_20 (d := d + 3) M) (And.intro (z_fit_same _ _ _ _ _ _ _ _) hq))))) ?_
  generalize hg1 : g_X0_copyFrom_34_20 M = m1 at *
  refine g_k 7 (pc' := 30) (LI' := [some (.ref 32), some (.int t), some (.int (m1 20 10)), some (.int 1)]) (LL' := []) (st' := []) (S' := (z_SH, m1, L)) (fun nq hq => And.intro rfl (And.intro rfl (And.intro rfl (And.intro rfl (And.intro rfl (And.intro rfl (And.intro rfl hq))))))) ?_
  refine l_X7_firstTwang_32_30 (d := d) m1 t (m1 20 10) ((1 : Int32)) (n_X7_firstTwang_32_30 m1 t (m1 20 10) ((1 : Int32))) (n_X7_firstTwang_32_30_t m1 t (m1 20 10) ((1 : Int32))) p1 ?_ 
  have hx1 : t_X7_firstTwang_32_30 ((s_X7_firstTwang_32_30 m1 t (m1 20 10) ((1 : Int32)) ((n_X7_firstTwang_32_30 m1 t (m1 20 10) ((1 : Int32))))).2) t (m1 20 10) ((s_X7_firstTwang_32_30 m1 t (m1 20 10) ((1 : Int32)) ((n_X7_firstTwang_32_30 m1 t (m1 20 10) ((1 : Int32))))).1) = false := n_X7_firstTwang_32_30_f m1 t (m1 20 10) ((1 : Int32)) p2
  generalize hg2 : (s_X7_firstTwang_32_30 m1 t (m1 20 10) ((1 : Int32)) (n_X7_firstTwang_32_30 m1 t (m1 20 10) ((1 : Int32)))).1 = r2 at *
  generalize hg3 : (s_X7_firstTwang_32_30 m1 t (m1 20 10) ((1 : Int32)) (n_X7_firstTwang_32_30 m1 t (m1 20 10) ((1 : Int32)))).2 = m3 at *
  refine g_k 3 (pc' := (if z_cmp .gt r2 ((99 : Int32)) = true then 67 else 36)) (LI' := [some (.ref 32), some (.int t), some (.int (m1 20 10)), some (.int r2)]) (LL' := []) (st' := []) (S' := (z_SH, m3, L)) (fun nq hq => And.intro rfl (And.intro rfl (And.intro rfl hq))) ?_
  refine g_gt (fun hc1 => ?_) (fun hc1 => ?_)
  · refine g_k 1 (pc' := 68) (LI' := [some (.ref 32), some (.int t), some (.int (m1 20 10)), some (.int r2)]) (LL' := []) (st' := [.int (-1)]) (S' := (z_SH, m3, L)) (fun nq hq => And.intro rfl hq) ?_
    exact ⟨1, And.intro rfl (⟨(by subst hg3; subst hg2; subst hg1; unfold f_X7_firstTwang_32; (first | rw [if_pos hc1] | skip); try rfl), (by subst hg3; subst hg2; subst hg1; unfold g_X7_firstTwang_32; (first | rw [if_pos hc1] | skip); try rfl)⟩)⟩
  · refine g_k 3 (pc' := 41) (LI' := [some (.ref 32), some (.int t), some (.int (m1 20 10)), some (.int r2)]) (LL' := []) (st' := [.int t, .ref 33]) (S' := (z_SH, m3, L)) (fun nq hq => And.intro rfl (And.intro rfl (And.intro rfl hq))) ?_
    refine g_k 1 (pc' := 44) (LI' := [some (.ref 32), some (.int t), some (.int (m1 20 10)), some (.int r2)]) (LL' := []) (st' := [.int (f_X6_putMatter_33 m3 t)]) (S' := (z_SH, g_X6_putMatter_33 m3 t, L)) (fun nq hq => And.intro rfl (Exists.intro _ (Exists.intro _ (And.intro (c_X6_putMatter_33 (d := d) m3 t p3) (And.intro (z_fit_same _ _ _ _ _ _ _ _) hq))))) ?_
    generalize hg4 : f_X6_putMatter_33 m3 t = r4 at *
    generalize hg5 : g_X6_putMatter_33 m3 t = m5 at *
    refine g_k 7 (pc' := (if z_cmp .le (m5 34 10) (m1 20 10) = true then 61 else 59)) (LI' := [some (.ref 32), some (.int t), some (.int (m1 20 10)), some (.int r2)]) (LL' := []) (st' := []) (S' := (z_SH, m5, L)) (fun nq hq => And.intro rfl (And.intro rfl (And.intro rfl (And.intro rfl (And.intro rfl (And.intro rfl (And.intro rfl hq))))))) ?_
    refine g_le (fun hc2 => ?_) (fun hc2 => ?_)
    · refine g_k 2 (pc' := 30) (LI' := [some (.ref 32), some (.int t), some (.int (m1 20 10)), some (.int (r2 + 1))]) (LL' := []) (st' := []) (S' := (z_SH, m5, L)) (fun nq hq => And.intro rfl (And.intro rfl hq)) ?_
      (exfalso; subst hg5; subst hg4; unfold t_X7_firstTwang_32_30 at hx1; (try simp only [if_neg hc1] at hx1); (try simp only [if_pos hc2] at hx1); exact Bool.noConfusion hx1)
    · refine g_k 1 (pc' := 60) (LI' := [some (.ref 32), some (.int t), some (.int (m1 20 10)), some (.int r2)]) (LL' := []) (st' := [.int r2]) (S' := (z_SH, m5, L)) (fun nq hq => And.intro rfl hq) ?_
      exact ⟨1, And.intro rfl (⟨(by subst hg5; subst hg4; subst hg3; subst hg2; subst hg1; unfold f_X7_firstTwang_32; (first | rw [if_neg hc1] | skip); (first | rw [if_neg hc2] | skip); try rfl), (by subst hg5; subst hg4; subst hg3; subst hg2; subst hg1; unfold g_X7_firstTwang_32; (first | rw [if_neg hc1] | skip); (first | rw [if_neg hc2] | skip); try rfl)⟩)⟩
