def f_X8_judge_0 (M : Nat → Nat → Int32)  : Int32 := (f_X3_firstWrong_243_19 M)
def g_X8_judge_0 (M : Nat → Nat → Int32)  : Nat → Nat → Int32 := (g_X3_firstWrong_243_19 M)
theorem fr_g_X8_judge_0 (M : Nat → Nat → Int32)  (c : Nat) (h28 : c ≠ 28) (h29 : c ≠ 29) (h30 : c ≠ 30) (h31 : c ≠ 31) (h268 : c ≠ 268) (h269 : c ≠ 269) (h270 : c ≠ 270) : g_X8_judge_0 M c = M c := by
  unfold g_X8_judge_0
  repeat' split
  all_goals simp only [z_row_ne h28, z_row_ne h29, z_row_ne h30, z_row_ne h31, z_row_ne h268, z_row_ne h269, z_row_ne h270, fr_g_X3_firstWrong_243_19 (c := c) (h28 := h28) (h29 := h29) (h30 := h30) (h31 := h31) (h268 := h268) (h269 := h269) (h270 := h270)]
def q_X8_judge_0 (M : Nat → Nat → Int32)  : Prop := (q_X3_firstWrong_243_19 M) ∧ True
theorem c_X8_judge_0 {d : Nat} {L : Nat → Nat → Int64} (M : Nat → Nat → Int32)   (hpre : q_X8_judge_0 M) : z_C (d + 5) 98 [.ref 0] (z_SH, M, L) (some (.int (f_X8_judge_0 M))) (z_SH, g_X8_judge_0 M, L) := by
  unfold q_X8_judge_0 at hpre
  obtain ⟨p1, -⟩ := hpre
  refine z_mkA (tb := tb_X8_judge) rfl (by decide) rfl rfl rfl ?_
  refine g_k 4 (pc' := 8) (LI' := [some (.ref 0)]) (LL' := []) (st' := [.ref 19, .ref 243]) (S' := (z_SH, M, L)) (fun nq hq => And.intro rfl (And.intro rfl (And.intro rfl (And.intro rfl hq)))) ?_
  refine g_k 1 (pc' := 11) (LI' := [some (.ref 0)]) (LL' := []) (st' := [.int (f_X3_firstWrong_243_19 M)]) (S' := (z_SH, g_X3_firstWrong_243_19 M, L)) (fun nq hq => And.intro rfl (Exists.intro _ (Exists.intro _ (And.intro (c_X3_firstWrong_243_19 (d := d) M  p1) (And.intro (z_fit_same _ _ _ _ _ _ _ _) hq))))) ?_
  generalize hg1 : f_X3_firstWrong_243_19 M = r1 at *
  generalize hg2 : g_X3_firstWrong_243_19 M = m2 at *
  exact ⟨1, And.intro rfl (⟨(by subst hg2; subst hg1; rfl), (by subst hg2; subst hg1; rfl)⟩)⟩
def e_X7_findAgenda_32_23_M (M : Nat → Nat → Int32) (a : Int32) (v2 : Int32) (v3 : Int32) (i : Int32)  : Nat → Nat → Int32 := (g_X7_tryAgenda_32 M a v2 i)
def qi_X7_findAgenda_32_23 (M : Nat → Nat → Int32) (a : Int32) (v2 : Int32) (v3 : Int32) (i : Int32)  : Prop := (q_X7_tryAgenda_32 M a v2 i) ∧ True
theorem it_X7_findAgenda_32_23 {d : Nat} {L : Nat → Nat → Int64} {Q : Option Value → z_St → Prop} (M : Nat → Nat → Int32) (a : Int32) (v2 : Int32) (v3 : Int32) (i : Int32)  (hc : ¬ (v3 ≤ i)) (p1 : qi_X7_findAgenda_32_23 M a v2 v3 i) (h : z_G (d + 5) tb_X7_findAgenda 23 [some (.ref 32), some (.int a), some (.int v2), some (.int v3), some (.int (i + 1))] [] [] (z_SH, e_X7_findAgenda_32_23_M M a v2 v3 i, L) Q) : z_G (d + 5) tb_X7_findAgenda 23 [some (.ref 32), some (.int a), some (.int v2), some (.int v3), some (.int i)] [] [] (z_SH, M, L) Q := by
  unfold qi_X7_findAgenda_32_23 at p1
  obtain ⟨p1, -⟩ := p1
  refine g_k 3 (pc' := (if z_cmp .ge i v3 = true then 43 else 29)) (LI' := [some (.ref 32), some (.int a), some (.int v2), some (.int v3), some (.int i)]) (LL' := []) (st' := []) (S' := (z_SH, M, L)) (fun nq hq => And.intro rfl (And.intro rfl (And.intro rfl hq))) ?_
  refine g_ge (fun hc1 => ?_) (fun hc1 => ?_)
  · exact absurd hc1 hc
  · refine g_k 4 (pc' := 34) (LI' := [some (.ref 32), some (.int a), some (.int v2), some (.int v3), some (.int i)]) (LL' := []) (st' := [.int i, .int v2, .int a, .ref 32]) (S' := (z_SH, M, L)) (fun nq hq => And.intro rfl (And.intro rfl (And.intro rfl (And.intro rfl hq)))) ?_
    refine g_k 1 (pc' := 37) (LI' := [some (.ref 32), some (.int a), some (.int v2), some (.int v3), some (.int i)]) (LL' := []) (st' := []) (S' := (z_SH, g_X7_tryAgenda_32 M a v2 i, L)) (fun nq hq => And.intro rfl (Exists.intro _ (Exists.intro _ (And.intro (c_X7_tryAgenda_32 (d := d) M a v2 i p1) (And.intro (z_fit_same _ _ _ _ _ _ _ _) hq))))) ?_
    generalize hg1 : g_X7_tryAgenda_32 M a v2 i = m1 at *
    refine g_k 2 (pc' := 23) (LI' := [some (.ref 32), some (.int a), some (.int v2), some (.int v3), some (.int (i + 1))]) (LL' := []) (st' := []) (S' := (z_SH, m1, L)) (fun nq hq => And.intro rfl (And.intro rfl hq)) ?_
    (subst hg1; unfold e_X7_findAgenda_32_23_M at h; exact h )
def s_X7_findAgenda_32_23 (M : Nat → Nat → Int32) (a : Int32) (v2 : Int32) (v3 : Int32)  (n : Nat) : (Nat → Nat → Int32) := Nat.rec (motive := fun _ => (Nat → Nat → Int32)) (M) (fun k r => (e_X7_findAgenda_32_23_M r a v2 v3 (nI k))) n
theorem fr_e_X7_findAgenda_32_23_M (M : Nat → Nat → Int32) (a : Int32) (v2 : Int32) (v3 : Int32) (i : Int32)  (c : Nat) (h32 : c ≠ 32) (h34 : c ≠ 34) (h35 : c ≠ 35) (h36 : c ≠ 36) (h37 : c ≠ 37) (h38 : c ≠ 38) (h39 : c ≠ 39) (h40 : c ≠ 40) (h41 : c ≠ 41) (h42 : c ≠ 42) (h43 : c ≠ 43) (h44 : c ≠ 44) (h45 : c ≠ 45) (h271 : c ≠ 271) (h272 : c ≠ 272) (h273 : c ≠ 273) : e_X7_findAgenda_32_23_M M a v2 v3 i c = M c := by
  unfold e_X7_findAgenda_32_23_M
  repeat' split
  all_goals simp only [z_row_ne h32, z_row_ne h34, z_row_ne h35, z_row_ne h36, z_row_ne h37, z_row_ne h38, z_row_ne h39, z_row_ne h40, z_row_ne h41, z_row_ne h42, z_row_ne h43, z_row_ne h44, z_row_ne h45, z_row_ne h271, z_row_ne h272, z_row_ne h273, fr_g_X7_tryAgenda_32 (c := c) (h32 := h32) (h34 := h34) (h35 := h35) (h36 := h36) (h37 := h37) (h38 := h38) (h39 := h39) (h40 := h40) (h41 := h41) (h42 := h42) (h43 := h43) (h44 := h44) (h45 := h45) (h271 := h271) (h272 := h272) (h273 := h273)]
theorem fr_s_X7_findAgenda_32_23 (M : Nat → Nat → Int32) (a : Int32) (v2 : Int32) (v3 : Int32)  (n : Nat) (c : Nat) (h32 : c ≠ 32) (h34 : c ≠ 34) (h35 : c ≠ 35) (h36 : c ≠ 36) (h37 : c ≠ 37) (h38 : c ≠ 38) (h39 : c ≠ 39) (h40 : c ≠ 40) (h41 : c ≠ 41) (h42 : c ≠ 42) (h43 : c ≠ 43) (h44 : c ≠ 44) (h45 : c ≠ 45) (h271 : c ≠ 271) (h272 : c ≠ 272) (h273 : c ≠ 273) : ((s_X7_findAgenda_32_23 M a v2 v3 n)) c = M c := by
  induction n with
  | zero => rfl
  | succ n ih => exact (fr_e_X7_findAgenda_32_23_M _ a v2 v3 (nI n)  c h32 h34 h35 h36 h37 h38 h39 h40 h41 h42 h43 h44 h45 h271 h272 h273).trans ih
theorem l_X7_findAgenda_32_23 {d : Nat} {L : Nat → Nat → Int64} {Q : Option Value → z_St → Prop} (M : Nat → Nat → Int32) (a : Int32) (v2 : Int32) (v3 : Int32)  (n : Nat) : (∀ k, k < n → ¬ (v3 ≤ (nI k))) → (∀ k, k < n → qi_X7_findAgenda_32_23 ((s_X7_findAgenda_32_23 M a v2 v3 k)) a v2 v3 (nI k)) → (z_G (d + 5) tb_X7_findAgenda 23 [some (.ref 32), some (.int a), some (.int v2), some (.int v3), some (.int (nI n))] [] [] (z_SH, (s_X7_findAgenda_32_23 M a v2 v3 n), L) Q) → z_G (d + 5) tb_X7_findAgenda 23 [some (.ref 32), some (.int a), some (.int v2), some (.int v3), some (.int (nI 0))] [] [] (z_SH, M, L) Q := by
  induction n with
  | zero =>
    intro hc p1 h
    exact h
  | succ n ih =>
    intro hc p1 h
    refine ih (fun k hk => hc k (by omega)) (fun k hk => p1 k (by omega)) ?_
    have hcn := hc n (by omega)
    have p1n := p1 n (by omega)
    clear ih hc p1
    have hs : s_X7_findAgenda_32_23 M a v2 v3 (n + 1) = (e_X7_findAgenda_32_23_M ((s_X7_findAgenda_32_23 M a v2 v3 n)) a v2 v3 (nI n)) := rfl
    rw [hs] at h
    clear hs
    generalize s_X7_findAgenda_32_23 M a v2 v3 n = sg at *
    refine it_X7_findAgenda_32_23 sg a v2 v3 (nI n)  hcn p1n ?_
    rw [nI_1]
    exact h
def g_X7_findAgenda_32 (M : Nat → Nat → Int32) (a : Int32) : Nat → Nat → Int32 := ((s_X7_findAgenda_32_23 (z_row (z_row M 32 (upd (M 32) 5 ((-1 : Int32)))) 32 (upd (upd (M 32) 5 ((-1 : Int32))) 6 ((0 : Int32)))) a (f_J6_bitCount_0f7a4 (z_row (z_row M 32 (upd (M 32) 5 ((-1 : Int32)))) 32 (upd (upd (M 32) 5 ((-1 : Int32))) 6 ((0 : Int32)))) a) (f_X7_ordersOf (z_row (z_row M 32 (upd (M 32) 5 ((-1 : Int32)))) 32 (upd (upd (M 32) 5 ((-1 : Int32))) 6 ((0 : Int32)))) (f_J6_bitCount_0f7a4 (z_row (z_row M 32 (upd (M 32) 5 ((-1 : Int32)))) 32 (upd (upd (M 32) 5 ((-1 : Int32))) 6 ((0 : Int32)))) a)) (((f_X7_ordersOf (z_row (z_row M 32 (upd (M 32) 5 ((-1 : Int32)))) 32 (upd (upd (M 32) 5 ((-1 : Int32))) 6 ((0 : Int32)))) (f_J6_bitCount_0f7a4 (z_row (z_row M 32 (upd (M 32) 5 ((-1 : Int32)))) 32 (upd (upd (M 32) 5 ((-1 : Int32))) 6 ((0 : Int32)))) a))).toNatClampNeg)))
theorem fr_g_X7_findAgenda_32 (M : Nat → Nat → Int32) (a : Int32) (c : Nat) (h32 : c ≠ 32) (h34 : c ≠ 34) (h35 : c ≠ 35) (h36 : c ≠ 36) (h37 : c ≠ 37) (h38 : c ≠ 38) (h39 : c ≠ 39) (h40 : c ≠ 40) (h41 : c ≠ 41) (h42 : c ≠ 42) (h43 : c ≠ 43) (h44 : c ≠ 44) (h45 : c ≠ 45) (h271 : c ≠ 271) (h272 : c ≠ 272) (h273 : c ≠ 273) : g_X7_findAgenda_32 M a c = M c := by
  unfold g_X7_findAgenda_32
  repeat' split
  all_goals simp only [z_row_ne h32, z_row_ne h34, z_row_ne h35, z_row_ne h36, z_row_ne h37, z_row_ne h38, z_row_ne h39, z_row_ne h40, z_row_ne h41, z_row_ne h42, z_row_ne h43, z_row_ne h44, z_row_ne h45, z_row_ne h271, z_row_ne h272, z_row_ne h273, fr_s_X7_findAgenda_32_23 (c := c) (h32 := h32) (h34 := h34) (h35 := h35) (h36 := h36) (h37 := h37) (h38 := h38) (h39 := h39) (h40 := h40) (h41 := h41) (h42 := h42) (h43 := h43) (h44 := h44) (h45 := h45) (h271 := h271) (h272 := h272) (h273 := h273)]
def q_X7_findAgenda_32 (M : Nat → Nat → Int32) (a : Int32) : Prop := (q_X7_ordersOf (z_row (z_row M 32 (upd (M 32) 5 ((-1 : Int32)))) 32 (upd (upd (M 32) 5 ((-1 : Int32))) 6 ((0 : Int32)))) (f_J6_bitCount_0f7a4 (z_row (z_row M 32 (upd (M 32) 5 ((-1 : Int32)))) 32 (upd (upd (M 32) 5 ((-1 : Int32))) 6 ((0 : Int32)))) a)) ∧ (∀ k83, k83 < ((f_X7_ordersOf (z_row (z_row M 32 (upd (M 32) 5 ((-1 : Int32)))) 32 (upd (upd (M 32) 5 ((-1 : Int32))) 6 ((0 : Int32)))) (f_J6_bitCount_0f7a4 (z_row (z_row M 32 (upd (M 32) 5 ((-1 : Int32)))) 32 (upd (upd (M 32) 5 ((-1 : Int32))) 6 ((0 : Int32)))) a))).toNatClampNeg → qi_X7_findAgenda_32_23 ((s_X7_findAgenda_32_23 (z_row (z_row M 32 (upd (M 32) 5 ((-1 : Int32)))) 32 (upd (upd (M 32) 5 ((-1 : Int32))) 6 ((0 : Int32)))) a (f_J6_bitCount_0f7a4 (z_row (z_row M 32 (upd (M 32) 5 ((-1 : Int32)))) 32 (upd (upd (M 32) 5 ((-1 : Int32))) 6 ((0 : Int32)))) a) (f_X7_ordersOf (z_row (z_row M 32 (upd (M 32) 5 ((-1 : Int32)))) 32 (upd (upd (M 32) 5 ((-1 : Int32))) 6 ((0 : Int32)))) (f_J6_bitCount_0f7a4 (z_row (z_row M 32 (upd (M 32) 5 ((-1 : Int32)))) 32 (upd (upd (M 32) 5 ((-1 : Int32))) 6 ((0 : Int32)))) a)) k83)) a (f_J6_bitCount_0f7a4 (z_row (z_row M 32 (upd (M 32) 5 ((-1 : Int32)))) 32 (upd (upd (M 32) 5 ((-1 : Int32))) 6 ((0 : Int32)))) a) (f_X7_ordersOf (z_row (z_row M 32 (upd (M 32) 5 ((-1 : Int32)))) 32 (upd (upd (M 32) 5 ((-1 : Int32))) 6 ((0 : Int32)))) (f_J6_bitCount_0f7a4 (z_row (z_row M 32 (upd (M 32) 5 ((-1 : Int32)))) 32 (upd (upd (M 32) 5 ((-1 : Int32))) 6 ((0 : Int32)))) a)) (nI k83)) ∧ True
theorem c_X7_findAgenda_32 {d : Nat} {L : Nat → Nat → Int64} (M : Nat → Nat → Int32) (a : Int32)  (hpre : q_X7_findAgenda_32 M a) : z_C (d + 6) 69 [.ref 32, .int a] (z_SH, M, L) none (z_SH, g_X7_findAgenda_32 M a, L) := by
  unfold q_X7_findAgenda_32 at hpre
  obtain ⟨p1, p2, -⟩ := hpre
  refine z_mkA (tb := tb_X7_findAgenda) rfl (by decide) rfl rfl rfl ?_
  refine g_k 7 (pc' := 11) (LI' := [some (.ref 32), some (.int a), none, none, none]) (LL' := []) (st' := [.int a]) (S' := (z_SH, z_row (z_row M 32 (upd (M 32) 5 ((-1 : Int32)))) 32 (upd (upd (M 32) 5 ((-1 : Int32))) 6 ((0 : Int32))), L)) (fun nq hq => And.intro rfl (And.intro rfl (And.intro rfl (And.intro rfl (And.intro rfl (And.intro rfl (And.intro rfl hq))))))) ?_
  refine g_k 1 (pc' := 14) (LI' := [some (.ref 32), some (.int a), none, none, none]) (LL' := []) (st' := [.int (f_J6_bitCount_0f7a4 (z_row (z_row M 32 (upd (M 32) 5 ((-1 : Int32)))) 32 (upd (upd (M 32) 5 ((-1 : Int32))) 6 ((0 : Int32)))) a)]) (S' := (z_SH, z_row (z_row M 32 (upd (M 32) 5 ((-1 : Int32)))) 32 (upd (upd (M 32) 5 ((-1 : Int32))) 6 ((0 : Int32))), L)) (fun nq hq => And.intro rfl (Exists.intro _ (Exists.intro _ (And.intro (c_J6_bitCount_0f7a4 (d := d + 4) (z_row (z_row M 32 (upd (M 32) 5 ((-1 : Int32)))) 32 (upd (upd (M 32) 5 ((-1 : Int32))) 6 ((0 : Int32)))) a) (And.intro (z_fit_same _ _ _ _ _ _ _ _) hq))))) ?_
  generalize hg1 : f_J6_bitCount_0f7a4 (z_row (z_row M 32 (upd (M 32) 5 ((-1 : Int32)))) 32 (upd (upd (M 32) 5 ((-1 : Int32))) 6 ((0 : Int32)))) a = r1 at *
  refine g_k 2 (pc' := 16) (LI' := [some (.ref 32), some (.int a), some (.int r1), none, none]) (LL' := []) (st' := [.int r1]) (S' := (z_SH, z_row (z_row M 32 (upd (M 32) 5 ((-1 : Int32)))) 32 (upd (upd (M 32) 5 ((-1 : Int32))) 6 ((0 : Int32))), L)) (fun nq hq => And.intro rfl (And.intro rfl hq)) ?_
  refine g_k 1 (pc' := 19) (LI' := [some (.ref 32), some (.int a), some (.int r1), none, none]) (LL' := []) (st' := [.int (f_X7_ordersOf (z_row (z_row M 32 (upd (M 32) 5 ((-1 : Int32)))) 32 (upd (upd (M 32) 5 ((-1 : Int32))) 6 ((0 : Int32)))) r1)]) (S' := (z_SH, z_row (z_row M 32 (upd (M 32) 5 ((-1 : Int32)))) 32 (upd (upd (M 32) 5 ((-1 : Int32))) 6 ((0 : Int32))), L)) (fun nq hq => And.intro rfl (Exists.intro _ (Exists.intro _ (And.intro (c_X7_ordersOf (d := d + 3) (z_row (z_row M 32 (upd (M 32) 5 ((-1 : Int32)))) 32 (upd (upd (M 32) 5 ((-1 : Int32))) 6 ((0 : Int32)))) r1 p1) (And.intro (z_fit_same _ _ _ _ _ _ _ _) hq))))) ?_
  generalize hg2 : f_X7_ordersOf (z_row (z_row M 32 (upd (M 32) 5 ((-1 : Int32)))) 32 (upd (upd (M 32) 5 ((-1 : Int32))) 6 ((0 : Int32)))) r1 = r2 at *
  refine g_k 3 (pc' := 23) (LI' := [some (.ref 32), some (.int a), some (.int r1), some (.int r2), some (.int 0)]) (LL' := []) (st' := []) (S' := (z_SH, z_row (z_row M 32 (upd (M 32) 5 ((-1 : Int32)))) 32 (upd (upd (M 32) 5 ((-1 : Int32))) 6 ((0 : Int32))), L)) (fun nq hq => And.intro rfl (And.intro rfl (And.intro rfl hq))) ?_
  refine l_X7_findAgenda_32_23 (d := d) (z_row (z_row M 32 (upd (M 32) 5 ((-1 : Int32)))) 32 (upd (upd (M 32) 5 ((-1 : Int32))) 6 ((0 : Int32)))) a r1 r2 ((r2).toNatClampNeg) (fun k hk => z_lpc hk) p2 ?_ 
  have hx1 : r2 ≤ nI ((r2).toNatClampNeg) := z_lpe
  generalize hg3 : nI ((r2).toNatClampNeg) = r3 at *
  generalize hg4 : (s_X7_findAgenda_32_23 (z_row (z_row M 32 (upd (M 32) 5 ((-1 : Int32)))) 32 (upd (upd (M 32) 5 ((-1 : Int32))) 6 ((0 : Int32)))) a r1 r2 ((r2).toNatClampNeg)) = m4 at *
  refine g_k 3 (pc' := (if z_cmp .ge r3 r2 = true then 43 else 29)) (LI' := [some (.ref 32), some (.int a), some (.int r1), some (.int r2), some (.int r3)]) (LL' := []) (st' := []) (S' := (z_SH, m4, L)) (fun nq hq => And.intro rfl (And.intro rfl (And.intro rfl hq))) ?_
  refine g_ge (fun hc1 => ?_) (fun hc1 => absurd (hx1) hc1)
  exact ⟨1, And.intro rfl (⟨rfl, (by subst hg4; subst hg3; subst hg2; subst hg1; rfl)⟩)⟩
def f_X8_agenda_0 (M : Nat → Nat → Int32) (a : Int32) (w : Int32) : Int32 := if ¬ (f_X8_isOutside M a ((256 : Int32))) = (0 : Int32) then (-1000000002 : Int32) else if (5 : Int32) < (f_J6_bitCount_0f7a4 M a) then (-1000000002 : Int32) else if (f_X8_isOutside M w ((2 : Int32))) = (0 : Int32) then if ¬ w = (0 : Int32) then (g_X7_findAgenda_32 M a) 32 6 else (g_X7_findAgenda_32 M a) 32 5 else (-1000000002 : Int32)
def g_X8_agenda_0 (M : Nat → Nat → Int32) (a : Int32) (w : Int32) : Nat → Nat → Int32 := if ¬ (f_X8_isOutside M a ((256 : Int32))) = (0 : Int32) then M else if (5 : Int32) < (f_J6_bitCount_0f7a4 M a) then M else if (f_X8_isOutside M w ((2 : Int32))) = (0 : Int32) then (g_X7_findAgenda_32 M a) else M
theorem fr_g_X8_agenda_0 (M : Nat → Nat → Int32) (a : Int32) (w : Int32) (c : Nat) (h32 : c ≠ 32) (h34 : c ≠ 34) (h35 : c ≠ 35) (h36 : c ≠ 36) (h37 : c ≠ 37) (h38 : c ≠ 38) (h39 : c ≠ 39) (h40 : c ≠ 40) (h41 : c ≠ 41) (h42 : c ≠ 42) (h43 : c ≠ 43) (h44 : c ≠ 44) (h45 : c ≠ 45) (h271 : c ≠ 271) (h272 : c ≠ 272) (h273 : c ≠ 273) : g_X8_agenda_0 M a w c = M c := by
  unfold g_X8_agenda_0
  repeat' split
  all_goals simp only [z_row_ne h32, z_row_ne h34, z_row_ne h35, z_row_ne h36, z_row_ne h37, z_row_ne h38, z_row_ne h39, z_row_ne h40, z_row_ne h41, z_row_ne h42, z_row_ne h43, z_row_ne h44, z_row_ne h45, z_row_ne h271, z_row_ne h272, z_row_ne h273, fr_g_X7_findAgenda_32 (c := c) (h32 := h32) (h34 := h34) (h35 := h35) (h36 := h36) (h37 := h37) (h38 := h38) (h39 := h39) (h40 := h40) (h41 := h41) (h42 := h42) (h43 := h43) (h44 := h44) (h45 := h45) (h271 := h271) (h272 := h272) (h273 := h273)]
def q_X8_agenda_0 (M : Nat → Nat → Int32) (a : Int32) (w : Int32) : Prop := (((f_X8_isOutside M a ((256 : Int32))) = (0 : Int32)) → (¬ ((5 : Int32) < (f_J6_bitCount_0f7a4 M a))) → ((f_X8_isOutside M w ((2 : Int32))) = (0 : Int32)) → (q_X7_findAgenda_32 M a)) ∧ True
theorem c_X8_agenda_0 {d : Nat} {L : Nat → Nat → Int64} (M : Nat → Nat → Int32) (a : Int32) (w : Int32)  (hpre : q_X8_agenda_0 M a w) : z_C (d + 7) 91 [.ref 0, .int a, .int w] (z_SH, M, L) (some (.int (f_X8_agenda_0 M a w))) (z_SH, g_X8_agenda_0 M a w, L) := by
  unfold q_X8_agenda_0 at hpre
  obtain ⟨p1, -⟩ := hpre
  refine z_mkA (tb := tb_X8_agenda) rfl (by decide) rfl rfl rfl ?_
  refine g_k 2 (pc' := 4) (LI' := [some (.ref 0), some (.int a), some (.int w)]) (LL' := []) (st' := [.int 256, .int a]) (S' := (z_SH, M, L)) (fun nq hq => And.intro rfl (And.intro rfl hq)) ?_
  refine g_k 1 (pc' := 7) (LI' := [some (.ref 0), some (.int a), some (.int w)]) (LL' := []) (st' := [.int (f_X8_isOutside M a ((256 : Int32)))]) (S' := (z_SH, M, L)) (fun nq hq => And.intro rfl (Exists.intro _ (Exists.intro _ (And.intro (c_X8_isOutside (d := d + 5) M a ((256 : Int32))) (And.intro (z_fit_same _ _ _ _ _ _ _ _) hq))))) ?_
  generalize hg1 : f_X8_isOutside M a ((256 : Int32)) = r1 at *
  refine g_k 1 (pc' := (if z_cmp .ne r1 ((0 : Int32)) = true then 26 else 10)) (LI' := [some (.ref 0), some (.int a), some (.int w)]) (LL' := []) (st' := []) (S' := (z_SH, M, L)) (fun nq hq => And.intro rfl hq) ?_
  refine g_ne (fun hc1 => ?_) (fun hc1 => ?_)
  · refine g_k 1 (pc' := 28) (LI' := [some (.ref 0), some (.int a), some (.int w)]) (LL' := []) (st' := [.int (-1000000002)]) (S' := (z_SH, M, L)) (fun nq hq => And.intro rfl hq) ?_
    exact ⟨1, And.intro rfl (⟨(by subst hg1; unfold f_X8_agenda_0; (first | rw [if_pos hc1] | skip); try rfl), (by subst hg1; unfold g_X8_agenda_0; (first | rw [if_pos hc1] | skip); try rfl)⟩)⟩
  · refine g_k 1 (pc' := 11) (LI' := [some (.ref 0), some (.int a), some (.int w)]) (LL' := []) (st' := [.int a]) (S' := (z_SH, M, L)) (fun nq hq => And.intro rfl hq) ?_
    refine g_k 1 (pc' := 14) (LI' := [some (.ref 0), some (.int a), some (.int w)]) (LL' := []) (st' := [.int (f_J6_bitCount_0f7a4 M a)]) (S' := (z_SH, M, L)) (fun nq hq => And.intro rfl (Exists.intro _ (Exists.intro _ (And.intro (c_J6_bitCount_0f7a4 (d := d + 5) M a) (And.intro (z_fit_same _ _ _ _ _ _ _ _) hq))))) ?_
    generalize hg2 : f_J6_bitCount_0f7a4 M a = r2 at *
    refine g_k 2 (pc' := (if z_cmp .gt r2 ((5 : Int32)) = true then 26 else 18)) (LI' := [some (.ref 0), some (.int a), some (.int w)]) (LL' := []) (st' := []) (S' := (z_SH, M, L)) (fun nq hq => And.intro rfl (And.intro rfl hq)) ?_
    refine g_gt (fun hc2 => ?_) (fun hc2 => ?_)
    · refine g_k 1 (pc' := 28) (LI' := [some (.ref 0), some (.int a), some (.int w)]) (LL' := []) (st' := [.int (-1000000002)]) (S' := (z_SH, M, L)) (fun nq hq => And.intro rfl hq) ?_
      exact ⟨1, And.intro rfl (⟨(by subst hg2; subst hg1; unfold f_X8_agenda_0; (first | rw [if_neg (not_not_intro hc1)] | skip); (first | rw [if_pos hc2] | skip); try rfl), (by subst hg2; subst hg1; unfold g_X8_agenda_0; (first | rw [if_neg (not_not_intro hc1)] | skip); (first | rw [if_pos hc2] | skip); try rfl)⟩)⟩
    · refine g_k 2 (pc' := 20) (LI' := [some (.ref 0), some (.int a), some (.int w)]) (LL' := []) (st' := [.int 2, .int w]) (S' := (z_SH, M, L)) (fun nq hq => And.intro rfl (And.intro rfl hq)) ?_
      refine g_k 1 (pc' := 23) (LI' := [some (.ref 0), some (.int a), some (.int w)]) (LL' := []) (st' := [.int (f_X8_isOutside M w ((2 : Int32)))]) (S' := (z_SH, M, L)) (fun nq hq => And.intro rfl (Exists.intro _ (Exists.intro _ (And.intro (c_X8_isOutside (d := d + 5) M w ((2 : Int32))) (And.intro (z_fit_same _ _ _ _ _ _ _ _) hq))))) ?_
      generalize hg3 : f_X8_isOutside M w ((2 : Int32)) = r3 at *
      refine g_k 1 (pc' := (if z_cmp .eq r3 ((0 : Int32)) = true then 29 else 26)) (LI' := [some (.ref 0), some (.int a), some (.int w)]) (LL' := []) (st' := []) (S' := (z_SH, M, L)) (fun nq hq => And.intro rfl hq) ?_
      refine g_eq (fun hc3 => ?_) (fun hc3 => ?_)
      · refine g_k 3 (pc' := 34) (LI' := [some (.ref 0), some (.int a), some (.int w)]) (LL' := []) (st' := [.int a, .ref 32]) (S' := (z_SH, M, L)) (fun nq hq => And.intro rfl (And.intro rfl (And.intro rfl hq))) ?_
        refine g_k 1 (pc' := 37) (LI' := [some (.ref 0), some (.int a), some (.int w)]) (LL' := []) (st' := []) (S' := (z_SH, g_X7_findAgenda_32 M a, L)) (fun nq hq => And.intro rfl (Exists.intro _ (Exists.intro _ (And.intro (c_X7_findAgenda_32 (d := d) M a (p1 hc1 hc2 hc3)) (And.intro (z_fit_same _ _ _ _ _ _ _ _) hq))))) ?_
        generalize hg4 : g_X7_findAgenda_32 M a = m4 at *
        refine g_k 2 (pc' := (if z_cmp .ne w ((0 : Int32)) = true then 51 else 41)) (LI' := [some (.ref 0), some (.int a), some (.int w)]) (LL' := []) (st' := []) (S' := (z_SH, m4, L)) (fun nq hq => And.intro rfl (And.intro rfl hq)) ?_
        refine g_ne (fun hc4 => ?_) (fun hc4 => ?_)
        · refine g_k 3 (pc' := 58) (LI' := [some (.ref 0), some (.int a), some (.int w)]) (LL' := []) (st' := [.int (m4 32 6)]) (S' := (z_SH, m4, L)) (fun nq hq => And.intro rfl (And.intro rfl (And.intro rfl hq))) ?_
          exact ⟨1, And.intro rfl (⟨(by subst hg4; subst hg3; subst hg2; subst hg1; unfold f_X8_agenda_0; (first | rw [if_neg (not_not_intro hc1)] | skip); (first | rw [if_neg hc2] | skip); (first | rw [if_pos hc3] | skip); (first | rw [if_pos hc4] | skip); try rfl), (by subst hg4; subst hg3; subst hg2; subst hg1; unfold g_X8_agenda_0; (first | rw [if_neg (not_not_intro hc1)] | skip); (first | rw [if_neg hc2] | skip); (first | rw [if_pos hc3] | skip); (first | rw [if_pos hc4] | skip); try rfl)⟩)⟩
        · refine g_k 4 (pc' := 58) (LI' := [some (.ref 0), some (.int a), some (.int w)]) (LL' := []) (st' := [.int (m4 32 5)]) (S' := (z_SH, m4, L)) (fun nq hq => And.intro rfl (And.intro rfl (And.intro rfl (And.intro rfl hq)))) ?_
          exact ⟨1, And.intro rfl (⟨(by subst hg4; subst hg3; subst hg2; subst hg1; unfold f_X8_agenda_0; (first | rw [if_neg (not_not_intro hc1)] | skip); (first | rw [if_neg hc2] | skip); (first | rw [if_pos hc3] | skip); (first | rw [if_neg (not_not_intro hc4)] | skip); try rfl), (by subst hg4; subst hg3; subst hg2; subst hg1; unfold g_X8_agenda_0; (first | rw [if_neg (not_not_intro hc1)] | skip); (first | rw [if_neg hc2] | skip); (first | rw [if_pos hc3] | skip); (first | rw [if_neg (not_not_intro hc4)] | skip); try rfl)⟩)⟩
      · refine g_k 1 (pc' := 28) (LI' := [some (.ref 0), some (.int a), some (.int w)]) (LL' := []) (st' := [.int (-1000000002)]) (S' := (z_SH, M, L)) (fun nq hq => And.intro rfl hq) ?_
        exact ⟨1, And.intro rfl (⟨(by subst hg3; subst hg2; subst hg1; unfold f_X8_agenda_0; (first | rw [if_neg (not_not_intro hc1)] | skip); (first | rw [if_neg hc2] | skip); (first | rw [if_neg hc3] | skip); try rfl), (by subst hg3; subst hg2; subst hg1; unfold g_X8_agenda_0; (first | rw [if_neg (not_not_intro hc1)] | skip); (first | rw [if_neg hc2] | skip); (first | rw [if_neg hc3] | skip); try rfl)⟩)⟩
