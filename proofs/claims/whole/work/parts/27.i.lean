def g_X9_readClause_268 (M : Nat → Nat → Int32)  : Nat → Nat → Int32 := if ¬ M 268 23 = (0 : Int32) then if ¬ (f_X9_here_268 M) = (113 : Int32) then if ¬ (f_X9_here_268 M) = (109 : Int32) then if ¬ (f_X9_here_268 M) = (115 : Int32) then (g_X9_fails_268 M ((1 : Int32))) else if ¬ M 284 10 = (12 : Int32) then (g_X9_readStrap_268 (z_row M 268 (upd (M 268) 20 ((M 268 20) + ((1 : Int32)))))) else (g_X9_fails_268 M ((3 : Int32))) else if ¬ M 268 24 = (6 : Int32) then (g_X9_readMember_268 (z_row M 268 (upd (M 268) 20 ((M 268 20) + ((1 : Int32)))))) else (g_X9_fails_268 M ((3 : Int32))) else (g_X9_fails_268 M ((3 : Int32))) else if ¬ (f_X9_here_268 M) = (113 : Int32) then (g_X9_fails_268 M ((1 : Int32))) else (g_X9_ends_268 (z_row (g_X9_number_268 (z_row M 268 (upd (M 268) 20 ((M 268 20) + ((1 : Int32))))) ((1 : Int32)) ((9 : Int32))) 268 (upd ((g_X9_number_268 (z_row M 268 (upd (M 268) 20 ((M 268 20) + ((1 : Int32))))) ((1 : Int32)) ((9 : Int32))) 268) 23 (f_X9_number_268 (z_row M 268 (upd (M 268) 20 ((M 268 20) + ((1 : Int32))))) ((1 : Int32)) ((9 : Int32))))))
theorem fr_g_X9_readClause_268 (M : Nat → Nat → Int32)  (c : Nat) (h268 : c ≠ 268) (h281 : c ≠ 281) (h282 : c ≠ 282) (h283 : c ≠ 283) (h284 : c ≠ 284) : g_X9_readClause_268 M c = M c := by
  unfold g_X9_readClause_268
  repeat' split
  all_goals simp only [z_row_ne h268, z_row_ne h281, z_row_ne h282, z_row_ne h283, z_row_ne h284, fr_g_X9_ends_268 (c := c) (h268 := h268), fr_g_X9_fails_268 (c := c) (h268 := h268), fr_g_X9_number_268 (c := c) (h268 := h268), fr_g_X9_readMember_268 (c := c) (h268 := h268) (h281 := h281) (h282 := h282) (h283 := h283) (h284 := h284), fr_g_X9_readStrap_268 (c := c) (h268 := h268) (h284 := h284)]
def q_X9_readClause_268 (M : Nat → Nat → Int32)  : Prop := (q_X9_here_268 M) ∧ (q_X9_readStrap_268 (z_row M 268 (upd (M 268) 20 ((M 268 20) + ((1 : Int32)))))) ∧ (q_X9_readMember_268 (z_row M 268 (upd (M 268) 20 ((M 268 20) + ((1 : Int32)))))) ∧ (q_X9_number_268 (z_row M 268 (upd (M 268) 20 ((M 268 20) + ((1 : Int32))))) ((1 : Int32)) ((9 : Int32))) ∧ (q_X9_ends_268 (z_row (g_X9_number_268 (z_row M 268 (upd (M 268) 20 ((M 268 20) + ((1 : Int32))))) ((1 : Int32)) ((9 : Int32))) 268 (upd ((g_X9_number_268 (z_row M 268 (upd (M 268) 20 ((M 268 20) + ((1 : Int32))))) ((1 : Int32)) ((9 : Int32))) 268) 23 (f_X9_number_268 (z_row M 268 (upd (M 268) 20 ((M 268 20) + ((1 : Int32))))) ((1 : Int32)) ((9 : Int32)))))) ∧ True
set_option maxRecDepth 20000 in
theorem c_X9_readClause_268 {d : Nat} {L : Nat → Nat → Int64} (M : Nat → Nat → Int32)  (hpre : q_X9_readClause_268 M) : z_C (d + 5) 123 [.ref 268] (z_SH, M, L) none (z_SH, g_X9_readClause_268 M, L) := by
  unfold q_X9_readClause_268 at hpre
  obtain ⟨p1, p2, p3, p4, p5, -⟩ := hpre
  refine z_mkA (tb := tb_X9_readClause) rfl (by decide) rfl rfl rfl ?_
  refine g_k 1 (pc' := 1) (LI' := [some (.ref 268), none, none]) (LL' := []) (st' := [.ref 268]) (S' := (z_SH, M, L)) (fun nq hq => And.intro rfl hq) ?_
  refine g_k 1 (pc' := 4) (LI' := [some (.ref 268), none, none]) (LL' := []) (st' := [.int (f_X9_here_268 M)]) (S' := (z_SH, M, L)) (fun nq hq => And.intro rfl (Exists.intro _ (Exists.intro _ (And.intro (c_X9_here_268 (d := d + 3) M  p1) (And.intro (z_fit_same _ _ _ _ _ _ _ _) hq))))) ?_
  generalize hg1 : f_X9_here_268 M = r1 at *
  refine g_k 4 (pc' := (if z_cmp .ne (M 268 23) ((0 : Int32)) = true then 16 else 12)) (LI' := [some (.ref 268), some (.int r1), none]) (LL' := []) (st' := []) (S' := (z_SH, M, L)) (fun nq hq => And.intro rfl (And.intro rfl (And.intro rfl (And.intro rfl hq)))) ?_
  refine g_ne (fun hc1 => ?_) (fun hc1 => ?_)
  · refine g_k 5 (pc' := (if z_cmp .ne r1 ((113 : Int32)) = true then 56 else 24)) (LI' := [some (.ref 268), some (.int r1), some (.int 0)]) (LL' := []) (st' := []) (S' := (z_SH, M, L)) (fun nq hq => And.intro rfl (And.intro rfl (And.intro rfl (And.intro rfl (And.intro rfl hq))))) ?_
    refine g_ne (fun hc2 => ?_) (fun hc2 => ?_)
    · refine g_k 3 (pc' := (if z_cmp .ne r1 ((113 : Int32)) = true then 70 else 62)) (LI' := [some (.ref 268), some (.int r1), some (.int 0)]) (LL' := []) (st' := []) (S' := (z_SH, M, L)) (fun nq hq => And.intro rfl (And.intro rfl (And.intro rfl hq))) ?_
      refine g_ne (fun hc3 => ?_) (fun hc3 => absurd hc3 hc2)
      refine g_k 5 (pc' := (if z_cmp .ne r1 ((109 : Int32)) = true then 112 else 80)) (LI' := [some (.ref 268), some (.int r1), some (.int 0)]) (LL' := []) (st' := []) (S' := (z_SH, M, L)) (fun nq hq => And.intro rfl (And.intro rfl (And.intro rfl (And.intro rfl (And.intro rfl hq))))) ?_
      refine g_ne (fun hc4 => ?_) (fun hc4 => ?_)
      · refine g_k 5 (pc' := (if z_cmp .ne r1 ((115 : Int32)) = true then 157 else 122)) (LI' := [some (.ref 268), some (.int r1), some (.int 0)]) (LL' := []) (st' := []) (S' := (z_SH, M, L)) (fun nq hq => And.intro rfl (And.intro rfl (And.intro rfl (And.intro rfl (And.intro rfl hq))))) ?_
        refine g_ne (fun hc5 => ?_) (fun hc5 => ?_)
        · refine g_k 2 (pc' := 159) (LI' := [some (.ref 268), some (.int r1), some (.int 0)]) (LL' := []) (st' := [.int 1, .ref 268]) (S' := (z_SH, M, L)) (fun nq hq => And.intro rfl (And.intro rfl hq)) ?_
          refine g_k 1 (pc' := 162) (LI' := [some (.ref 268), some (.int r1), some (.int 0)]) (LL' := []) (st' := []) (S' := (z_SH, g_X9_fails_268 M ((1 : Int32)), L)) (fun nq hq => And.intro rfl (Exists.intro _ (Exists.intro _ (And.intro (c_X9_fails_268 (d := d + 3) M ((1 : Int32))) (And.intro (z_fit_same _ _ _ _ _ _ _ _) hq))))) ?_
          generalize hg2 : g_X9_fails_268 M ((1 : Int32)) = m2 at *
          exact ⟨1, And.intro rfl (⟨rfl, (by subst hg2; subst hg1; unfold g_X9_readClause_268; (first | rw [if_pos hc1] | skip); (first | rw [if_pos hc2] | skip); (first | rw [if_pos hc4] | skip); (first | rw [if_pos hc5] | skip); try rfl)⟩)⟩
        · refine g_k 6 (pc' := (if z_cmp .ne (M 284 10) ((12 : Int32)) = true then 140 else 134)) (LI' := [some (.ref 268), some (.int r1), some (.int 0)]) (LL' := []) (st' := []) (S' := (z_SH, M, L)) (fun nq hq => And.intro rfl (And.intro rfl (And.intro rfl (And.intro rfl (And.intro rfl (And.intro rfl hq)))))) ?_
          refine g_ne (fun hc6 => ?_) (fun hc6 => ?_)
          · refine g_k 7 (pc' := 151) (LI' := [some (.ref 268), some (.int r1), some (.int 0)]) (LL' := []) (st' := [.ref 268]) (S' := (z_SH, z_row M 268 (upd (M 268) 20 ((M 268 20) + ((1 : Int32)))), L)) (fun nq hq => And.intro rfl (And.intro rfl (And.intro rfl (And.intro rfl (And.intro rfl (And.intro rfl (And.intro rfl hq))))))) ?_
            refine g_k 1 (pc' := 154) (LI' := [some (.ref 268), some (.int r1), some (.int 0)]) (LL' := []) (st' := []) (S' := (z_SH, g_X9_readStrap_268 (z_row M 268 (upd (M 268) 20 ((M 268 20) + ((1 : Int32))))), L)) (fun nq hq => And.intro rfl (Exists.intro _ (Exists.intro _ (And.intro (c_X9_readStrap_268 (d := d) (z_row M 268 (upd (M 268) 20 ((M 268 20) + ((1 : Int32)))))  p2) (And.intro (z_fit_same _ _ _ _ _ _ _ _) hq))))) ?_
            generalize hg3 : g_X9_readStrap_268 (z_row M 268 (upd (M 268) 20 ((M 268 20) + ((1 : Int32))))) = m3 at *
            refine g_k 1 (pc' := 162) (LI' := [some (.ref 268), some (.int r1), some (.int 0)]) (LL' := []) (st' := []) (S' := (z_SH, m3, L)) (fun nq hq => And.intro rfl hq) ?_
            exact ⟨1, And.intro rfl (⟨rfl, (by subst hg3; subst hg1; unfold g_X9_readClause_268; (first | rw [if_pos hc1] | skip); (first | rw [if_pos hc2] | skip); (first | rw [if_pos hc4] | skip); (first | rw [if_neg (not_not_intro hc5)] | skip); (first | rw [if_pos hc6] | skip); try rfl)⟩)⟩
          · refine g_k 2 (pc' := 136) (LI' := [some (.ref 268), some (.int r1), some (.int 0)]) (LL' := []) (st' := [.int 3, .ref 268]) (S' := (z_SH, M, L)) (fun nq hq => And.intro rfl (And.intro rfl hq)) ?_
            refine g_k 1 (pc' := 139) (LI' := [some (.ref 268), some (.int r1), some (.int 0)]) (LL' := []) (st' := []) (S' := (z_SH, g_X9_fails_268 M ((3 : Int32)), L)) (fun nq hq => And.intro rfl (Exists.intro _ (Exists.intro _ (And.intro (c_X9_fails_268 (d := d + 3) M ((3 : Int32))) (And.intro (z_fit_same _ _ _ _ _ _ _ _) hq))))) ?_
            generalize hg4 : g_X9_fails_268 M ((3 : Int32)) = m4 at *
            exact ⟨1, And.intro rfl (⟨rfl, (by subst hg4; subst hg1; unfold g_X9_readClause_268; (first | rw [if_pos hc1] | skip); (first | rw [if_pos hc2] | skip); (first | rw [if_pos hc4] | skip); (first | rw [if_neg (not_not_intro hc5)] | skip); (first | rw [if_neg (not_not_intro hc6)] | skip); try rfl)⟩)⟩
      · refine g_k 4 (pc' := (if z_cmp .ne (M 268 24) ((6 : Int32)) = true then 95 else 89)) (LI' := [some (.ref 268), some (.int r1), some (.int 0)]) (LL' := []) (st' := []) (S' := (z_SH, M, L)) (fun nq hq => And.intro rfl (And.intro rfl (And.intro rfl (And.intro rfl hq)))) ?_
        refine g_ne (fun hc7 => ?_) (fun hc7 => ?_)
        · refine g_k 7 (pc' := 106) (LI' := [some (.ref 268), some (.int r1), some (.int 0)]) (LL' := []) (st' := [.ref 268]) (S' := (z_SH, z_row M 268 (upd (M 268) 20 ((M 268 20) + ((1 : Int32)))), L)) (fun nq hq => And.intro rfl (And.intro rfl (And.intro rfl (And.intro rfl (And.intro rfl (And.intro rfl (And.intro rfl hq))))))) ?_
          refine g_k 1 (pc' := 109) (LI' := [some (.ref 268), some (.int r1), some (.int 0)]) (LL' := []) (st' := []) (S' := (z_SH, g_X9_readMember_268 (z_row M 268 (upd (M 268) 20 ((M 268 20) + ((1 : Int32))))), L)) (fun nq hq => And.intro rfl (Exists.intro _ (Exists.intro _ (And.intro (c_X9_readMember_268 (d := d) (z_row M 268 (upd (M 268) 20 ((M 268 20) + ((1 : Int32)))))  p3) (And.intro (z_fit_same _ _ _ _ _ _ _ _) hq))))) ?_
          generalize hg5 : g_X9_readMember_268 (z_row M 268 (upd (M 268) 20 ((M 268 20) + ((1 : Int32))))) = m5 at *
          refine g_k 1 (pc' := 162) (LI' := [some (.ref 268), some (.int r1), some (.int 0)]) (LL' := []) (st' := []) (S' := (z_SH, m5, L)) (fun nq hq => And.intro rfl hq) ?_
          exact ⟨1, And.intro rfl (⟨rfl, (by subst hg5; subst hg1; unfold g_X9_readClause_268; (first | rw [if_pos hc1] | skip); (first | rw [if_pos hc2] | skip); (first | rw [if_neg (not_not_intro hc4)] | skip); (first | rw [if_pos hc7] | skip); try rfl)⟩)⟩
        · refine g_k 2 (pc' := 91) (LI' := [some (.ref 268), some (.int r1), some (.int 0)]) (LL' := []) (st' := [.int 3, .ref 268]) (S' := (z_SH, M, L)) (fun nq hq => And.intro rfl (And.intro rfl hq)) ?_
          refine g_k 1 (pc' := 94) (LI' := [some (.ref 268), some (.int r1), some (.int 0)]) (LL' := []) (st' := []) (S' := (z_SH, g_X9_fails_268 M ((3 : Int32)), L)) (fun nq hq => And.intro rfl (Exists.intro _ (Exists.intro _ (And.intro (c_X9_fails_268 (d := d + 3) M ((3 : Int32))) (And.intro (z_fit_same _ _ _ _ _ _ _ _) hq))))) ?_
          generalize hg6 : g_X9_fails_268 M ((3 : Int32)) = m6 at *
          exact ⟨1, And.intro rfl (⟨rfl, (by subst hg6; subst hg1; unfold g_X9_readClause_268; (first | rw [if_pos hc1] | skip); (first | rw [if_pos hc2] | skip); (first | rw [if_neg (not_not_intro hc4)] | skip); (first | rw [if_neg (not_not_intro hc7)] | skip); try rfl)⟩)⟩
    · refine g_k 5 (pc' := (if z_cmp .ne r1 ((113 : Int32)) = true then 70 else 62)) (LI' := [some (.ref 268), some (.int r1), some (.int 0)]) (LL' := []) (st' := []) (S' := (z_SH, M, L)) (fun nq hq => And.intro rfl (And.intro rfl (And.intro rfl (And.intro rfl (And.intro rfl hq))))) ?_
      refine g_ne (fun hc8 => absurd hc2 hc8) (fun hc8 => ?_)
      refine g_k 2 (pc' := 64) (LI' := [some (.ref 268), some (.int r1), some (.int 0)]) (LL' := []) (st' := [.int 3, .ref 268]) (S' := (z_SH, M, L)) (fun nq hq => And.intro rfl (And.intro rfl hq)) ?_
      refine g_k 1 (pc' := 67) (LI' := [some (.ref 268), some (.int r1), some (.int 0)]) (LL' := []) (st' := []) (S' := (z_SH, g_X9_fails_268 M ((3 : Int32)), L)) (fun nq hq => And.intro rfl (Exists.intro _ (Exists.intro _ (And.intro (c_X9_fails_268 (d := d + 3) M ((3 : Int32))) (And.intro (z_fit_same _ _ _ _ _ _ _ _) hq))))) ?_
      generalize hg7 : g_X9_fails_268 M ((3 : Int32)) = m7 at *
      refine g_k 1 (pc' := 162) (LI' := [some (.ref 268), some (.int r1), some (.int 0)]) (LL' := []) (st' := []) (S' := (z_SH, m7, L)) (fun nq hq => And.intro rfl hq) ?_
      exact ⟨1, And.intro rfl (⟨rfl, (by subst hg7; subst hg1; unfold g_X9_readClause_268; (first | rw [if_pos hc1] | skip); (first | rw [if_neg (not_not_intro hc2)] | skip); try rfl)⟩)⟩
  · refine g_k 6 (pc' := (if z_cmp .ne r1 ((113 : Int32)) = true then 56 else 24)) (LI' := [some (.ref 268), some (.int r1), some (.int 1)]) (LL' := []) (st' := []) (S' := (z_SH, M, L)) (fun nq hq => And.intro rfl (And.intro rfl (And.intro rfl (And.intro rfl (And.intro rfl (And.intro rfl hq)))))) ?_
    refine g_ne (fun hc9 => ?_) (fun hc9 => ?_)
    · refine g_k 3 (pc' := (if z_cmp .ne r1 ((113 : Int32)) = true then 70 else 62)) (LI' := [some (.ref 268), some (.int r1), some (.int 1)]) (LL' := []) (st' := []) (S' := (z_SH, M, L)) (fun nq hq => And.intro rfl (And.intro rfl (And.intro rfl hq))) ?_
      refine g_ne (fun hc10 => ?_) (fun hc10 => absurd hc10 hc9)
      refine g_k 6 (pc' := 159) (LI' := [some (.ref 268), some (.int r1), some (.int 1)]) (LL' := []) (st' := [.int 1, .ref 268]) (S' := (z_SH, M, L)) (fun nq hq => And.intro rfl (And.intro rfl (And.intro rfl (And.intro rfl (And.intro rfl (And.intro rfl hq)))))) ?_
      refine g_k 1 (pc' := 162) (LI' := [some (.ref 268), some (.int r1), some (.int 1)]) (LL' := []) (st' := []) (S' := (z_SH, g_X9_fails_268 M ((1 : Int32)), L)) (fun nq hq => And.intro rfl (Exists.intro _ (Exists.intro _ (And.intro (c_X9_fails_268 (d := d + 3) M ((1 : Int32))) (And.intro (z_fit_same _ _ _ _ _ _ _ _) hq))))) ?_
      generalize hg8 : g_X9_fails_268 M ((1 : Int32)) = m8 at *
      exact ⟨1, And.intro rfl (⟨rfl, (by subst hg8; subst hg1; unfold g_X9_readClause_268; (first | rw [if_neg (not_not_intro hc1)] | skip); (first | rw [if_pos hc9] | skip); try rfl)⟩)⟩
    · refine g_k 9 (pc' := 39) (LI' := [some (.ref 268), some (.int r1), some (.int 1)]) (LL' := []) (st' := [.ref 268]) (S' := (z_SH, z_row M 268 (upd (M 268) 20 ((M 268 20) + ((1 : Int32)))), L)) (fun nq hq => And.intro rfl (And.intro rfl (And.intro rfl (And.intro rfl (And.intro rfl (And.intro rfl (And.intro rfl (And.intro rfl (And.intro rfl hq))))))))) ?_
      refine g_k 3 (pc' := 43) (LI' := [some (.ref 268), some (.int r1), some (.int 1)]) (LL' := []) (st' := [.int 9, .int 1, .ref 268, .ref 268]) (S' := (z_SH, z_row M 268 (upd (M 268) 20 ((M 268 20) + ((1 : Int32)))), L)) (fun nq hq => And.intro rfl (And.intro rfl (And.intro rfl hq))) ?_
      refine g_k 1 (pc' := 46) (LI' := [some (.ref 268), some (.int r1), some (.int 1)]) (LL' := []) (st' := [.int (f_X9_number_268 (z_row M 268 (upd (M 268) 20 ((M 268 20) + ((1 : Int32))))) ((1 : Int32)) ((9 : Int32))), .ref 268]) (S' := (z_SH, g_X9_number_268 (z_row M 268 (upd (M 268) 20 ((M 268 20) + ((1 : Int32))))) ((1 : Int32)) ((9 : Int32)), L)) (fun nq hq => And.intro rfl (Exists.intro _ (Exists.intro _ (And.intro (c_X9_number_268 (d := d + 1) (z_row M 268 (upd (M 268) 20 ((M 268 20) + ((1 : Int32))))) ((1 : Int32)) ((9 : Int32)) p4) (And.intro (z_fit_same _ _ _ _ _ _ _ _) hq))))) ?_
      generalize hg9 : f_X9_number_268 (z_row M 268 (upd (M 268) 20 ((M 268 20) + ((1 : Int32))))) ((1 : Int32)) ((9 : Int32)) = r9 at *
      generalize hg10 : g_X9_number_268 (z_row M 268 (upd (M 268) 20 ((M 268 20) + ((1 : Int32))))) ((1 : Int32)) ((9 : Int32)) = m10 at *
      refine g_k 2 (pc' := 50) (LI' := [some (.ref 268), some (.int r1), some (.int 1)]) (LL' := []) (st' := [.ref 268]) (S' := (z_SH, z_row m10 268 (upd (m10 268) 23 r9), L)) (fun nq hq => And.intro rfl (And.intro rfl hq)) ?_
      refine g_k 1 (pc' := 53) (LI' := [some (.ref 268), some (.int r1), some (.int 1)]) (LL' := []) (st' := []) (S' := (z_SH, g_X9_ends_268 (z_row m10 268 (upd (m10 268) 23 r9)), L)) (fun nq hq => And.intro rfl (Exists.intro _ (Exists.intro _ (And.intro (c_X9_ends_268 (d := d + 1) (z_row m10 268 (upd (m10 268) 23 r9))  p5) (And.intro (z_fit_same _ _ _ _ _ _ _ _) hq))))) ?_
      generalize hg11 : g_X9_ends_268 (z_row m10 268 (upd (m10 268) 23 r9)) = m11 at *
      refine g_k 1 (pc' := 162) (LI' := [some (.ref 268), some (.int r1), some (.int 1)]) (LL' := []) (st' := []) (S' := (z_SH, m11, L)) (fun nq hq => And.intro rfl hq) ?_
      exact ⟨1, And.intro rfl (⟨rfl, (by subst hg11; subst hg10; subst hg9; subst hg1; unfold g_X9_readClause_268; (first | rw [if_neg (not_not_intro hc1)] | skip); (first | rw [if_neg (not_not_intro hc9)] | skip); try rfl)⟩)⟩
def e_X9_readHouse_268_22_M (M : Nat → Nat → Int32)  (i : Int32)  : Nat → Nat → Int32 := z_row M 284 (upd (M 284) ((i).toNatClampNeg) ((0 : Int32)))
def qi_X9_readHouse_268_22 (M : Nat → Nat → Int32)  (i : Int32)  : Prop := (z_vin i 83 = true) ∧ True
set_option maxRecDepth 20000 in
theorem it_X9_readHouse_268_22 {d : Nat} {L : Nat → Nat → Int64} {Q : Option Value → z_St → Prop} (M : Nat → Nat → Int32)  (i : Int32)  (hc : ¬ ((83 : Int32) ≤ i)) (p1 : qi_X9_readHouse_268_22 M i) (h : z_G (d + 0) tb_X9_readHouse 22 [some (.ref 268), some (.int (i + 1))] [] [] (z_SH, e_X9_readHouse_268_22_M M i, L) Q) : z_G (d + 0) tb_X9_readHouse 22 [some (.ref 268), some (.int i)] [] [] (z_SH, M, L) Q := by
  unfold qi_X9_readHouse_268_22 at p1
  obtain ⟨p1, -⟩ := p1
  refine g_k 3 (pc' := (if z_cmp .ge i ((83 : Int32)) = true then 41 else 28)) (LI' := [some (.ref 268), some (.int i)]) (LL' := []) (st' := []) (S' := (z_SH, M, L)) (fun nq hq => And.intro rfl (And.intro rfl (And.intro rfl hq))) ?_
  refine g_ge (fun hc1 => ?_) (fun hc1 => ?_)
  · exact absurd hc1 hc
  · refine g_k 7 (pc' := 22) (LI' := [some (.ref 268), some (.int (i + 1))]) (LL' := []) (st' := []) (S' := (z_SH, z_row M 284 (upd (M 284) ((i).toNatClampNeg) ((0 : Int32))), L)) (fun nq hq => And.intro rfl (And.intro rfl (And.intro rfl (And.intro rfl (And.intro p1 (And.intro rfl (And.intro rfl hq))))))) ?_
    (unfold e_X9_readHouse_268_22_M at h; exact h )
def s_X9_readHouse_268_22 (M : Nat → Nat → Int32)   (n : Nat) : (Nat → Nat → Int32) := Nat.rec (motive := fun _ => (Nat → Nat → Int32)) (M) (fun k r => (e_X9_readHouse_268_22_M r (nI k))) n
theorem fr_e_X9_readHouse_268_22_M (M : Nat → Nat → Int32)  (i : Int32)  (c : Nat) (h284 : c ≠ 284) : e_X9_readHouse_268_22_M M i c = M c := by
  unfold e_X9_readHouse_268_22_M
  repeat' split
  all_goals simp only [z_row_ne h284]
theorem fr_s_X9_readHouse_268_22 (M : Nat → Nat → Int32)   (n : Nat) (c : Nat) (h284 : c ≠ 284) : ((s_X9_readHouse_268_22 M n)) c = M c := by
  induction n with
  | zero => rfl
  | succ n ih => exact (fr_e_X9_readHouse_268_22_M _  (nI n)  c h284).trans ih
theorem l_X9_readHouse_268_22 {d : Nat} {L : Nat → Nat → Int64} {Q : Option Value → z_St → Prop} (M : Nat → Nat → Int32)   (n : Nat) : (∀ k, k < n → ¬ ((83 : Int32) ≤ (nI k))) → (∀ k, k < n → qi_X9_readHouse_268_22 ((s_X9_readHouse_268_22 M k)) (nI k)) → (z_G (d + 0) tb_X9_readHouse 22 [some (.ref 268), some (.int (nI n))] [] [] (z_SH, (s_X9_readHouse_268_22 M n), L) Q) → z_G (d + 0) tb_X9_readHouse 22 [some (.ref 268), some (.int (nI 0))] [] [] (z_SH, M, L) Q := by
  induction n with
  | zero =>
    intro hc p1 h
    exact h
  | succ n ih =>
    intro hc p1 h
    refine ih (fun k hk => hc k (by omega)) (fun k hk => p1 k (by omega)) ?_
    have hcn := hc n (by omega)
    have p1n := p1 n (by omega)
    clear ih hc p1
    have hs : s_X9_readHouse_268_22 M (n + 1) = (e_X9_readHouse_268_22_M ((s_X9_readHouse_268_22 M n)) (nI n)) := rfl
    rw [hs] at h
    clear hs
    generalize s_X9_readHouse_268_22 M n = sg at *
    refine it_X9_readHouse_268_22 sg  (nI n)  hcn p1n ?_
    rw [nI_1]
    exact h
def t_X9_readHouse_268_45 (M : Nat → Nat → Int32)   : Bool := if ¬ M 268 21 = (0 : Int32) then false else if M 268 1 ≤ M 268 20 then false else true
def e_X9_readHouse_268_45_M (M : Nat → Nat → Int32)   : Nat → Nat → Int32 := if ¬ (g_X9_readClause_268 M) 268 21 = (0 : Int32) then (g_X9_readClause_268 M) else (g_X9_skips_268 (g_X9_readClause_268 M))
def qi_X9_readHouse_268_45 (M : Nat → Nat → Int32)   : Prop := (q_X9_readClause_268 M) ∧ (q_X9_skips_268 (g_X9_readClause_268 M)) ∧ True
set_option maxRecDepth 20000 in
theorem it_X9_readHouse_268_45 {d : Nat} {L : Nat → Nat → Int64} {Q : Option Value → z_St → Prop} (M : Nat → Nat → Int32)   (ht : t_X9_readHouse_268_45 M = true) (p1 : qi_X9_readHouse_268_45 M) (h : ∀ (y1 : Option Value), z_G (d + 5) tb_X9_readHouse 45 [some (.ref 268), y1] [] [] (z_SH, e_X9_readHouse_268_45_M M, L) Q) : ∀ (x1 : Option Value), z_G (d + 5) tb_X9_readHouse 45 [some (.ref 268), x1] [] [] (z_SH, M, L) Q := by
  intro x1
  unfold qi_X9_readHouse_268_45 at p1
  obtain ⟨p1, p2, -⟩ := p1
  refine g_k 3 (pc' := (if z_cmp .ne (M 268 21) ((0 : Int32)) = true then 81 else 52)) (LI' := [some (.ref 268), x1]) (LL' := []) (st' := []) (S' := (z_SH, M, L)) (fun nq hq => And.intro rfl (And.intro rfl (And.intro rfl hq))) ?_
  refine g_ne (fun hc1 => ?_) (fun hc1 => ?_)
  · (exfalso; unfold t_X9_readHouse_268_45 at ht; (try simp only [if_pos hc1] at ht); exact Bool.noConfusion ht)
  · refine g_k 5 (pc' := (if z_cmp .ge (M 268 20) (M 268 1) = true then 81 else 63)) (LI' := [some (.ref 268), x1]) (LL' := []) (st' := []) (S' := (z_SH, M, L)) (fun nq hq => And.intro rfl (And.intro rfl (And.intro rfl (And.intro rfl (And.intro rfl hq))))) ?_
    refine g_ge (fun hc2 => ?_) (fun hc2 => ?_)
    · (exfalso; unfold t_X9_readHouse_268_45 at ht; (try simp only [if_neg (not_not_intro hc1)] at ht); (try simp only [if_pos hc2] at ht); exact Bool.noConfusion ht)
    · refine g_k 1 (pc' := 64) (LI' := [some (.ref 268), x1]) (LL' := []) (st' := [.ref 268]) (S' := (z_SH, M, L)) (fun nq hq => And.intro rfl hq) ?_
      refine g_k 1 (pc' := 67) (LI' := [some (.ref 268), x1]) (LL' := []) (st' := []) (S' := (z_SH, g_X9_readClause_268 M, L)) (fun nq hq => And.intro rfl (Exists.intro _ (Exists.intro _ (And.intro (c_X9_readClause_268 (d := d) M  p1) (And.intro (z_fit_same _ _ _ _ _ _ _ _) hq))))) ?_
      generalize hg1 : g_X9_readClause_268 M = m1 at *
      refine g_k 3 (pc' := (if z_cmp .ne (m1 268 21) ((0 : Int32)) = true then 45 else 74)) (LI' := [some (.ref 268), x1]) (LL' := []) (st' := []) (S' := (z_SH, m1, L)) (fun nq hq => And.intro rfl (And.intro rfl (And.intro rfl hq))) ?_
      refine g_ne (fun hc3 => ?_) (fun hc3 => ?_)
      · (clear ht; subst hg1; unfold e_X9_readHouse_268_45_M at h; (try simp only [if_neg (not_not_intro hc1)] at h); (try simp only [if_neg hc2] at h); (try simp only [if_pos hc3] at h); exact h x1)
      · refine g_k 1 (pc' := 75) (LI' := [some (.ref 268), x1]) (LL' := []) (st' := [.ref 268]) (S' := (z_SH, m1, L)) (fun nq hq => And.intro rfl hq) ?_
        refine g_k 1 (pc' := 78) (LI' := [some (.ref 268), x1]) (LL' := []) (st' := []) (S' := (z_SH, g_X9_skips_268 m1, L)) (fun nq hq => And.intro rfl (Exists.intro _ (Exists.intro _ (And.intro (c_X9_skips_268 (d := d + 3) m1  p2) (And.intro (z_fit_same _ _ _ _ _ _ _ _) hq))))) ?_
        generalize hg2 : g_X9_skips_268 m1 = m2 at *
        refine g_k 1 (pc' := 45) (LI' := [some (.ref 268), x1]) (LL' := []) (st' := []) (S' := (z_SH, m2, L)) (fun nq hq => And.intro rfl hq) ?_
        (clear ht; subst hg2; subst hg1; unfold e_X9_readHouse_268_45_M at h; (try simp only [if_neg (not_not_intro hc1)] at h); (try simp only [if_neg hc2] at h); (try simp only [if_neg (not_not_intro hc3)] at h); exact h x1)
def s_X9_readHouse_268_45 (M : Nat → Nat → Int32)   (n : Nat) : (Nat → Nat → Int32) := Nat.rec (motive := fun _ => (Nat → Nat → Int32)) (M) (fun _ r => (e_X9_readHouse_268_45_M r)) n
theorem fr_e_X9_readHouse_268_45_M (M : Nat → Nat → Int32)   (c : Nat) (h268 : c ≠ 268) (h281 : c ≠ 281) (h282 : c ≠ 282) (h283 : c ≠ 283) (h284 : c ≠ 284) : e_X9_readHouse_268_45_M M c = M c := by
  unfold e_X9_readHouse_268_45_M
  repeat' split
  all_goals simp only [z_row_ne h268, z_row_ne h281, z_row_ne h282, z_row_ne h283, z_row_ne h284, fr_g_X9_readClause_268 (c := c) (h268 := h268) (h281 := h281) (h282 := h282) (h283 := h283) (h284 := h284), fr_g_X9_skips_268 (c := c) (h268 := h268)]
theorem fr_s_X9_readHouse_268_45 (M : Nat → Nat → Int32)   (n : Nat) (c : Nat) (h268 : c ≠ 268) (h281 : c ≠ 281) (h282 : c ≠ 282) (h283 : c ≠ 283) (h284 : c ≠ 284) : ((s_X9_readHouse_268_45 M n)) c = M c := by
  induction n with
  | zero => rfl
  | succ n ih =>
    have hs : s_X9_readHouse_268_45 M (n + 1) = (e_X9_readHouse_268_45_M ((s_X9_readHouse_268_45 M n))) := rfl
    rw [hs]
    exact (fr_e_X9_readHouse_268_45_M ((s_X9_readHouse_268_45 M n))   c h268 h281 h282 h283 h284).trans ih
def n_X9_readHouse_268_45 (M : Nat → Nat → Int32)   : Nat := z_fst (fun k => t_X9_readHouse_268_45 ((s_X9_readHouse_268_45 M k))) 240
theorem n_X9_readHouse_268_45_t (M : Nat → Nat → Int32)   : ∀ k, k < n_X9_readHouse_268_45 M → t_X9_readHouse_268_45 ((s_X9_readHouse_268_45 M k)) = true := fun k hk => z_fst_t (p := (fun k => t_X9_readHouse_268_45 ((s_X9_readHouse_268_45 M k)))) (B := 240) hk
theorem n_X9_readHouse_268_45_f (M : Nat → Nat → Int32)   (h : t_X9_readHouse_268_45 ((s_X9_readHouse_268_45 M 240)) = false) : t_X9_readHouse_268_45 ((s_X9_readHouse_268_45 M ((n_X9_readHouse_268_45 M)))) = false := by
  have h2 := z_fst_f (p := (fun k => t_X9_readHouse_268_45 ((s_X9_readHouse_268_45 M k)))) (B := 240) h
  unfold n_X9_readHouse_268_45
  exact h2
theorem l_X9_readHouse_268_45 {d : Nat} {L : Nat → Nat → Int64} {Q : Option Value → z_St → Prop} (M : Nat → Nat → Int32)   (n : Nat) : (∀ k, k < n → t_X9_readHouse_268_45 ((s_X9_readHouse_268_45 M k)) = true) → (∀ k, k < n → qi_X9_readHouse_268_45 ((s_X9_readHouse_268_45 M k))) → (∀ (y1 : Option Value), z_G (d + 5) tb_X9_readHouse 45 [some (.ref 268), y1] [] [] (z_SH, (s_X9_readHouse_268_45 M n), L) Q) → ∀ (x1 : Option Value), z_G (d + 5) tb_X9_readHouse 45 [some (.ref 268), x1] [] [] (z_SH, M, L) Q := by
  induction n with
  | zero =>
    intro hc p1 h
    exact h
  | succ n ih =>
    intro hc p1 h
    refine ih (fun k hk => hc k (by omega)) (fun k hk => p1 k (by omega)) ?_
    have hcn := hc n (by omega)
    have p1n := p1 n (by omega)
    clear ih hc p1
    have hs : s_X9_readHouse_268_45 M (n + 1) = (e_X9_readHouse_268_45_M ((s_X9_readHouse_268_45 M n))) := rfl
    rw [hs] at h
    clear hs
    generalize s_X9_readHouse_268_45 M n = sg at *
    refine it_X9_readHouse_268_45 sg   hcn p1n ?_
    exact h
def g_X9_readHouse_268 (M : Nat → Nat → Int32)  : Nat → Nat → Int32 := ((s_X9_readHouse_268_45 (g_X9_skips_268 ((s_X9_readHouse_268_22 (z_row (z_row (z_row (z_row M 268 (upd (M 268) 20 ((0 : Int32)))) 268 (upd (upd (M 268) 20 ((0 : Int32))) 21 ((0 : Int32)))) 268 (upd (upd (upd (M 268) 20 ((0 : Int32))) 21 ((0 : Int32))) 23 ((0 : Int32)))) 268 (upd (upd (upd (upd (M 268) 20 ((0 : Int32))) 21 ((0 : Int32))) 23 ((0 : Int32))) 24 ((0 : Int32)))) 83))) (n_X9_readHouse_268_45 (g_X9_skips_268 ((s_X9_readHouse_268_22 (z_row (z_row (z_row (z_row M 268 (upd (M 268) 20 ((0 : Int32)))) 268 (upd (upd (M 268) 20 ((0 : Int32))) 21 ((0 : Int32)))) 268 (upd (upd (upd (M 268) 20 ((0 : Int32))) 21 ((0 : Int32))) 23 ((0 : Int32)))) 268 (upd (upd (upd (upd (M 268) 20 ((0 : Int32))) 21 ((0 : Int32))) 23 ((0 : Int32))) 24 ((0 : Int32)))) 83))))))
theorem fr_g_X9_readHouse_268 (M : Nat → Nat → Int32)  (c : Nat) (h268 : c ≠ 268) (h281 : c ≠ 281) (h282 : c ≠ 282) (h283 : c ≠ 283) (h284 : c ≠ 284) : g_X9_readHouse_268 M c = M c := by
  unfold g_X9_readHouse_268
  repeat' split
  all_goals simp only [z_row_ne h268, z_row_ne h281, z_row_ne h282, z_row_ne h283, z_row_ne h284, fr_g_X9_skips_268 (c := c) (h268 := h268), fr_s_X9_readHouse_268_22 (c := c) (h284 := h284), fr_s_X9_readHouse_268_45 (c := c) (h268 := h268) (h281 := h281) (h282 := h282) (h283 := h283) (h284 := h284)]
def q_X9_readHouse_268 (M : Nat → Nat → Int32)  : Prop := (∀ k103, k103 < 83 → qi_X9_readHouse_268_22 ((s_X9_readHouse_268_22 (z_row (z_row (z_row (z_row M 268 (upd (M 268) 20 ((0 : Int32)))) 268 (upd (upd (M 268) 20 ((0 : Int32))) 21 ((0 : Int32)))) 268 (upd (upd (upd (M 268) 20 ((0 : Int32))) 21 ((0 : Int32))) 23 ((0 : Int32)))) 268 (upd (upd (upd (upd (M 268) 20 ((0 : Int32))) 21 ((0 : Int32))) 23 ((0 : Int32))) 24 ((0 : Int32)))) k103)) (nI k103)) ∧ (q_X9_skips_268 ((s_X9_readHouse_268_22 (z_row (z_row (z_row (z_row M 268 (upd (M 268) 20 ((0 : Int32)))) 268 (upd (upd (M 268) 20 ((0 : Int32))) 21 ((0 : Int32)))) 268 (upd (upd (upd (M 268) 20 ((0 : Int32))) 21 ((0 : Int32))) 23 ((0 : Int32)))) 268 (upd (upd (upd (upd (M 268) 20 ((0 : Int32))) 21 ((0 : Int32))) 23 ((0 : Int32))) 24 ((0 : Int32)))) 83))) ∧ (∀ k104, k104 < n_X9_readHouse_268_45 (g_X9_skips_268 ((s_X9_readHouse_268_22 (z_row (z_row (z_row (z_row M 268 (upd (M 268) 20 ((0 : Int32)))) 268 (upd (upd (M 268) 20 ((0 : Int32))) 21 ((0 : Int32)))) 268 (upd (upd (upd (M 268) 20 ((0 : Int32))) 21 ((0 : Int32))) 23 ((0 : Int32)))) 268 (upd (upd (upd (upd (M 268) 20 ((0 : Int32))) 21 ((0 : Int32))) 23 ((0 : Int32))) 24 ((0 : Int32)))) 83))) → qi_X9_readHouse_268_45 ((s_X9_readHouse_268_45 (g_X9_skips_268 ((s_X9_readHouse_268_22 (z_row (z_row (z_row (z_row M 268 (upd (M 268) 20 ((0 : Int32)))) 268 (upd (upd (M 268) 20 ((0 : Int32))) 21 ((0 : Int32)))) 268 (upd (upd (upd (M 268) 20 ((0 : Int32))) 21 ((0 : Int32))) 23 ((0 : Int32)))) 268 (upd (upd (upd (upd (M 268) 20 ((0 : Int32))) 21 ((0 : Int32))) 23 ((0 : Int32))) 24 ((0 : Int32)))) 83))) k104))) ∧ (t_X9_readHouse_268_45 ((s_X9_readHouse_268_45 (g_X9_skips_268 ((s_X9_readHouse_268_22 (z_row (z_row (z_row (z_row M 268 (upd (M 268) 20 ((0 : Int32)))) 268 (upd (upd (M 268) 20 ((0 : Int32))) 21 ((0 : Int32)))) 268 (upd (upd (upd (M 268) 20 ((0 : Int32))) 21 ((0 : Int32))) 23 ((0 : Int32)))) 268 (upd (upd (upd (upd (M 268) 20 ((0 : Int32))) 21 ((0 : Int32))) 23 ((0 : Int32))) 24 ((0 : Int32)))) 83))) 240)) = false) ∧ (q_X9_readClause_268 ((s_X9_readHouse_268_45 (g_X9_skips_268 ((s_X9_readHouse_268_22 (z_row (z_row (z_row (z_row M 268 (upd (M 268) 20 ((0 : Int32)))) 268 (upd (upd (M 268) 20 ((0 : Int32))) 21 ((0 : Int32)))) 268 (upd (upd (upd (M 268) 20 ((0 : Int32))) 21 ((0 : Int32))) 23 ((0 : Int32)))) 268 (upd (upd (upd (upd (M 268) 20 ((0 : Int32))) 21 ((0 : Int32))) 23 ((0 : Int32))) 24 ((0 : Int32)))) 83))) (n_X9_readHouse_268_45 (g_X9_skips_268 ((s_X9_readHouse_268_22 (z_row (z_row (z_row (z_row M 268 (upd (M 268) 20 ((0 : Int32)))) 268 (upd (upd (M 268) 20 ((0 : Int32))) 21 ((0 : Int32)))) 268 (upd (upd (upd (M 268) 20 ((0 : Int32))) 21 ((0 : Int32))) 23 ((0 : Int32)))) 268 (upd (upd (upd (upd (M 268) 20 ((0 : Int32))) 21 ((0 : Int32))) 23 ((0 : Int32))) 24 ((0 : Int32)))) 83))))))) ∧ (q_X9_skips_268 (g_X9_readClause_268 ((s_X9_readHouse_268_45 (g_X9_skips_268 ((s_X9_readHouse_268_22 (z_row (z_row (z_row (z_row M 268 (upd (M 268) 20 ((0 : Int32)))) 268 (upd (upd (M 268) 20 ((0 : Int32))) 21 ((0 : Int32)))) 268 (upd (upd (upd (M 268) 20 ((0 : Int32))) 21 ((0 : Int32))) 23 ((0 : Int32)))) 268 (upd (upd (upd (upd (M 268) 20 ((0 : Int32))) 21 ((0 : Int32))) 23 ((0 : Int32))) 24 ((0 : Int32)))) 83))) (n_X9_readHouse_268_45 (g_X9_skips_268 ((s_X9_readHouse_268_22 (z_row (z_row (z_row (z_row M 268 (upd (M 268) 20 ((0 : Int32)))) 268 (upd (upd (M 268) 20 ((0 : Int32))) 21 ((0 : Int32)))) 268 (upd (upd (upd (M 268) 20 ((0 : Int32))) 21 ((0 : Int32))) 23 ((0 : Int32)))) 268 (upd (upd (upd (upd (M 268) 20 ((0 : Int32))) 21 ((0 : Int32))) 23 ((0 : Int32))) 24 ((0 : Int32)))) 83)))))))) ∧ True
set_option maxRecDepth 20000 in
theorem c_X9_readHouse_268 {d : Nat} {L : Nat → Nat → Int64} (M : Nat → Nat → Int32)  (hpre : q_X9_readHouse_268 M) : z_C (d + 6) 124 [.ref 268] (z_SH, M, L) none (z_SH, g_X9_readHouse_268 M, L) := by
  unfold q_X9_readHouse_268 at hpre
  obtain ⟨p1, p2, p3, p4, p5, p6, -⟩ := hpre
  refine z_mkA (tb := tb_X9_readHouse) rfl (by decide) rfl rfl rfl ?_
  refine g_k 9 (pc' := 15) (LI' := [some (.ref 268), none]) (LL' := []) (st' := []) (S' := (z_SH, z_row (z_row (z_row M 268 (upd (M 268) 20 ((0 : Int32)))) 268 (upd (upd (M 268) 20 ((0 : Int32))) 21 ((0 : Int32)))) 268 (upd (upd (upd (M 268) 20 ((0 : Int32))) 21 ((0 : Int32))) 23 ((0 : Int32))), L)) (fun nq hq => And.intro rfl (And.intro rfl (And.intro rfl (And.intro rfl (And.intro rfl (And.intro rfl (And.intro rfl (And.intro rfl (And.intro rfl hq))))))))) ?_
  refine g_k 5 (pc' := 22) (LI' := [some (.ref 268), some (.int 0)]) (LL' := []) (st' := []) (S' := (z_SH, z_row (z_row (z_row (z_row M 268 (upd (M 268) 20 ((0 : Int32)))) 268 (upd (upd (M 268) 20 ((0 : Int32))) 21 ((0 : Int32)))) 268 (upd (upd (upd (M 268) 20 ((0 : Int32))) 21 ((0 : Int32))) 23 ((0 : Int32)))) 268 (upd (upd (upd (upd (M 268) 20 ((0 : Int32))) 21 ((0 : Int32))) 23 ((0 : Int32))) 24 ((0 : Int32))), L)) (fun nq hq => And.intro rfl (And.intro rfl (And.intro rfl (And.intro rfl (And.intro rfl hq))))) ?_
  refine l_X9_readHouse_268_22 (d := d + 5) (z_row (z_row (z_row (z_row M 268 (upd (M 268) 20 ((0 : Int32)))) 268 (upd (upd (M 268) 20 ((0 : Int32))) 21 ((0 : Int32)))) 268 (upd (upd (upd (M 268) 20 ((0 : Int32))) 21 ((0 : Int32))) 23 ((0 : Int32)))) 268 (upd (upd (upd (upd (M 268) 20 ((0 : Int32))) 21 ((0 : Int32))) 23 ((0 : Int32))) 24 ((0 : Int32)))) 83 (fun k hk => z_lpc hk) p1 ?_ 
  have hx1 : (83 : Int32) ≤ nI 83 := z_lpe
  generalize hg1 : nI 83 = r1 at *
  generalize hg2 : (s_X9_readHouse_268_22 (z_row (z_row (z_row (z_row M 268 (upd (M 268) 20 ((0 : Int32)))) 268 (upd (upd (M 268) 20 ((0 : Int32))) 21 ((0 : Int32)))) 268 (upd (upd (upd (M 268) 20 ((0 : Int32))) 21 ((0 : Int32))) 23 ((0 : Int32)))) 268 (upd (upd (upd (upd (M 268) 20 ((0 : Int32))) 21 ((0 : Int32))) 23 ((0 : Int32))) 24 ((0 : Int32)))) 83) = m2 at *
  refine g_k 3 (pc' := (if z_cmp .ge r1 ((83 : Int32)) = true then 41 else 28)) (LI' := [some (.ref 268), some (.int r1)]) (LL' := []) (st' := []) (S' := (z_SH, m2, L)) (fun nq hq => And.intro rfl (And.intro rfl (And.intro rfl hq))) ?_
  refine g_ge (fun hc1 => ?_) (fun hc1 => absurd (hx1) hc1)
  refine g_k 1 (pc' := 42) (LI' := [some (.ref 268), some (.int r1)]) (LL' := []) (st' := [.ref 268]) (S' := (z_SH, m2, L)) (fun nq hq => And.intro rfl hq) ?_
  refine g_k 1 (pc' := 45) (LI' := [some (.ref 268), some (.int r1)]) (LL' := []) (st' := []) (S' := (z_SH, g_X9_skips_268 m2, L)) (fun nq hq => And.intro rfl (Exists.intro _ (Exists.intro _ (And.intro (c_X9_skips_268 (d := d + 3) m2  p2) (And.intro (z_fit_same _ _ _ _ _ _ _ _) hq))))) ?_
  generalize hg3 : g_X9_skips_268 m2 = m3 at *
  refine l_X9_readHouse_268_45 (d := d) m3 (n_X9_readHouse_268_45 m3) (n_X9_readHouse_268_45_t m3) p3 (fun y1 => ?_) (some (.int r1))
  have hx2 : t_X9_readHouse_268_45 ((s_X9_readHouse_268_45 m3 ((n_X9_readHouse_268_45 m3)))) = false := n_X9_readHouse_268_45_f m3 p4
  generalize hg4 : (s_X9_readHouse_268_45 m3 (n_X9_readHouse_268_45 m3)) = m4 at *
  refine g_k 3 (pc' := (if z_cmp .ne (m4 268 21) ((0 : Int32)) = true then 81 else 52)) (LI' := [some (.ref 268), y1]) (LL' := []) (st' := []) (S' := (z_SH, m4, L)) (fun nq hq => And.intro rfl (And.intro rfl (And.intro rfl hq))) ?_
  refine g_ne (fun hc2 => ?_) (fun hc2 => ?_)
  · exact ⟨1, And.intro rfl (⟨rfl, (by subst hg4; subst hg3; subst hg2; subst hg1; unfold g_X9_readHouse_268; (first | rw [if_pos hc2] | skip); try rfl)⟩)⟩
  · refine g_k 5 (pc' := (if z_cmp .ge (m4 268 20) (m4 268 1) = true then 81 else 63)) (LI' := [some (.ref 268), y1]) (LL' := []) (st' := []) (S' := (z_SH, m4, L)) (fun nq hq => And.intro rfl (And.intro rfl (And.intro rfl (And.intro rfl (And.intro rfl hq))))) ?_
    refine g_ge (fun hc3 => ?_) (fun hc3 => ?_)
    · exact ⟨1, And.intro rfl (⟨rfl, (by subst hg4; subst hg3; subst hg2; subst hg1; unfold g_X9_readHouse_268; (first | rw [if_neg (not_not_intro hc2)] | skip); (first | rw [if_pos hc3] | skip); try rfl)⟩)⟩
    · refine g_k 1 (pc' := 64) (LI' := [some (.ref 268), y1]) (LL' := []) (st' := [.ref 268]) (S' := (z_SH, m4, L)) (fun nq hq => And.intro rfl hq) ?_
      refine g_k 1 (pc' := 67) (LI' := [some (.ref 268), y1]) (LL' := []) (st' := []) (S' := (z_SH, g_X9_readClause_268 m4, L)) (fun nq hq => And.intro rfl (Exists.intro _ (Exists.intro _ (And.intro (c_X9_readClause_268 (d := d) m4  p5) (And.intro (z_fit_same _ _ _ _ _ _ _ _) hq))))) ?_
      generalize hg5 : g_X9_readClause_268 m4 = m5 at *
      refine g_k 3 (pc' := (if z_cmp .ne (m5 268 21) ((0 : Int32)) = true then 45 else 74)) (LI' := [some (.ref 268), y1]) (LL' := []) (st' := []) (S' := (z_SH, m5, L)) (fun nq hq => And.intro rfl (And.intro rfl (And.intro rfl hq))) ?_
      refine g_ne (fun hc4 => ?_) (fun hc4 => ?_)
      · (exfalso; subst hg5; unfold t_X9_readHouse_268_45 at hx2; (try simp only [if_neg (not_not_intro hc2)] at hx2); (try simp only [if_neg hc3] at hx2); (try simp only [if_pos hc4] at hx2); exact Bool.noConfusion hx2)
      · refine g_k 1 (pc' := 75) (LI' := [some (.ref 268), y1]) (LL' := []) (st' := [.ref 268]) (S' := (z_SH, m5, L)) (fun nq hq => And.intro rfl hq) ?_
        refine g_k 1 (pc' := 78) (LI' := [some (.ref 268), y1]) (LL' := []) (st' := []) (S' := (z_SH, g_X9_skips_268 m5, L)) (fun nq hq => And.intro rfl (Exists.intro _ (Exists.intro _ (And.intro (c_X9_skips_268 (d := d + 3) m5  p6) (And.intro (z_fit_same _ _ _ _ _ _ _ _) hq))))) ?_
        generalize hg6 : g_X9_skips_268 m5 = m6 at *
        refine g_k 1 (pc' := 45) (LI' := [some (.ref 268), y1]) (LL' := []) (st' := []) (S' := (z_SH, m6, L)) (fun nq hq => And.intro rfl hq) ?_
        (exfalso; subst hg6; subst hg5; unfold t_X9_readHouse_268_45 at hx2; (try simp only [if_neg (not_not_intro hc2)] at hx2); (try simp only [if_neg hc3] at hx2); (try simp only [if_neg (not_not_intro hc4)] at hx2); exact Bool.noConfusion hx2)
def e_X9_bring_281_270_3_M (M : Nat → Nat → Int32) (a1 : Int32) (a3 : Int32) (a4 : Int32) (i : Int32)  : Nat → Nat → Int32 := z_row M 270 (upd (M 270) ((a3 + i).toNatClampNeg) (M 281 ((a1 + i).toNatClampNeg)))
def qi_X9_bring_281_270_3 (M : Nat → Nat → Int32) (a1 : Int32) (a3 : Int32) (a4 : Int32) (i : Int32)  : Prop := (z_vin (a1 + i) 6 = true) ∧ (z_vin (a3 + i) 6 = true) ∧ True
set_option maxRecDepth 20000 in
theorem it_X9_bring_281_270_3 {d : Nat} {L : Nat → Nat → Int64} {Q : Option Value → z_St → Prop} (M : Nat → Nat → Int32) (a1 : Int32) (a3 : Int32) (a4 : Int32) (i : Int32)  (hc : ¬ (a4 ≤ i)) (p1 : qi_X9_bring_281_270_3 M a1 a3 a4 i) (h : z_G (d + 0) tb_X9_bring 3 [some (.ref 281), some (.int a1), some (.ref 270), some (.int a3), some (.int a4), some (.int (i + 1))] [] [] (z_SH, e_X9_bring_281_270_3_M M a1 a3 a4 i, L) Q) : z_G (d + 0) tb_X9_bring 3 [some (.ref 281), some (.int a1), some (.ref 270), some (.int a3), some (.int a4), some (.int i)] [] [] (z_SH, M, L) Q := by
  unfold qi_X9_bring_281_270_3 at p1
  obtain ⟨p1, p2, -⟩ := p1
  refine g_k 3 (pc' := (if z_cmp .ge i a4 = true then 28 else 10)) (LI' := [some (.ref 281), some (.int a1), some (.ref 270), some (.int a3), some (.int a4), some (.int i)]) (LL' := []) (st' := []) (S' := (z_SH, M, L)) (fun nq hq => And.intro rfl (And.intro rfl (And.intro rfl hq))) ?_
  refine g_ge (fun hc1 => ?_) (fun hc1 => ?_)
  · exact absurd hc1 hc
  · refine g_k 9 (pc' := 21) (LI' := [some (.ref 281), some (.int a1), some (.ref 270), some (.int a3), some (.int a4), some (.int i)]) (LL' := []) (st' := [.int (M 281 ((a1 + i).toNatClampNeg)), .int (a3 + i), .ref 270]) (S' := (z_SH, M, L)) (fun nq hq => And.intro rfl (And.intro rfl (And.intro rfl (And.intro rfl (And.intro rfl (And.intro rfl (And.intro rfl (And.intro rfl (And.intro p1 hq))))))))) ?_
    refine g_k 3 (pc' := 3) (LI' := [some (.ref 281), some (.int a1), some (.ref 270), some (.int a3), some (.int a4), some (.int (i + 1))]) (LL' := []) (st' := []) (S' := (z_SH, z_row M 270 (upd (M 270) ((a3 + i).toNatClampNeg) (M 281 ((a1 + i).toNatClampNeg))), L)) (fun nq hq => And.intro p2 (And.intro rfl (And.intro rfl hq))) ?_
    (unfold e_X9_bring_281_270_3_M at h; exact h )
def s_X9_bring_281_270_3 (M : Nat → Nat → Int32) (a1 : Int32) (a3 : Int32) (a4 : Int32)  (n : Nat) : (Nat → Nat → Int32) := Nat.rec (motive := fun _ => (Nat → Nat → Int32)) (M) (fun k r => (e_X9_bring_281_270_3_M r a1 a3 a4 (nI k))) n
theorem fr_e_X9_bring_281_270_3_M (M : Nat → Nat → Int32) (a1 : Int32) (a3 : Int32) (a4 : Int32) (i : Int32)  (c : Nat) (h270 : c ≠ 270) : e_X9_bring_281_270_3_M M a1 a3 a4 i c = M c := by
  unfold e_X9_bring_281_270_3_M
  repeat' split
  all_goals simp only [z_row_ne h270]
theorem fr_s_X9_bring_281_270_3 (M : Nat → Nat → Int32) (a1 : Int32) (a3 : Int32) (a4 : Int32)  (n : Nat) (c : Nat) (h270 : c ≠ 270) : ((s_X9_bring_281_270_3 M a1 a3 a4 n)) c = M c := by
  induction n with
  | zero => rfl
  | succ n ih => exact (fr_e_X9_bring_281_270_3_M _ a1 a3 a4 (nI n)  c h270).trans ih
theorem l_X9_bring_281_270_3 {d : Nat} {L : Nat → Nat → Int64} {Q : Option Value → z_St → Prop} (M : Nat → Nat → Int32) (a1 : Int32) (a3 : Int32) (a4 : Int32)  (n : Nat) : (∀ k, k < n → ¬ (a4 ≤ (nI k))) → (∀ k, k < n → qi_X9_bring_281_270_3 ((s_X9_bring_281_270_3 M a1 a3 a4 k)) a1 a3 a4 (nI k)) → (z_G (d + 0) tb_X9_bring 3 [some (.ref 281), some (.int a1), some (.ref 270), some (.int a3), some (.int a4), some (.int (nI n))] [] [] (z_SH, (s_X9_bring_281_270_3 M a1 a3 a4 n), L) Q) → z_G (d + 0) tb_X9_bring 3 [some (.ref 281), some (.int a1), some (.ref 270), some (.int a3), some (.int a4), some (.int (nI 0))] [] [] (z_SH, M, L) Q := by
  induction n with
  | zero =>
    intro hc p1 h
    exact h
  | succ n ih =>
    intro hc p1 h
    refine ih (fun k hk => hc k (by omega)) (fun k hk => p1 k (by omega)) ?_
    have hcn := hc n (by omega)
    have p1n := p1 n (by omega)
    clear ih hc p1
    have hs : s_X9_bring_281_270_3 M a1 a3 a4 (n + 1) = (e_X9_bring_281_270_3_M ((s_X9_bring_281_270_3 M a1 a3 a4 n)) a1 a3 a4 (nI n)) := rfl
    rw [hs] at h
    clear hs
    generalize s_X9_bring_281_270_3 M a1 a3 a4 n = sg at *
    refine it_X9_bring_281_270_3 sg a1 a3 a4 (nI n)  hcn p1n ?_
    rw [nI_1]
    exact h
def g_X9_bring_281_270 (M : Nat → Nat → Int32) (a1 : Int32) (a3 : Int32) (a4 : Int32) : Nat → Nat → Int32 := ((s_X9_bring_281_270_3 M a1 a3 a4 ((a4).toNatClampNeg)))
theorem fr_g_X9_bring_281_270 (M : Nat → Nat → Int32) (a1 : Int32) (a3 : Int32) (a4 : Int32) (c : Nat) (h270 : c ≠ 270) : g_X9_bring_281_270 M a1 a3 a4 c = M c := by
  unfold g_X9_bring_281_270
  repeat' split
  all_goals simp only [z_row_ne h270, fr_s_X9_bring_281_270_3 (c := c) (h270 := h270)]
def q_X9_bring_281_270 (M : Nat → Nat → Int32) (a1 : Int32) (a3 : Int32) (a4 : Int32) : Prop := (∀ k105, k105 < (a4).toNatClampNeg → qi_X9_bring_281_270_3 ((s_X9_bring_281_270_3 M a1 a3 a4 k105)) a1 a3 a4 (nI k105)) ∧ True
set_option maxRecDepth 20000 in
theorem c_X9_bring_281_270 {d : Nat} {L : Nat → Nat → Int64} (M : Nat → Nat → Int32) (a1 : Int32) (a3 : Int32) (a4 : Int32) (hpre : q_X9_bring_281_270 M a1 a3 a4) : z_C (d + 1) 111 [.ref 281, .int a1, .ref 270, .int a3, .int a4] (z_SH, M, L) none (z_SH, g_X9_bring_281_270 M a1 a3 a4, L) := by
  unfold q_X9_bring_281_270 at hpre
  obtain ⟨p1, -⟩ := hpre
  refine z_mkA (tb := tb_X9_bring) rfl (by decide) rfl rfl rfl ?_
  refine g_k 2 (pc' := 3) (LI' := [some (.ref 281), some (.int a1), some (.ref 270), some (.int a3), some (.int a4), some (.int 0)]) (LL' := []) (st' := []) (S' := (z_SH, M, L)) (fun nq hq => And.intro rfl (And.intro rfl hq)) ?_
  refine l_X9_bring_281_270_3 (d := d) M a1 a3 a4 ((a4).toNatClampNeg) (fun k hk => z_lpc hk) p1 ?_ 
  have hx1 : a4 ≤ nI ((a4).toNatClampNeg) := z_lpe
  generalize hg1 : nI ((a4).toNatClampNeg) = r1 at *
  generalize hg2 : (s_X9_bring_281_270_3 M a1 a3 a4 ((a4).toNatClampNeg)) = m2 at *
  refine g_k 3 (pc' := (if z_cmp .ge r1 a4 = true then 28 else 10)) (LI' := [some (.ref 281), some (.int a1), some (.ref 270), some (.int a3), some (.int a4), some (.int r1)]) (LL' := []) (st' := []) (S' := (z_SH, m2, L)) (fun nq hq => And.intro rfl (And.intro rfl (And.intro rfl hq))) ?_
  refine g_ge (fun hc1 => ?_) (fun hc1 => absurd (hx1) hc1)
  exact ⟨1, And.intro rfl (⟨rfl, (by subst hg2; subst hg1; rfl)⟩)⟩
def e_X9_bring_282_271_3_M (M : Nat → Nat → Int32) (a1 : Int32) (a3 : Int32) (a4 : Int32) (i : Int32)  : Nat → Nat → Int32 := z_row M 271 (upd (M 271) ((a3 + i).toNatClampNeg) (M 282 ((a1 + i).toNatClampNeg)))
def qi_X9_bring_282_271_3 (M : Nat → Nat → Int32) (a1 : Int32) (a3 : Int32) (a4 : Int32) (i : Int32)  : Prop := (z_vin (a1 + i) 6 = true) ∧ (z_vin (a3 + i) 6 = true) ∧ True
set_option maxRecDepth 20000 in
theorem it_X9_bring_282_271_3 {d : Nat} {L : Nat → Nat → Int64} {Q : Option Value → z_St → Prop} (M : Nat → Nat → Int32) (a1 : Int32) (a3 : Int32) (a4 : Int32) (i : Int32)  (hc : ¬ (a4 ≤ i)) (p1 : qi_X9_bring_282_271_3 M a1 a3 a4 i) (h : z_G (d + 0) tb_X9_bring 3 [some (.ref 282), some (.int a1), some (.ref 271), some (.int a3), some (.int a4), some (.int (i + 1))] [] [] (z_SH, e_X9_bring_282_271_3_M M a1 a3 a4 i, L) Q) : z_G (d + 0) tb_X9_bring 3 [some (.ref 282), some (.int a1), some (.ref 271), some (.int a3), some (.int a4), some (.int i)] [] [] (z_SH, M, L) Q := by
  unfold qi_X9_bring_282_271_3 at p1
  obtain ⟨p1, p2, -⟩ := p1
  refine g_k 3 (pc' := (if z_cmp .ge i a4 = true then 28 else 10)) (LI' := [some (.ref 282), some (.int a1), some (.ref 271), some (.int a3), some (.int a4), some (.int i)]) (LL' := []) (st' := []) (S' := (z_SH, M, L)) (fun nq hq => And.intro rfl (And.intro rfl (And.intro rfl hq))) ?_
  refine g_ge (fun hc1 => ?_) (fun hc1 => ?_)
  · exact absurd hc1 hc
  · refine g_k 9 (pc' := 21) (LI' := [some (.ref 282), some (.int a1), some (.ref 271), some (.int a3), some (.int a4), some (.int i)]) (LL' := []) (st' := [.int (M 282 ((a1 + i).toNatClampNeg)), .int (a3 + i), .ref 271]) (S' := (z_SH, M, L)) (fun nq hq => And.intro rfl (And.intro rfl (And.intro rfl (And.intro rfl (And.intro rfl (And.intro rfl (And.intro rfl (And.intro rfl (And.intro p1 hq))))))))) ?_
    refine g_k 3 (pc' := 3) (LI' := [some (.ref 282), some (.int a1), some (.ref 271), some (.int a3), some (.int a4), some (.int (i + 1))]) (LL' := []) (st' := []) (S' := (z_SH, z_row M 271 (upd (M 271) ((a3 + i).toNatClampNeg) (M 282 ((a1 + i).toNatClampNeg))), L)) (fun nq hq => And.intro p2 (And.intro rfl (And.intro rfl hq))) ?_
    (unfold e_X9_bring_282_271_3_M at h; exact h )
def s_X9_bring_282_271_3 (M : Nat → Nat → Int32) (a1 : Int32) (a3 : Int32) (a4 : Int32)  (n : Nat) : (Nat → Nat → Int32) := Nat.rec (motive := fun _ => (Nat → Nat → Int32)) (M) (fun k r => (e_X9_bring_282_271_3_M r a1 a3 a4 (nI k))) n
theorem fr_e_X9_bring_282_271_3_M (M : Nat → Nat → Int32) (a1 : Int32) (a3 : Int32) (a4 : Int32) (i : Int32)  (c : Nat) (h271 : c ≠ 271) : e_X9_bring_282_271_3_M M a1 a3 a4 i c = M c := by
  unfold e_X9_bring_282_271_3_M
  repeat' split
  all_goals simp only [z_row_ne h271]
theorem fr_s_X9_bring_282_271_3 (M : Nat → Nat → Int32) (a1 : Int32) (a3 : Int32) (a4 : Int32)  (n : Nat) (c : Nat) (h271 : c ≠ 271) : ((s_X9_bring_282_271_3 M a1 a3 a4 n)) c = M c := by
  induction n with
  | zero => rfl
  | succ n ih => exact (fr_e_X9_bring_282_271_3_M _ a1 a3 a4 (nI n)  c h271).trans ih
theorem l_X9_bring_282_271_3 {d : Nat} {L : Nat → Nat → Int64} {Q : Option Value → z_St → Prop} (M : Nat → Nat → Int32) (a1 : Int32) (a3 : Int32) (a4 : Int32)  (n : Nat) : (∀ k, k < n → ¬ (a4 ≤ (nI k))) → (∀ k, k < n → qi_X9_bring_282_271_3 ((s_X9_bring_282_271_3 M a1 a3 a4 k)) a1 a3 a4 (nI k)) → (z_G (d + 0) tb_X9_bring 3 [some (.ref 282), some (.int a1), some (.ref 271), some (.int a3), some (.int a4), some (.int (nI n))] [] [] (z_SH, (s_X9_bring_282_271_3 M a1 a3 a4 n), L) Q) → z_G (d + 0) tb_X9_bring 3 [some (.ref 282), some (.int a1), some (.ref 271), some (.int a3), some (.int a4), some (.int (nI 0))] [] [] (z_SH, M, L) Q := by
  induction n with
  | zero =>
    intro hc p1 h
    exact h
  | succ n ih =>
    intro hc p1 h
    refine ih (fun k hk => hc k (by omega)) (fun k hk => p1 k (by omega)) ?_
    have hcn := hc n (by omega)
    have p1n := p1 n (by omega)
    clear ih hc p1
    have hs : s_X9_bring_282_271_3 M a1 a3 a4 (n + 1) = (e_X9_bring_282_271_3_M ((s_X9_bring_282_271_3 M a1 a3 a4 n)) a1 a3 a4 (nI n)) := rfl
    rw [hs] at h
    clear hs
    generalize s_X9_bring_282_271_3 M a1 a3 a4 n = sg at *
    refine it_X9_bring_282_271_3 sg a1 a3 a4 (nI n)  hcn p1n ?_
    rw [nI_1]
    exact h
def g_X9_bring_282_271 (M : Nat → Nat → Int32) (a1 : Int32) (a3 : Int32) (a4 : Int32) : Nat → Nat → Int32 := ((s_X9_bring_282_271_3 M a1 a3 a4 ((a4).toNatClampNeg)))
theorem fr_g_X9_bring_282_271 (M : Nat → Nat → Int32) (a1 : Int32) (a3 : Int32) (a4 : Int32) (c : Nat) (h271 : c ≠ 271) : g_X9_bring_282_271 M a1 a3 a4 c = M c := by
  unfold g_X9_bring_282_271
  repeat' split
  all_goals simp only [z_row_ne h271, fr_s_X9_bring_282_271_3 (c := c) (h271 := h271)]
def q_X9_bring_282_271 (M : Nat → Nat → Int32) (a1 : Int32) (a3 : Int32) (a4 : Int32) : Prop := (∀ k106, k106 < (a4).toNatClampNeg → qi_X9_bring_282_271_3 ((s_X9_bring_282_271_3 M a1 a3 a4 k106)) a1 a3 a4 (nI k106)) ∧ True
set_option maxRecDepth 20000 in
theorem c_X9_bring_282_271 {d : Nat} {L : Nat → Nat → Int64} (M : Nat → Nat → Int32) (a1 : Int32) (a3 : Int32) (a4 : Int32) (hpre : q_X9_bring_282_271 M a1 a3 a4) : z_C (d + 1) 111 [.ref 282, .int a1, .ref 271, .int a3, .int a4] (z_SH, M, L) none (z_SH, g_X9_bring_282_271 M a1 a3 a4, L) := by
  unfold q_X9_bring_282_271 at hpre
  obtain ⟨p1, -⟩ := hpre
  refine z_mkA (tb := tb_X9_bring) rfl (by decide) rfl rfl rfl ?_
  refine g_k 2 (pc' := 3) (LI' := [some (.ref 282), some (.int a1), some (.ref 271), some (.int a3), some (.int a4), some (.int 0)]) (LL' := []) (st' := []) (S' := (z_SH, M, L)) (fun nq hq => And.intro rfl (And.intro rfl hq)) ?_
  refine l_X9_bring_282_271_3 (d := d) M a1 a3 a4 ((a4).toNatClampNeg) (fun k hk => z_lpc hk) p1 ?_ 
  have hx1 : a4 ≤ nI ((a4).toNatClampNeg) := z_lpe
  generalize hg1 : nI ((a4).toNatClampNeg) = r1 at *
  generalize hg2 : (s_X9_bring_282_271_3 M a1 a3 a4 ((a4).toNatClampNeg)) = m2 at *
  refine g_k 3 (pc' := (if z_cmp .ge r1 a4 = true then 28 else 10)) (LI' := [some (.ref 282), some (.int a1), some (.ref 271), some (.int a3), some (.int a4), some (.int r1)]) (LL' := []) (st' := []) (S' := (z_SH, m2, L)) (fun nq hq => And.intro rfl (And.intro rfl (And.intro rfl hq))) ?_
  refine g_ge (fun hc1 => ?_) (fun hc1 => absurd (hx1) hc1)
  exact ⟨1, And.intro rfl (⟨rfl, (by subst hg2; subst hg1; rfl)⟩)⟩
def e_X9_bring_283_272_3_M (M : Nat → Nat → Int32) (a1 : Int32) (a3 : Int32) (a4 : Int32) (i : Int32)  : Nat → Nat → Int32 := z_row M 272 (upd (M 272) ((a3 + i).toNatClampNeg) (M 283 ((a1 + i).toNatClampNeg)))
def qi_X9_bring_283_272_3 (M : Nat → Nat → Int32) (a1 : Int32) (a3 : Int32) (a4 : Int32) (i : Int32)  : Prop := (z_vin (a1 + i) 6 = true) ∧ (z_vin (a3 + i) 6 = true) ∧ True
set_option maxRecDepth 20000 in
theorem it_X9_bring_283_272_3 {d : Nat} {L : Nat → Nat → Int64} {Q : Option Value → z_St → Prop} (M : Nat → Nat → Int32) (a1 : Int32) (a3 : Int32) (a4 : Int32) (i : Int32)  (hc : ¬ (a4 ≤ i)) (p1 : qi_X9_bring_283_272_3 M a1 a3 a4 i) (h : z_G (d + 0) tb_X9_bring 3 [some (.ref 283), some (.int a1), some (.ref 272), some (.int a3), some (.int a4), some (.int (i + 1))] [] [] (z_SH, e_X9_bring_283_272_3_M M a1 a3 a4 i, L) Q) : z_G (d + 0) tb_X9_bring 3 [some (.ref 283), some (.int a1), some (.ref 272), some (.int a3), some (.int a4), some (.int i)] [] [] (z_SH, M, L) Q := by
  unfold qi_X9_bring_283_272_3 at p1
  obtain ⟨p1, p2, -⟩ := p1
  refine g_k 3 (pc' := (if z_cmp .ge i a4 = true then 28 else 10)) (LI' := [some (.ref 283), some (.int a1), some (.ref 272), some (.int a3), some (.int a4), some (.int i)]) (LL' := []) (st' := []) (S' := (z_SH, M, L)) (fun nq hq => And.intro rfl (And.intro rfl (And.intro rfl hq))) ?_
  refine g_ge (fun hc1 => ?_) (fun hc1 => ?_)
  · exact absurd hc1 hc
  · refine g_k 9 (pc' := 21) (LI' := [some (.ref 283), some (.int a1), some (.ref 272), some (.int a3), some (.int a4), some (.int i)]) (LL' := []) (st' := [.int (M 283 ((a1 + i).toNatClampNeg)), .int (a3 + i), .ref 272]) (S' := (z_SH, M, L)) (fun nq hq => And.intro rfl (And.intro rfl (And.intro rfl (And.intro rfl (And.intro rfl (And.intro rfl (And.intro rfl (And.intro rfl (And.intro p1 hq))))))))) ?_
    refine g_k 3 (pc' := 3) (LI' := [some (.ref 283), some (.int a1), some (.ref 272), some (.int a3), some (.int a4), some (.int (i + 1))]) (LL' := []) (st' := []) (S' := (z_SH, z_row M 272 (upd (M 272) ((a3 + i).toNatClampNeg) (M 283 ((a1 + i).toNatClampNeg))), L)) (fun nq hq => And.intro p2 (And.intro rfl (And.intro rfl hq))) ?_
    (unfold e_X9_bring_283_272_3_M at h; exact h )
def s_X9_bring_283_272_3 (M : Nat → Nat → Int32) (a1 : Int32) (a3 : Int32) (a4 : Int32)  (n : Nat) : (Nat → Nat → Int32) := Nat.rec (motive := fun _ => (Nat → Nat → Int32)) (M) (fun k r => (e_X9_bring_283_272_3_M r a1 a3 a4 (nI k))) n
theorem fr_e_X9_bring_283_272_3_M (M : Nat → Nat → Int32) (a1 : Int32) (a3 : Int32) (a4 : Int32) (i : Int32)  (c : Nat) (h272 : c ≠ 272) : e_X9_bring_283_272_3_M M a1 a3 a4 i c = M c := by
  unfold e_X9_bring_283_272_3_M
  repeat' split
  all_goals simp only [z_row_ne h272]
theorem fr_s_X9_bring_283_272_3 (M : Nat → Nat → Int32) (a1 : Int32) (a3 : Int32) (a4 : Int32)  (n : Nat) (c : Nat) (h272 : c ≠ 272) : ((s_X9_bring_283_272_3 M a1 a3 a4 n)) c = M c := by
  induction n with
  | zero => rfl
  | succ n ih => exact (fr_e_X9_bring_283_272_3_M _ a1 a3 a4 (nI n)  c h272).trans ih
theorem l_X9_bring_283_272_3 {d : Nat} {L : Nat → Nat → Int64} {Q : Option Value → z_St → Prop} (M : Nat → Nat → Int32) (a1 : Int32) (a3 : Int32) (a4 : Int32)  (n : Nat) : (∀ k, k < n → ¬ (a4 ≤ (nI k))) → (∀ k, k < n → qi_X9_bring_283_272_3 ((s_X9_bring_283_272_3 M a1 a3 a4 k)) a1 a3 a4 (nI k)) → (z_G (d + 0) tb_X9_bring 3 [some (.ref 283), some (.int a1), some (.ref 272), some (.int a3), some (.int a4), some (.int (nI n))] [] [] (z_SH, (s_X9_bring_283_272_3 M a1 a3 a4 n), L) Q) → z_G (d + 0) tb_X9_bring 3 [some (.ref 283), some (.int a1), some (.ref 272), some (.int a3), some (.int a4), some (.int (nI 0))] [] [] (z_SH, M, L) Q := by
  induction n with
  | zero =>
    intro hc p1 h
    exact h
  | succ n ih =>
    intro hc p1 h
    refine ih (fun k hk => hc k (by omega)) (fun k hk => p1 k (by omega)) ?_
    have hcn := hc n (by omega)
    have p1n := p1 n (by omega)
    clear ih hc p1
    have hs : s_X9_bring_283_272_3 M a1 a3 a4 (n + 1) = (e_X9_bring_283_272_3_M ((s_X9_bring_283_272_3 M a1 a3 a4 n)) a1 a3 a4 (nI n)) := rfl
    rw [hs] at h
    clear hs
    generalize s_X9_bring_283_272_3 M a1 a3 a4 n = sg at *
    refine it_X9_bring_283_272_3 sg a1 a3 a4 (nI n)  hcn p1n ?_
    rw [nI_1]
    exact h
def g_X9_bring_283_272 (M : Nat → Nat → Int32) (a1 : Int32) (a3 : Int32) (a4 : Int32) : Nat → Nat → Int32 := ((s_X9_bring_283_272_3 M a1 a3 a4 ((a4).toNatClampNeg)))
theorem fr_g_X9_bring_283_272 (M : Nat → Nat → Int32) (a1 : Int32) (a3 : Int32) (a4 : Int32) (c : Nat) (h272 : c ≠ 272) : g_X9_bring_283_272 M a1 a3 a4 c = M c := by
  unfold g_X9_bring_283_272
  repeat' split
  all_goals simp only [z_row_ne h272, fr_s_X9_bring_283_272_3 (c := c) (h272 := h272)]
def q_X9_bring_283_272 (M : Nat → Nat → Int32) (a1 : Int32) (a3 : Int32) (a4 : Int32) : Prop := (∀ k107, k107 < (a4).toNatClampNeg → qi_X9_bring_283_272_3 ((s_X9_bring_283_272_3 M a1 a3 a4 k107)) a1 a3 a4 (nI k107)) ∧ True
set_option maxRecDepth 20000 in
theorem c_X9_bring_283_272 {d : Nat} {L : Nat → Nat → Int64} (M : Nat → Nat → Int32) (a1 : Int32) (a3 : Int32) (a4 : Int32) (hpre : q_X9_bring_283_272 M a1 a3 a4) : z_C (d + 1) 111 [.ref 283, .int a1, .ref 272, .int a3, .int a4] (z_SH, M, L) none (z_SH, g_X9_bring_283_272 M a1 a3 a4, L) := by
  unfold q_X9_bring_283_272 at hpre
  obtain ⟨p1, -⟩ := hpre
  refine z_mkA (tb := tb_X9_bring) rfl (by decide) rfl rfl rfl ?_
  refine g_k 2 (pc' := 3) (LI' := [some (.ref 283), some (.int a1), some (.ref 272), some (.int a3), some (.int a4), some (.int 0)]) (LL' := []) (st' := []) (S' := (z_SH, M, L)) (fun nq hq => And.intro rfl (And.intro rfl hq)) ?_
  refine l_X9_bring_283_272_3 (d := d) M a1 a3 a4 ((a4).toNatClampNeg) (fun k hk => z_lpc hk) p1 ?_ 
  have hx1 : a4 ≤ nI ((a4).toNatClampNeg) := z_lpe
  generalize hg1 : nI ((a4).toNatClampNeg) = r1 at *
  generalize hg2 : (s_X9_bring_283_272_3 M a1 a3 a4 ((a4).toNatClampNeg)) = m2 at *
  refine g_k 3 (pc' := (if z_cmp .ge r1 a4 = true then 28 else 10)) (LI' := [some (.ref 283), some (.int a1), some (.ref 272), some (.int a3), some (.int a4), some (.int r1)]) (LL' := []) (st' := []) (S' := (z_SH, m2, L)) (fun nq hq => And.intro rfl (And.intro rfl (And.intro rfl hq))) ?_
  refine g_ge (fun hc1 => ?_) (fun hc1 => absurd (hx1) hc1)
  exact ⟨1, And.intro rfl (⟨rfl, (by subst hg2; subst hg1; rfl)⟩)⟩
def e_X9_bring_284_273_3_M (M : Nat → Nat → Int32) (a1 : Int32) (a3 : Int32) (a4 : Int32) (i : Int32)  : Nat → Nat → Int32 := z_row M 273 (upd (M 273) ((a3 + i).toNatClampNeg) (M 284 ((a1 + i).toNatClampNeg)))
def qi_X9_bring_284_273_3 (M : Nat → Nat → Int32) (a1 : Int32) (a3 : Int32) (a4 : Int32) (i : Int32)  : Prop := (z_vin (a1 + i) 83 = true) ∧ (z_vin (a3 + i) 83 = true) ∧ True
set_option maxRecDepth 20000 in
theorem it_X9_bring_284_273_3 {d : Nat} {L : Nat → Nat → Int64} {Q : Option Value → z_St → Prop} (M : Nat → Nat → Int32) (a1 : Int32) (a3 : Int32) (a4 : Int32) (i : Int32)  (hc : ¬ (a4 ≤ i)) (p1 : qi_X9_bring_284_273_3 M a1 a3 a4 i) (h : z_G (d + 0) tb_X9_bring 3 [some (.ref 284), some (.int a1), some (.ref 273), some (.int a3), some (.int a4), some (.int (i + 1))] [] [] (z_SH, e_X9_bring_284_273_3_M M a1 a3 a4 i, L) Q) : z_G (d + 0) tb_X9_bring 3 [some (.ref 284), some (.int a1), some (.ref 273), some (.int a3), some (.int a4), some (.int i)] [] [] (z_SH, M, L) Q := by
  unfold qi_X9_bring_284_273_3 at p1
  obtain ⟨p1, p2, -⟩ := p1
  refine g_k 3 (pc' := (if z_cmp .ge i a4 = true then 28 else 10)) (LI' := [some (.ref 284), some (.int a1), some (.ref 273), some (.int a3), some (.int a4), some (.int i)]) (LL' := []) (st' := []) (S' := (z_SH, M, L)) (fun nq hq => And.intro rfl (And.intro rfl (And.intro rfl hq))) ?_
  refine g_ge (fun hc1 => ?_) (fun hc1 => ?_)
  · exact absurd hc1 hc
  · refine g_k 9 (pc' := 21) (LI' := [some (.ref 284), some (.int a1), some (.ref 273), some (.int a3), some (.int a4), some (.int i)]) (LL' := []) (st' := [.int (M 284 ((a1 + i).toNatClampNeg)), .int (a3 + i), .ref 273]) (S' := (z_SH, M, L)) (fun nq hq => And.intro rfl (And.intro rfl (And.intro rfl (And.intro rfl (And.intro rfl (And.intro rfl (And.intro rfl (And.intro rfl (And.intro p1 hq))))))))) ?_
    refine g_k 3 (pc' := 3) (LI' := [some (.ref 284), some (.int a1), some (.ref 273), some (.int a3), some (.int a4), some (.int (i + 1))]) (LL' := []) (st' := []) (S' := (z_SH, z_row M 273 (upd (M 273) ((a3 + i).toNatClampNeg) (M 284 ((a1 + i).toNatClampNeg))), L)) (fun nq hq => And.intro p2 (And.intro rfl (And.intro rfl hq))) ?_
    (unfold e_X9_bring_284_273_3_M at h; exact h )
def s_X9_bring_284_273_3 (M : Nat → Nat → Int32) (a1 : Int32) (a3 : Int32) (a4 : Int32)  (n : Nat) : (Nat → Nat → Int32) := Nat.rec (motive := fun _ => (Nat → Nat → Int32)) (M) (fun k r => (e_X9_bring_284_273_3_M r a1 a3 a4 (nI k))) n
theorem fr_e_X9_bring_284_273_3_M (M : Nat → Nat → Int32) (a1 : Int32) (a3 : Int32) (a4 : Int32) (i : Int32)  (c : Nat) (h273 : c ≠ 273) : e_X9_bring_284_273_3_M M a1 a3 a4 i c = M c := by
  unfold e_X9_bring_284_273_3_M
  repeat' split
  all_goals simp only [z_row_ne h273]
theorem fr_s_X9_bring_284_273_3 (M : Nat → Nat → Int32) (a1 : Int32) (a3 : Int32) (a4 : Int32)  (n : Nat) (c : Nat) (h273 : c ≠ 273) : ((s_X9_bring_284_273_3 M a1 a3 a4 n)) c = M c := by
  induction n with
  | zero => rfl
  | succ n ih => exact (fr_e_X9_bring_284_273_3_M _ a1 a3 a4 (nI n)  c h273).trans ih
theorem l_X9_bring_284_273_3 {d : Nat} {L : Nat → Nat → Int64} {Q : Option Value → z_St → Prop} (M : Nat → Nat → Int32) (a1 : Int32) (a3 : Int32) (a4 : Int32)  (n : Nat) : (∀ k, k < n → ¬ (a4 ≤ (nI k))) → (∀ k, k < n → qi_X9_bring_284_273_3 ((s_X9_bring_284_273_3 M a1 a3 a4 k)) a1 a3 a4 (nI k)) → (z_G (d + 0) tb_X9_bring 3 [some (.ref 284), some (.int a1), some (.ref 273), some (.int a3), some (.int a4), some (.int (nI n))] [] [] (z_SH, (s_X9_bring_284_273_3 M a1 a3 a4 n), L) Q) → z_G (d + 0) tb_X9_bring 3 [some (.ref 284), some (.int a1), some (.ref 273), some (.int a3), some (.int a4), some (.int (nI 0))] [] [] (z_SH, M, L) Q := by
  induction n with
  | zero =>
    intro hc p1 h
    exact h
  | succ n ih =>
    intro hc p1 h
    refine ih (fun k hk => hc k (by omega)) (fun k hk => p1 k (by omega)) ?_
    have hcn := hc n (by omega)
    have p1n := p1 n (by omega)
    clear ih hc p1
    have hs : s_X9_bring_284_273_3 M a1 a3 a4 (n + 1) = (e_X9_bring_284_273_3_M ((s_X9_bring_284_273_3 M a1 a3 a4 n)) a1 a3 a4 (nI n)) := rfl
    rw [hs] at h
    clear hs
    generalize s_X9_bring_284_273_3 M a1 a3 a4 n = sg at *
    refine it_X9_bring_284_273_3 sg a1 a3 a4 (nI n)  hcn p1n ?_
    rw [nI_1]
    exact h
def g_X9_bring_284_273 (M : Nat → Nat → Int32) (a1 : Int32) (a3 : Int32) (a4 : Int32) : Nat → Nat → Int32 := ((s_X9_bring_284_273_3 M a1 a3 a4 ((a4).toNatClampNeg)))
theorem fr_g_X9_bring_284_273 (M : Nat → Nat → Int32) (a1 : Int32) (a3 : Int32) (a4 : Int32) (c : Nat) (h273 : c ≠ 273) : g_X9_bring_284_273 M a1 a3 a4 c = M c := by
  unfold g_X9_bring_284_273
  repeat' split
  all_goals simp only [z_row_ne h273, fr_s_X9_bring_284_273_3 (c := c) (h273 := h273)]
def q_X9_bring_284_273 (M : Nat → Nat → Int32) (a1 : Int32) (a3 : Int32) (a4 : Int32) : Prop := (∀ k108, k108 < (a4).toNatClampNeg → qi_X9_bring_284_273_3 ((s_X9_bring_284_273_3 M a1 a3 a4 k108)) a1 a3 a4 (nI k108)) ∧ True
set_option maxRecDepth 20000 in
theorem c_X9_bring_284_273 {d : Nat} {L : Nat → Nat → Int64} (M : Nat → Nat → Int32) (a1 : Int32) (a3 : Int32) (a4 : Int32) (hpre : q_X9_bring_284_273 M a1 a3 a4) : z_C (d + 1) 111 [.ref 284, .int a1, .ref 273, .int a3, .int a4] (z_SH, M, L) none (z_SH, g_X9_bring_284_273 M a1 a3 a4, L) := by
  unfold q_X9_bring_284_273 at hpre
  obtain ⟨p1, -⟩ := hpre
  refine z_mkA (tb := tb_X9_bring) rfl (by decide) rfl rfl rfl ?_
  refine g_k 2 (pc' := 3) (LI' := [some (.ref 284), some (.int a1), some (.ref 273), some (.int a3), some (.int a4), some (.int 0)]) (LL' := []) (st' := []) (S' := (z_SH, M, L)) (fun nq hq => And.intro rfl (And.intro rfl hq)) ?_
  refine l_X9_bring_284_273_3 (d := d) M a1 a3 a4 ((a4).toNatClampNeg) (fun k hk => z_lpc hk) p1 ?_ 
  have hx1 : a4 ≤ nI ((a4).toNatClampNeg) := z_lpe
  generalize hg1 : nI ((a4).toNatClampNeg) = r1 at *
  generalize hg2 : (s_X9_bring_284_273_3 M a1 a3 a4 ((a4).toNatClampNeg)) = m2 at *
  refine g_k 3 (pc' := (if z_cmp .ge r1 a4 = true then 28 else 10)) (LI' := [some (.ref 284), some (.int a1), some (.ref 273), some (.int a3), some (.int a4), some (.int r1)]) (LL' := []) (st' := []) (S' := (z_SH, m2, L)) (fun nq hq => And.intro rfl (And.intro rfl (And.intro rfl hq))) ?_
  refine g_ge (fun hc1 => ?_) (fun hc1 => absurd (hx1) hc1)
  exact ⟨1, And.intro rfl (⟨rfl, (by subst hg2; subst hg1; rfl)⟩)⟩
def f_X9_house_268 (M : Nat → Nat → Int32)  : Int32 := if (g_X9_readHouse_268 M) 268 21 = (0 : Int32) then (g_X9_bring_284_273 (g_X9_bring_283_272 (g_X9_bring_282_271 (g_X9_bring_281_270 (z_row (z_row (z_row (z_row (g_X9_readHouse_268 M) 268 (upd ((g_X9_readHouse_268 M) 268) 1 ((0 : Int32)))) 268 (upd (upd ((g_X9_readHouse_268 M) 268) 1 ((0 : Int32))) 2 ((-1 : Int32)))) 268 (upd (upd (upd ((g_X9_readHouse_268 M) 268) 1 ((0 : Int32))) 2 ((-1 : Int32))) 3 ((g_X9_readHouse_268 M) 268 23))) 268 (upd (upd (upd (upd ((g_X9_readHouse_268 M) 268) 1 ((0 : Int32))) 2 ((-1 : Int32))) 3 ((g_X9_readHouse_268 M) 268 23)) 4 ((g_X9_readHouse_268 M) 268 24))) ((0 : Int32)) ((0 : Int32)) ((6 : Int32))) ((0 : Int32)) ((0 : Int32)) ((6 : Int32))) ((0 : Int32)) ((0 : Int32)) ((6 : Int32))) ((0 : Int32)) ((0 : Int32)) ((83 : Int32))) 268 4 else ((-10 : Int32)) - ((g_X9_readHouse_268 M) 268 21)
def g_X9_house_268 (M : Nat → Nat → Int32)  : Nat → Nat → Int32 := if (g_X9_readHouse_268 M) 268 21 = (0 : Int32) then z_row (z_row (z_row (z_row (z_row (g_X9_bring_284_273 (g_X9_bring_283_272 (g_X9_bring_282_271 (g_X9_bring_281_270 (z_row (z_row (z_row (z_row (g_X9_readHouse_268 M) 268 (upd ((g_X9_readHouse_268 M) 268) 1 ((0 : Int32)))) 268 (upd (upd ((g_X9_readHouse_268 M) 268) 1 ((0 : Int32))) 2 ((-1 : Int32)))) 268 (upd (upd (upd ((g_X9_readHouse_268 M) 268) 1 ((0 : Int32))) 2 ((-1 : Int32))) 3 ((g_X9_readHouse_268 M) 268 23))) 268 (upd (upd (upd (upd ((g_X9_readHouse_268 M) 268) 1 ((0 : Int32))) 2 ((-1 : Int32))) 3 ((g_X9_readHouse_268 M) 268 23)) 4 ((g_X9_readHouse_268 M) 268 24))) ((0 : Int32)) ((0 : Int32)) ((6 : Int32))) ((0 : Int32)) ((0 : Int32)) ((6 : Int32))) ((0 : Int32)) ((0 : Int32)) ((6 : Int32))) ((0 : Int32)) ((0 : Int32)) ((83 : Int32))) 268 (upd ((g_X9_bring_284_273 (g_X9_bring_283_272 (g_X9_bring_282_271 (g_X9_bring_281_270 (z_row (z_row (z_row (z_row (g_X9_readHouse_268 M) 268 (upd ((g_X9_readHouse_268 M) 268) 1 ((0 : Int32)))) 268 (upd (upd ((g_X9_readHouse_268 M) 268) 1 ((0 : Int32))) 2 ((-1 : Int32)))) 268 (upd (upd (upd ((g_X9_readHouse_268 M) 268) 1 ((0 : Int32))) 2 ((-1 : Int32))) 3 ((g_X9_readHouse_268 M) 268 23))) 268 (upd (upd (upd (upd ((g_X9_readHouse_268 M) 268) 1 ((0 : Int32))) 2 ((-1 : Int32))) 3 ((g_X9_readHouse_268 M) 268 23)) 4 ((g_X9_readHouse_268 M) 268 24))) ((0 : Int32)) ((0 : Int32)) ((6 : Int32))) ((0 : Int32)) ((0 : Int32)) ((6 : Int32))) ((0 : Int32)) ((0 : Int32)) ((6 : Int32))) ((0 : Int32)) ((0 : Int32)) ((83 : Int32))) 268) 11 ((0 : Int32)))) 268 (upd (upd ((g_X9_bring_284_273 (g_X9_bring_283_272 (g_X9_bring_282_271 (g_X9_bring_281_270 (z_row (z_row (z_row (z_row (g_X9_readHouse_268 M) 268 (upd ((g_X9_readHouse_268 M) 268) 1 ((0 : Int32)))) 268 (upd (upd ((g_X9_readHouse_268 M) 268) 1 ((0 : Int32))) 2 ((-1 : Int32)))) 268 (upd (upd (upd ((g_X9_readHouse_268 M) 268) 1 ((0 : Int32))) 2 ((-1 : Int32))) 3 ((g_X9_readHouse_268 M) 268 23))) 268 (upd (upd (upd (upd ((g_X9_readHouse_268 M) 268) 1 ((0 : Int32))) 2 ((-1 : Int32))) 3 ((g_X9_readHouse_268 M) 268 23)) 4 ((g_X9_readHouse_268 M) 268 24))) ((0 : Int32)) ((0 : Int32)) ((6 : Int32))) ((0 : Int32)) ((0 : Int32)) ((6 : Int32))) ((0 : Int32)) ((0 : Int32)) ((6 : Int32))) ((0 : Int32)) ((0 : Int32)) ((83 : Int32))) 268) 11 ((0 : Int32))) 17 ((0 : Int32)))) 268 (upd (upd (upd ((g_X9_bring_284_273 (g_X9_bring_283_272 (g_X9_bring_282_271 (g_X9_bring_281_270 (z_row (z_row (z_row (z_row (g_X9_readHouse_268 M) 268 (upd ((g_X9_readHouse_268 M) 268) 1 ((0 : Int32)))) 268 (upd (upd ((g_X9_readHouse_268 M) 268) 1 ((0 : Int32))) 2 ((-1 : Int32)))) 268 (upd (upd (upd ((g_X9_readHouse_268 M) 268) 1 ((0 : Int32))) 2 ((-1 : Int32))) 3 ((g_X9_readHouse_268 M) 268 23))) 268 (upd (upd (upd (upd ((g_X9_readHouse_268 M) 268) 1 ((0 : Int32))) 2 ((-1 : Int32))) 3 ((g_X9_readHouse_268 M) 268 23)) 4 ((g_X9_readHouse_268 M) 268 24))) ((0 : Int32)) ((0 : Int32)) ((6 : Int32))) ((0 : Int32)) ((0 : Int32)) ((6 : Int32))) ((0 : Int32)) ((0 : Int32)) ((6 : Int32))) ((0 : Int32)) ((0 : Int32)) ((83 : Int32))) 268) 11 ((0 : Int32))) 17 ((0 : Int32))) 19 ((0 : Int32)))) 278 (upd ((g_X9_bring_284_273 (g_X9_bring_283_272 (g_X9_bring_282_271 (g_X9_bring_281_270 (z_row (z_row (z_row (z_row (g_X9_readHouse_268 M) 268 (upd ((g_X9_readHouse_268 M) 268) 1 ((0 : Int32)))) 268 (upd (upd ((g_X9_readHouse_268 M) 268) 1 ((0 : Int32))) 2 ((-1 : Int32)))) 268 (upd (upd (upd ((g_X9_readHouse_268 M) 268) 1 ((0 : Int32))) 2 ((-1 : Int32))) 3 ((g_X9_readHouse_268 M) 268 23))) 268 (upd (upd (upd (upd ((g_X9_readHouse_268 M) 268) 1 ((0 : Int32))) 2 ((-1 : Int32))) 3 ((g_X9_readHouse_268 M) 268 23)) 4 ((g_X9_readHouse_268 M) 268 24))) ((0 : Int32)) ((0 : Int32)) ((6 : Int32))) ((0 : Int32)) ((0 : Int32)) ((6 : Int32))) ((0 : Int32)) ((0 : Int32)) ((6 : Int32))) ((0 : Int32)) ((0 : Int32)) ((83 : Int32))) 278) 0 ((0 : Int32)))) 278 (upd (upd ((g_X9_bring_284_273 (g_X9_bring_283_272 (g_X9_bring_282_271 (g_X9_bring_281_270 (z_row (z_row (z_row (z_row (g_X9_readHouse_268 M) 268 (upd ((g_X9_readHouse_268 M) 268) 1 ((0 : Int32)))) 268 (upd (upd ((g_X9_readHouse_268 M) 268) 1 ((0 : Int32))) 2 ((-1 : Int32)))) 268 (upd (upd (upd ((g_X9_readHouse_268 M) 268) 1 ((0 : Int32))) 2 ((-1 : Int32))) 3 ((g_X9_readHouse_268 M) 268 23))) 268 (upd (upd (upd (upd ((g_X9_readHouse_268 M) 268) 1 ((0 : Int32))) 2 ((-1 : Int32))) 3 ((g_X9_readHouse_268 M) 268 23)) 4 ((g_X9_readHouse_268 M) 268 24))) ((0 : Int32)) ((0 : Int32)) ((6 : Int32))) ((0 : Int32)) ((0 : Int32)) ((6 : Int32))) ((0 : Int32)) ((0 : Int32)) ((6 : Int32))) ((0 : Int32)) ((0 : Int32)) ((83 : Int32))) 278) 0 ((0 : Int32))) 1 ((0 : Int32))) else z_row (z_row (g_X9_readHouse_268 M) 268 (upd ((g_X9_readHouse_268 M) 268) 1 ((0 : Int32)))) 268 (upd (upd ((g_X9_readHouse_268 M) 268) 1 ((0 : Int32))) 2 ((g_X9_readHouse_268 M) 268 22))
theorem fr_g_X9_house_268 (M : Nat → Nat → Int32)  (c : Nat) (h268 : c ≠ 268) (h270 : c ≠ 270) (h271 : c ≠ 271) (h272 : c ≠ 272) (h273 : c ≠ 273) (h278 : c ≠ 278) (h281 : c ≠ 281) (h282 : c ≠ 282) (h283 : c ≠ 283) (h284 : c ≠ 284) : g_X9_house_268 M c = M c := by
  unfold g_X9_house_268
  repeat' split
  all_goals simp only [z_row_ne h268, z_row_ne h270, z_row_ne h271, z_row_ne h272, z_row_ne h273, z_row_ne h278, z_row_ne h281, z_row_ne h282, z_row_ne h283, z_row_ne h284, fr_g_X9_bring_281_270 (c := c) (h270 := h270), fr_g_X9_bring_282_271 (c := c) (h271 := h271), fr_g_X9_bring_283_272 (c := c) (h272 := h272), fr_g_X9_bring_284_273 (c := c) (h273 := h273), fr_g_X9_readHouse_268 (c := c) (h268 := h268) (h281 := h281) (h282 := h282) (h283 := h283) (h284 := h284)]
def q_X9_house_268 (M : Nat → Nat → Int32)  : Prop := (q_X9_readHouse_268 M) ∧ (q_X9_bring_281_270 (z_row (z_row (z_row (z_row (g_X9_readHouse_268 M) 268 (upd ((g_X9_readHouse_268 M) 268) 1 ((0 : Int32)))) 268 (upd (upd ((g_X9_readHouse_268 M) 268) 1 ((0 : Int32))) 2 ((-1 : Int32)))) 268 (upd (upd (upd ((g_X9_readHouse_268 M) 268) 1 ((0 : Int32))) 2 ((-1 : Int32))) 3 ((g_X9_readHouse_268 M) 268 23))) 268 (upd (upd (upd (upd ((g_X9_readHouse_268 M) 268) 1 ((0 : Int32))) 2 ((-1 : Int32))) 3 ((g_X9_readHouse_268 M) 268 23)) 4 ((g_X9_readHouse_268 M) 268 24))) ((0 : Int32)) ((0 : Int32)) ((6 : Int32))) ∧ (q_X9_bring_282_271 (g_X9_bring_281_270 (z_row (z_row (z_row (z_row (g_X9_readHouse_268 M) 268 (upd ((g_X9_readHouse_268 M) 268) 1 ((0 : Int32)))) 268 (upd (upd ((g_X9_readHouse_268 M) 268) 1 ((0 : Int32))) 2 ((-1 : Int32)))) 268 (upd (upd (upd ((g_X9_readHouse_268 M) 268) 1 ((0 : Int32))) 2 ((-1 : Int32))) 3 ((g_X9_readHouse_268 M) 268 23))) 268 (upd (upd (upd (upd ((g_X9_readHouse_268 M) 268) 1 ((0 : Int32))) 2 ((-1 : Int32))) 3 ((g_X9_readHouse_268 M) 268 23)) 4 ((g_X9_readHouse_268 M) 268 24))) ((0 : Int32)) ((0 : Int32)) ((6 : Int32))) ((0 : Int32)) ((0 : Int32)) ((6 : Int32))) ∧ (q_X9_bring_283_272 (g_X9_bring_282_271 (g_X9_bring_281_270 (z_row (z_row (z_row (z_row (g_X9_readHouse_268 M) 268 (upd ((g_X9_readHouse_268 M) 268) 1 ((0 : Int32)))) 268 (upd (upd ((g_X9_readHouse_268 M) 268) 1 ((0 : Int32))) 2 ((-1 : Int32)))) 268 (upd (upd (upd ((g_X9_readHouse_268 M) 268) 1 ((0 : Int32))) 2 ((-1 : Int32))) 3 ((g_X9_readHouse_268 M) 268 23))) 268 (upd (upd (upd (upd ((g_X9_readHouse_268 M) 268) 1 ((0 : Int32))) 2 ((-1 : Int32))) 3 ((g_X9_readHouse_268 M) 268 23)) 4 ((g_X9_readHouse_268 M) 268 24))) ((0 : Int32)) ((0 : Int32)) ((6 : Int32))) ((0 : Int32)) ((0 : Int32)) ((6 : Int32))) ((0 : Int32)) ((0 : Int32)) ((6 : Int32))) ∧ (q_X9_bring_284_273 (g_X9_bring_283_272 (g_X9_bring_282_271 (g_X9_bring_281_270 (z_row (z_row (z_row (z_row (g_X9_readHouse_268 M) 268 (upd ((g_X9_readHouse_268 M) 268) 1 ((0 : Int32)))) 268 (upd (upd ((g_X9_readHouse_268 M) 268) 1 ((0 : Int32))) 2 ((-1 : Int32)))) 268 (upd (upd (upd ((g_X9_readHouse_268 M) 268) 1 ((0 : Int32))) 2 ((-1 : Int32))) 3 ((g_X9_readHouse_268 M) 268 23))) 268 (upd (upd (upd (upd ((g_X9_readHouse_268 M) 268) 1 ((0 : Int32))) 2 ((-1 : Int32))) 3 ((g_X9_readHouse_268 M) 268 23)) 4 ((g_X9_readHouse_268 M) 268 24))) ((0 : Int32)) ((0 : Int32)) ((6 : Int32))) ((0 : Int32)) ((0 : Int32)) ((6 : Int32))) ((0 : Int32)) ((0 : Int32)) ((6 : Int32))) ((0 : Int32)) ((0 : Int32)) ((83 : Int32))) ∧ True
set_option maxRecDepth 20000 in
theorem c_X9_house_268 {d : Nat} {L : Nat → Nat → Int64} (M : Nat → Nat → Int32)  (hpre : q_X9_house_268 M) : z_C (d + 7) 125 [.ref 268] (z_SH, M, L) (some (.int (f_X9_house_268 M))) (z_SH, g_X9_house_268 M, L) := by
  unfold q_X9_house_268 at hpre
  obtain ⟨p1, p2, p3, p4, p5, -⟩ := hpre
  refine z_mkA (tb := tb_X9_house) rfl (by decide) rfl rfl rfl ?_
  refine g_k 1 (pc' := 1) (LI' := [some (.ref 268)]) (LL' := []) (st' := [.ref 268]) (S' := (z_SH, M, L)) (fun nq hq => And.intro rfl hq) ?_
  refine g_k 1 (pc' := 4) (LI' := [some (.ref 268)]) (LL' := []) (st' := []) (S' := (z_SH, g_X9_readHouse_268 M, L)) (fun nq hq => And.intro rfl (Exists.intro _ (Exists.intro _ (And.intro (c_X9_readHouse_268 (d := d) M  p1) (And.intro (z_fit_same _ _ _ _ _ _ _ _) hq))))) ?_
  generalize hg1 : g_X9_readHouse_268 M = m1 at *
  refine g_k 6 (pc' := (if z_cmp .eq (m1 268 21) ((0 : Int32)) = true then 32 else 16)) (LI' := [some (.ref 268)]) (LL' := []) (st' := []) (S' := (z_SH, z_row m1 268 (upd (m1 268) 1 ((0 : Int32))), L)) (fun nq hq => And.intro rfl (And.intro rfl (And.intro rfl (And.intro rfl (And.intro rfl (And.intro rfl hq)))))) ?_
  refine g_eq (fun hc1 => ?_) (fun hc1 => ?_)
  · refine g_k 9 (pc' := 47) (LI' := [some (.ref 268)]) (LL' := []) (st' := [.ref 268, .ref 268]) (S' := (z_SH, z_row (z_row (z_row m1 268 (upd (m1 268) 1 ((0 : Int32)))) 268 (upd (upd (m1 268) 1 ((0 : Int32))) 2 ((-1 : Int32)))) 268 (upd (upd (upd (m1 268) 1 ((0 : Int32))) 2 ((-1 : Int32))) 3 (m1 268 23)), L)) (fun nq hq => And.intro rfl (And.intro rfl (And.intro rfl (And.intro rfl (And.intro rfl (And.intro rfl (And.intro rfl (And.intro rfl (And.intro rfl hq))))))))) ?_
    refine g_k 9 (pc' := 65) (LI' := [some (.ref 268)]) (LL' := []) (st' := [.int 6, .int 0, .ref 270, .int 0, .ref 281]) (S' := (z_SH, z_row (z_row (z_row (z_row m1 268 (upd (m1 268) 1 ((0 : Int32)))) 268 (upd (upd (m1 268) 1 ((0 : Int32))) 2 ((-1 : Int32)))) 268 (upd (upd (upd (m1 268) 1 ((0 : Int32))) 2 ((-1 : Int32))) 3 (m1 268 23))) 268 (upd (upd (upd (upd (m1 268) 1 ((0 : Int32))) 2 ((-1 : Int32))) 3 (m1 268 23)) 4 (m1 268 24)), L)) (fun nq hq => And.intro rfl (And.intro rfl (And.intro rfl (And.intro rfl (And.intro rfl (And.intro rfl (And.intro rfl (And.intro rfl (And.intro rfl hq))))))))) ?_
    refine g_k 1 (pc' := 68) (LI' := [some (.ref 268)]) (LL' := []) (st' := []) (S' := (z_SH, g_X9_bring_281_270 (z_row (z_row (z_row (z_row m1 268 (upd (m1 268) 1 ((0 : Int32)))) 268 (upd (upd (m1 268) 1 ((0 : Int32))) 2 ((-1 : Int32)))) 268 (upd (upd (upd (m1 268) 1 ((0 : Int32))) 2 ((-1 : Int32))) 3 (m1 268 23))) 268 (upd (upd (upd (upd (m1 268) 1 ((0 : Int32))) 2 ((-1 : Int32))) 3 (m1 268 23)) 4 (m1 268 24))) ((0 : Int32)) ((0 : Int32)) ((6 : Int32)), L)) (fun nq hq => And.intro rfl (Exists.intro _ (Exists.intro _ (And.intro (c_X9_bring_281_270 (d := d + 5) (z_row (z_row (z_row (z_row m1 268 (upd (m1 268) 1 ((0 : Int32)))) 268 (upd (upd (m1 268) 1 ((0 : Int32))) 2 ((-1 : Int32)))) 268 (upd (upd (upd (m1 268) 1 ((0 : Int32))) 2 ((-1 : Int32))) 3 (m1 268 23))) 268 (upd (upd (upd (upd (m1 268) 1 ((0 : Int32))) 2 ((-1 : Int32))) 3 (m1 268 23)) 4 (m1 268 24))) ((0 : Int32)) ((0 : Int32)) ((6 : Int32)) p2) (And.intro (z_fit_same _ _ _ _ _ _ _ _) hq))))) ?_
    generalize hg2 : g_X9_bring_281_270 (z_row (z_row (z_row (z_row m1 268 (upd (m1 268) 1 ((0 : Int32)))) 268 (upd (upd (m1 268) 1 ((0 : Int32))) 2 ((-1 : Int32)))) 268 (upd (upd (upd (m1 268) 1 ((0 : Int32))) 2 ((-1 : Int32))) 3 (m1 268 23))) 268 (upd (upd (upd (upd (m1 268) 1 ((0 : Int32))) 2 ((-1 : Int32))) 3 (m1 268 23)) 4 (m1 268 24))) ((0 : Int32)) ((0 : Int32)) ((6 : Int32)) = m2 at *
    refine g_k 7 (pc' := 80) (LI' := [some (.ref 268)]) (LL' := []) (st' := [.int 6, .int 0, .ref 271, .int 0, .ref 282]) (S' := (z_SH, m2, L)) (fun nq hq => And.intro rfl (And.intro rfl (And.intro rfl (And.intro rfl (And.intro rfl (And.intro rfl (And.intro rfl hq))))))) ?_
    refine g_k 1 (pc' := 83) (LI' := [some (.ref 268)]) (LL' := []) (st' := []) (S' := (z_SH, g_X9_bring_282_271 m2 ((0 : Int32)) ((0 : Int32)) ((6 : Int32)), L)) (fun nq hq => And.intro rfl (Exists.intro _ (Exists.intro _ (And.intro (c_X9_bring_282_271 (d := d + 5) m2 ((0 : Int32)) ((0 : Int32)) ((6 : Int32)) p3) (And.intro (z_fit_same _ _ _ _ _ _ _ _) hq))))) ?_
    generalize hg3 : g_X9_bring_282_271 m2 ((0 : Int32)) ((0 : Int32)) ((6 : Int32)) = m3 at *
    refine g_k 7 (pc' := 95) (LI' := [some (.ref 268)]) (LL' := []) (st' := [.int 6, .int 0, .ref 272, .int 0, .ref 283]) (S' := (z_SH, m3, L)) (fun nq hq => And.intro rfl (And.intro rfl (And.intro rfl (And.intro rfl (And.intro rfl (And.intro rfl (And.intro rfl hq))))))) ?_
    refine g_k 1 (pc' := 98) (LI' := [some (.ref 268)]) (LL' := []) (st' := []) (S' := (z_SH, g_X9_bring_283_272 m3 ((0 : Int32)) ((0 : Int32)) ((6 : Int32)), L)) (fun nq hq => And.intro rfl (Exists.intro _ (Exists.intro _ (And.intro (c_X9_bring_283_272 (d := d + 5) m3 ((0 : Int32)) ((0 : Int32)) ((6 : Int32)) p4) (And.intro (z_fit_same _ _ _ _ _ _ _ _) hq))))) ?_
    generalize hg4 : g_X9_bring_283_272 m3 ((0 : Int32)) ((0 : Int32)) ((6 : Int32)) = m4 at *
    refine g_k 7 (pc' := 110) (LI' := [some (.ref 268)]) (LL' := []) (st' := [.int 83, .int 0, .ref 273, .int 0, .ref 284]) (S' := (z_SH, m4, L)) (fun nq hq => And.intro rfl (And.intro rfl (And.intro rfl (And.intro rfl (And.intro rfl (And.intro rfl (And.intro rfl hq))))))) ?_
    refine g_k 1 (pc' := 113) (LI' := [some (.ref 268)]) (LL' := []) (st' := []) (S' := (z_SH, g_X9_bring_284_273 m4 ((0 : Int32)) ((0 : Int32)) ((83 : Int32)), L)) (fun nq hq => And.intro rfl (Exists.intro _ (Exists.intro _ (And.intro (c_X9_bring_284_273 (d := d + 5) m4 ((0 : Int32)) ((0 : Int32)) ((83 : Int32)) p5) (And.intro (z_fit_same _ _ _ _ _ _ _ _) hq))))) ?_
    generalize hg5 : g_X9_bring_284_273 m4 ((0 : Int32)) ((0 : Int32)) ((83 : Int32)) = m5 at *
    refine g_k 9 (pc' := 128) (LI' := [some (.ref 268)]) (LL' := []) (st' := []) (S' := (z_SH, z_row (z_row (z_row m5 268 (upd (m5 268) 11 ((0 : Int32)))) 268 (upd (upd (m5 268) 11 ((0 : Int32))) 17 ((0 : Int32)))) 268 (upd (upd (upd (m5 268) 11 ((0 : Int32))) 17 ((0 : Int32))) 19 ((0 : Int32))), L)) (fun nq hq => And.intro rfl (And.intro rfl (And.intro rfl (And.intro rfl (And.intro rfl (And.intro rfl (And.intro rfl (And.intro rfl (And.intro rfl hq))))))))) ?_
    refine g_k 9 (pc' := 141) (LI' := [some (.ref 268)]) (LL' := []) (st' := [.int 0, .int 1, .ref 278]) (S' := (z_SH, z_row (z_row (z_row (z_row m5 268 (upd (m5 268) 11 ((0 : Int32)))) 268 (upd (upd (m5 268) 11 ((0 : Int32))) 17 ((0 : Int32)))) 268 (upd (upd (upd (m5 268) 11 ((0 : Int32))) 17 ((0 : Int32))) 19 ((0 : Int32)))) 278 (upd (m5 278) 0 ((0 : Int32))), L)) (fun nq hq => And.intro rfl (And.intro rfl (And.intro rfl (And.intro rfl (And.intro rfl (And.intro rfl (And.intro rfl (And.intro rfl (And.intro rfl hq))))))))) ?_
    refine g_k 3 (pc' := 146) (LI' := [some (.ref 268)]) (LL' := []) (st' := [.int (m5 268 4)]) (S' := (z_SH, z_row (z_row (z_row (z_row (z_row m5 268 (upd (m5 268) 11 ((0 : Int32)))) 268 (upd (upd (m5 268) 11 ((0 : Int32))) 17 ((0 : Int32)))) 268 (upd (upd (upd (m5 268) 11 ((0 : Int32))) 17 ((0 : Int32))) 19 ((0 : Int32)))) 278 (upd (m5 278) 0 ((0 : Int32)))) 278 (upd (upd (m5 278) 0 ((0 : Int32))) 1 ((0 : Int32))), L)) (fun nq hq => And.intro rfl (And.intro rfl (And.intro rfl hq))) ?_
    exact ⟨1, And.intro rfl (⟨(by subst hg5; subst hg4; subst hg3; subst hg2; subst hg1; unfold f_X9_house_268; (first | rw [if_pos hc1] | skip); try rfl), (by subst hg5; subst hg4; subst hg3; subst hg2; subst hg1; unfold g_X9_house_268; (first | rw [if_pos hc1] | skip); try rfl)⟩)⟩
  · refine g_k 8 (pc' := 31) (LI' := [some (.ref 268)]) (LL' := []) (st' := [.int (((-10 : Int32)) - (m1 268 21))]) (S' := (z_SH, z_row (z_row m1 268 (upd (m1 268) 1 ((0 : Int32)))) 268 (upd (upd (m1 268) 1 ((0 : Int32))) 2 (m1 268 22)), L)) (fun nq hq => And.intro rfl (And.intro rfl (And.intro rfl (And.intro rfl (And.intro rfl (And.intro rfl (And.intro rfl (And.intro rfl hq)))))))) ?_
    exact ⟨1, And.intro rfl (⟨(by subst hg1; unfold f_X9_house_268; (first | rw [if_neg hc1] | skip); try rfl), (by subst hg1; unfold g_X9_house_268; (first | rw [if_neg hc1] | skip); try rfl)⟩)⟩
