def g_X0_copyFrom_250_20 (M : Nat → Nat → Int32) : Nat → Nat → Int32 := cpB 250 20 M
theorem c_X0_copyFrom_250_20 {d : Nat} {L : Nat → Nat → Int64} (M : Nat → Nat → Int32) : z_C (d + 2) 2 [.ref 250, .ref 20] (z_SH, M, L) none (z_SH, g_X0_copyFrom_250_20 M, L) := c_cpB_250_20 M
def g_X0_copyFrom_258_20 (M : Nat → Nat → Int32) : Nat → Nat → Int32 := cpB 258 20 M
theorem c_X0_copyFrom_258_20 {d : Nat} {L : Nat → Nat → Int64} (M : Nat → Nat → Int32) : z_C (d + 2) 2 [.ref 258, .ref 20] (z_SH, M, L) none (z_SH, g_X0_copyFrom_258_20 M, L) := c_cpB_258_20 M
def g_X0_copyFrom_20_250 (M : Nat → Nat → Int32) : Nat → Nat → Int32 := cpB 20 250 M
theorem c_X0_copyFrom_20_250 {d : Nat} {L : Nat → Nat → Int64} (M : Nat → Nat → Int32) : z_C (d + 2) 2 [.ref 20, .ref 250] (z_SH, M, L) none (z_SH, g_X0_copyFrom_20_250 M, L) := c_cpB_20_250 M
def g_X0_copyFrom_20_258 (M : Nat → Nat → Int32) : Nat → Nat → Int32 := cpB 20 258 M
theorem c_X0_copyFrom_20_258 {d : Nat} {L : Nat → Nat → Int64} (M : Nat → Nat → Int32) : z_C (d + 2) 2 [.ref 20, .ref 258] (z_SH, M, L) none (z_SH, g_X0_copyFrom_20_258 M, L) := c_cpB_20_258 M
def f_X8_keep_w0 (M : Nat → Nat → Int32)  : Int32 := if (f_X8_isOutside M ((0 : Int32)) ((2 : Int32))) = (0 : Int32) then (1 : Int32) else (-1000000001 : Int32)
def g_X8_keep_w0 (M : Nat → Nat → Int32)  : Nat → Nat → Int32 := if (f_X8_isOutside M ((0 : Int32)) ((2 : Int32))) = (0 : Int32) then (g_X4_clear_49 (z_row (z_row (g_X0_copyFrom_250_20 M) 266 (upd ((g_X0_copyFrom_250_20 M) 266) 0 ((g_X0_copyFrom_250_20 M) 0 3))) 267 (upd ((g_X0_copyFrom_250_20 M) 267) 0 ((1 : Int32))))) else M
theorem c_X8_keep_w0 {d : Nat} {L : Nat → Nat → Int64} (M : Nat → Nat → Int32)   : z_C (d + 3) 101 [.ref 0, .int 0] (z_SH, M, L) (some (.int (f_X8_keep_w0 M))) (z_SH, g_X8_keep_w0 M, L) := by
  refine z_mkA (tb := tb_X8_keep) rfl (by decide) rfl rfl rfl ?_
  refine g_k 2 (pc' := 2) (LI' := [some (.ref 0), some (.int 0)]) (LL' := []) (st' := [.int 2, .int 0]) (S' := (z_SH, M, L)) (fun nq hq => And.intro rfl (And.intro rfl hq)) ?_
  refine g_k 1 (pc' := 5) (LI' := [some (.ref 0), some (.int 0)]) (LL' := []) (st' := [.int (f_X8_isOutside M ((0 : Int32)) ((2 : Int32)))]) (S' := (z_SH, M, L)) (fun nq hq => And.intro rfl (Exists.intro _ (Exists.intro _ (And.intro (c_X8_isOutside (d := d + 1) M ((0 : Int32)) ((2 : Int32))) (And.intro (z_fit_same _ _ _ _ _ _ _ _) hq))))) ?_
  generalize hg1 : f_X8_isOutside M ((0 : Int32)) ((2 : Int32)) = r1 at *
  refine g_k 1 (pc' := (if z_cmp .eq r1 ((0 : Int32)) = true then 11 else 8)) (LI' := [some (.ref 0), some (.int 0)]) (LL' := []) (st' := []) (S' := (z_SH, M, L)) (fun nq hq => And.intro rfl hq) ?_
  refine g_eq (fun hc1 => ?_) (fun hc1 => ?_)
  · refine g_k 7 (pc' := 24) (LI' := [some (.ref 0), some (.int 0)]) (LL' := []) (st' := [.ref 20, .ref 250]) (S' := (z_SH, M, L)) (fun nq hq => And.intro rfl (And.intro rfl (And.intro rfl (And.intro rfl (And.intro rfl (And.intro rfl (And.intro rfl hq))))))) ?_
    refine g_k 1 (pc' := 27) (LI' := [some (.ref 0), some (.int 0)]) (LL' := []) (st' := []) (S' := (z_SH, g_X0_copyFrom_250_20 M, L)) (fun nq hq => And.intro rfl (Exists.intro _ (Exists.intro _ (And.intro (c_X0_copyFrom_250_20 (d := d) M) (And.intro (z_fit_same _ _ _ _ _ _ _ _) hq))))) ?_
    generalize hg2 : g_X0_copyFrom_250_20 M = m2 at *
    refine g_k 9 (pc' := 42) (LI' := [some (.ref 0), some (.int 0)]) (LL' := []) (st' := [.int 0, .ref 267]) (S' := (z_SH, z_row m2 266 (upd (m2 266) 0 (m2 0 3)), L)) (fun nq hq => And.intro rfl (And.intro rfl (And.intro rfl (And.intro rfl (And.intro rfl (And.intro rfl (And.intro rfl (And.intro rfl (And.intro rfl hq))))))))) ?_
    refine g_k 4 (pc' := 48) (LI' := [some (.ref 0), some (.int 0)]) (LL' := []) (st' := [.ref 49]) (S' := (z_SH, z_row (z_row m2 266 (upd (m2 266) 0 (m2 0 3))) 267 (upd (m2 267) 0 ((1 : Int32))), L)) (fun nq hq => And.intro rfl (And.intro rfl (And.intro rfl (And.intro rfl hq)))) ?_
    refine g_k 1 (pc' := 51) (LI' := [some (.ref 0), some (.int 0)]) (LL' := []) (st' := []) (S' := (z_SH, g_X4_clear_49 (z_row (z_row m2 266 (upd (m2 266) 0 (m2 0 3))) 267 (upd (m2 267) 0 ((1 : Int32)))), L)) (fun nq hq => And.intro rfl (Exists.intro _ (Exists.intro _ (And.intro (c_X4_clear_49 (d := d + 1) (z_row (z_row m2 266 (upd (m2 266) 0 (m2 0 3))) 267 (upd (m2 267) 0 ((1 : Int32))))) (And.intro (z_fit_same _ _ _ _ _ _ _ _) hq))))) ?_
    generalize hg3 : g_X4_clear_49 (z_row (z_row m2 266 (upd (m2 266) 0 (m2 0 3))) 267 (upd (m2 267) 0 ((1 : Int32)))) = m3 at *
    refine g_k 1 (pc' := 52) (LI' := [some (.ref 0), some (.int 0)]) (LL' := []) (st' := [.int 1]) (S' := (z_SH, m3, L)) (fun nq hq => And.intro rfl hq) ?_
    exact ⟨1, And.intro rfl (⟨(by subst hg3; subst hg2; subst hg1; unfold f_X8_keep_w0; (first | rw [if_pos hc1] | skip); try rfl), (by subst hg3; subst hg2; subst hg1; unfold g_X8_keep_w0; (first | rw [if_pos hc1] | skip); try rfl)⟩)⟩
  · refine g_k 1 (pc' := 10) (LI' := [some (.ref 0), some (.int 0)]) (LL' := []) (st' := [.int (-1000000001)]) (S' := (z_SH, M, L)) (fun nq hq => And.intro rfl hq) ?_
    exact ⟨1, And.intro rfl (⟨(by subst hg1; unfold f_X8_keep_w0; (first | rw [if_neg hc1] | skip); try rfl), (by subst hg1; unfold g_X8_keep_w0; (first | rw [if_neg hc1] | skip); try rfl)⟩)⟩
def f_X8_goBack_w0 (M : Nat → Nat → Int32)  : Int32 := if (f_X8_isOutside M ((0 : Int32)) ((2 : Int32))) = (0 : Int32) then if ¬ M 267 0 = (0 : Int32) then (1 : Int32) else (-1000000003 : Int32) else (-1000000001 : Int32)
def g_X8_goBack_w0 (M : Nat → Nat → Int32)  : Nat → Nat → Int32 := if (f_X8_isOutside M ((0 : Int32)) ((2 : Int32))) = (0 : Int32) then if ¬ M 267 0 = (0 : Int32) then (g_X4_clear_49 (z_row (g_X0_copyFrom_20_250 M) 0 (upd ((g_X0_copyFrom_20_250 M) 0) 3 ((g_X0_copyFrom_20_250 M) 266 0)))) else M else M
theorem c_X8_goBack_w0 {d : Nat} {L : Nat → Nat → Int64} (M : Nat → Nat → Int32)   : z_C (d + 3) 102 [.ref 0, .int 0] (z_SH, M, L) (some (.int (f_X8_goBack_w0 M))) (z_SH, g_X8_goBack_w0 M, L) := by
  refine z_mkA (tb := tb_X8_goBack) rfl (by decide) rfl rfl rfl ?_
  refine g_k 2 (pc' := 2) (LI' := [some (.ref 0), some (.int 0)]) (LL' := []) (st' := [.int 2, .int 0]) (S' := (z_SH, M, L)) (fun nq hq => And.intro rfl (And.intro rfl hq)) ?_
  refine g_k 1 (pc' := 5) (LI' := [some (.ref 0), some (.int 0)]) (LL' := []) (st' := [.int (f_X8_isOutside M ((0 : Int32)) ((2 : Int32)))]) (S' := (z_SH, M, L)) (fun nq hq => And.intro rfl (Exists.intro _ (Exists.intro _ (And.intro (c_X8_isOutside (d := d + 1) M ((0 : Int32)) ((2 : Int32))) (And.intro (z_fit_same _ _ _ _ _ _ _ _) hq))))) ?_
  generalize hg1 : f_X8_isOutside M ((0 : Int32)) ((2 : Int32)) = r1 at *
  refine g_k 1 (pc' := (if z_cmp .eq r1 ((0 : Int32)) = true then 11 else 8)) (LI' := [some (.ref 0), some (.int 0)]) (LL' := []) (st' := []) (S' := (z_SH, M, L)) (fun nq hq => And.intro rfl hq) ?_
  refine g_eq (fun hc1 => ?_) (fun hc1 => ?_)
  · refine g_k 5 (pc' := (if z_cmp .ne (M 267 0) ((0 : Int32)) = true then 23 else 20)) (LI' := [some (.ref 0), some (.int 0)]) (LL' := []) (st' := []) (S' := (z_SH, M, L)) (fun nq hq => And.intro rfl (And.intro rfl (And.intro rfl (And.intro rfl (And.intro rfl hq))))) ?_
    refine g_ne (fun hc2 => ?_) (fun hc2 => ?_)
    · refine g_k 7 (pc' := 36) (LI' := [some (.ref 0), some (.int 0)]) (LL' := []) (st' := [.ref 250, .ref 20]) (S' := (z_SH, M, L)) (fun nq hq => And.intro rfl (And.intro rfl (And.intro rfl (And.intro rfl (And.intro rfl (And.intro rfl (And.intro rfl hq))))))) ?_
      refine g_k 1 (pc' := 39) (LI' := [some (.ref 0), some (.int 0)]) (LL' := []) (st' := []) (S' := (z_SH, g_X0_copyFrom_20_250 M, L)) (fun nq hq => And.intro rfl (Exists.intro _ (Exists.intro _ (And.intro (c_X0_copyFrom_20_250 (d := d) M) (And.intro (z_fit_same _ _ _ _ _ _ _ _) hq))))) ?_
      generalize hg2 : g_X0_copyFrom_20_250 M = m2 at *
      refine g_k 8 (pc' := 53) (LI' := [some (.ref 0), some (.int 0)]) (LL' := []) (st' := [.ref 49]) (S' := (z_SH, z_row m2 0 (upd (m2 0) 3 (m2 266 0)), L)) (fun nq hq => And.intro rfl (And.intro rfl (And.intro rfl (And.intro rfl (And.intro rfl (And.intro rfl (And.intro rfl (And.intro rfl hq)))))))) ?_
      refine g_k 1 (pc' := 56) (LI' := [some (.ref 0), some (.int 0)]) (LL' := []) (st' := []) (S' := (z_SH, g_X4_clear_49 (z_row m2 0 (upd (m2 0) 3 (m2 266 0))), L)) (fun nq hq => And.intro rfl (Exists.intro _ (Exists.intro _ (And.intro (c_X4_clear_49 (d := d + 1) (z_row m2 0 (upd (m2 0) 3 (m2 266 0)))) (And.intro (z_fit_same _ _ _ _ _ _ _ _) hq))))) ?_
      generalize hg3 : g_X4_clear_49 (z_row m2 0 (upd (m2 0) 3 (m2 266 0))) = m3 at *
      refine g_k 1 (pc' := 57) (LI' := [some (.ref 0), some (.int 0)]) (LL' := []) (st' := [.int 1]) (S' := (z_SH, m3, L)) (fun nq hq => And.intro rfl hq) ?_
      exact ⟨1, And.intro rfl (⟨(by subst hg3; subst hg2; subst hg1; unfold f_X8_goBack_w0; (first | rw [if_pos hc1] | skip); (first | rw [if_pos hc2] | skip); try rfl), (by subst hg3; subst hg2; subst hg1; unfold g_X8_goBack_w0; (first | rw [if_pos hc1] | skip); (first | rw [if_pos hc2] | skip); try rfl)⟩)⟩
    · refine g_k 1 (pc' := 22) (LI' := [some (.ref 0), some (.int 0)]) (LL' := []) (st' := [.int (-1000000003)]) (S' := (z_SH, M, L)) (fun nq hq => And.intro rfl hq) ?_
      exact ⟨1, And.intro rfl (⟨(by subst hg1; unfold f_X8_goBack_w0; (first | rw [if_pos hc1] | skip); (first | rw [if_neg (not_not_intro hc2)] | skip); try rfl), (by subst hg1; unfold g_X8_goBack_w0; (first | rw [if_pos hc1] | skip); (first | rw [if_neg (not_not_intro hc2)] | skip); try rfl)⟩)⟩
  · refine g_k 1 (pc' := 10) (LI' := [some (.ref 0), some (.int 0)]) (LL' := []) (st' := [.int (-1000000001)]) (S' := (z_SH, M, L)) (fun nq hq => And.intro rfl hq) ?_
    exact ⟨1, And.intro rfl (⟨(by subst hg1; unfold f_X8_goBack_w0; (first | rw [if_neg hc1] | skip); try rfl), (by subst hg1; unfold g_X8_goBack_w0; (first | rw [if_neg hc1] | skip); try rfl)⟩)⟩
def f_X8_keep_w1 (M : Nat → Nat → Int32)  : Int32 := if (f_X8_isOutside M ((1 : Int32)) ((2 : Int32))) = (0 : Int32) then (1 : Int32) else (-1000000001 : Int32)
def g_X8_keep_w1 (M : Nat → Nat → Int32)  : Nat → Nat → Int32 := if (f_X8_isOutside M ((1 : Int32)) ((2 : Int32))) = (0 : Int32) then (g_X4_clear_49 (z_row (z_row (g_X0_copyFrom_258_20 M) 266 (upd ((g_X0_copyFrom_258_20 M) 266) 1 ((g_X0_copyFrom_258_20 M) 0 3))) 267 (upd ((g_X0_copyFrom_258_20 M) 267) 1 ((1 : Int32))))) else M
theorem c_X8_keep_w1 {d : Nat} {L : Nat → Nat → Int64} (M : Nat → Nat → Int32)   : z_C (d + 3) 101 [.ref 0, .int 1] (z_SH, M, L) (some (.int (f_X8_keep_w1 M))) (z_SH, g_X8_keep_w1 M, L) := by
  refine z_mkA (tb := tb_X8_keep) rfl (by decide) rfl rfl rfl ?_
  refine g_k 2 (pc' := 2) (LI' := [some (.ref 0), some (.int 1)]) (LL' := []) (st' := [.int 2, .int 1]) (S' := (z_SH, M, L)) (fun nq hq => And.intro rfl (And.intro rfl hq)) ?_
  refine g_k 1 (pc' := 5) (LI' := [some (.ref 0), some (.int 1)]) (LL' := []) (st' := [.int (f_X8_isOutside M ((1 : Int32)) ((2 : Int32)))]) (S' := (z_SH, M, L)) (fun nq hq => And.intro rfl (Exists.intro _ (Exists.intro _ (And.intro (c_X8_isOutside (d := d + 1) M ((1 : Int32)) ((2 : Int32))) (And.intro (z_fit_same _ _ _ _ _ _ _ _) hq))))) ?_
  generalize hg1 : f_X8_isOutside M ((1 : Int32)) ((2 : Int32)) = r1 at *
  refine g_k 1 (pc' := (if z_cmp .eq r1 ((0 : Int32)) = true then 11 else 8)) (LI' := [some (.ref 0), some (.int 1)]) (LL' := []) (st' := []) (S' := (z_SH, M, L)) (fun nq hq => And.intro rfl hq) ?_
  refine g_eq (fun hc1 => ?_) (fun hc1 => ?_)
  · refine g_k 7 (pc' := 24) (LI' := [some (.ref 0), some (.int 1)]) (LL' := []) (st' := [.ref 20, .ref 258]) (S' := (z_SH, M, L)) (fun nq hq => And.intro rfl (And.intro rfl (And.intro rfl (And.intro rfl (And.intro rfl (And.intro rfl (And.intro rfl hq))))))) ?_
    refine g_k 1 (pc' := 27) (LI' := [some (.ref 0), some (.int 1)]) (LL' := []) (st' := []) (S' := (z_SH, g_X0_copyFrom_258_20 M, L)) (fun nq hq => And.intro rfl (Exists.intro _ (Exists.intro _ (And.intro (c_X0_copyFrom_258_20 (d := d) M) (And.intro (z_fit_same _ _ _ _ _ _ _ _) hq))))) ?_
    generalize hg2 : g_X0_copyFrom_258_20 M = m2 at *
    refine g_k 9 (pc' := 42) (LI' := [some (.ref 0), some (.int 1)]) (LL' := []) (st' := [.int 1, .ref 267]) (S' := (z_SH, z_row m2 266 (upd (m2 266) 1 (m2 0 3)), L)) (fun nq hq => And.intro rfl (And.intro rfl (And.intro rfl (And.intro rfl (And.intro rfl (And.intro rfl (And.intro rfl (And.intro rfl (And.intro rfl hq))))))))) ?_
    refine g_k 4 (pc' := 48) (LI' := [some (.ref 0), some (.int 1)]) (LL' := []) (st' := [.ref 49]) (S' := (z_SH, z_row (z_row m2 266 (upd (m2 266) 1 (m2 0 3))) 267 (upd (m2 267) 1 ((1 : Int32))), L)) (fun nq hq => And.intro rfl (And.intro rfl (And.intro rfl (And.intro rfl hq)))) ?_
    refine g_k 1 (pc' := 51) (LI' := [some (.ref 0), some (.int 1)]) (LL' := []) (st' := []) (S' := (z_SH, g_X4_clear_49 (z_row (z_row m2 266 (upd (m2 266) 1 (m2 0 3))) 267 (upd (m2 267) 1 ((1 : Int32)))), L)) (fun nq hq => And.intro rfl (Exists.intro _ (Exists.intro _ (And.intro (c_X4_clear_49 (d := d + 1) (z_row (z_row m2 266 (upd (m2 266) 1 (m2 0 3))) 267 (upd (m2 267) 1 ((1 : Int32))))) (And.intro (z_fit_same _ _ _ _ _ _ _ _) hq))))) ?_
    generalize hg3 : g_X4_clear_49 (z_row (z_row m2 266 (upd (m2 266) 1 (m2 0 3))) 267 (upd (m2 267) 1 ((1 : Int32)))) = m3 at *
    refine g_k 1 (pc' := 52) (LI' := [some (.ref 0), some (.int 1)]) (LL' := []) (st' := [.int 1]) (S' := (z_SH, m3, L)) (fun nq hq => And.intro rfl hq) ?_
    exact ⟨1, And.intro rfl (⟨(by subst hg3; subst hg2; subst hg1; unfold f_X8_keep_w1; (first | rw [if_pos hc1] | skip); try rfl), (by subst hg3; subst hg2; subst hg1; unfold g_X8_keep_w1; (first | rw [if_pos hc1] | skip); try rfl)⟩)⟩
  · refine g_k 1 (pc' := 10) (LI' := [some (.ref 0), some (.int 1)]) (LL' := []) (st' := [.int (-1000000001)]) (S' := (z_SH, M, L)) (fun nq hq => And.intro rfl hq) ?_
    exact ⟨1, And.intro rfl (⟨(by subst hg1; unfold f_X8_keep_w1; (first | rw [if_neg hc1] | skip); try rfl), (by subst hg1; unfold g_X8_keep_w1; (first | rw [if_neg hc1] | skip); try rfl)⟩)⟩
def f_X8_goBack_w1 (M : Nat → Nat → Int32)  : Int32 := if (f_X8_isOutside M ((1 : Int32)) ((2 : Int32))) = (0 : Int32) then if ¬ M 267 1 = (0 : Int32) then (1 : Int32) else (-1000000003 : Int32) else (-1000000001 : Int32)
def g_X8_goBack_w1 (M : Nat → Nat → Int32)  : Nat → Nat → Int32 := if (f_X8_isOutside M ((1 : Int32)) ((2 : Int32))) = (0 : Int32) then if ¬ M 267 1 = (0 : Int32) then (g_X4_clear_49 (z_row (g_X0_copyFrom_20_258 M) 0 (upd ((g_X0_copyFrom_20_258 M) 0) 3 ((g_X0_copyFrom_20_258 M) 266 1)))) else M else M
theorem c_X8_goBack_w1 {d : Nat} {L : Nat → Nat → Int64} (M : Nat → Nat → Int32)   : z_C (d + 3) 102 [.ref 0, .int 1] (z_SH, M, L) (some (.int (f_X8_goBack_w1 M))) (z_SH, g_X8_goBack_w1 M, L) := by
  refine z_mkA (tb := tb_X8_goBack) rfl (by decide) rfl rfl rfl ?_
  refine g_k 2 (pc' := 2) (LI' := [some (.ref 0), some (.int 1)]) (LL' := []) (st' := [.int 2, .int 1]) (S' := (z_SH, M, L)) (fun nq hq => And.intro rfl (And.intro rfl hq)) ?_
  refine g_k 1 (pc' := 5) (LI' := [some (.ref 0), some (.int 1)]) (LL' := []) (st' := [.int (f_X8_isOutside M ((1 : Int32)) ((2 : Int32)))]) (S' := (z_SH, M, L)) (fun nq hq => And.intro rfl (Exists.intro _ (Exists.intro _ (And.intro (c_X8_isOutside (d := d + 1) M ((1 : Int32)) ((2 : Int32))) (And.intro (z_fit_same _ _ _ _ _ _ _ _) hq))))) ?_
  generalize hg1 : f_X8_isOutside M ((1 : Int32)) ((2 : Int32)) = r1 at *
  refine g_k 1 (pc' := (if z_cmp .eq r1 ((0 : Int32)) = true then 11 else 8)) (LI' := [some (.ref 0), some (.int 1)]) (LL' := []) (st' := []) (S' := (z_SH, M, L)) (fun nq hq => And.intro rfl hq) ?_
  refine g_eq (fun hc1 => ?_) (fun hc1 => ?_)
  · refine g_k 5 (pc' := (if z_cmp .ne (M 267 1) ((0 : Int32)) = true then 23 else 20)) (LI' := [some (.ref 0), some (.int 1)]) (LL' := []) (st' := []) (S' := (z_SH, M, L)) (fun nq hq => And.intro rfl (And.intro rfl (And.intro rfl (And.intro rfl (And.intro rfl hq))))) ?_
    refine g_ne (fun hc2 => ?_) (fun hc2 => ?_)
    · refine g_k 7 (pc' := 36) (LI' := [some (.ref 0), some (.int 1)]) (LL' := []) (st' := [.ref 258, .ref 20]) (S' := (z_SH, M, L)) (fun nq hq => And.intro rfl (And.intro rfl (And.intro rfl (And.intro rfl (And.intro rfl (And.intro rfl (And.intro rfl hq))))))) ?_
      refine g_k 1 (pc' := 39) (LI' := [some (.ref 0), some (.int 1)]) (LL' := []) (st' := []) (S' := (z_SH, g_X0_copyFrom_20_258 M, L)) (fun nq hq => And.intro rfl (Exists.intro _ (Exists.intro _ (And.intro (c_X0_copyFrom_20_258 (d := d) M) (And.intro (z_fit_same _ _ _ _ _ _ _ _) hq))))) ?_
      generalize hg2 : g_X0_copyFrom_20_258 M = m2 at *
      refine g_k 8 (pc' := 53) (LI' := [some (.ref 0), some (.int 1)]) (LL' := []) (st' := [.ref 49]) (S' := (z_SH, z_row m2 0 (upd (m2 0) 3 (m2 266 1)), L)) (fun nq hq => And.intro rfl (And.intro rfl (And.intro rfl (And.intro rfl (And.intro rfl (And.intro rfl (And.intro rfl (And.intro rfl hq)))))))) ?_
      refine g_k 1 (pc' := 56) (LI' := [some (.ref 0), some (.int 1)]) (LL' := []) (st' := []) (S' := (z_SH, g_X4_clear_49 (z_row m2 0 (upd (m2 0) 3 (m2 266 1))), L)) (fun nq hq => And.intro rfl (Exists.intro _ (Exists.intro _ (And.intro (c_X4_clear_49 (d := d + 1) (z_row m2 0 (upd (m2 0) 3 (m2 266 1)))) (And.intro (z_fit_same _ _ _ _ _ _ _ _) hq))))) ?_
      generalize hg3 : g_X4_clear_49 (z_row m2 0 (upd (m2 0) 3 (m2 266 1))) = m3 at *
      refine g_k 1 (pc' := 57) (LI' := [some (.ref 0), some (.int 1)]) (LL' := []) (st' := [.int 1]) (S' := (z_SH, m3, L)) (fun nq hq => And.intro rfl hq) ?_
      exact ⟨1, And.intro rfl (⟨(by subst hg3; subst hg2; subst hg1; unfold f_X8_goBack_w1; (first | rw [if_pos hc1] | skip); (first | rw [if_pos hc2] | skip); try rfl), (by subst hg3; subst hg2; subst hg1; unfold g_X8_goBack_w1; (first | rw [if_pos hc1] | skip); (first | rw [if_pos hc2] | skip); try rfl)⟩)⟩
    · refine g_k 1 (pc' := 22) (LI' := [some (.ref 0), some (.int 1)]) (LL' := []) (st' := [.int (-1000000003)]) (S' := (z_SH, M, L)) (fun nq hq => And.intro rfl hq) ?_
      exact ⟨1, And.intro rfl (⟨(by subst hg1; unfold f_X8_goBack_w1; (first | rw [if_pos hc1] | skip); (first | rw [if_neg (not_not_intro hc2)] | skip); try rfl), (by subst hg1; unfold g_X8_goBack_w1; (first | rw [if_pos hc1] | skip); (first | rw [if_neg (not_not_intro hc2)] | skip); try rfl)⟩)⟩
  · refine g_k 1 (pc' := 10) (LI' := [some (.ref 0), some (.int 1)]) (LL' := []) (st' := [.int (-1000000001)]) (S' := (z_SH, M, L)) (fun nq hq => And.intro rfl hq) ?_
    exact ⟨1, And.intro rfl (⟨(by subst hg1; unfold f_X8_goBack_w1; (first | rw [if_neg hc1] | skip); try rfl), (by subst hg1; unfold g_X8_goBack_w1; (first | rw [if_neg hc1] | skip); try rfl)⟩)⟩
def f_X8_keep_out (M : Nat → Nat → Int32) (v : Int32) : Int32 := (-1000000001 : Int32)
theorem c_X8_keep_out {d : Nat} {L : Nat → Nat → Int64} (M : Nat → Nat → Int32) (v : Int32) (ha : ¬ (f_X8_isOutside M v ((2 : Int32)) = (0 : Int32)))  : z_C (d + 2) 101 [.ref 0, .int v] (z_SH, M, L) (some (.int (f_X8_keep_out M v))) (z_SH, M, L) := by
  refine z_mkA (tb := tb_X8_keep) rfl (by decide) rfl rfl rfl ?_
  refine g_k 2 (pc' := 2) (LI' := [some (.ref 0), some (.int v)]) (LL' := []) (st' := [.int 2, .int v]) (S' := (z_SH, M, L)) (fun nq hq => And.intro rfl (And.intro rfl hq)) ?_
  refine g_k 1 (pc' := 5) (LI' := [some (.ref 0), some (.int v)]) (LL' := []) (st' := [.int (f_X8_isOutside M v ((2 : Int32)))]) (S' := (z_SH, M, L)) (fun nq hq => And.intro rfl (Exists.intro _ (Exists.intro _ (And.intro (c_X8_isOutside (d := d) M v ((2 : Int32))) (And.intro (z_fit_same _ _ _ _ _ _ _ _) hq))))) ?_
  generalize hg1 : f_X8_isOutside M v ((2 : Int32)) = r1 at *
  refine g_k 1 (pc' := (if z_cmp .eq r1 ((0 : Int32)) = true then 11 else 8)) (LI' := [some (.ref 0), some (.int v)]) (LL' := []) (st' := []) (S' := (z_SH, M, L)) (fun nq hq => And.intro rfl hq) ?_
  refine g_eq (fun hc1 => (by subst hg1; exact absurd hc1 ha)) (fun hc1 => ?_)
  refine g_k 1 (pc' := 10) (LI' := [some (.ref 0), some (.int v)]) (LL' := []) (st' := [.int (-1000000001)]) (S' := (z_SH, M, L)) (fun nq hq => And.intro rfl hq) ?_
  exact ⟨1, And.intro rfl (⟨(by subst hg1; unfold f_X8_keep_out; (first | rw [if_neg ha] | skip); try rfl), rfl⟩)⟩
def f_X8_goBack_out (M : Nat → Nat → Int32) (v : Int32) : Int32 := (-1000000001 : Int32)
theorem c_X8_goBack_out {d : Nat} {L : Nat → Nat → Int64} (M : Nat → Nat → Int32) (v : Int32) (ha : ¬ (f_X8_isOutside M v ((2 : Int32)) = (0 : Int32)))  : z_C (d + 2) 102 [.ref 0, .int v] (z_SH, M, L) (some (.int (f_X8_goBack_out M v))) (z_SH, M, L) := by
  refine z_mkA (tb := tb_X8_goBack) rfl (by decide) rfl rfl rfl ?_
  refine g_k 2 (pc' := 2) (LI' := [some (.ref 0), some (.int v)]) (LL' := []) (st' := [.int 2, .int v]) (S' := (z_SH, M, L)) (fun nq hq => And.intro rfl (And.intro rfl hq)) ?_
  refine g_k 1 (pc' := 5) (LI' := [some (.ref 0), some (.int v)]) (LL' := []) (st' := [.int (f_X8_isOutside M v ((2 : Int32)))]) (S' := (z_SH, M, L)) (fun nq hq => And.intro rfl (Exists.intro _ (Exists.intro _ (And.intro (c_X8_isOutside (d := d) M v ((2 : Int32))) (And.intro (z_fit_same _ _ _ _ _ _ _ _) hq))))) ?_
  generalize hg1 : f_X8_isOutside M v ((2 : Int32)) = r1 at *
  refine g_k 1 (pc' := (if z_cmp .eq r1 ((0 : Int32)) = true then 11 else 8)) (LI' := [some (.ref 0), some (.int v)]) (LL' := []) (st' := []) (S' := (z_SH, M, L)) (fun nq hq => And.intro rfl hq) ?_
  refine g_eq (fun hc1 => (by subst hg1; exact absurd hc1 ha)) (fun hc1 => ?_)
  refine g_k 1 (pc' := 10) (LI' := [some (.ref 0), some (.int v)]) (LL' := []) (st' := [.int (-1000000001)]) (S' := (z_SH, M, L)) (fun nq hq => And.intro rfl hq) ?_
  exact ⟨1, And.intro rfl (⟨(by subst hg1; unfold f_X8_goBack_out; (first | rw [if_neg ha] | skip); try rfl), rfl⟩)⟩
