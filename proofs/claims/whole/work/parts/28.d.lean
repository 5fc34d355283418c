def f_X8_put_0 (M : Nat → Nat → Int32) (t : Int32) : Int32 := if (f_X8_isOutside M t ((8 : Int32))) = (0 : Int32) then if ¬ (f_X2_stands_15 M) = (0 : Int32) then if M 20 8 < (90000 : Int32) then if (f_X6_putMatter_19 (g_X4_remember_49_20 M) t) = (0 : Int32) then (0 : Int32) else (1 : Int32) else (-1000000004 : Int32) else (-1000000003 : Int32) else (-1000000002 : Int32)
def g_X8_put_0 (M : Nat → Nat → Int32) (t : Int32) : Nat → Nat → Int32 := if (f_X8_isOutside M t ((8 : Int32))) = (0 : Int32) then if ¬ (f_X2_stands_15 M) = (0 : Int32) then if M 20 8 < (90000 : Int32) then (g_X6_putMatter_19 (g_X4_remember_49_20 M) t) else M else M else M
def q_X8_put_0 (M : Nat → Nat → Int32) (t : Int32) : Prop := (((f_X8_isOutside M t ((8 : Int32))) = (0 : Int32)) → (¬ (f_X2_stands_15 M) = (0 : Int32)) → (M 20 8 < (90000 : Int32)) → (q_X4_remember_49_20 M)) ∧ (((f_X8_isOutside M t ((8 : Int32))) = (0 : Int32)) → (¬ (f_X2_stands_15 M) = (0 : Int32)) → (M 20 8 < (90000 : Int32)) → (q_X6_putMatter_19 (g_X4_remember_49_20 M) t)) ∧ True
theorem c_X8_put_0 {d : Nat} {L : Nat → Nat → Int64} (M : Nat → Nat → Int32) (t : Int32)  (hpre : q_X8_put_0 M t) : z_C (d + 5) 82 [.ref 0, .int t] (z_SH, M, L) (some (.int (f_X8_put_0 M t))) (z_SH, g_X8_put_0 M t, L) := by
  unfold q_X8_put_0 at hpre
  obtain ⟨p1, p2, -⟩ := hpre
  refine z_mkA (tb := tb_X8_put) rfl (by decide) rfl rfl rfl ?_
  refine g_k 2 (pc' := 3) (LI' := [some (.ref 0), some (.int t)]) (LL' := []) (st' := [.int 8, .int t]) (S' := (z_SH, M, L)) (fun nq hq => And.intro rfl (And.intro rfl hq)) ?_
  refine g_k 1 (pc' := 6) (LI' := [some (.ref 0), some (.int t)]) (LL' := []) (st' := [.int (f_X8_isOutside M t ((8 : Int32)))]) (S' := (z_SH, M, L)) (fun nq hq => And.intro rfl (Exists.intro _ (Exists.intro _ (And.intro (c_X8_isOutside (d := d + 3) M t ((8 : Int32))) (And.intro (z_fit_same _ _ _ _ _ _ _ _) hq))))) ?_
  generalize hg1 : f_X8_isOutside M t ((8 : Int32)) = r1 at *
  refine g_k 1 (pc' := (if z_cmp .eq r1 ((0 : Int32)) = true then 12 else 9)) (LI' := [some (.ref 0), some (.int t)]) (LL' := []) (st' := []) (S' := (z_SH, M, L)) (fun nq hq => And.intro rfl hq) ?_
  refine g_eq (fun hc1 => ?_) (fun hc1 => ?_)
  · refine g_k 2 (pc' := 16) (LI' := [some (.ref 0), some (.int t)]) (LL' := []) (st' := [.ref 15]) (S' := (z_SH, M, L)) (fun nq hq => And.intro rfl (And.intro rfl hq)) ?_
    refine g_k 1 (pc' := 19) (LI' := [some (.ref 0), some (.int t)]) (LL' := []) (st' := [.int (f_X2_stands_15 M)]) (S' := (z_SH, M, L)) (fun nq hq => And.intro rfl (Exists.intro _ (Exists.intro _ (And.intro (c_X2_stands_15 (d := d + 3) M) (And.intro (z_fit_same _ _ _ _ _ _ _ _) hq))))) ?_
    generalize hg2 : f_X2_stands_15 M = r2 at *
    refine g_k 1 (pc' := (if z_cmp .ne r2 ((0 : Int32)) = true then 25 else 22)) (LI' := [some (.ref 0), some (.int t)]) (LL' := []) (st' := []) (S' := (z_SH, M, L)) (fun nq hq => And.intro rfl hq) ?_
    refine g_ne (fun hc2 => ?_) (fun hc2 => ?_)
    · refine g_k 6 (pc' := (if z_cmp .lt (M 20 8) ((90000 : Int32)) = true then 43 else 40)) (LI' := [some (.ref 0), some (.int t)]) (LL' := []) (st' := []) (S' := (z_SH, M, L)) (fun nq hq => And.intro rfl (And.intro rfl (And.intro rfl (And.intro rfl (And.intro rfl (And.intro rfl hq)))))) ?_
      refine g_lt (fun hc3 => ?_) (fun hc3 => ?_)
      · refine g_k 5 (pc' := 54) (LI' := [some (.ref 0), some (.int t)]) (LL' := []) (st' := [.ref 20, .ref 49]) (S' := (z_SH, M, L)) (fun nq hq => And.intro rfl (And.intro rfl (And.intro rfl (And.intro rfl (And.intro rfl hq))))) ?_
        refine g_k 1 (pc' := 57) (LI' := [some (.ref 0), some (.int t)]) (LL' := []) (st' := []) (S' := (z_SH, g_X4_remember_49_20 M, L)) (fun nq hq => And.intro rfl (Exists.intro _ (Exists.intro _ (And.intro (c_X4_remember_49_20 (d := d + 1) M  (p1 hc1 hc2 hc3)) (And.intro (z_fit_same _ _ _ _ _ _ _ _) hq))))) ?_
        generalize hg3 : g_X4_remember_49_20 M = m3 at *
        refine g_k 3 (pc' := 62) (LI' := [some (.ref 0), some (.int t)]) (LL' := []) (st' := [.int t, .ref 19]) (S' := (z_SH, m3, L)) (fun nq hq => And.intro rfl (And.intro rfl (And.intro rfl hq))) ?_
        refine g_k 1 (pc' := 65) (LI' := [some (.ref 0), some (.int t)]) (LL' := []) (st' := [.int (f_X6_putMatter_19 m3 t)]) (S' := (z_SH, g_X6_putMatter_19 m3 t, L)) (fun nq hq => And.intro rfl (Exists.intro _ (Exists.intro _ (And.intro (c_X6_putMatter_19 (d := d) m3 t (p2 hc1 hc2 hc3)) (And.intro (z_fit_same _ _ _ _ _ _ _ _) hq))))) ?_
        generalize hg4 : f_X6_putMatter_19 m3 t = r4 at *
        generalize hg5 : g_X6_putMatter_19 m3 t = m5 at *
        refine g_k 1 (pc' := (if z_cmp .eq r4 ((0 : Int32)) = true then 72 else 68)) (LI' := [some (.ref 0), some (.int t)]) (LL' := []) (st' := []) (S' := (z_SH, m5, L)) (fun nq hq => And.intro rfl hq) ?_
        refine g_eq (fun hc4 => ?_) (fun hc4 => ?_)
        · refine g_k 1 (pc' := 73) (LI' := [some (.ref 0), some (.int t)]) (LL' := []) (st' := [.int 0]) (S' := (z_SH, m5, L)) (fun nq hq => And.intro rfl hq) ?_
          exact ⟨1, And.intro rfl (⟨(by subst hg5; subst hg4; subst hg3; subst hg2; subst hg1; unfold f_X8_put_0; (first | rw [if_pos hc1] | skip); (first | rw [if_pos hc2] | skip); (first | rw [if_pos hc3] | skip); (first | rw [if_pos hc4] | skip); try rfl), (by subst hg5; subst hg4; subst hg3; subst hg2; subst hg1; unfold g_X8_put_0; (first | rw [if_pos hc1] | skip); (first | rw [if_pos hc2] | skip); (first | rw [if_pos hc3] | skip); (first | rw [if_pos hc4] | skip); try rfl)⟩)⟩
        · refine g_k 2 (pc' := 73) (LI' := [some (.ref 0), some (.int t)]) (LL' := []) (st' := [.int 1]) (S' := (z_SH, m5, L)) (fun nq hq => And.intro rfl (And.intro rfl hq)) ?_
          exact ⟨1, And.intro rfl (⟨(by subst hg5; subst hg4; subst hg3; subst hg2; subst hg1; unfold f_X8_put_0; (first | rw [if_pos hc1] | skip); (first | rw [if_pos hc2] | skip); (first | rw [if_pos hc3] | skip); (first | rw [if_neg hc4] | skip); try rfl), (by subst hg5; subst hg4; subst hg3; subst hg2; subst hg1; unfold g_X8_put_0; (first | rw [if_pos hc1] | skip); (first | rw [if_pos hc2] | skip); (first | rw [if_pos hc3] | skip); (first | rw [if_neg hc4] | skip); try rfl)⟩)⟩
      · refine g_k 1 (pc' := 42) (LI' := [some (.ref 0), some (.int t)]) (LL' := []) (st' := [.int (-1000000004)]) (S' := (z_SH, M, L)) (fun nq hq => And.intro rfl hq) ?_
        exact ⟨1, And.intro rfl (⟨(by subst hg2; subst hg1; unfold f_X8_put_0; (first | rw [if_pos hc1] | skip); (first | rw [if_pos hc2] | skip); (first | rw [if_neg hc3] | skip); try rfl), (by subst hg2; subst hg1; unfold g_X8_put_0; (first | rw [if_pos hc1] | skip); (first | rw [if_pos hc2] | skip); (first | rw [if_neg hc3] | skip); try rfl)⟩)⟩
    · refine g_k 1 (pc' := 24) (LI' := [some (.ref 0), some (.int t)]) (LL' := []) (st' := [.int (-1000000003)]) (S' := (z_SH, M, L)) (fun nq hq => And.intro rfl hq) ?_
      exact ⟨1, And.intro rfl (⟨(by subst hg2; subst hg1; unfold f_X8_put_0; (first | rw [if_pos hc1] | skip); (first | rw [if_neg (not_not_intro hc2)] | skip); try rfl), (by subst hg2; subst hg1; unfold g_X8_put_0; (first | rw [if_pos hc1] | skip); (first | rw [if_neg (not_not_intro hc2)] | skip); try rfl)⟩)⟩
  · refine g_k 1 (pc' := 11) (LI' := [some (.ref 0), some (.int t)]) (LL' := []) (st' := [.int (-1000000002)]) (S' := (z_SH, M, L)) (fun nq hq => And.intro rfl hq) ?_
    exact ⟨1, And.intro rfl (⟨(by subst hg1; unfold f_X8_put_0; (first | rw [if_neg hc1] | skip); try rfl), (by subst hg1; unfold g_X8_put_0; (first | rw [if_neg hc1] | skip); try rfl)⟩)⟩
def f_X8_letOut_0 (M : Nat → Nat → Int32) (s : Int32) : Int32 := if (f_X8_isOutside M s (M 20 1)) = (0 : Int32) then if ¬ (f_X0_holds_20 M s) = (0 : Int32) then (g_X0_loosen_20 (g_X4_remember_49_20 M) s) 25 ((s).toNatClampNeg) else (-1000000003 : Int32) else (-1000000001 : Int32)
def g_X8_letOut_0 (M : Nat → Nat → Int32) (s : Int32) : Nat → Nat → Int32 := if (f_X8_isOutside M s (M 20 1)) = (0 : Int32) then if ¬ (f_X0_holds_20 M s) = (0 : Int32) then (g_X0_loosen_20 (g_X4_remember_49_20 M) s) else M else M
def q_X8_letOut_0 (M : Nat → Nat → Int32) (s : Int32) : Prop := (((f_X8_isOutside M s (M 20 1)) = (0 : Int32)) → (q_X0_holds_20 M s)) ∧ (((f_X8_isOutside M s (M 20 1)) = (0 : Int32)) → (¬ (f_X0_holds_20 M s) = (0 : Int32)) → (q_X4_remember_49_20 M)) ∧ (((f_X8_isOutside M s (M 20 1)) = (0 : Int32)) → (¬ (f_X0_holds_20 M s) = (0 : Int32)) → (q_X0_loosen_20 (g_X4_remember_49_20 M) s)) ∧ (((f_X8_isOutside M s (M 20 1)) = (0 : Int32)) → (¬ (f_X0_holds_20 M s) = (0 : Int32)) → (z_vin s 12 = true)) ∧ True
theorem c_X8_letOut_0 {d : Nat} {L : Nat → Nat → Int64} (M : Nat → Nat → Int32) (s : Int32)  (hpre : q_X8_letOut_0 M s) : z_C (d + 4) 83 [.ref 0, .int s] (z_SH, M, L) (some (.int (f_X8_letOut_0 M s))) (z_SH, g_X8_letOut_0 M s, L) := by
  unfold q_X8_letOut_0 at hpre
  obtain ⟨p1, p2, p3, p4, -⟩ := hpre
  refine z_mkA (tb := tb_X8_letOut) rfl (by decide) rfl rfl rfl ?_
  refine g_k 5 (pc' := 11) (LI' := [some (.ref 0), some (.int s)]) (LL' := []) (st' := [.int (M 20 1), .int s]) (S' := (z_SH, M, L)) (fun nq hq => And.intro rfl (And.intro rfl (And.intro rfl (And.intro rfl (And.intro rfl hq))))) ?_
  refine g_k 1 (pc' := 14) (LI' := [some (.ref 0), some (.int s)]) (LL' := []) (st' := [.int (f_X8_isOutside M s (M 20 1))]) (S' := (z_SH, M, L)) (fun nq hq => And.intro rfl (Exists.intro _ (Exists.intro _ (And.intro (c_X8_isOutside (d := d + 2) M s (M 20 1)) (And.intro (z_fit_same _ _ _ _ _ _ _ _) hq))))) ?_
  generalize hg1 : f_X8_isOutside M s (M 20 1) = r1 at *
  refine g_k 1 (pc' := (if z_cmp .eq r1 ((0 : Int32)) = true then 20 else 17)) (LI' := [some (.ref 0), some (.int s)]) (LL' := []) (st' := []) (S' := (z_SH, M, L)) (fun nq hq => And.intro rfl hq) ?_
  refine g_eq (fun hc1 => ?_) (fun hc1 => ?_)
  · refine g_k 4 (pc' := 28) (LI' := [some (.ref 0), some (.int s)]) (LL' := []) (st' := [.int s, .ref 20]) (S' := (z_SH, M, L)) (fun nq hq => And.intro rfl (And.intro rfl (And.intro rfl (And.intro rfl hq)))) ?_
    refine g_k 1 (pc' := 31) (LI' := [some (.ref 0), some (.int s)]) (LL' := []) (st' := [.int (f_X0_holds_20 M s)]) (S' := (z_SH, M, L)) (fun nq hq => And.intro rfl (Exists.intro _ (Exists.intro _ (And.intro (c_X0_holds_20 (d := d + 2) M s (p1 hc1)) (And.intro (z_fit_same _ _ _ _ _ _ _ _) hq))))) ?_
    generalize hg2 : f_X0_holds_20 M s = r2 at *
    refine g_k 1 (pc' := (if z_cmp .ne r2 ((0 : Int32)) = true then 37 else 34)) (LI' := [some (.ref 0), some (.int s)]) (LL' := []) (st' := []) (S' := (z_SH, M, L)) (fun nq hq => And.intro rfl hq) ?_
    refine g_ne (fun hc2 => ?_) (fun hc2 => ?_)
    · refine g_k 5 (pc' := 48) (LI' := [some (.ref 0), some (.int s)]) (LL' := []) (st' := [.ref 20, .ref 49]) (S' := (z_SH, M, L)) (fun nq hq => And.intro rfl (And.intro rfl (And.intro rfl (And.intro rfl (And.intro rfl hq))))) ?_
      refine g_k 1 (pc' := 51) (LI' := [some (.ref 0), some (.int s)]) (LL' := []) (st' := []) (S' := (z_SH, g_X4_remember_49_20 M, L)) (fun nq hq => And.intro rfl (Exists.intro _ (Exists.intro _ (And.intro (c_X4_remember_49_20 (d := d) M  (p2 hc1 hc2)) (And.intro (z_fit_same _ _ _ _ _ _ _ _) hq))))) ?_
      generalize hg3 : g_X4_remember_49_20 M = m3 at *
      refine g_k 4 (pc' := 59) (LI' := [some (.ref 0), some (.int s)]) (LL' := []) (st' := [.int s, .ref 20]) (S' := (z_SH, m3, L)) (fun nq hq => And.intro rfl (And.intro rfl (And.intro rfl (And.intro rfl hq)))) ?_
      refine g_k 1 (pc' := 62) (LI' := [some (.ref 0), some (.int s)]) (LL' := []) (st' := []) (S' := (z_SH, g_X0_loosen_20 m3 s, L)) (fun nq hq => And.intro rfl (Exists.intro _ (Exists.intro _ (And.intro (c_X0_loosen_20 (d := d + 2) m3 s (p3 hc1 hc2)) (And.intro (z_fit_same _ _ _ _ _ _ _ _) hq))))) ?_
      generalize hg4 : g_X0_loosen_20 m3 s = m4 at *
      refine g_k 6 (pc' := 74) (LI' := [some (.ref 0), some (.int s)]) (LL' := []) (st' := [.int (m4 25 ((s).toNatClampNeg))]) (S' := (z_SH, m4, L)) (fun nq hq => And.intro rfl (And.intro rfl (And.intro rfl (And.intro rfl (And.intro rfl (And.intro (p4 hc1 hc2) hq)))))) ?_
      exact ⟨1, And.intro rfl (⟨(by subst hg4; subst hg3; subst hg2; subst hg1; unfold f_X8_letOut_0; (first | rw [if_pos hc1] | skip); (first | rw [if_pos hc2] | skip); try rfl), (by subst hg4; subst hg3; subst hg2; subst hg1; unfold g_X8_letOut_0; (first | rw [if_pos hc1] | skip); (first | rw [if_pos hc2] | skip); try rfl)⟩)⟩
    · refine g_k 1 (pc' := 36) (LI' := [some (.ref 0), some (.int s)]) (LL' := []) (st' := [.int (-1000000003)]) (S' := (z_SH, M, L)) (fun nq hq => And.intro rfl hq) ?_
      exact ⟨1, And.intro rfl (⟨(by subst hg2; subst hg1; unfold f_X8_letOut_0; (first | rw [if_pos hc1] | skip); (first | rw [if_neg (not_not_intro hc2)] | skip); try rfl), (by subst hg2; subst hg1; unfold g_X8_letOut_0; (first | rw [if_pos hc1] | skip); (first | rw [if_neg (not_not_intro hc2)] | skip); try rfl)⟩)⟩
  · refine g_k 1 (pc' := 19) (LI' := [some (.ref 0), some (.int s)]) (LL' := []) (st' := [.int (-1000000001)]) (S' := (z_SH, M, L)) (fun nq hq => And.intro rfl hq) ?_
    exact ⟨1, And.intro rfl (⟨(by subst hg1; unfold f_X8_letOut_0; (first | rw [if_neg hc1] | skip); try rfl), (by subst hg1; unfold g_X8_letOut_0; (first | rw [if_neg hc1] | skip); try rfl)⟩)⟩
def f_X8_letGo_0 (M : Nat → Nat → Int32) (s : Int32) : Int32 := if (f_X8_isOutside M s (M 20 1)) = (0 : Int32) then if ¬ (f_X0_holds_20 M s) = (0 : Int32) then (g_X4_remember_49_20 M) 25 ((s).toNatClampNeg) else (-1000000003 : Int32) else (-1000000001 : Int32)
def g_X8_letGo_0 (M : Nat → Nat → Int32) (s : Int32) : Nat → Nat → Int32 := if (f_X8_isOutside M s (M 20 1)) = (0 : Int32) then if ¬ (f_X0_holds_20 M s) = (0 : Int32) then z_row (g_X4_remember_49_20 M) 27 (upd ((g_X4_remember_49_20 M) 27) ((s).toNatClampNeg) ((2 : Int32))) else M else M
def q_X8_letGo_0 (M : Nat → Nat → Int32) (s : Int32) : Prop := (((f_X8_isOutside M s (M 20 1)) = (0 : Int32)) → (q_X0_holds_20 M s)) ∧ (((f_X8_isOutside M s (M 20 1)) = (0 : Int32)) → (¬ (f_X0_holds_20 M s) = (0 : Int32)) → (q_X4_remember_49_20 M)) ∧ (((f_X8_isOutside M s (M 20 1)) = (0 : Int32)) → (¬ (f_X0_holds_20 M s) = (0 : Int32)) → (z_vin s 12 = true)) ∧ True
theorem c_X8_letGo_0 {d : Nat} {L : Nat → Nat → Int64} (M : Nat → Nat → Int32) (s : Int32)  (hpre : q_X8_letGo_0 M s) : z_C (d + 4) 84 [.ref 0, .int s] (z_SH, M, L) (some (.int (f_X8_letGo_0 M s))) (z_SH, g_X8_letGo_0 M s, L) := by
  unfold q_X8_letGo_0 at hpre
  obtain ⟨p1, p2, p3, -⟩ := hpre
  refine z_mkA (tb := tb_X8_letGo) rfl (by decide) rfl rfl rfl ?_
  refine g_k 5 (pc' := 11) (LI' := [some (.ref 0), some (.int s)]) (LL' := []) (st' := [.int (M 20 1), .int s]) (S' := (z_SH, M, L)) (fun nq hq => And.intro rfl (And.intro rfl (And.intro rfl (And.intro rfl (And.intro rfl hq))))) ?_
  refine g_k 1 (pc' := 14) (LI' := [some (.ref 0), some (.int s)]) (LL' := []) (st' := [.int (f_X8_isOutside M s (M 20 1))]) (S' := (z_SH, M, L)) (fun nq hq => And.intro rfl (Exists.intro _ (Exists.intro _ (And.intro (c_X8_isOutside (d := d + 2) M s (M 20 1)) (And.intro (z_fit_same _ _ _ _ _ _ _ _) hq))))) ?_
  generalize hg1 : f_X8_isOutside M s (M 20 1) = r1 at *
  refine g_k 1 (pc' := (if z_cmp .eq r1 ((0 : Int32)) = true then 20 else 17)) (LI' := [some (.ref 0), some (.int s)]) (LL' := []) (st' := []) (S' := (z_SH, M, L)) (fun nq hq => And.intro rfl hq) ?_
  refine g_eq (fun hc1 => ?_) (fun hc1 => ?_)
  · refine g_k 4 (pc' := 28) (LI' := [some (.ref 0), some (.int s)]) (LL' := []) (st' := [.int s, .ref 20]) (S' := (z_SH, M, L)) (fun nq hq => And.intro rfl (And.intro rfl (And.intro rfl (And.intro rfl hq)))) ?_
    refine g_k 1 (pc' := 31) (LI' := [some (.ref 0), some (.int s)]) (LL' := []) (st' := [.int (f_X0_holds_20 M s)]) (S' := (z_SH, M, L)) (fun nq hq => And.intro rfl (Exists.intro _ (Exists.intro _ (And.intro (c_X0_holds_20 (d := d + 2) M s (p1 hc1)) (And.intro (z_fit_same _ _ _ _ _ _ _ _) hq))))) ?_
    generalize hg2 : f_X0_holds_20 M s = r2 at *
    refine g_k 1 (pc' := (if z_cmp .ne r2 ((0 : Int32)) = true then 37 else 34)) (LI' := [some (.ref 0), some (.int s)]) (LL' := []) (st' := []) (S' := (z_SH, M, L)) (fun nq hq => And.intro rfl hq) ?_
    refine g_ne (fun hc2 => ?_) (fun hc2 => ?_)
    · refine g_k 5 (pc' := 48) (LI' := [some (.ref 0), some (.int s)]) (LL' := []) (st' := [.ref 20, .ref 49]) (S' := (z_SH, M, L)) (fun nq hq => And.intro rfl (And.intro rfl (And.intro rfl (And.intro rfl (And.intro rfl hq))))) ?_
      refine g_k 1 (pc' := 51) (LI' := [some (.ref 0), some (.int s)]) (LL' := []) (st' := []) (S' := (z_SH, g_X4_remember_49_20 M, L)) (fun nq hq => And.intro rfl (Exists.intro _ (Exists.intro _ (And.intro (c_X4_remember_49_20 (d := d) M  (p2 hc1 hc2)) (And.intro (z_fit_same _ _ _ _ _ _ _ _) hq))))) ?_
      generalize hg3 : g_X4_remember_49_20 M = m3 at *
      refine g_k 9 (pc' := 68) (LI' := [some (.ref 0), some (.int s)]) (LL' := []) (st' := [.ref 19]) (S' := (z_SH, z_row m3 27 (upd (m3 27) ((s).toNatClampNeg) ((2 : Int32))), L)) (fun nq hq => And.intro rfl (And.intro rfl (And.intro rfl (And.intro rfl (And.intro rfl (And.intro rfl (And.intro (p3 hc1 hc2) (And.intro rfl (And.intro rfl hq))))))))) ?_
      refine g_k 4 (pc' := 76) (LI' := [some (.ref 0), some (.int s)]) (LL' := []) (st' := [.int (m3 25 ((s).toNatClampNeg))]) (S' := (z_SH, z_row m3 27 (upd (m3 27) ((s).toNatClampNeg) ((2 : Int32))), L)) (fun nq hq => And.intro rfl (And.intro rfl (And.intro rfl (And.intro (p3 hc1 hc2) hq)))) ?_
      exact ⟨1, And.intro rfl (⟨(by subst hg3; subst hg2; subst hg1; unfold f_X8_letGo_0; (first | rw [if_pos hc1] | skip); (first | rw [if_pos hc2] | skip); try rfl), (by subst hg3; subst hg2; subst hg1; unfold g_X8_letGo_0; (first | rw [if_pos hc1] | skip); (first | rw [if_pos hc2] | skip); try rfl)⟩)⟩
    · refine g_k 1 (pc' := 36) (LI' := [some (.ref 0), some (.int s)]) (LL' := []) (st' := [.int (-1000000003)]) (S' := (z_SH, M, L)) (fun nq hq => And.intro rfl hq) ?_
      exact ⟨1, And.intro rfl (⟨(by subst hg2; subst hg1; unfold f_X8_letGo_0; (first | rw [if_pos hc1] | skip); (first | rw [if_neg (not_not_intro hc2)] | skip); try rfl), (by subst hg2; subst hg1; unfold g_X8_letGo_0; (first | rw [if_pos hc1] | skip); (first | rw [if_neg (not_not_intro hc2)] | skip); try rfl)⟩)⟩
  · refine g_k 1 (pc' := 19) (LI' := [some (.ref 0), some (.int s)]) (LL' := []) (st' := [.int (-1000000001)]) (S' := (z_SH, M, L)) (fun nq hq => And.intro rfl hq) ?_
    exact ⟨1, And.intro rfl (⟨(by subst hg1; unfold f_X8_letGo_0; (first | rw [if_neg hc1] | skip); try rfl), (by subst hg1; unfold g_X8_letGo_0; (first | rw [if_neg hc1] | skip); try rfl)⟩)⟩
def f_X8_say_0 (M : Nat → Nat → Int32) (m : Int32) (t : Int32) (b : Int32) (w : Int32) : Int32 := if (f_X8_isOutside M m (M 15 1)) = (0 : Int32) then if ¬ (f_X8_isOutside M t ((8 : Int32))) = (0 : Int32) then (-1000000002 : Int32) else if w < (1 : Int32) then (-1000000002 : Int32) else if w ≤ (9 : Int32) then if M 20 1 < (12 : Int32) then if b = (0 : Int32) then ((g_X0_button_20 (g_X4_remember_49_20 M) m t ((0 : Int32)) w) 20 1) - ((1 : Int32)) else ((g_X0_button_20 (g_X4_remember_49_20 M) m t ((1 : Int32)) w) 20 1) - ((1 : Int32)) else (-1000000004 : Int32) else (-1000000002 : Int32) else (-1000000001 : Int32)
def g_X8_say_0 (M : Nat → Nat → Int32) (m : Int32) (t : Int32) (b : Int32) (w : Int32) : Nat → Nat → Int32 := if (f_X8_isOutside M m (M 15 1)) = (0 : Int32) then if ¬ (f_X8_isOutside M t ((8 : Int32))) = (0 : Int32) then M else if w < (1 : Int32) then M else if w ≤ (9 : Int32) then if M 20 1 < (12 : Int32) then if b = (0 : Int32) then (g_X0_button_20 (g_X4_remember_49_20 M) m t ((0 : Int32)) w) else (g_X0_button_20 (g_X4_remember_49_20 M) m t ((1 : Int32)) w) else M else M else M
def q_X8_say_0 (M : Nat → Nat → Int32) (m : Int32) (t : Int32) (b : Int32) (w : Int32) : Prop := (((f_X8_isOutside M m (M 15 1)) = (0 : Int32)) → ((f_X8_isOutside M t ((8 : Int32))) = (0 : Int32)) → (¬ (w < (1 : Int32))) → (w ≤ (9 : Int32)) → (M 20 1 < (12 : Int32)) → (q_X4_remember_49_20 M)) ∧ (((f_X8_isOutside M m (M 15 1)) = (0 : Int32)) → ((f_X8_isOutside M t ((8 : Int32))) = (0 : Int32)) → (¬ (w < (1 : Int32))) → (w ≤ (9 : Int32)) → (M 20 1 < (12 : Int32)) → (b = (0 : Int32)) → (q_X0_button_20 (g_X4_remember_49_20 M) m t ((0 : Int32)) w)) ∧ (((f_X8_isOutside M m (M 15 1)) = (0 : Int32)) → ((f_X8_isOutside M t ((8 : Int32))) = (0 : Int32)) → (¬ (w < (1 : Int32))) → (w ≤ (9 : Int32)) → (M 20 1 < (12 : Int32)) → (¬ (b = (0 : Int32))) → (q_X0_button_20 (g_X4_remember_49_20 M) m t ((1 : Int32)) w)) ∧ True
theorem c_X8_say_0 {d : Nat} {L : Nat → Nat → Int64} (M : Nat → Nat → Int32) (m : Int32) (t : Int32) (b : Int32) (w : Int32)  (hpre : q_X8_say_0 M m t b w) : z_C (d + 4) 85 [.ref 0, .int m, .int t, .int b, .int w] (z_SH, M, L) (some (.int (f_X8_say_0 M m t b w))) (z_SH, g_X8_say_0 M m t b w, L) := by
  unfold q_X8_say_0 at hpre
  obtain ⟨p1, p2, p3, -⟩ := hpre
  refine z_mkA (tb := tb_X8_say) rfl (by decide) rfl rfl rfl ?_
  refine g_k 4 (pc' := 8) (LI' := [some (.ref 0), some (.int m), some (.int t), some (.int b), some (.int w)]) (LL' := []) (st' := [.int (M 15 1), .int m]) (S' := (z_SH, M, L)) (fun nq hq => And.intro rfl (And.intro rfl (And.intro rfl (And.intro rfl hq)))) ?_
  refine g_k 1 (pc' := 11) (LI' := [some (.ref 0), some (.int m), some (.int t), some (.int b), some (.int w)]) (LL' := []) (st' := [.int (f_X8_isOutside M m (M 15 1))]) (S' := (z_SH, M, L)) (fun nq hq => And.intro rfl (Exists.intro _ (Exists.intro _ (And.intro (c_X8_isOutside (d := d + 2) M m (M 15 1)) (And.intro (z_fit_same _ _ _ _ _ _ _ _) hq))))) ?_
  generalize hg1 : f_X8_isOutside M m (M 15 1) = r1 at *
  refine g_k 1 (pc' := (if z_cmp .eq r1 ((0 : Int32)) = true then 17 else 14)) (LI' := [some (.ref 0), some (.int m), some (.int t), some (.int b), some (.int w)]) (LL' := []) (st' := []) (S' := (z_SH, M, L)) (fun nq hq => And.intro rfl hq) ?_
  refine g_eq (fun hc1 => ?_) (fun hc1 => ?_)
  · refine g_k 2 (pc' := 20) (LI' := [some (.ref 0), some (.int m), some (.int t), some (.int b), some (.int w)]) (LL' := []) (st' := [.int 8, .int t]) (S' := (z_SH, M, L)) (fun nq hq => And.intro rfl (And.intro rfl hq)) ?_
    refine g_k 1 (pc' := 23) (LI' := [some (.ref 0), some (.int m), some (.int t), some (.int b), some (.int w)]) (LL' := []) (st' := [.int (f_X8_isOutside M t ((8 : Int32)))]) (S' := (z_SH, M, L)) (fun nq hq => And.intro rfl (Exists.intro _ (Exists.intro _ (And.intro (c_X8_isOutside (d := d + 2) M t ((8 : Int32))) (And.intro (z_fit_same _ _ _ _ _ _ _ _) hq))))) ?_
    generalize hg2 : f_X8_isOutside M t ((8 : Int32)) = r2 at *
    refine g_k 1 (pc' := (if z_cmp .ne r2 ((0 : Int32)) = true then 39 else 26)) (LI' := [some (.ref 0), some (.int m), some (.int t), some (.int b), some (.int w)]) (LL' := []) (st' := []) (S' := (z_SH, M, L)) (fun nq hq => And.intro rfl hq) ?_
    refine g_ne (fun hc2 => ?_) (fun hc2 => ?_)
    · refine g_k 1 (pc' := 41) (LI' := [some (.ref 0), some (.int m), some (.int t), some (.int b), some (.int w)]) (LL' := []) (st' := [.int (-1000000002)]) (S' := (z_SH, M, L)) (fun nq hq => And.intro rfl hq) ?_
      exact ⟨1, And.intro rfl (⟨(by subst hg2; subst hg1; unfold f_X8_say_0; (first | rw [if_pos hc1] | skip); (first | rw [if_pos hc2] | skip); try rfl), (by subst hg2; subst hg1; unfold g_X8_say_0; (first | rw [if_pos hc1] | skip); (first | rw [if_pos hc2] | skip); try rfl)⟩)⟩
    · refine g_k 3 (pc' := (if z_cmp .lt w ((1 : Int32)) = true then 39 else 32)) (LI' := [some (.ref 0), some (.int m), some (.int t), some (.int b), some (.int w)]) (LL' := []) (st' := []) (S' := (z_SH, M, L)) (fun nq hq => And.intro rfl (And.intro rfl (And.intro rfl hq))) ?_
      refine g_lt (fun hc3 => ?_) (fun hc3 => ?_)
      · refine g_k 1 (pc' := 41) (LI' := [some (.ref 0), some (.int m), some (.int t), some (.int b), some (.int w)]) (LL' := []) (st' := [.int (-1000000002)]) (S' := (z_SH, M, L)) (fun nq hq => And.intro rfl hq) ?_
        exact ⟨1, And.intro rfl (⟨(by subst hg2; subst hg1; unfold f_X8_say_0; (first | rw [if_pos hc1] | skip); (first | rw [if_neg (not_not_intro hc2)] | skip); (first | rw [if_pos hc3] | skip); try rfl), (by subst hg2; subst hg1; unfold g_X8_say_0; (first | rw [if_pos hc1] | skip); (first | rw [if_neg (not_not_intro hc2)] | skip); (first | rw [if_pos hc3] | skip); try rfl)⟩)⟩
      · refine g_k 3 (pc' := (if z_cmp .le w ((9 : Int32)) = true then 42 else 39)) (LI' := [some (.ref 0), some (.int m), some (.int t), some (.int b), some (.int w)]) (LL' := []) (st' := []) (S' := (z_SH, M, L)) (fun nq hq => And.intro rfl (And.intro rfl (And.intro rfl hq))) ?_
        refine g_le (fun hc4 => ?_) (fun hc4 => ?_)
        · refine g_k 6 (pc' := (if z_cmp .lt (M 20 1) ((12 : Int32)) = true then 60 else 57)) (LI' := [some (.ref 0), some (.int m), some (.int t), some (.int b), some (.int w)]) (LL' := []) (st' := []) (S' := (z_SH, M, L)) (fun nq hq => And.intro rfl (And.intro rfl (And.intro rfl (And.intro rfl (And.intro rfl (And.intro rfl hq)))))) ?_
          refine g_lt (fun hc5 => ?_) (fun hc5 => ?_)
          · refine g_k 5 (pc' := 71) (LI' := [some (.ref 0), some (.int m), some (.int t), some (.int b), some (.int w)]) (LL' := []) (st' := [.ref 20, .ref 49]) (S' := (z_SH, M, L)) (fun nq hq => And.intro rfl (And.intro rfl (And.intro rfl (And.intro rfl (And.intro rfl hq))))) ?_
            refine g_k 1 (pc' := 74) (LI' := [some (.ref 0), some (.int m), some (.int t), some (.int b), some (.int w)]) (LL' := []) (st' := []) (S' := (z_SH, g_X4_remember_49_20 M, L)) (fun nq hq => And.intro rfl (Exists.intro _ (Exists.intro _ (And.intro (c_X4_remember_49_20 (d := d) M  (p1 hc1 hc2 hc3 hc4 hc5)) (And.intro (z_fit_same _ _ _ _ _ _ _ _) hq))))) ?_
            generalize hg3 : g_X4_remember_49_20 M = m3 at *
            refine g_k 7 (pc' := (if z_cmp .eq b ((0 : Int32)) = true then 91 else 87)) (LI' := [some (.ref 0), some (.int m), some (.int t), some (.int b), some (.int w)]) (LL' := []) (st' := [.int t, .int m, .ref 20]) (S' := (z_SH, m3, L)) (fun nq hq => And.intro rfl (And.intro rfl (And.intro rfl (And.intro rfl (And.intro rfl (And.intro rfl (And.intro rfl hq))))))) ?_
            refine g_eq (fun hc6 => ?_) (fun hc6 => ?_)
            · refine g_k 2 (pc' := 94) (LI' := [some (.ref 0), some (.int m), some (.int t), some (.int b), some (.int w)]) (LL' := []) (st' := [.int w, .int 0, .int t, .int m, .ref 20]) (S' := (z_SH, m3, L)) (fun nq hq => And.intro rfl (And.intro rfl hq)) ?_
              refine g_k 1 (pc' := 97) (LI' := [some (.ref 0), some (.int m), some (.int t), some (.int b), some (.int w)]) (LL' := []) (st' := []) (S' := (z_SH, g_X0_button_20 m3 m t ((0 : Int32)) w, L)) (fun nq hq => And.intro rfl (Exists.intro _ (Exists.intro _ (And.intro (c_X0_button_20 (d := d + 2) m3 m t ((0 : Int32)) w (p2 hc1 hc2 hc3 hc4 hc5 hc6)) (And.intro (z_fit_same _ _ _ _ _ _ _ _) hq))))) ?_
              generalize hg4 : g_X0_button_20 m3 m t ((0 : Int32)) w = m4 at *
              refine g_k 6 (pc' := 109) (LI' := [some (.ref 0), some (.int m), some (.int t), some (.int b), some (.int w)]) (LL' := []) (st' := [.int ((m4 20 1) - ((1 : Int32)))]) (S' := (z_SH, m4, L)) (fun nq hq => And.intro rfl (And.intro rfl (And.intro rfl (And.intro rfl (And.intro rfl (And.intro rfl hq)))))) ?_
              exact ⟨1, And.intro rfl (⟨(by subst hg4; subst hg3; subst hg2; subst hg1; unfold f_X8_say_0; (first | rw [if_pos hc1] | skip); (first | rw [if_neg (not_not_intro hc2)] | skip); (first | rw [if_neg hc3] | skip); (first | rw [if_pos hc4] | skip); (first | rw [if_pos hc5] | skip); (first | rw [if_pos hc6] | skip); try rfl), (by subst hg4; subst hg3; subst hg2; subst hg1; unfold g_X8_say_0; (first | rw [if_pos hc1] | skip); (first | rw [if_neg (not_not_intro hc2)] | skip); (first | rw [if_neg hc3] | skip); (first | rw [if_pos hc4] | skip); (first | rw [if_pos hc5] | skip); (first | rw [if_pos hc6] | skip); try rfl)⟩)⟩
            · refine g_k 3 (pc' := 94) (LI' := [some (.ref 0), some (.int m), some (.int t), some (.int b), some (.int w)]) (LL' := []) (st' := [.int w, .int 1, .int t, .int m, .ref 20]) (S' := (z_SH, m3, L)) (fun nq hq => And.intro rfl (And.intro rfl (And.intro rfl hq))) ?_
              refine g_k 1 (pc' := 97) (LI' := [some (.ref 0), some (.int m), some (.int t), some (.int b), some (.int w)]) (LL' := []) (st' := []) (S' := (z_SH, g_X0_button_20 m3 m t ((1 : Int32)) w, L)) (fun nq hq => And.intro rfl (Exists.intro _ (Exists.intro _ (And.intro (c_X0_button_20 (d := d + 2) m3 m t ((1 : Int32)) w (p3 hc1 hc2 hc3 hc4 hc5 hc6)) (And.intro (z_fit_same _ _ _ _ _ _ _ _) hq))))) ?_
              generalize hg5 : g_X0_button_20 m3 m t ((1 : Int32)) w = m5 at *
              refine g_k 6 (pc' := 109) (LI' := [some (.ref 0), some (.int m), some (.int t), some (.int b), some (.int w)]) (LL' := []) (st' := [.int ((m5 20 1) - ((1 : Int32)))]) (S' := (z_SH, m5, L)) (fun nq hq => And.intro rfl (And.intro rfl (And.intro rfl (And.intro rfl (And.intro rfl (And.intro rfl hq)))))) ?_
              exact ⟨1, And.intro rfl (⟨(by subst hg5; subst hg3; subst hg2; subst hg1; unfold f_X8_say_0; (first | rw [if_pos hc1] | skip); (first | rw [if_neg (not_not_intro hc2)] | skip); (first | rw [if_neg hc3] | skip); (first | rw [if_pos hc4] | skip); (first | rw [if_pos hc5] | skip); (first | rw [if_neg hc6] | skip); try rfl), (by subst hg5; subst hg3; subst hg2; subst hg1; unfold g_X8_say_0; (first | rw [if_pos hc1] | skip); (first | rw [if_neg (not_not_intro hc2)] | skip); (first | rw [if_neg hc3] | skip); (first | rw [if_pos hc4] | skip); (first | rw [if_pos hc5] | skip); (first | rw [if_neg hc6] | skip); try rfl)⟩)⟩
          · refine g_k 1 (pc' := 59) (LI' := [some (.ref 0), some (.int m), some (.int t), some (.int b), some (.int w)]) (LL' := []) (st' := [.int (-1000000004)]) (S' := (z_SH, M, L)) (fun nq hq => And.intro rfl hq) ?_
            exact ⟨1, And.intro rfl (⟨(by subst hg2; subst hg1; unfold f_X8_say_0; (first | rw [if_pos hc1] | skip); (first | rw [if_neg (not_not_intro hc2)] | skip); (first | rw [if_neg hc3] | skip); (first | rw [if_pos hc4] | skip); (first | rw [if_neg hc5] | skip); try rfl), (by subst hg2; subst hg1; unfold g_X8_say_0; (first | rw [if_pos hc1] | skip); (first | rw [if_neg (not_not_intro hc2)] | skip); (first | rw [if_neg hc3] | skip); (first | rw [if_pos hc4] | skip); (first | rw [if_neg hc5] | skip); try rfl)⟩)⟩
        · refine g_k 1 (pc' := 41) (LI' := [some (.ref 0), some (.int m), some (.int t), some (.int b), some (.int w)]) (LL' := []) (st' := [.int (-1000000002)]) (S' := (z_SH, M, L)) (fun nq hq => And.intro rfl hq) ?_
          exact ⟨1, And.intro rfl (⟨(by subst hg2; subst hg1; unfold f_X8_say_0; (first | rw [if_pos hc1] | skip); (first | rw [if_neg (not_not_intro hc2)] | skip); (first | rw [if_neg hc3] | skip); (first | rw [if_neg hc4] | skip); try rfl), (by subst hg2; subst hg1; unfold g_X8_say_0; (first | rw [if_pos hc1] | skip); (first | rw [if_neg (not_not_intro hc2)] | skip); (first | rw [if_neg hc3] | skip); (first | rw [if_neg hc4] | skip); try rfl)⟩)⟩
  · refine g_k 1 (pc' := 16) (LI' := [some (.ref 0), some (.int m), some (.int t), some (.int b), some (.int w)]) (LL' := []) (st' := [.int (-1000000001)]) (S' := (z_SH, M, L)) (fun nq hq => And.intro rfl hq) ?_
    exact ⟨1, And.intro rfl (⟨(by subst hg1; unfold f_X8_say_0; (first | rw [if_neg hc1] | skip); try rfl), (by subst hg1; unfold g_X8_say_0; (first | rw [if_neg hc1] | skip); try rfl)⟩)⟩
def f_X8_session_0 (M : Nat → Nat → Int32)  : Int32 := if ¬ (f_X2_stands_15 M) = (0 : Int32) then if M 20 11 < (90000 : Int32) then (g_X6_endSession_19 (g_X4_remember_49_20 M)) 20 11 else (-1000000004 : Int32) else (-1000000003 : Int32)
def g_X8_session_0 (M : Nat → Nat → Int32)  : Nat → Nat → Int32 := if ¬ (f_X2_stands_15 M) = (0 : Int32) then if M 20 11 < (90000 : Int32) then (g_X6_endSession_19 (g_X4_remember_49_20 M)) else M else M
def q_X8_session_0 (M : Nat → Nat → Int32)  : Prop := ((¬ (f_X2_stands_15 M) = (0 : Int32)) → (M 20 11 < (90000 : Int32)) → (q_X4_remember_49_20 M)) ∧ ((¬ (f_X2_stands_15 M) = (0 : Int32)) → (M 20 11 < (90000 : Int32)) → (q_X6_endSession_19 (g_X4_remember_49_20 M))) ∧ True
theorem c_X8_session_0 {d : Nat} {L : Nat → Nat → Int64} (M : Nat → Nat → Int32)   (hpre : q_X8_session_0 M) : z_C (d + 4) 86 [.ref 0] (z_SH, M, L) (some (.int (f_X8_session_0 M))) (z_SH, g_X8_session_0 M, L) := by
  unfold q_X8_session_0 at hpre
  obtain ⟨p1, p2, -⟩ := hpre
  refine z_mkA (tb := tb_X8_session) rfl (by decide) rfl rfl rfl ?_
  refine g_k 2 (pc' := 4) (LI' := [some (.ref 0)]) (LL' := []) (st' := [.ref 15]) (S' := (z_SH, M, L)) (fun nq hq => And.intro rfl (And.intro rfl hq)) ?_
  refine g_k 1 (pc' := 7) (LI' := [some (.ref 0)]) (LL' := []) (st' := [.int (f_X2_stands_15 M)]) (S' := (z_SH, M, L)) (fun nq hq => And.intro rfl (Exists.intro _ (Exists.intro _ (And.intro (c_X2_stands_15 (d := d + 2) M) (And.intro (z_fit_same _ _ _ _ _ _ _ _) hq))))) ?_
  generalize hg1 : f_X2_stands_15 M = r1 at *
  refine g_k 1 (pc' := (if z_cmp .ne r1 ((0 : Int32)) = true then 13 else 10)) (LI' := [some (.ref 0)]) (LL' := []) (st' := []) (S' := (z_SH, M, L)) (fun nq hq => And.intro rfl hq) ?_
  refine g_ne (fun hc1 => ?_) (fun hc1 => ?_)
  · refine g_k 6 (pc' := (if z_cmp .lt (M 20 11) ((90000 : Int32)) = true then 31 else 28)) (LI' := [some (.ref 0)]) (LL' := []) (st' := []) (S' := (z_SH, M, L)) (fun nq hq => And.intro rfl (And.intro rfl (And.intro rfl (And.intro rfl (And.intro rfl (And.intro rfl hq)))))) ?_
    refine g_lt (fun hc2 => ?_) (fun hc2 => ?_)
    · refine g_k 5 (pc' := 42) (LI' := [some (.ref 0)]) (LL' := []) (st' := [.ref 20, .ref 49]) (S' := (z_SH, M, L)) (fun nq hq => And.intro rfl (And.intro rfl (And.intro rfl (And.intro rfl (And.intro rfl hq))))) ?_
      refine g_k 1 (pc' := 45) (LI' := [some (.ref 0)]) (LL' := []) (st' := []) (S' := (z_SH, g_X4_remember_49_20 M, L)) (fun nq hq => And.intro rfl (Exists.intro _ (Exists.intro _ (And.intro (c_X4_remember_49_20 (d := d) M  (p1 hc1 hc2)) (And.intro (z_fit_same _ _ _ _ _ _ _ _) hq))))) ?_
      generalize hg2 : g_X4_remember_49_20 M = m2 at *
      refine g_k 2 (pc' := 49) (LI' := [some (.ref 0)]) (LL' := []) (st' := [.ref 19]) (S' := (z_SH, m2, L)) (fun nq hq => And.intro rfl (And.intro rfl hq)) ?_
      refine g_k 1 (pc' := 52) (LI' := [some (.ref 0)]) (LL' := []) (st' := []) (S' := (z_SH, g_X6_endSession_19 m2, L)) (fun nq hq => And.intro rfl (Exists.intro _ (Exists.intro _ (And.intro (c_X6_endSession_19 (d := d + 1) m2  (p2 hc1 hc2)) (And.intro (z_fit_same _ _ _ _ _ _ _ _) hq))))) ?_
      generalize hg3 : g_X6_endSession_19 m2 = m3 at *
      refine g_k 4 (pc' := 62) (LI' := [some (.ref 0)]) (LL' := []) (st' := [.int (m3 20 11)]) (S' := (z_SH, m3, L)) (fun nq hq => And.intro rfl (And.intro rfl (And.intro rfl (And.intro rfl hq)))) ?_
      exact ⟨1, And.intro rfl (⟨(by subst hg3; subst hg2; subst hg1; unfold f_X8_session_0; (first | rw [if_pos hc1] | skip); (first | rw [if_pos hc2] | skip); try rfl), (by subst hg3; subst hg2; subst hg1; unfold g_X8_session_0; (first | rw [if_pos hc1] | skip); (first | rw [if_pos hc2] | skip); try rfl)⟩)⟩
    · refine g_k 1 (pc' := 30) (LI' := [some (.ref 0)]) (LL' := []) (st' := [.int (-1000000004)]) (S' := (z_SH, M, L)) (fun nq hq => And.intro rfl hq) ?_
      exact ⟨1, And.intro rfl (⟨(by subst hg1; unfold f_X8_session_0; (first | rw [if_pos hc1] | skip); (first | rw [if_neg hc2] | skip); try rfl), (by subst hg1; unfold g_X8_session_0; (first | rw [if_pos hc1] | skip); (first | rw [if_neg hc2] | skip); try rfl)⟩)⟩
  · refine g_k 1 (pc' := 12) (LI' := [some (.ref 0)]) (LL' := []) (st' := [.int (-1000000003)]) (S' := (z_SH, M, L)) (fun nq hq => And.intro rfl hq) ?_
    exact ⟨1, And.intro rfl (⟨(by subst hg1; unfold f_X8_session_0; (first | rw [if_neg (not_not_intro hc1)] | skip); try rfl), (by subst hg1; unfold g_X8_session_0; (first | rw [if_neg (not_not_intro hc1)] | skip); try rfl)⟩)⟩
def e_X8_drift_0_62_M (M : Nat → Nat → Int32) (z : Int32) (i : Int32)  : Nat → Nat → Int32 := (g_X8_doByDraws_0 (g_X4_remember_49_20 M))
def qi_X8_drift_0_62 (M : Nat → Nat → Int32) (z : Int32) (i : Int32)  : Prop := (q_X4_remember_49_20 M) ∧ (q_X8_doByDraws_0 (g_X4_remember_49_20 M)) ∧ True
theorem it_X8_drift_0_62 {d : Nat} {L : Nat → Nat → Int64} {Q : Option Value → z_St → Prop} (M : Nat → Nat → Int32) (z : Int32) (i : Int32)  (hc : ¬ (z ≤ i)) (p1 : qi_X8_drift_0_62 M z i) (h : z_G (d + 5) tb_X8_drift 62 [some (.ref 0), some (.int z), some (.int (i + 1))] [] [] (z_SH, e_X8_drift_0_62_M M z i, L) Q) : z_G (d + 5) tb_X8_drift 62 [some (.ref 0), some (.int z), some (.int i)] [] [] (z_SH, M, L) Q := by
  unfold qi_X8_drift_0_62 at p1
  obtain ⟨p1, p2, -⟩ := p1
  refine g_k 3 (pc' := (if z_cmp .ge i z = true then 91 else 67)) (LI' := [some (.ref 0), some (.int z), some (.int i)]) (LL' := []) (st' := []) (S' := (z_SH, M, L)) (fun nq hq => And.intro rfl (And.intro rfl (And.intro rfl hq))) ?_
  refine g_ge (fun hc1 => ?_) (fun hc1 => ?_)
  · exact absurd hc1 hc
  · refine g_k 5 (pc' := 78) (LI' := [some (.ref 0), some (.int z), some (.int i)]) (LL' := []) (st' := [.ref 20, .ref 49]) (S' := (z_SH, M, L)) (fun nq hq => And.intro rfl (And.intro rfl (And.intro rfl (And.intro rfl (And.intro rfl hq))))) ?_
    refine g_k 1 (pc' := 81) (LI' := [some (.ref 0), some (.int z), some (.int i)]) (LL' := []) (st' := []) (S' := (z_SH, g_X4_remember_49_20 M, L)) (fun nq hq => And.intro rfl (Exists.intro _ (Exists.intro _ (And.intro (c_X4_remember_49_20 (d := d + 2) M  p1) (And.intro (z_fit_same _ _ _ _ _ _ _ _) hq))))) ?_
    generalize hg1 : g_X4_remember_49_20 M = m1 at *
    refine g_k 1 (pc' := 82) (LI' := [some (.ref 0), some (.int z), some (.int i)]) (LL' := []) (st' := [.ref 0]) (S' := (z_SH, m1, L)) (fun nq hq => And.intro rfl hq) ?_
    refine g_k 1 (pc' := 85) (LI' := [some (.ref 0), some (.int z), some (.int i)]) (LL' := []) (st' := []) (S' := (z_SH, g_X8_doByDraws_0 m1, L)) (fun nq hq => And.intro rfl (Exists.intro _ (Exists.intro _ (And.intro (c_X8_doByDraws_0 (d := d) m1  p2) (And.intro (z_fit_same _ _ _ _ _ _ _ _) hq))))) ?_
    generalize hg2 : g_X8_doByDraws_0 m1 = m2 at *
    refine g_k 2 (pc' := 62) (LI' := [some (.ref 0), some (.int z), some (.int (i + 1))]) (LL' := []) (st' := []) (S' := (z_SH, m2, L)) (fun nq hq => And.intro rfl (And.intro rfl hq)) ?_
    (subst hg2; subst hg1; unfold e_X8_drift_0_62_M at h; exact h )
def s_X8_drift_0_62 (M : Nat → Nat → Int32) (z : Int32)  (n : Nat) : (Nat → Nat → Int32) := Nat.rec (motive := fun _ => (Nat → Nat → Int32)) (M) (fun k r => (e_X8_drift_0_62_M r z (nI k))) n
theorem l_X8_drift_0_62 {d : Nat} {L : Nat → Nat → Int64} {Q : Option Value → z_St → Prop} (M : Nat → Nat → Int32) (z : Int32)  (n : Nat) : (∀ k, k < n → ¬ (z ≤ (nI k))) → (∀ k, k < n → qi_X8_drift_0_62 ((s_X8_drift_0_62 M z k)) z (nI k)) → (z_G (d + 5) tb_X8_drift 62 [some (.ref 0), some (.int z), some (.int (nI n))] [] [] (z_SH, (s_X8_drift_0_62 M z n), L) Q) → z_G (d + 5) tb_X8_drift 62 [some (.ref 0), some (.int z), some (.int (nI 0))] [] [] (z_SH, M, L) Q := by
  induction n with
  | zero =>
    intro hc p1 h
    exact h
  | succ n ih =>
    intro hc p1 h
    refine ih (fun k hk => hc k (by omega)) (fun k hk => p1 k (by omega)) ?_
    have hcn := hc n (by omega)
    have p1n := p1 n (by omega)
    clear ih hc p1
    have hs : s_X8_drift_0_62 M z (n + 1) = (e_X8_drift_0_62_M ((s_X8_drift_0_62 M z n)) z (nI n)) := rfl
    rw [hs] at h
    clear hs
    generalize s_X8_drift_0_62 M z n = sg at *
    refine it_X8_drift_0_62 sg z (nI n)  hcn p1n ?_
    rw [nI_1]
    exact h
def f_X8_drift_0 (M : Nat → Nat → Int32) (z : Int32) : Int32 := if z < (1 : Int32) then (-1000000002 : Int32) else if z ≤ (20 : Int32) then if ¬ (f_X2_stands_15 M) = (0 : Int32) then if (90000 : Int32) ≤ M 20 8 then (-1000000004 : Int32) else if M 20 11 < (90000 : Int32) then ((s_X8_drift_0_62 M z ((z).toNatClampNeg))) 20 10 else (-1000000004 : Int32) else (-1000000003 : Int32) else (-1000000002 : Int32)
def g_X8_drift_0 (M : Nat → Nat → Int32) (z : Int32) : Nat → Nat → Int32 := if z < (1 : Int32) then M else if z ≤ (20 : Int32) then if ¬ (f_X2_stands_15 M) = (0 : Int32) then if (90000 : Int32) ≤ M 20 8 then M else if M 20 11 < (90000 : Int32) then ((s_X8_drift_0_62 M z ((z).toNatClampNeg))) else M else M else M
def q_X8_drift_0 (M : Nat → Nat → Int32) (z : Int32) : Prop := ((¬ (z < (1 : Int32))) → (z ≤ (20 : Int32)) → (¬ (f_X2_stands_15 M) = (0 : Int32)) → (¬ ((90000 : Int32) ≤ M 20 8)) → (M 20 11 < (90000 : Int32)) → (∀ k111, k111 < (z).toNatClampNeg → qi_X8_drift_0_62 ((s_X8_drift_0_62 M z k111)) z (nI k111))) ∧ True
theorem c_X8_drift_0 {d : Nat} {L : Nat → Nat → Int64} (M : Nat → Nat → Int32) (z : Int32)  (hpre : q_X8_drift_0 M z) : z_C (d + 6) 87 [.ref 0, .int z] (z_SH, M, L) (some (.int (f_X8_drift_0 M z))) (z_SH, g_X8_drift_0 M z, L) := by
  unfold q_X8_drift_0 at hpre
  obtain ⟨p1, -⟩ := hpre
  refine z_mkA (tb := tb_X8_drift) rfl (by decide) rfl rfl rfl ?_
  refine g_k 3 (pc' := (if z_cmp .lt z ((1 : Int32)) = true then 11 else 5)) (LI' := [some (.ref 0), some (.int z), none]) (LL' := []) (st' := []) (S' := (z_SH, M, L)) (fun nq hq => And.intro rfl (And.intro rfl (And.intro rfl hq))) ?_
  refine g_lt (fun hc1 => ?_) (fun hc1 => ?_)
  · refine g_k 1 (pc' := 13) (LI' := [some (.ref 0), some (.int z), none]) (LL' := []) (st' := [.int (-1000000002)]) (S' := (z_SH, M, L)) (fun nq hq => And.intro rfl hq) ?_
    exact ⟨1, And.intro rfl (⟨(by unfold f_X8_drift_0; (first | rw [if_pos hc1] | skip); try rfl), (by unfold g_X8_drift_0; (first | rw [if_pos hc1] | skip); try rfl)⟩)⟩
  · refine g_k 3 (pc' := (if z_cmp .le z ((20 : Int32)) = true then 14 else 11)) (LI' := [some (.ref 0), some (.int z), none]) (LL' := []) (st' := []) (S' := (z_SH, M, L)) (fun nq hq => And.intro rfl (And.intro rfl (And.intro rfl hq))) ?_
    refine g_le (fun hc2 => ?_) (fun hc2 => ?_)
    · refine g_k 2 (pc' := 18) (LI' := [some (.ref 0), some (.int z), none]) (LL' := []) (st' := [.ref 15]) (S' := (z_SH, M, L)) (fun nq hq => And.intro rfl (And.intro rfl hq)) ?_
      refine g_k 1 (pc' := 21) (LI' := [some (.ref 0), some (.int z), none]) (LL' := []) (st' := [.int (f_X2_stands_15 M)]) (S' := (z_SH, M, L)) (fun nq hq => And.intro rfl (Exists.intro _ (Exists.intro _ (And.intro (c_X2_stands_15 (d := d + 4) M) (And.intro (z_fit_same _ _ _ _ _ _ _ _) hq))))) ?_
      generalize hg1 : f_X2_stands_15 M = r1 at *
      refine g_k 1 (pc' := (if z_cmp .ne r1 ((0 : Int32)) = true then 27 else 24)) (LI' := [some (.ref 0), some (.int z), none]) (LL' := []) (st' := []) (S' := (z_SH, M, L)) (fun nq hq => And.intro rfl hq) ?_
      refine g_ne (fun hc3 => ?_) (fun hc3 => ?_)
      · refine g_k 6 (pc' := (if z_cmp .ge (M 20 8) ((90000 : Int32)) = true then 57 else 42)) (LI' := [some (.ref 0), some (.int z), none]) (LL' := []) (st' := []) (S' := (z_SH, M, L)) (fun nq hq => And.intro rfl (And.intro rfl (And.intro rfl (And.intro rfl (And.intro rfl (And.intro rfl hq)))))) ?_
        refine g_ge (fun hc4 => ?_) (fun hc4 => ?_)
        · refine g_k 1 (pc' := 59) (LI' := [some (.ref 0), some (.int z), none]) (LL' := []) (st' := [.int (-1000000004)]) (S' := (z_SH, M, L)) (fun nq hq => And.intro rfl hq) ?_
          exact ⟨1, And.intro rfl (⟨(by subst hg1; unfold f_X8_drift_0; (first | rw [if_neg hc1] | skip); (first | rw [if_pos hc2] | skip); (first | rw [if_pos hc3] | skip); (first | rw [if_pos hc4] | skip); try rfl), (by subst hg1; unfold g_X8_drift_0; (first | rw [if_neg hc1] | skip); (first | rw [if_pos hc2] | skip); (first | rw [if_pos hc3] | skip); (first | rw [if_pos hc4] | skip); try rfl)⟩)⟩
        · refine g_k 6 (pc' := (if z_cmp .lt (M 20 11) ((90000 : Int32)) = true then 60 else 57)) (LI' := [some (.ref 0), some (.int z), none]) (LL' := []) (st' := []) (S' := (z_SH, M, L)) (fun nq hq => And.intro rfl (And.intro rfl (And.intro rfl (And.intro rfl (And.intro rfl (And.intro rfl hq)))))) ?_
          refine g_lt (fun hc5 => ?_) (fun hc5 => ?_)
          · refine g_k 2 (pc' := 62) (LI' := [some (.ref 0), some (.int z), some (.int 0)]) (LL' := []) (st' := []) (S' := (z_SH, M, L)) (fun nq hq => And.intro rfl (And.intro rfl hq)) ?_
            refine l_X8_drift_0_62 (d := d) M z ((z).toNatClampNeg) (fun k hk => z_lpc hk) (p1 hc1 hc2 hc3 hc4 hc5) ?_ 
            have hx1 : z ≤ nI ((z).toNatClampNeg) := z_lpe
            generalize hg2 : nI ((z).toNatClampNeg) = r2 at *
            generalize hg3 : (s_X8_drift_0_62 M z ((z).toNatClampNeg)) = m3 at *
            refine g_k 3 (pc' := (if z_cmp .ge r2 z = true then 91 else 67)) (LI' := [some (.ref 0), some (.int z), some (.int r2)]) (LL' := []) (st' := []) (S' := (z_SH, m3, L)) (fun nq hq => And.intro rfl (And.intro rfl (And.intro rfl hq))) ?_
            refine g_ge (fun hc6 => ?_) (fun hc6 => absurd (hx1) hc6)
            refine g_k 4 (pc' := 101) (LI' := [some (.ref 0), some (.int z), some (.int r2)]) (LL' := []) (st' := [.int (m3 20 10)]) (S' := (z_SH, m3, L)) (fun nq hq => And.intro rfl (And.intro rfl (And.intro rfl (And.intro rfl hq)))) ?_
            exact ⟨1, And.intro rfl (⟨(by subst hg3; subst hg2; subst hg1; unfold f_X8_drift_0; (first | rw [if_neg hc1] | skip); (first | rw [if_pos hc2] | skip); (first | rw [if_pos hc3] | skip); (first | rw [if_neg hc4] | skip); (first | rw [if_pos hc5] | skip); try rfl), (by subst hg3; subst hg2; subst hg1; unfold g_X8_drift_0; (first | rw [if_neg hc1] | skip); (first | rw [if_pos hc2] | skip); (first | rw [if_pos hc3] | skip); (first | rw [if_neg hc4] | skip); (first | rw [if_pos hc5] | skip); try rfl)⟩)⟩
          · refine g_k 1 (pc' := 59) (LI' := [some (.ref 0), some (.int z), none]) (LL' := []) (st' := [.int (-1000000004)]) (S' := (z_SH, M, L)) (fun nq hq => And.intro rfl hq) ?_
            exact ⟨1, And.intro rfl (⟨(by subst hg1; unfold f_X8_drift_0; (first | rw [if_neg hc1] | skip); (first | rw [if_pos hc2] | skip); (first | rw [if_pos hc3] | skip); (first | rw [if_neg hc4] | skip); (first | rw [if_neg hc5] | skip); try rfl), (by subst hg1; unfold g_X8_drift_0; (first | rw [if_neg hc1] | skip); (first | rw [if_pos hc2] | skip); (first | rw [if_pos hc3] | skip); (first | rw [if_neg hc4] | skip); (first | rw [if_neg hc5] | skip); try rfl)⟩)⟩
      · refine g_k 1 (pc' := 26) (LI' := [some (.ref 0), some (.int z), none]) (LL' := []) (st' := [.int (-1000000003)]) (S' := (z_SH, M, L)) (fun nq hq => And.intro rfl hq) ?_
        exact ⟨1, And.intro rfl (⟨(by subst hg1; unfold f_X8_drift_0; (first | rw [if_neg hc1] | skip); (first | rw [if_pos hc2] | skip); (first | rw [if_neg (not_not_intro hc3)] | skip); try rfl), (by subst hg1; unfold g_X8_drift_0; (first | rw [if_neg hc1] | skip); (first | rw [if_pos hc2] | skip); (first | rw [if_neg (not_not_intro hc3)] | skip); try rfl)⟩)⟩
    · refine g_k 1 (pc' := 13) (LI' := [some (.ref 0), some (.int z), none]) (LL' := []) (st' := [.int (-1000000002)]) (S' := (z_SH, M, L)) (fun nq hq => And.intro rfl hq) ?_
      exact ⟨1, And.intro rfl (⟨(by unfold f_X8_drift_0; (first | rw [if_neg hc1] | skip); (first | rw [if_neg hc2] | skip); try rfl), (by unfold g_X8_drift_0; (first | rw [if_neg hc1] | skip); (first | rw [if_neg hc2] | skip); try rfl)⟩)⟩
def f_X8_undo_0 (M : Nat → Nat → Int32) (z : Int32) : Int32 := if z < (1 : Int32) then (-1000000002 : Int32) else if z ≤ (24 : Int32) then if z ≤ M 49 2 then (g_X4_recall_49_20 M z) 20 8 else (-1000000003 : Int32) else (-1000000002 : Int32)
def g_X8_undo_0 (M : Nat → Nat → Int32) (z : Int32) : Nat → Nat → Int32 := if z < (1 : Int32) then M else if z ≤ (24 : Int32) then if z ≤ M 49 2 then (g_X4_recall_49_20 M z) else M else M
def q_X8_undo_0 (M : Nat → Nat → Int32) (z : Int32) : Prop := ((¬ (z < (1 : Int32))) → (z ≤ (24 : Int32)) → (z ≤ M 49 2) → (q_X4_recall_49_20 M z)) ∧ True
theorem c_X8_undo_0 {d : Nat} {L : Nat → Nat → Int64} (M : Nat → Nat → Int32) (z : Int32)  (hpre : q_X8_undo_0 M z) : z_C (d + 4) 88 [.ref 0, .int z] (z_SH, M, L) (some (.int (f_X8_undo_0 M z))) (z_SH, g_X8_undo_0 M z, L) := by
  unfold q_X8_undo_0 at hpre
  obtain ⟨p1, -⟩ := hpre
  refine z_mkA (tb := tb_X8_undo) rfl (by decide) rfl rfl rfl ?_
  refine g_k 3 (pc' := (if z_cmp .lt z ((1 : Int32)) = true then 11 else 5)) (LI' := [some (.ref 0), some (.int z)]) (LL' := []) (st' := []) (S' := (z_SH, M, L)) (fun nq hq => And.intro rfl (And.intro rfl (And.intro rfl hq))) ?_
  refine g_lt (fun hc1 => ?_) (fun hc1 => ?_)
  · refine g_k 1 (pc' := 13) (LI' := [some (.ref 0), some (.int z)]) (LL' := []) (st' := [.int (-1000000002)]) (S' := (z_SH, M, L)) (fun nq hq => And.intro rfl hq) ?_
    exact ⟨1, And.intro rfl (⟨(by unfold f_X8_undo_0; (first | rw [if_pos hc1] | skip); try rfl), (by unfold g_X8_undo_0; (first | rw [if_pos hc1] | skip); try rfl)⟩)⟩
  · refine g_k 3 (pc' := (if z_cmp .le z ((24 : Int32)) = true then 14 else 11)) (LI' := [some (.ref 0), some (.int z)]) (LL' := []) (st' := []) (S' := (z_SH, M, L)) (fun nq hq => And.intro rfl (And.intro rfl (And.intro rfl hq))) ?_
    refine g_le (fun hc2 => ?_) (fun hc2 => ?_)
    · refine g_k 5 (pc' := (if z_cmp .le z (M 49 2) = true then 28 else 25)) (LI' := [some (.ref 0), some (.int z)]) (LL' := []) (st' := []) (S' := (z_SH, M, L)) (fun nq hq => And.intro rfl (And.intro rfl (And.intro rfl (And.intro rfl (And.intro rfl hq))))) ?_
      refine g_le (fun hc3 => ?_) (fun hc3 => ?_)
      · refine g_k 6 (pc' := 40) (LI' := [some (.ref 0), some (.int z)]) (LL' := []) (st' := [.ref 20, .int z, .ref 49]) (S' := (z_SH, M, L)) (fun nq hq => And.intro rfl (And.intro rfl (And.intro rfl (And.intro rfl (And.intro rfl (And.intro rfl hq)))))) ?_
        refine g_k 1 (pc' := 43) (LI' := [some (.ref 0), some (.int z)]) (LL' := []) (st' := []) (S' := (z_SH, g_X4_recall_49_20 M z, L)) (fun nq hq => And.intro rfl (Exists.intro _ (Exists.intro _ (And.intro (c_X4_recall_49_20 (d := d) M z (p1 hc1 hc2 hc3)) (And.intro (z_fit_same _ _ _ _ _ _ _ _) hq))))) ?_
        generalize hg1 : g_X4_recall_49_20 M z = m1 at *
        refine g_k 4 (pc' := 53) (LI' := [some (.ref 0), some (.int z)]) (LL' := []) (st' := [.int (m1 20 8)]) (S' := (z_SH, m1, L)) (fun nq hq => And.intro rfl (And.intro rfl (And.intro rfl (And.intro rfl hq)))) ?_
        exact ⟨1, And.intro rfl (⟨(by subst hg1; unfold f_X8_undo_0; (first | rw [if_neg hc1] | skip); (first | rw [if_pos hc2] | skip); (first | rw [if_pos hc3] | skip); try rfl), (by subst hg1; unfold g_X8_undo_0; (first | rw [if_neg hc1] | skip); (first | rw [if_pos hc2] | skip); (first | rw [if_pos hc3] | skip); try rfl)⟩)⟩
      · refine g_k 1 (pc' := 27) (LI' := [some (.ref 0), some (.int z)]) (LL' := []) (st' := [.int (-1000000003)]) (S' := (z_SH, M, L)) (fun nq hq => And.intro rfl hq) ?_
        exact ⟨1, And.intro rfl (⟨(by unfold f_X8_undo_0; (first | rw [if_neg hc1] | skip); (first | rw [if_pos hc2] | skip); (first | rw [if_neg hc3] | skip); try rfl), (by unfold g_X8_undo_0; (first | rw [if_neg hc1] | skip); (first | rw [if_pos hc2] | skip); (first | rw [if_neg hc3] | skip); try rfl)⟩)⟩
    · refine g_k 1 (pc' := 13) (LI' := [some (.ref 0), some (.int z)]) (LL' := []) (st' := [.int (-1000000002)]) (S' := (z_SH, M, L)) (fun nq hq => And.intro rfl hq) ?_
      exact ⟨1, And.intro rfl (⟨(by unfold f_X8_undo_0; (first | rw [if_neg hc1] | skip); (first | rw [if_neg hc2] | skip); try rfl), (by unfold g_X8_undo_0; (first | rw [if_neg hc1] | skip); (first | rw [if_neg hc2] | skip); try rfl)⟩)⟩
