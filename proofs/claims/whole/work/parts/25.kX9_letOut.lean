def f_X9_letOut_274 (M : Nat → Nat → Int32) (s : Int32) : Int32 := if ¬ (f_X9_isStrap_274 M s) = (0 : Int32) then if ¬ (f_X9_holds_279 M s) = (0 : Int32) then (g_X9_lets_279 (g_X9_notes_274 M) s) 279 ((((47 : Int32)) + s).toNatClampNeg) else (-1000000003 : Int32) else (-1000000001 : Int32)
def g_X9_letOut_274 (M : Nat → Nat → Int32) (s : Int32) : Nat → Nat → Int32 := if ¬ (f_X9_isStrap_274 M s) = (0 : Int32) then if ¬ (f_X9_holds_279 M s) = (0 : Int32) then (g_X9_lets_279 (g_X9_notes_274 M) s) else M else M
theorem fr_g_X9_letOut_274 (M : Nat → Nat → Int32) (s : Int32) (c : Nat) (h274 : c ≠ 274) (h279 : c ≠ 279) (h281 : c ≠ 281) : g_X9_letOut_274 M s c = M c := by
  unfold g_X9_letOut_274
  repeat' split
  all_goals simp only [z_row_ne h274, z_row_ne h279, z_row_ne h281, fr_g_X9_lets_279 (c := c) (h279 := h279), fr_g_X9_notes_274 (c := c) (h274 := h274) (h281 := h281)]
def q_X9_letOut_274 (M : Nat → Nat → Int32) (s : Int32) : Prop := ((¬ (f_X9_isStrap_274 M s) = (0 : Int32)) → (q_X9_holds_279 M s)) ∧ ((¬ (f_X9_isStrap_274 M s) = (0 : Int32)) → (¬ (f_X9_holds_279 M s) = (0 : Int32)) → (q_X9_notes_274 M)) ∧ ((¬ (f_X9_isStrap_274 M s) = (0 : Int32)) → (¬ (f_X9_holds_279 M s) = (0 : Int32)) → (q_X9_lets_279 (g_X9_notes_274 M) s)) ∧ ((¬ (f_X9_isStrap_274 M s) = (0 : Int32)) → (¬ (f_X9_holds_279 M s) = (0 : Int32)) → (z_vin (((47 : Int32)) + s) 83 = true)) ∧ True
theorem c_X9_letOut_274 {d : Nat} {L : Nat → Nat → Int64} (M : Nat → Nat → Int32) (s : Int32)  (hpre : q_X9_letOut_274 M s) : z_C (d + 3) 152 [.ref 274, .int s] (z_SH, M, L) (some (.int (f_X9_letOut_274 M s))) (z_SH, g_X9_letOut_274 M s, L) := by
  unfold q_X9_letOut_274 at hpre
  obtain ⟨p1, p2, p3, p4, -⟩ := hpre
  refine z_mkA (tb := tb_X9_letOut) rfl (by decide) rfl rfl rfl ?_
  refine g_k 2 (pc' := 2) (LI' := [some (.ref 274), some (.int s)]) (LL' := []) (st' := [.int s, .ref 274]) (S' := (z_SH, M, L)) (fun nq hq => And.intro rfl (And.intro rfl hq)) ?_
  refine g_k 1 (pc' := 5) (LI' := [some (.ref 274), some (.int s)]) (LL' := []) (st' := [.int (f_X9_isStrap_274 M s)]) (S' := (z_SH, M, L)) (fun nq hq => And.intro rfl (Exists.intro _ (Exists.intro _ (And.intro (c_X9_isStrap_274 (d := d) M s) (And.intro (z_fit_same _ _ _ _ _ _ _ _) hq))))) ?_
  generalize hg1 : f_X9_isStrap_274 M s = r1 at *
  refine g_k 1 (pc' := (if z_cmp .ne r1 ((0 : Int32)) = true then 11 else 8)) (LI' := [some (.ref 274), some (.int s)]) (LL' := []) (st' := []) (S' := (z_SH, M, L)) (fun nq hq => And.intro rfl hq) ?_
  refine g_ne (fun hc1 => ?_) (fun hc1 => ?_)
  · refine g_k 3 (pc' := 16) (LI' := [some (.ref 274), some (.int s)]) (LL' := []) (st' := [.int s, .ref 279]) (S' := (z_SH, M, L)) (fun nq hq => And.intro rfl (And.intro rfl (And.intro rfl hq))) ?_
    refine g_k 1 (pc' := 19) (LI' := [some (.ref 274), some (.int s)]) (LL' := []) (st' := [.int (f_X9_holds_279 M s)]) (S' := (z_SH, M, L)) (fun nq hq => And.intro rfl (Exists.intro _ (Exists.intro _ (And.intro (c_X9_holds_279 (d := d + 1) M s (p1 hc1)) (And.intro (z_fit_same _ _ _ _ _ _ _ _) hq))))) ?_
    generalize hg2 : f_X9_holds_279 M s = r2 at *
    refine g_k 1 (pc' := (if z_cmp .ne r2 ((0 : Int32)) = true then 25 else 22)) (LI' := [some (.ref 274), some (.int s)]) (LL' := []) (st' := []) (S' := (z_SH, M, L)) (fun nq hq => And.intro rfl hq) ?_
    refine g_ne (fun hc2 => ?_) (fun hc2 => ?_)
    · refine g_k 1 (pc' := 26) (LI' := [some (.ref 274), some (.int s)]) (LL' := []) (st' := [.ref 274]) (S' := (z_SH, M, L)) (fun nq hq => And.intro rfl hq) ?_
      refine g_k 1 (pc' := 29) (LI' := [some (.ref 274), some (.int s)]) (LL' := []) (st' := []) (S' := (z_SH, g_X9_notes_274 M, L)) (fun nq hq => And.intro rfl (Exists.intro _ (Exists.intro _ (And.intro (c_X9_notes_274 (d := d) M  (p2 hc1 hc2)) (And.intro (z_fit_same _ _ _ _ _ _ _ _) hq))))) ?_
      generalize hg3 : g_X9_notes_274 M = m3 at *
      refine g_k 3 (pc' := 34) (LI' := [some (.ref 274), some (.int s)]) (LL' := []) (st' := [.int s, .ref 279]) (S' := (z_SH, m3, L)) (fun nq hq => And.intro rfl (And.intro rfl (And.intro rfl hq))) ?_
      refine g_k 1 (pc' := 37) (LI' := [some (.ref 274), some (.int s)]) (LL' := []) (st' := []) (S' := (z_SH, g_X9_lets_279 m3 s, L)) (fun nq hq => And.intro rfl (Exists.intro _ (Exists.intro _ (And.intro (c_X9_lets_279 (d := d + 1) m3 s (p3 hc1 hc2)) (And.intro (z_fit_same _ _ _ _ _ _ _ _) hq))))) ?_
      generalize hg4 : g_X9_lets_279 m3 s = m4 at *
      refine g_k 6 (pc' := 46) (LI' := [some (.ref 274), some (.int s)]) (LL' := []) (st' := [.int (m4 279 ((((47 : Int32)) + s).toNatClampNeg))]) (S' := (z_SH, m4, L)) (fun nq hq => And.intro rfl (And.intro rfl (And.intro rfl (And.intro rfl (And.intro rfl (And.intro (p4 hc1 hc2) hq)))))) ?_
      exact ⟨1, And.intro rfl (⟨(by subst hg4; subst hg3; subst hg2; subst hg1; unfold f_X9_letOut_274; (first | rw [if_pos hc1] | skip); (first | rw [if_pos hc2] | skip); try rfl), (by subst hg4; subst hg3; subst hg2; subst hg1; unfold g_X9_letOut_274; (first | rw [if_pos hc1] | skip); (first | rw [if_pos hc2] | skip); try rfl)⟩)⟩
    · refine g_k 1 (pc' := 24) (LI' := [some (.ref 274), some (.int s)]) (LL' := []) (st' := [.int (-1000000003)]) (S' := (z_SH, M, L)) (fun nq hq => And.intro rfl hq) ?_
      exact ⟨1, And.intro rfl (⟨(by subst hg2; subst hg1; unfold f_X9_letOut_274; (first | rw [if_pos hc1] | skip); (first | rw [if_neg (not_not_intro hc2)] | skip); try rfl), (by subst hg2; subst hg1; unfold g_X9_letOut_274; (first | rw [if_pos hc1] | skip); (first | rw [if_neg (not_not_intro hc2)] | skip); try rfl)⟩)⟩
  · refine g_k 1 (pc' := 10) (LI' := [some (.ref 274), some (.int s)]) (LL' := []) (st' := [.int (-1000000001)]) (S' := (z_SH, M, L)) (fun nq hq => And.intro rfl hq) ?_
    exact ⟨1, And.intro rfl (⟨(by subst hg1; unfold f_X9_letOut_274; (first | rw [if_neg (not_not_intro hc1)] | skip); try rfl), (by subst hg1; unfold g_X9_letOut_274; (first | rw [if_neg (not_not_intro hc1)] | skip); try rfl)⟩)⟩
