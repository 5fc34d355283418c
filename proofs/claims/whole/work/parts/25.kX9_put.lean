def f_X9_put_274 (M : Nat → Nat → Int32) (t : Int32) : Int32 := if ¬ (f_X9_isMatter M t) = (0 : Int32) then if ¬ M 274 3 = (0 : Int32) then if M 279 0 < (90000 : Int32) then if (f_X9_puts_274_279 (g_X9_notes_274 M) t) = (0 : Int32) then (0 : Int32) else (1 : Int32) else (-1000000004 : Int32) else (-1000000003 : Int32) else (-1000000002 : Int32)
def g_X9_put_274 (M : Nat → Nat → Int32) (t : Int32) : Nat → Nat → Int32 := if ¬ (f_X9_isMatter M t) = (0 : Int32) then if ¬ M 274 3 = (0 : Int32) then if M 279 0 < (90000 : Int32) then (g_X9_puts_274_279 (g_X9_notes_274 M) t) else M else M else M
theorem fr_g_X9_put_274 (M : Nat → Nat → Int32) (t : Int32) (c : Nat) (h274 : c ≠ 274) (h279 : c ≠ 279) (h281 : c ≠ 281) (h291 : c ≠ 291) : g_X9_put_274 M t c = M c := by
  unfold g_X9_put_274
  repeat' split
  all_goals simp only [z_row_ne h274, z_row_ne h279, z_row_ne h281, z_row_ne h291, fr_g_X9_notes_274 (c := c) (h274 := h274) (h281 := h281), fr_g_X9_puts_274_279 (c := c) (h279 := h279) (h291 := h291)]
def q_X9_put_274 (M : Nat → Nat → Int32) (t : Int32) : Prop := ((¬ (f_X9_isMatter M t) = (0 : Int32)) → (¬ M 274 3 = (0 : Int32)) → (M 279 0 < (90000 : Int32)) → (q_X9_notes_274 M)) ∧ ((¬ (f_X9_isMatter M t) = (0 : Int32)) → (¬ M 274 3 = (0 : Int32)) → (M 279 0 < (90000 : Int32)) → (q_X9_puts_274_279 (g_X9_notes_274 M) t)) ∧ True
theorem c_X9_put_274 {d : Nat} {L : Nat → Nat → Int64} (M : Nat → Nat → Int32) (t : Int32)  (hpre : q_X9_put_274 M t) : z_C (d + 8) 151 [.ref 274, .int t] (z_SH, M, L) (some (.int (f_X9_put_274 M t))) (z_SH, g_X9_put_274 M t, L) := by
  unfold q_X9_put_274 at hpre
  obtain ⟨p1, p2, -⟩ := hpre
  refine z_mkA (tb := tb_X9_put) rfl (by decide) rfl rfl rfl ?_
  refine g_k 1 (pc' := 1) (LI' := [some (.ref 274), some (.int t)]) (LL' := []) (st' := [.int t]) (S' := (z_SH, M, L)) (fun nq hq => And.intro rfl hq) ?_
  refine g_k 1 (pc' := 4) (LI' := [some (.ref 274), some (.int t)]) (LL' := []) (st' := [.int (f_X9_isMatter M t)]) (S' := (z_SH, M, L)) (fun nq hq => And.intro rfl (Exists.intro _ (Exists.intro _ (And.intro (c_X9_isMatter (d := d + 5) M t) (And.intro (z_fit_same _ _ _ _ _ _ _ _) hq))))) ?_
  generalize hg1 : f_X9_isMatter M t = r1 at *
  refine g_k 1 (pc' := (if z_cmp .ne r1 ((0 : Int32)) = true then 10 else 7)) (LI' := [some (.ref 274), some (.int t)]) (LL' := []) (st' := []) (S' := (z_SH, M, L)) (fun nq hq => And.intro rfl hq) ?_
  refine g_ne (fun hc1 => ?_) (fun hc1 => ?_)
  · refine g_k 3 (pc' := (if z_cmp .ne (M 274 3) ((0 : Int32)) = true then 20 else 17)) (LI' := [some (.ref 274), some (.int t)]) (LL' := []) (st' := []) (S' := (z_SH, M, L)) (fun nq hq => And.intro rfl (And.intro rfl (And.intro rfl hq))) ?_
    refine g_ne (fun hc2 => ?_) (fun hc2 => ?_)
    · refine g_k 6 (pc' := (if z_cmp .lt (M 279 0) ((90000 : Int32)) = true then 34 else 31)) (LI' := [some (.ref 274), some (.int t)]) (LL' := []) (st' := []) (S' := (z_SH, M, L)) (fun nq hq => And.intro rfl (And.intro rfl (And.intro rfl (And.intro rfl (And.intro rfl (And.intro rfl hq)))))) ?_
      refine g_lt (fun hc3 => ?_) (fun hc3 => ?_)
      · refine g_k 1 (pc' := 35) (LI' := [some (.ref 274), some (.int t)]) (LL' := []) (st' := [.ref 274]) (S' := (z_SH, M, L)) (fun nq hq => And.intro rfl hq) ?_
        refine g_k 1 (pc' := 38) (LI' := [some (.ref 274), some (.int t)]) (LL' := []) (st' := []) (S' := (z_SH, g_X9_notes_274 M, L)) (fun nq hq => And.intro rfl (Exists.intro _ (Exists.intro _ (And.intro (c_X9_notes_274 (d := d + 5) M  (p1 hc1 hc2 hc3)) (And.intro (z_fit_same _ _ _ _ _ _ _ _) hq))))) ?_
        generalize hg2 : g_X9_notes_274 M = m2 at *
        refine g_k 4 (pc' := 44) (LI' := [some (.ref 274), some (.int t)]) (LL' := []) (st' := [.int t, .ref 279, .ref 274]) (S' := (z_SH, m2, L)) (fun nq hq => And.intro rfl (And.intro rfl (And.intro rfl (And.intro rfl hq)))) ?_
        refine g_k 1 (pc' := 47) (LI' := [some (.ref 274), some (.int t)]) (LL' := []) (st' := [.int (f_X9_puts_274_279 m2 t)]) (S' := (z_SH, g_X9_puts_274_279 m2 t, L)) (fun nq hq => And.intro rfl (Exists.intro _ (Exists.intro _ (And.intro (c_X9_puts_274_279 (d := d) m2 t (p2 hc1 hc2 hc3)) (And.intro (z_fit_same _ _ _ _ _ _ _ _) hq))))) ?_
        generalize hg3 : f_X9_puts_274_279 m2 t = r3 at *
        generalize hg4 : g_X9_puts_274_279 m2 t = m4 at *
        refine g_k 1 (pc' := (if z_cmp .eq r3 ((0 : Int32)) = true then 54 else 50)) (LI' := [some (.ref 274), some (.int t)]) (LL' := []) (st' := []) (S' := (z_SH, m4, L)) (fun nq hq => And.intro rfl hq) ?_
        refine g_eq (fun hc4 => ?_) (fun hc4 => ?_)
        · refine g_k 1 (pc' := 55) (LI' := [some (.ref 274), some (.int t)]) (LL' := []) (st' := [.int 0]) (S' := (z_SH, m4, L)) (fun nq hq => And.intro rfl hq) ?_
          exact ⟨1, And.intro rfl (⟨(by subst hg4; subst hg3; subst hg2; subst hg1; unfold f_X9_put_274; (first | rw [if_pos hc1] | skip); (first | rw [if_pos hc2] | skip); (first | rw [if_pos hc3] | skip); (first | rw [if_pos hc4] | skip); try rfl), (by subst hg4; subst hg3; subst hg2; subst hg1; unfold g_X9_put_274; (first | rw [if_pos hc1] | skip); (first | rw [if_pos hc2] | skip); (first | rw [if_pos hc3] | skip); (first | rw [if_pos hc4] | skip); try rfl)⟩)⟩
        · refine g_k 2 (pc' := 55) (LI' := [some (.ref 274), some (.int t)]) (LL' := []) (st' := [.int 1]) (S' := (z_SH, m4, L)) (fun nq hq => And.intro rfl (And.intro rfl hq)) ?_
          exact ⟨1, And.intro rfl (⟨(by subst hg4; subst hg3; subst hg2; subst hg1; unfold f_X9_put_274; (first | rw [if_pos hc1] | skip); (first | rw [if_pos hc2] | skip); (first | rw [if_pos hc3] | skip); (first | rw [if_neg hc4] | skip); try rfl), (by subst hg4; subst hg3; subst hg2; subst hg1; unfold g_X9_put_274; (first | rw [if_pos hc1] | skip); (first | rw [if_pos hc2] | skip); (first | rw [if_pos hc3] | skip); (first | rw [if_neg hc4] | skip); try rfl)⟩)⟩
      · refine g_k 1 (pc' := 33) (LI' := [some (.ref 274), some (.int t)]) (LL' := []) (st' := [.int (-1000000004)]) (S' := (z_SH, M, L)) (fun nq hq => And.intro rfl hq) ?_
        exact ⟨1, And.intro rfl (⟨(by subst hg1; unfold f_X9_put_274; (first | rw [if_pos hc1] | skip); (first | rw [if_pos hc2] | skip); (first | rw [if_neg hc3] | skip); try rfl), (by subst hg1; unfold g_X9_put_274; (first | rw [if_pos hc1] | skip); (first | rw [if_pos hc2] | skip); (first | rw [if_neg hc3] | skip); try rfl)⟩)⟩
    · refine g_k 1 (pc' := 19) (LI' := [some (.ref 274), some (.int t)]) (LL' := []) (st' := [.int (-1000000003)]) (S' := (z_SH, M, L)) (fun nq hq => And.intro rfl hq) ?_
      exact ⟨1, And.intro rfl (⟨(by subst hg1; unfold f_X9_put_274; (first | rw [if_pos hc1] | skip); (first | rw [if_neg (not_not_intro hc2)] | skip); try rfl), (by subst hg1; unfold g_X9_put_274; (first | rw [if_pos hc1] | skip); (first | rw [if_neg (not_not_intro hc2)] | skip); try rfl)⟩)⟩
  · refine g_k 1 (pc' := 9) (LI' := [some (.ref 274), some (.int t)]) (LL' := []) (st' := [.int (-1000000002)]) (S' := (z_SH, M, L)) (fun nq hq => And.intro rfl hq) ?_
    exact ⟨1, And.intro rfl (⟨(by subst hg1; unfold f_X9_put_274; (first | rw [if_neg (not_not_intro hc1)] | skip); try rfl), (by subst hg1; unfold g_X9_put_274; (first | rw [if_neg (not_not_intro hc1)] | skip); try rfl)⟩)⟩
