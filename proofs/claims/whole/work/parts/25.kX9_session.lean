def f_X9_session_274 (M : Nat → Nat → Int32)  : Int32 := if ¬ M 274 3 = (0 : Int32) then if M 279 3 < (90000 : Int32) then (g_X9_sessionOn_274_279 (g_X9_notes_274 M)) 279 3 else (-1000000004 : Int32) else (-1000000003 : Int32)
def g_X9_session_274 (M : Nat → Nat → Int32)  : Nat → Nat → Int32 := if ¬ M 274 3 = (0 : Int32) then if M 279 3 < (90000 : Int32) then (g_X9_sessionOn_274_279 (g_X9_notes_274 M)) else M else M
theorem fr_g_X9_session_274 (M : Nat → Nat → Int32)  (c : Nat) (h274 : c ≠ 274) (h279 : c ≠ 279) (h281 : c ≠ 281) : g_X9_session_274 M c = M c := by
  unfold g_X9_session_274
  repeat' split
  all_goals simp only [z_row_ne h274, z_row_ne h279, z_row_ne h281, fr_g_X9_notes_274 (c := c) (h274 := h274) (h281 := h281), fr_g_X9_sessionOn_274_279 (c := c) (h279 := h279)]
def q_X9_session_274 (M : Nat → Nat → Int32)  : Prop := ((¬ M 274 3 = (0 : Int32)) → (M 279 3 < (90000 : Int32)) → (q_X9_notes_274 M)) ∧ ((¬ M 274 3 = (0 : Int32)) → (M 279 3 < (90000 : Int32)) → (q_X9_sessionOn_274_279 (g_X9_notes_274 M))) ∧ True
theorem c_X9_session_274 {d : Nat} {L : Nat → Nat → Int64} (M : Nat → Nat → Int32)   (hpre : q_X9_session_274 M) : z_C (d + 3) 155 [.ref 274] (z_SH, M, L) (some (.int (f_X9_session_274 M))) (z_SH, g_X9_session_274 M, L) := by
  unfold q_X9_session_274 at hpre
  obtain ⟨p1, p2, -⟩ := hpre
  refine z_mkA (tb := tb_X9_session) rfl (by decide) rfl rfl rfl ?_
  refine g_k 3 (pc' := (if z_cmp .ne (M 274 3) ((0 : Int32)) = true then 10 else 7)) (LI' := [some (.ref 274)]) (LL' := []) (st' := []) (S' := (z_SH, M, L)) (fun nq hq => And.intro rfl (And.intro rfl (And.intro rfl hq))) ?_
  refine g_ne (fun hc1 => ?_) (fun hc1 => ?_)
  · refine g_k 6 (pc' := (if z_cmp .lt (M 279 3) ((90000 : Int32)) = true then 24 else 21)) (LI' := [some (.ref 274)]) (LL' := []) (st' := []) (S' := (z_SH, M, L)) (fun nq hq => And.intro rfl (And.intro rfl (And.intro rfl (And.intro rfl (And.intro rfl (And.intro rfl hq)))))) ?_
    refine g_lt (fun hc2 => ?_) (fun hc2 => ?_)
    · refine g_k 1 (pc' := 25) (LI' := [some (.ref 274)]) (LL' := []) (st' := [.ref 274]) (S' := (z_SH, M, L)) (fun nq hq => And.intro rfl hq) ?_
      refine g_k 1 (pc' := 28) (LI' := [some (.ref 274)]) (LL' := []) (st' := []) (S' := (z_SH, g_X9_notes_274 M, L)) (fun nq hq => And.intro rfl (Exists.intro _ (Exists.intro _ (And.intro (c_X9_notes_274 (d := d) M  (p1 hc1 hc2)) (And.intro (z_fit_same _ _ _ _ _ _ _ _) hq))))) ?_
      generalize hg1 : g_X9_notes_274 M = m1 at *
      refine g_k 3 (pc' := 33) (LI' := [some (.ref 274)]) (LL' := []) (st' := [.ref 279, .ref 274]) (S' := (z_SH, m1, L)) (fun nq hq => And.intro rfl (And.intro rfl (And.intro rfl hq))) ?_
      refine g_k 1 (pc' := 36) (LI' := [some (.ref 274)]) (LL' := []) (st' := []) (S' := (z_SH, g_X9_sessionOn_274_279 m1, L)) (fun nq hq => And.intro rfl (Exists.intro _ (Exists.intro _ (And.intro (c_X9_sessionOn_274_279 (d := d + 1) m1  (p2 hc1 hc2)) (And.intro (z_fit_same _ _ _ _ _ _ _ _) hq))))) ?_
      generalize hg2 : g_X9_sessionOn_274_279 m1 = m2 at *
      refine g_k 4 (pc' := 42) (LI' := [some (.ref 274)]) (LL' := []) (st' := [.int (m2 279 3)]) (S' := (z_SH, m2, L)) (fun nq hq => And.intro rfl (And.intro rfl (And.intro rfl (And.intro rfl hq)))) ?_
      exact ⟨1, And.intro rfl (⟨(by subst hg2; subst hg1; unfold f_X9_session_274; (first | rw [if_pos hc1] | skip); (first | rw [if_pos hc2] | skip); try rfl), (by subst hg2; subst hg1; unfold g_X9_session_274; (first | rw [if_pos hc1] | skip); (first | rw [if_pos hc2] | skip); try rfl)⟩)⟩
    · refine g_k 1 (pc' := 23) (LI' := [some (.ref 274)]) (LL' := []) (st' := [.int (-1000000004)]) (S' := (z_SH, M, L)) (fun nq hq => And.intro rfl hq) ?_
      exact ⟨1, And.intro rfl (⟨(by unfold f_X9_session_274; (first | rw [if_pos hc1] | skip); (first | rw [if_neg hc2] | skip); try rfl), (by unfold g_X9_session_274; (first | rw [if_pos hc1] | skip); (first | rw [if_neg hc2] | skip); try rfl)⟩)⟩
  · refine g_k 1 (pc' := 9) (LI' := [some (.ref 274)]) (LL' := []) (st' := [.int (-1000000003)]) (S' := (z_SH, M, L)) (fun nq hq => And.intro rfl hq) ?_
    exact ⟨1, And.intro rfl (⟨(by unfold f_X9_session_274; (first | rw [if_neg (not_not_intro hc1)] | skip); try rfl), (by unfold g_X9_session_274; (first | rw [if_neg (not_not_intro hc1)] | skip); try rfl)⟩)⟩
