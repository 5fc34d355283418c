def f_X9_goes_274 (M : Nat → Nat → Int32) (m : Int32) (t : Int32) (w : Int32) : Int32 := if ¬ (f_X9_isMember_274 M m) = (0 : Int32) then if (f_X9_isMatter M t) = (0 : Int32) then (-1000000002 : Int32) else if ¬ (f_X9_in M w ((0 : Int32)) ((1 : Int32))) = (0 : Int32) then if ¬ w = (0 : Int32) then (f_X9_pullOf_279 M m t) + ((1000 : Int32)) else (f_X9_goesOf_274_279 M m t) else (-1000000002 : Int32) else (-1000000001 : Int32)
def q_X9_goes_274 (M : Nat → Nat → Int32) (m : Int32) (t : Int32) (w : Int32) : Prop := ((¬ (f_X9_isMember_274 M m) = (0 : Int32)) → (¬ ((f_X9_isMatter M t) = (0 : Int32))) → (¬ (f_X9_in M w ((0 : Int32)) ((1 : Int32))) = (0 : Int32)) → (¬ w = (0 : Int32)) → (q_X9_pullOf_279 M m t)) ∧ ((¬ (f_X9_isMember_274 M m) = (0 : Int32)) → (¬ ((f_X9_isMatter M t) = (0 : Int32))) → (¬ (f_X9_in M w ((0 : Int32)) ((1 : Int32))) = (0 : Int32)) → (w = (0 : Int32)) → (q_X9_goesOf_274_279 M m t)) ∧ True
theorem c_X9_goes_274 {d : Nat} {L : Nat → Nat → Int64} (M : Nat → Nat → Int32) (m : Int32) (t : Int32) (w : Int32)  (hpre : q_X9_goes_274 M m t w) : z_C (d + 5) 161 [.ref 274, .int m, .int t, .int w] (z_SH, M, L) (some (.int (f_X9_goes_274 M m t w))) (z_SH, M, L) := by
  unfold q_X9_goes_274 at hpre
  obtain ⟨p1, p2, -⟩ := hpre
  refine z_mkA (tb := tb_X9_goes) rfl (by decide) rfl rfl rfl ?_
  refine g_k 2 (pc' := 2) (LI' := [some (.ref 274), some (.int m), some (.int t), some (.int w)]) (LL' := []) (st' := [.int m, .ref 274]) (S' := (z_SH, M, L)) (fun nq hq => And.intro rfl (And.intro rfl hq)) ?_
  refine g_k 1 (pc' := 5) (LI' := [some (.ref 274), some (.int m), some (.int t), some (.int w)]) (LL' := []) (st' := [.int (f_X9_isMember_274 M m)]) (S' := (z_SH, M, L)) (fun nq hq => And.intro rfl (Exists.intro _ (Exists.intro _ (And.intro (c_X9_isMember_274 (d := d + 2) M m) (And.intro (z_fit_same _ _ _ _ _ _ _ _) hq))))) ?_
  generalize hg1 : f_X9_isMember_274 M m = r1 at *
  refine g_k 1 (pc' := (if z_cmp .ne r1 ((0 : Int32)) = true then 11 else 8)) (LI' := [some (.ref 274), some (.int m), some (.int t), some (.int w)]) (LL' := []) (st' := []) (S' := (z_SH, M, L)) (fun nq hq => And.intro rfl hq) ?_
  refine g_ne (fun hc1 => ?_) (fun hc1 => ?_)
  · refine g_k 1 (pc' := 12) (LI' := [some (.ref 274), some (.int m), some (.int t), some (.int w)]) (LL' := []) (st' := [.int t]) (S' := (z_SH, M, L)) (fun nq hq => And.intro rfl hq) ?_
    refine g_k 1 (pc' := 15) (LI' := [some (.ref 274), some (.int m), some (.int t), some (.int w)]) (LL' := []) (st' := [.int (f_X9_isMatter M t)]) (S' := (z_SH, M, L)) (fun nq hq => And.intro rfl (Exists.intro _ (Exists.intro _ (And.intro (c_X9_isMatter (d := d + 2) M t) (And.intro (z_fit_same _ _ _ _ _ _ _ _) hq))))) ?_
    generalize hg2 : f_X9_isMatter M t = r2 at *
    refine g_k 1 (pc' := (if z_cmp .eq r2 ((0 : Int32)) = true then 27 else 18)) (LI' := [some (.ref 274), some (.int m), some (.int t), some (.int w)]) (LL' := []) (st' := []) (S' := (z_SH, M, L)) (fun nq hq => And.intro rfl hq) ?_
    refine g_eq (fun hc2 => ?_) (fun hc2 => ?_)
    · refine g_k 1 (pc' := 29) (LI' := [some (.ref 274), some (.int m), some (.int t), some (.int w)]) (LL' := []) (st' := [.int (-1000000002)]) (S' := (z_SH, M, L)) (fun nq hq => And.intro rfl hq) ?_
      exact ⟨1, And.intro rfl (⟨(by subst hg2; subst hg1; unfold f_X9_goes_274; (first | rw [if_pos hc1] | skip); (first | rw [if_pos hc2] | skip); try rfl), rfl⟩)⟩
    · refine g_k 3 (pc' := 21) (LI' := [some (.ref 274), some (.int m), some (.int t), some (.int w)]) (LL' := []) (st' := [.int 1, .int 0, .int w]) (S' := (z_SH, M, L)) (fun nq hq => And.intro rfl (And.intro rfl (And.intro rfl hq))) ?_
      refine g_k 1 (pc' := 24) (LI' := [some (.ref 274), some (.int m), some (.int t), some (.int w)]) (LL' := []) (st' := [.int (f_X9_in M w ((0 : Int32)) ((1 : Int32)))]) (S' := (z_SH, M, L)) (fun nq hq => And.intro rfl (Exists.intro _ (Exists.intro _ (And.intro (c_X9_in (d := d + 3) M w ((0 : Int32)) ((1 : Int32))) (And.intro (z_fit_same _ _ _ _ _ _ _ _) hq))))) ?_
      generalize hg3 : f_X9_in M w ((0 : Int32)) ((1 : Int32)) = r3 at *
      refine g_k 1 (pc' := (if z_cmp .ne r3 ((0 : Int32)) = true then 30 else 27)) (LI' := [some (.ref 274), some (.int m), some (.int t), some (.int w)]) (LL' := []) (st' := []) (S' := (z_SH, M, L)) (fun nq hq => And.intro rfl hq) ?_
      refine g_ne (fun hc3 => ?_) (fun hc3 => ?_)
      · refine g_k 2 (pc' := (if z_cmp .ne w ((0 : Int32)) = true then 47 else 34)) (LI' := [some (.ref 274), some (.int m), some (.int t), some (.int w)]) (LL' := []) (st' := []) (S' := (z_SH, M, L)) (fun nq hq => And.intro rfl (And.intro rfl hq)) ?_
        refine g_ne (fun hc4 => ?_) (fun hc4 => ?_)
        · refine g_k 4 (pc' := 53) (LI' := [some (.ref 274), some (.int m), some (.int t), some (.int w)]) (LL' := []) (st' := [.int t, .int m, .ref 279]) (S' := (z_SH, M, L)) (fun nq hq => And.intro rfl (And.intro rfl (And.intro rfl (And.intro rfl hq)))) ?_
          refine g_k 1 (pc' := 56) (LI' := [some (.ref 274), some (.int m), some (.int t), some (.int w)]) (LL' := []) (st' := [.int (f_X9_pullOf_279 M m t)]) (S' := (z_SH, M, L)) (fun nq hq => And.intro rfl (Exists.intro _ (Exists.intro _ (And.intro (c_X9_pullOf_279 (d := d + 2) M m t (p1 hc1 hc2 hc3 hc4)) (And.intro (z_fit_same _ _ _ _ _ _ _ _) hq))))) ?_
          generalize hg4 : f_X9_pullOf_279 M m t = r4 at *
          refine g_k 2 (pc' := 60) (LI' := [some (.ref 274), some (.int m), some (.int t), some (.int w)]) (LL' := []) (st' := [.int (r4 + ((1000 : Int32)))]) (S' := (z_SH, M, L)) (fun nq hq => And.intro rfl (And.intro rfl hq)) ?_
          exact ⟨1, And.intro rfl (⟨(by subst hg4; subst hg3; subst hg2; subst hg1; unfold f_X9_goes_274; (first | rw [if_pos hc1] | skip); (first | rw [if_neg hc2] | skip); (first | rw [if_pos hc3] | skip); (first | rw [if_pos hc4] | skip); try rfl), rfl⟩)⟩
        · refine g_k 5 (pc' := 41) (LI' := [some (.ref 274), some (.int m), some (.int t), some (.int w)]) (LL' := []) (st' := [.int t, .int m, .ref 279, .ref 274]) (S' := (z_SH, M, L)) (fun nq hq => And.intro rfl (And.intro rfl (And.intro rfl (And.intro rfl (And.intro rfl hq))))) ?_
          refine g_k 1 (pc' := 44) (LI' := [some (.ref 274), some (.int m), some (.int t), some (.int w)]) (LL' := []) (st' := [.int (f_X9_goesOf_274_279 M m t)]) (S' := (z_SH, M, L)) (fun nq hq => And.intro rfl (Exists.intro _ (Exists.intro _ (And.intro (c_X9_goesOf_274_279 (d := d) M m t (p2 hc1 hc2 hc3 hc4)) (And.intro (z_fit_same _ _ _ _ _ _ _ _) hq))))) ?_
          generalize hg5 : f_X9_goesOf_274_279 M m t = r5 at *
          refine g_k 1 (pc' := 60) (LI' := [some (.ref 274), some (.int m), some (.int t), some (.int w)]) (LL' := []) (st' := [.int r5]) (S' := (z_SH, M, L)) (fun nq hq => And.intro rfl hq) ?_
          exact ⟨1, And.intro rfl (⟨(by subst hg5; subst hg3; subst hg2; subst hg1; unfold f_X9_goes_274; (first | rw [if_pos hc1] | skip); (first | rw [if_neg hc2] | skip); (first | rw [if_pos hc3] | skip); (first | rw [if_neg (not_not_intro hc4)] | skip); try rfl), rfl⟩)⟩
      · refine g_k 1 (pc' := 29) (LI' := [some (.ref 274), some (.int m), some (.int t), some (.int w)]) (LL' := []) (st' := [.int (-1000000002)]) (S' := (z_SH, M, L)) (fun nq hq => And.intro rfl hq) ?_
        exact ⟨1, And.intro rfl (⟨(by subst hg3; subst hg2; subst hg1; unfold f_X9_goes_274; (first | rw [if_pos hc1] | skip); (first | rw [if_neg hc2] | skip); (first | rw [if_neg (not_not_intro hc3)] | skip); try rfl), rfl⟩)⟩
  · refine g_k 1 (pc' := 10) (LI' := [some (.ref 274), some (.int m), some (.int t), some (.int w)]) (LL' := []) (st' := [.int (-1000000001)]) (S' := (z_SH, M, L)) (fun nq hq => And.intro rfl hq) ?_
    exact ⟨1, And.intro rfl (⟨(by subst hg1; unfold f_X9_goes_274; (first | rw [if_neg (not_not_intro hc1)] | skip); try rfl), rfl⟩)⟩
