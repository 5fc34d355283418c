def f_X9_strap_274 (M : Nat → Nat → Int32) (s : Int32) (w : Int32) : Int32 := if ¬ (f_X9_isStrap_274 M s) = (0 : Int32) then if (f_X9_in M w ((0 : Int32)) ((5 : Int32))) = (0 : Int32) then (-1000000002 : Int32) else M 279 (((((11 : Int32)) + (((12 : Int32)) * w)) + s).toNatClampNeg) else (-1000000001 : Int32)
def q_X9_strap_274 (M : Nat → Nat → Int32) (s : Int32) (w : Int32) : Prop := ((¬ (f_X9_isStrap_274 M s) = (0 : Int32)) → (¬ ((f_X9_in M w ((0 : Int32)) ((5 : Int32))) = (0 : Int32))) → (z_vin ((((11 : Int32)) + (((12 : Int32)) * w)) + s) 83 = true)) ∧ True
theorem c_X9_strap_274 {d : Nat} {L : Nat → Nat → Int64} (M : Nat → Nat → Int32) (s : Int32) (w : Int32)  (hpre : q_X9_strap_274 M s w) : z_C (d + 3) 149 [.ref 274, .int s, .int w] (z_SH, M, L) (some (.int (f_X9_strap_274 M s w))) (z_SH, M, L) := by
  unfold q_X9_strap_274 at hpre
  obtain ⟨p1, -⟩ := hpre
  refine z_mkA (tb := tb_X9_strap) rfl (by decide) rfl rfl rfl ?_
  refine g_k 2 (pc' := 2) (LI' := [some (.ref 274), some (.int s), some (.int w)]) (LL' := []) (st' := [.int s, .ref 274]) (S' := (z_SH, M, L)) (fun nq hq => And.intro rfl (And.intro rfl hq)) ?_
  refine g_k 1 (pc' := 5) (LI' := [some (.ref 274), some (.int s), some (.int w)]) (LL' := []) (st' := [.int (f_X9_isStrap_274 M s)]) (S' := (z_SH, M, L)) (fun nq hq => And.intro rfl (Exists.intro _ (Exists.intro _ (And.intro (c_X9_isStrap_274 (d := d) M s) (And.intro (z_fit_same _ _ _ _ _ _ _ _) hq))))) ?_
  generalize hg1 : f_X9_isStrap_274 M s = r1 at *
  refine g_k 1 (pc' := (if z_cmp .ne r1 ((0 : Int32)) = true then 11 else 8)) (LI' := [some (.ref 274), some (.int s), some (.int w)]) (LL' := []) (st' := []) (S' := (z_SH, M, L)) (fun nq hq => And.intro rfl hq) ?_
  refine g_ne (fun hc1 => ?_) (fun hc1 => ?_)
  · refine g_k 3 (pc' := 14) (LI' := [some (.ref 274), some (.int s), some (.int w)]) (LL' := []) (st' := [.int 5, .int 0, .int w]) (S' := (z_SH, M, L)) (fun nq hq => And.intro rfl (And.intro rfl (And.intro rfl hq))) ?_
    refine g_k 1 (pc' := 17) (LI' := [some (.ref 274), some (.int s), some (.int w)]) (LL' := []) (st' := [.int (f_X9_in M w ((0 : Int32)) ((5 : Int32)))]) (S' := (z_SH, M, L)) (fun nq hq => And.intro rfl (Exists.intro _ (Exists.intro _ (And.intro (c_X9_in (d := d + 1) M w ((0 : Int32)) ((5 : Int32))) (And.intro (z_fit_same _ _ _ _ _ _ _ _) hq))))) ?_
    generalize hg2 : f_X9_in M w ((0 : Int32)) ((5 : Int32)) = r2 at *
    refine g_k 1 (pc' := (if z_cmp .eq r2 ((0 : Int32)) = true then 37 else 20)) (LI' := [some (.ref 274), some (.int s), some (.int w)]) (LL' := []) (st' := []) (S' := (z_SH, M, L)) (fun nq hq => And.intro rfl hq) ?_
    refine g_eq (fun hc2 => ?_) (fun hc2 => ?_)
    · refine g_k 1 (pc' := 39) (LI' := [some (.ref 274), some (.int s), some (.int w)]) (LL' := []) (st' := [.int (-1000000002)]) (S' := (z_SH, M, L)) (fun nq hq => And.intro rfl hq) ?_
      exact ⟨1, And.intro rfl (⟨(by subst hg2; subst hg1; unfold f_X9_strap_274; (first | rw [if_pos hc1] | skip); (first | rw [if_pos hc2] | skip); try rfl), rfl⟩)⟩
    · refine g_k 9 (pc' := 33) (LI' := [some (.ref 274), some (.int s), some (.int w)]) (LL' := []) (st' := [.int ((((11 : Int32)) + (((12 : Int32)) * w)) + s), .ref 279]) (S' := (z_SH, M, L)) (fun nq hq => And.intro rfl (And.intro rfl (And.intro rfl (And.intro rfl (And.intro rfl (And.intro rfl (And.intro rfl (And.intro rfl (And.intro rfl hq))))))))) ?_
      refine g_k 2 (pc' := 39) (LI' := [some (.ref 274), some (.int s), some (.int w)]) (LL' := []) (st' := [.int (M 279 (((((11 : Int32)) + (((12 : Int32)) * w)) + s).toNatClampNeg))]) (S' := (z_SH, M, L)) (fun nq hq => And.intro (p1 hc1 hc2) (And.intro rfl hq)) ?_
      exact ⟨1, And.intro rfl (⟨(by subst hg2; subst hg1; unfold f_X9_strap_274; (first | rw [if_pos hc1] | skip); (first | rw [if_neg hc2] | skip); try rfl), rfl⟩)⟩
  · refine g_k 1 (pc' := 10) (LI' := [some (.ref 274), some (.int s), some (.int w)]) (LL' := []) (st' := [.int (-1000000001)]) (S' := (z_SH, M, L)) (fun nq hq => And.intro rfl hq) ?_
    exact ⟨1, And.intro rfl (⟨(by subst hg1; unfold f_X9_strap_274; (first | rw [if_neg (not_not_intro hc1)] | skip); try rfl), rfl⟩)⟩
