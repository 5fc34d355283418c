def f_X8_isOutside (M : Nat → Nat → Int32) (a : Int32) (b : Int32) : Int32 := if a < (0 : Int32) then (1 : Int32) else if a < b then (0 : Int32) else (1 : Int32)
theorem b_X8_isOutside (M : Nat → Nat → Int32) (a : Int32) (b : Int32) : f_X8_isOutside M a b = 0 ∨ f_X8_isOutside M a b = 1 := by
  unfold f_X8_isOutside
  repeat' split
  all_goals first | exact Or.inl rfl | exact Or.inr rfl
theorem c_X8_isOutside {d : Nat} {L : Nat → Nat → Int64} (M : Nat → Nat → Int32) (a : Int32) (b : Int32)  : z_C (d + 1) 105 [.int a, .int b] (z_SH, M, L) (some (.int (f_X8_isOutside M a b))) (z_SH, M, L) := by
  refine z_mkA (tb := tb_X8_isOutside) rfl (by decide) rfl rfl rfl ?_
  refine g_k 2 (pc' := (if z_cmp .lt a ((0 : Int32)) = true then 9 else 4)) (LI' := [some (.int a), some (.int b)]) (LL' := []) (st' := []) (S' := (z_SH, M, L)) (fun nq hq => And.intro rfl (And.intro rfl hq)) ?_
  refine g_lt (fun hc1 => ?_) (fun hc1 => ?_)
  · refine g_k 2 (pc' := 14) (LI' := [some (.int a), some (.int b)]) (LL' := []) (st' := [.int 1]) (S' := (z_SH, M, L)) (fun nq hq => And.intro rfl (And.intro rfl hq)) ?_
    exact ⟨1, And.intro rfl (⟨(by unfold f_X8_isOutside; (first | rw [if_pos hc1] | skip); try rfl), rfl⟩)⟩
  · refine g_k 3 (pc' := (if z_cmp .lt a b = true then 13 else 9)) (LI' := [some (.int a), some (.int b)]) (LL' := []) (st' := []) (S' := (z_SH, M, L)) (fun nq hq => And.intro rfl (And.intro rfl (And.intro rfl hq))) ?_
    refine g_lt (fun hc2 => ?_) (fun hc2 => ?_)
    · refine g_k 1 (pc' := 14) (LI' := [some (.int a), some (.int b)]) (LL' := []) (st' := [.int 0]) (S' := (z_SH, M, L)) (fun nq hq => And.intro rfl hq) ?_
      exact ⟨1, And.intro rfl (⟨(by unfold f_X8_isOutside; (first | rw [if_neg hc1] | skip); (first | rw [if_pos hc2] | skip); try rfl), rfl⟩)⟩
    · refine g_k 2 (pc' := 14) (LI' := [some (.int a), some (.int b)]) (LL' := []) (st' := [.int 1]) (S' := (z_SH, M, L)) (fun nq hq => And.intro rfl (And.intro rfl hq)) ?_
      exact ⟨1, And.intro rfl (⟨(by unfold f_X8_isOutside; (first | rw [if_neg hc1] | skip); (first | rw [if_neg hc2] | skip); try rfl), rfl⟩)⟩
def f_X8_isIn (M : Nat → Nat → Int32) (a : Int32) (b : Int32) : Int32 := if ¬ (a >>> (b &&& 31)) &&& ((1 : Int32)) = (1 : Int32) then (0 : Int32) else (1 : Int32)
theorem b_X8_isIn (M : Nat → Nat → Int32) (a : Int32) (b : Int32) : f_X8_isIn M a b = 0 ∨ f_X8_isIn M a b = 1 := by
  unfold f_X8_isIn
  repeat' split
  all_goals first | exact Or.inl rfl | exact Or.inr rfl
theorem c_X8_isIn {d : Nat} {L : Nat → Nat → Int64} (M : Nat → Nat → Int32) (a : Int32) (b : Int32)  : z_C (d + 1) 106 [.int a, .int b] (z_SH, M, L) (some (.int (f_X8_isIn M a b))) (z_SH, M, L) := by
  refine z_mkA (tb := tb_X8_isIn) rfl (by decide) rfl rfl rfl ?_
  refine g_k 7 (pc' := (if z_cmp .ne ((a >>> (b &&& 31)) &&& ((1 : Int32))) ((1 : Int32)) = true then 13 else 9)) (LI' := [some (.int a), some (.int b)]) (LL' := []) (st' := []) (S' := (z_SH, M, L)) (fun nq hq => And.intro rfl (And.intro rfl (And.intro rfl (And.intro rfl (And.intro rfl (And.intro rfl (And.intro rfl hq))))))) ?_
  refine g_ne (fun hc1 => ?_) (fun hc1 => ?_)
  · refine g_k 1 (pc' := 14) (LI' := [some (.int a), some (.int b)]) (LL' := []) (st' := [.int 0]) (S' := (z_SH, M, L)) (fun nq hq => And.intro rfl hq) ?_
    exact ⟨1, And.intro rfl (⟨(by unfold f_X8_isIn; (first | rw [if_pos hc1] | skip); try rfl), rfl⟩)⟩
  · refine g_k 2 (pc' := 14) (LI' := [some (.int a), some (.int b)]) (LL' := []) (st' := [.int 1]) (S' := (z_SH, M, L)) (fun nq hq => And.intro rfl (And.intro rfl hq)) ?_
    exact ⟨1, And.intro rfl (⟨(by unfold f_X8_isIn; (first | rw [if_neg (not_not_intro hc1)] | skip); try rfl), rfl⟩)⟩
def f_X0_holds_7 (M : Nat → Nat → Int32) (s : Int32) : Int32 := if s < (0 : Int32) then (0 : Int32) else if M 7 1 ≤ s then (0 : Int32) else if ¬ M 14 ((s).toNatClampNeg) = (0 : Int32) then (0 : Int32) else (1 : Int32)
theorem b_X0_holds_7 (M : Nat → Nat → Int32) (s : Int32) : f_X0_holds_7 M s = 0 ∨ f_X0_holds_7 M s = 1 := by
  unfold f_X0_holds_7
  repeat' split
  all_goals first | exact Or.inl rfl | exact Or.inr rfl
def q_X0_holds_7 (M : Nat → Nat → Int32) (s : Int32) : Prop := ((¬ (s < (0 : Int32))) → (¬ (M 7 1 ≤ s)) → (z_vin s 12 = true)) ∧ True
theorem c_X0_holds_7 {d : Nat} {L : Nat → Nat → Int64} (M : Nat → Nat → Int32) (s : Int32)  (hpre : q_X0_holds_7 M s) : z_C (d + 1) 5 [.ref 7, .int s] (z_SH, M, L) (some (.int (f_X0_holds_7 M s))) (z_SH, M, L) := by
  unfold q_X0_holds_7 at hpre
  obtain ⟨p1, -⟩ := hpre
  refine z_mkA (tb := tb_X0_holds) rfl (by decide) rfl rfl rfl ?_
  refine g_k 2 (pc' := (if z_cmp .lt s ((0 : Int32)) = true then 25 else 4)) (LI' := [some (.ref 7), some (.int s)]) (LL' := []) (st' := []) (S' := (z_SH, M, L)) (fun nq hq => And.intro rfl (And.intro rfl hq)) ?_
  refine g_lt (fun hc1 => ?_) (fun hc1 => ?_)
  · refine g_k 1 (pc' := 26) (LI' := [some (.ref 7), some (.int s)]) (LL' := []) (st' := [.int 0]) (S' := (z_SH, M, L)) (fun nq hq => And.intro rfl hq) ?_
    exact ⟨1, And.intro rfl (⟨(by unfold f_X0_holds_7; (first | rw [if_pos hc1] | skip); try rfl), rfl⟩)⟩
  · refine g_k 4 (pc' := (if z_cmp .ge s (M 7 1) = true then 25 else 12)) (LI' := [some (.ref 7), some (.int s)]) (LL' := []) (st' := []) (S' := (z_SH, M, L)) (fun nq hq => And.intro rfl (And.intro rfl (And.intro rfl (And.intro rfl hq)))) ?_
    refine g_ge (fun hc2 => ?_) (fun hc2 => ?_)
    · refine g_k 1 (pc' := 26) (LI' := [some (.ref 7), some (.int s)]) (LL' := []) (st' := [.int 0]) (S' := (z_SH, M, L)) (fun nq hq => And.intro rfl hq) ?_
      exact ⟨1, And.intro rfl (⟨(by unfold f_X0_holds_7; (first | rw [if_neg hc1] | skip); (first | rw [if_pos hc2] | skip); try rfl), rfl⟩)⟩
    · refine g_k 5 (pc' := (if z_cmp .ne (M 14 ((s).toNatClampNeg)) ((0 : Int32)) = true then 25 else 21)) (LI' := [some (.ref 7), some (.int s)]) (LL' := []) (st' := []) (S' := (z_SH, M, L)) (fun nq hq => And.intro rfl (And.intro rfl (And.intro rfl (And.intro (p1 hc1 hc2) (And.intro rfl hq))))) ?_
      refine g_ne (fun hc3 => ?_) (fun hc3 => ?_)
      · refine g_k 1 (pc' := 26) (LI' := [some (.ref 7), some (.int s)]) (LL' := []) (st' := [.int 0]) (S' := (z_SH, M, L)) (fun nq hq => And.intro rfl hq) ?_
        exact ⟨1, And.intro rfl (⟨(by unfold f_X0_holds_7; (first | rw [if_neg hc1] | skip); (first | rw [if_neg hc2] | skip); (first | rw [if_pos hc3] | skip); try rfl), rfl⟩)⟩
      · refine g_k 2 (pc' := 26) (LI' := [some (.ref 7), some (.int s)]) (LL' := []) (st' := [.int 1]) (S' := (z_SH, M, L)) (fun nq hq => And.intro rfl (And.intro rfl hq)) ?_
        exact ⟨1, And.intro rfl (⟨(by unfold f_X0_holds_7; (first | rw [if_neg hc1] | skip); (first | rw [if_neg hc2] | skip); (first | rw [if_neg (not_not_intro hc3)] | skip); try rfl), rfl⟩)⟩
def f_X0_holds_20 (M : Nat → Nat → Int32) (s : Int32) : Int32 := if s < (0 : Int32) then (0 : Int32) else if M 20 1 ≤ s then (0 : Int32) else if ¬ M 27 ((s).toNatClampNeg) = (0 : Int32) then (0 : Int32) else (1 : Int32)
theorem b_X0_holds_20 (M : Nat → Nat → Int32) (s : Int32) : f_X0_holds_20 M s = 0 ∨ f_X0_holds_20 M s = 1 := by
  unfold f_X0_holds_20
  repeat' split
  all_goals first | exact Or.inl rfl | exact Or.inr rfl
def q_X0_holds_20 (M : Nat → Nat → Int32) (s : Int32) : Prop := ((¬ (s < (0 : Int32))) → (¬ (M 20 1 ≤ s)) → (z_vin s 12 = true)) ∧ True
theorem c_X0_holds_20 {d : Nat} {L : Nat → Nat → Int64} (M : Nat → Nat → Int32) (s : Int32)  (hpre : q_X0_holds_20 M s) : z_C (d + 1) 5 [.ref 20, .int s] (z_SH, M, L) (some (.int (f_X0_holds_20 M s))) (z_SH, M, L) := by
  unfold q_X0_holds_20 at hpre
  obtain ⟨p1, -⟩ := hpre
  refine z_mkA (tb := tb_X0_holds) rfl (by decide) rfl rfl rfl ?_
  refine g_k 2 (pc' := (if z_cmp .lt s ((0 : Int32)) = true then 25 else 4)) (LI' := [some (.ref 20), some (.int s)]) (LL' := []) (st' := []) (S' := (z_SH, M, L)) (fun nq hq => And.intro rfl (And.intro rfl hq)) ?_
  refine g_lt (fun hc1 => ?_) (fun hc1 => ?_)
  · refine g_k 1 (pc' := 26) (LI' := [some (.ref 20), some (.int s)]) (LL' := []) (st' := [.int 0]) (S' := (z_SH, M, L)) (fun nq hq => And.intro rfl hq) ?_
    exact ⟨1, And.intro rfl (⟨(by unfold f_X0_holds_20; (first | rw [if_pos hc1] | skip); try rfl), rfl⟩)⟩
  · refine g_k 4 (pc' := (if z_cmp .ge s (M 20 1) = true then 25 else 12)) (LI' := [some (.ref 20), some (.int s)]) (LL' := []) (st' := []) (S' := (z_SH, M, L)) (fun nq hq => And.intro rfl (And.intro rfl (And.intro rfl (And.intro rfl hq)))) ?_
    refine g_ge (fun hc2 => ?_) (fun hc2 => ?_)
    · refine g_k 1 (pc' := 26) (LI' := [some (.ref 20), some (.int s)]) (LL' := []) (st' := [.int 0]) (S' := (z_SH, M, L)) (fun nq hq => And.intro rfl hq) ?_
      exact ⟨1, And.intro rfl (⟨(by unfold f_X0_holds_20; (first | rw [if_neg hc1] | skip); (first | rw [if_pos hc2] | skip); try rfl), rfl⟩)⟩
    · refine g_k 5 (pc' := (if z_cmp .ne (M 27 ((s).toNatClampNeg)) ((0 : Int32)) = true then 25 else 21)) (LI' := [some (.ref 20), some (.int s)]) (LL' := []) (st' := []) (S' := (z_SH, M, L)) (fun nq hq => And.intro rfl (And.intro rfl (And.intro rfl (And.intro (p1 hc1 hc2) (And.intro rfl hq))))) ?_
      refine g_ne (fun hc3 => ?_) (fun hc3 => ?_)
      · refine g_k 1 (pc' := 26) (LI' := [some (.ref 20), some (.int s)]) (LL' := []) (st' := [.int 0]) (S' := (z_SH, M, L)) (fun nq hq => And.intro rfl hq) ?_
        exact ⟨1, And.intro rfl (⟨(by unfold f_X0_holds_20; (first | rw [if_neg hc1] | skip); (first | rw [if_neg hc2] | skip); (first | rw [if_pos hc3] | skip); try rfl), rfl⟩)⟩
      · refine g_k 2 (pc' := 26) (LI' := [some (.ref 20), some (.int s)]) (LL' := []) (st' := [.int 1]) (S' := (z_SH, M, L)) (fun nq hq => And.intro rfl (And.intro rfl hq)) ?_
        exact ⟨1, And.intro rfl (⟨(by unfold f_X0_holds_20; (first | rw [if_neg hc1] | skip); (first | rw [if_neg hc2] | skip); (first | rw [if_neg (not_not_intro hc3)] | skip); try rfl), rfl⟩)⟩
def f_X0_holds_34 (M : Nat → Nat → Int32) (s : Int32) : Int32 := if s < (0 : Int32) then (0 : Int32) else if M 34 1 ≤ s then (0 : Int32) else if ¬ M 41 ((s).toNatClampNeg) = (0 : Int32) then (0 : Int32) else (1 : Int32)
theorem b_X0_holds_34 (M : Nat → Nat → Int32) (s : Int32) : f_X0_holds_34 M s = 0 ∨ f_X0_holds_34 M s = 1 := by
  unfold f_X0_holds_34
  repeat' split
  all_goals first | exact Or.inl rfl | exact Or.inr rfl
def q_X0_holds_34 (M : Nat → Nat → Int32) (s : Int32) : Prop := ((¬ (s < (0 : Int32))) → (¬ (M 34 1 ≤ s)) → (z_vin s 12 = true)) ∧ True
theorem c_X0_holds_34 {d : Nat} {L : Nat → Nat → Int64} (M : Nat → Nat → Int32) (s : Int32)  (hpre : q_X0_holds_34 M s) : z_C (d + 1) 5 [.ref 34, .int s] (z_SH, M, L) (some (.int (f_X0_holds_34 M s))) (z_SH, M, L) := by
  unfold q_X0_holds_34 at hpre
  obtain ⟨p1, -⟩ := hpre
  refine z_mkA (tb := tb_X0_holds) rfl (by decide) rfl rfl rfl ?_
  refine g_k 2 (pc' := (if z_cmp .lt s ((0 : Int32)) = true then 25 else 4)) (LI' := [some (.ref 34), some (.int s)]) (LL' := []) (st' := []) (S' := (z_SH, M, L)) (fun nq hq => And.intro rfl (And.intro rfl hq)) ?_
  refine g_lt (fun hc1 => ?_) (fun hc1 => ?_)
  · refine g_k 1 (pc' := 26) (LI' := [some (.ref 34), some (.int s)]) (LL' := []) (st' := [.int 0]) (S' := (z_SH, M, L)) (fun nq hq => And.intro rfl hq) ?_
    exact ⟨1, And.intro rfl (⟨(by unfold f_X0_holds_34; (first | rw [if_pos hc1] | skip); try rfl), rfl⟩)⟩
  · refine g_k 4 (pc' := (if z_cmp .ge s (M 34 1) = true then 25 else 12)) (LI' := [some (.ref 34), some (.int s)]) (LL' := []) (st' := []) (S' := (z_SH, M, L)) (fun nq hq => And.intro rfl (And.intro rfl (And.intro rfl (And.intro rfl hq)))) ?_
    refine g_ge (fun hc2 => ?_) (fun hc2 => ?_)
    · refine g_k 1 (pc' := 26) (LI' := [some (.ref 34), some (.int s)]) (LL' := []) (st' := [.int 0]) (S' := (z_SH, M, L)) (fun nq hq => And.intro rfl hq) ?_
      exact ⟨1, And.intro rfl (⟨(by unfold f_X0_holds_34; (first | rw [if_neg hc1] | skip); (first | rw [if_pos hc2] | skip); try rfl), rfl⟩)⟩
    · refine g_k 5 (pc' := (if z_cmp .ne (M 41 ((s).toNatClampNeg)) ((0 : Int32)) = true then 25 else 21)) (LI' := [some (.ref 34), some (.int s)]) (LL' := []) (st' := []) (S' := (z_SH, M, L)) (fun nq hq => And.intro rfl (And.intro rfl (And.intro rfl (And.intro (p1 hc1 hc2) (And.intro rfl hq))))) ?_
      refine g_ne (fun hc3 => ?_) (fun hc3 => ?_)
      · refine g_k 1 (pc' := 26) (LI' := [some (.ref 34), some (.int s)]) (LL' := []) (st' := [.int 0]) (S' := (z_SH, M, L)) (fun nq hq => And.intro rfl hq) ?_
        exact ⟨1, And.intro rfl (⟨(by unfold f_X0_holds_34; (first | rw [if_neg hc1] | skip); (first | rw [if_neg hc2] | skip); (first | rw [if_pos hc3] | skip); try rfl), rfl⟩)⟩
      · refine g_k 2 (pc' := 26) (LI' := [some (.ref 34), some (.int s)]) (LL' := []) (st' := [.int 1]) (S' := (z_SH, M, L)) (fun nq hq => And.intro rfl (And.intro rfl hq)) ?_
        exact ⟨1, And.intro rfl (⟨(by unfold f_X0_holds_34; (first | rw [if_neg hc1] | skip); (first | rw [if_neg hc2] | skip); (first | rw [if_neg (not_not_intro hc3)] | skip); try rfl), rfl⟩)⟩
def g_X0_loosen_20 (M : Nat → Nat → Int32) (s : Int32) : Nat → Nat → Int32 := if ¬ (upd (M 25) ((s).toNatClampNeg) ((M 25 ((s).toNatClampNeg)) - ((1 : Int32)))) ((s).toNatClampNeg) = (0 : Int32) then z_row M 25 (upd (M 25) ((s).toNatClampNeg) ((M 25 ((s).toNatClampNeg)) - ((1 : Int32)))) else z_row (z_row M 25 (upd (M 25) ((s).toNatClampNeg) ((M 25 ((s).toNatClampNeg)) - ((1 : Int32))))) 27 (upd (M 27) ((s).toNatClampNeg) ((2 : Int32)))
theorem fr_g_X0_loosen_20 (M : Nat → Nat → Int32) (s : Int32) (c : Nat) (h25 : c ≠ 25) (h27 : c ≠ 27) : g_X0_loosen_20 M s c = M c := by
  unfold g_X0_loosen_20
  repeat' split
  all_goals simp only [z_row_ne h25, z_row_ne h27]
def q_X0_loosen_20 (M : Nat → Nat → Int32) (s : Int32) : Prop := (z_vin s 12 = true) ∧ True
theorem c_X0_loosen_20 {d : Nat} {L : Nat → Nat → Int64} (M : Nat → Nat → Int32) (s : Int32)  (hpre : q_X0_loosen_20 M s) : z_C (d + 1) 4 [.ref 20, .int s] (z_SH, M, L) none (z_SH, g_X0_loosen_20 M s, L) := by
  unfold q_X0_loosen_20 at hpre
  obtain ⟨p1, -⟩ := hpre
  refine z_mkA (tb := tb_X0_loosen) rfl (by decide) rfl rfl rfl ?_
  refine g_k 9 (pc' := 11) (LI' := [some (.ref 20), some (.int s)]) (LL' := []) (st' := [.ref 20]) (S' := (z_SH, z_row M 25 (upd (M 25) ((s).toNatClampNeg) ((M 25 ((s).toNatClampNeg)) - ((1 : Int32)))), L)) (fun nq hq => And.intro rfl (And.intro rfl (And.intro rfl (And.intro rfl (And.intro p1 (And.intro rfl (And.intro rfl (And.intro p1 (And.intro rfl hq))))))))) ?_
  refine g_k 4 (pc' := (if z_cmp .ne ((upd (M 25) ((s).toNatClampNeg) ((M 25 ((s).toNatClampNeg)) - ((1 : Int32)))) ((s).toNatClampNeg)) ((0 : Int32)) = true then 26 else 19)) (LI' := [some (.ref 20), some (.int s)]) (LL' := []) (st' := []) (S' := (z_SH, z_row M 25 (upd (M 25) ((s).toNatClampNeg) ((M 25 ((s).toNatClampNeg)) - ((1 : Int32)))), L)) (fun nq hq => And.intro rfl (And.intro rfl (And.intro p1 (And.intro rfl hq)))) ?_
  refine g_ne (fun hc1 => ?_) (fun hc1 => ?_)
  · exact ⟨1, And.intro rfl (⟨rfl, (by unfold g_X0_loosen_20; (first | rw [if_pos hc1] | skip); try rfl)⟩)⟩
  · refine g_k 5 (pc' := 26) (LI' := [some (.ref 20), some (.int s)]) (LL' := []) (st' := []) (S' := (z_SH, z_row (z_row M 25 (upd (M 25) ((s).toNatClampNeg) ((M 25 ((s).toNatClampNeg)) - ((1 : Int32))))) 27 (upd (M 27) ((s).toNatClampNeg) ((2 : Int32))), L)) (fun nq hq => And.intro rfl (And.intro rfl (And.intro rfl (And.intro rfl (And.intro p1 hq))))) ?_
    exact ⟨1, And.intro rfl (⟨rfl, (by unfold g_X0_loosen_20; (first | rw [if_neg (not_not_intro hc1)] | skip); try rfl)⟩)⟩
def g_X0_button_7 (M : Nat → Nat → Int32) (m : Int32) (t : Int32) (w : Int32) (n : Int32) : Nat → Nat → Int32 := if M 7 1 < (12 : Int32) then z_row (z_row (z_row (z_row (z_row (z_row (z_row M 9 (upd (M 9) ((M 7 1).toNatClampNeg) m)) 10 (upd (M 10) ((M 7 1).toNatClampNeg) t)) 11 (upd (M 11) ((M 7 1).toNatClampNeg) w)) 12 (upd (M 12) ((M 7 1).toNatClampNeg) n)) 13 (upd (M 13) ((M 7 1).toNatClampNeg) ((0 : Int32)))) 14 (upd (M 14) ((M 7 1).toNatClampNeg) ((0 : Int32)))) 7 (upd (M 7) 1 ((M 7 1) + ((1 : Int32)))) else M
theorem fr_g_X0_button_7 (M : Nat → Nat → Int32) (m : Int32) (t : Int32) (w : Int32) (n : Int32) (c : Nat) (h7 : c ≠ 7) (h9 : c ≠ 9) (h10 : c ≠ 10) (h11 : c ≠ 11) (h12 : c ≠ 12) (h13 : c ≠ 13) (h14 : c ≠ 14) : g_X0_button_7 M m t w n c = M c := by
  unfold g_X0_button_7
  repeat' split
  all_goals simp only [z_row_ne h7, z_row_ne h9, z_row_ne h10, z_row_ne h11, z_row_ne h12, z_row_ne h13, z_row_ne h14]
def q_X0_button_7 (M : Nat → Nat → Int32) (m : Int32) (t : Int32) (w : Int32) (n : Int32) : Prop := ((M 7 1 < (12 : Int32)) → (z_vin (M 7 1) 12 = true)) ∧ True
theorem c_X0_button_7 {d : Nat} {L : Nat → Nat → Int64} (M : Nat → Nat → Int32) (m : Int32) (t : Int32) (w : Int32) (n : Int32)  (hpre : q_X0_button_7 M m t w n) : z_C (d + 1) 3 [.ref 7, .int m, .int t, .int w, .int n] (z_SH, M, L) none (z_SH, g_X0_button_7 M m t w n, L) := by
  unfold q_X0_button_7 at hpre
  obtain ⟨p1, -⟩ := hpre
  refine z_mkA (tb := tb_X0_button) rfl (by decide) rfl rfl rfl ?_
  refine g_k 4 (pc' := (if z_cmp .lt (M 7 1) ((12 : Int32)) = true then 10 else 9)) (LI' := [some (.ref 7), some (.int m), some (.int t), some (.int w), some (.int n)]) (LL' := []) (st' := []) (S' := (z_SH, M, L)) (fun nq hq => And.intro rfl (And.intro rfl (And.intro rfl (And.intro rfl hq)))) ?_
  refine g_lt (fun hc1 => ?_) (fun hc1 => ?_)
  · refine g_k 9 (pc' := 25) (LI' := [some (.ref 7), some (.int m), some (.int t), some (.int w), some (.int n)]) (LL' := []) (st' := [.ref 7, .ref 10]) (S' := (z_SH, z_row M 9 (upd (M 9) ((M 7 1).toNatClampNeg) m), L)) (fun nq hq => And.intro rfl (And.intro rfl (And.intro rfl (And.intro rfl (And.intro rfl (And.intro (p1 hc1) (And.intro rfl (And.intro rfl (And.intro rfl hq))))))))) ?_
    refine g_k 9 (pc' := 40) (LI' := [some (.ref 7), some (.int m), some (.int t), some (.int w), some (.int n)]) (LL' := []) (st' := []) (S' := (z_SH, z_row (z_row (z_row M 9 (upd (M 9) ((M 7 1).toNatClampNeg) m)) 10 (upd (M 10) ((M 7 1).toNatClampNeg) t)) 11 (upd (M 11) ((M 7 1).toNatClampNeg) w), L)) (fun nq hq => And.intro rfl (And.intro rfl (And.intro (p1 hc1) (And.intro rfl (And.intro rfl (And.intro rfl (And.intro rfl (And.intro rfl (And.intro (p1 hc1) hq))))))))) ?_
    refine g_k 9 (pc' := 56) (LI' := [some (.ref 7), some (.int m), some (.int t), some (.int w), some (.int n)]) (LL' := []) (st' := [.ref 7, .ref 13]) (S' := (z_SH, z_row (z_row (z_row (z_row M 9 (upd (M 9) ((M 7 1).toNatClampNeg) m)) 10 (upd (M 10) ((M 7 1).toNatClampNeg) t)) 11 (upd (M 11) ((M 7 1).toNatClampNeg) w)) 12 (upd (M 12) ((M 7 1).toNatClampNeg) n), L)) (fun nq hq => And.intro rfl (And.intro rfl (And.intro rfl (And.intro rfl (And.intro rfl (And.intro (p1 hc1) (And.intro rfl (And.intro rfl (And.intro rfl hq))))))))) ?_
    refine g_k 9 (pc' := 71) (LI' := [some (.ref 7), some (.int m), some (.int t), some (.int w), some (.int n)]) (LL' := []) (st' := []) (S' := (z_SH, z_row (z_row (z_row (z_row (z_row (z_row M 9 (upd (M 9) ((M 7 1).toNatClampNeg) m)) 10 (upd (M 10) ((M 7 1).toNatClampNeg) t)) 11 (upd (M 11) ((M 7 1).toNatClampNeg) w)) 12 (upd (M 12) ((M 7 1).toNatClampNeg) n)) 13 (upd (M 13) ((M 7 1).toNatClampNeg) ((0 : Int32)))) 14 (upd (M 14) ((M 7 1).toNatClampNeg) ((0 : Int32))), L)) (fun nq hq => And.intro rfl (And.intro rfl (And.intro (p1 hc1) (And.intro rfl (And.intro rfl (And.intro rfl (And.intro rfl (And.intro rfl (And.intro (p1 hc1) hq))))))))) ?_
    refine g_k 6 (pc' := 81) (LI' := [some (.ref 7), some (.int m), some (.int t), some (.int w), some (.int n)]) (LL' := []) (st' := []) (S' := (z_SH, z_row (z_row (z_row (z_row (z_row (z_row (z_row M 9 (upd (M 9) ((M 7 1).toNatClampNeg) m)) 10 (upd (M 10) ((M 7 1).toNatClampNeg) t)) 11 (upd (M 11) ((M 7 1).toNatClampNeg) w)) 12 (upd (M 12) ((M 7 1).toNatClampNeg) n)) 13 (upd (M 13) ((M 7 1).toNatClampNeg) ((0 : Int32)))) 14 (upd (M 14) ((M 7 1).toNatClampNeg) ((0 : Int32)))) 7 (upd (M 7) 1 ((M 7 1) + ((1 : Int32)))), L)) (fun nq hq => And.intro rfl (And.intro rfl (And.intro rfl (And.intro rfl (And.intro rfl (And.intro rfl hq)))))) ?_
    exact ⟨1, And.intro rfl (⟨rfl, (by unfold g_X0_button_7; (first | rw [if_pos hc1] | skip); try rfl)⟩)⟩
  · exact ⟨1, And.intro rfl (⟨rfl, (by unfold g_X0_button_7; (first | rw [if_neg hc1] | skip); try rfl)⟩)⟩
def g_X0_button_20 (M : Nat → Nat → Int32) (m : Int32) (t : Int32) (w : Int32) (n : Int32) : Nat → Nat → Int32 := if M 20 1 < (12 : Int32) then z_row (z_row (z_row (z_row (z_row (z_row (z_row M 22 (upd (M 22) ((M 20 1).toNatClampNeg) m)) 23 (upd (M 23) ((M 20 1).toNatClampNeg) t)) 24 (upd (M 24) ((M 20 1).toNatClampNeg) w)) 25 (upd (M 25) ((M 20 1).toNatClampNeg) n)) 26 (upd (M 26) ((M 20 1).toNatClampNeg) ((0 : Int32)))) 27 (upd (M 27) ((M 20 1).toNatClampNeg) ((0 : Int32)))) 20 (upd (M 20) 1 ((M 20 1) + ((1 : Int32)))) else M
theorem fr_g_X0_button_20 (M : Nat → Nat → Int32) (m : Int32) (t : Int32) (w : Int32) (n : Int32) (c : Nat) (h20 : c ≠ 20) (h22 : c ≠ 22) (h23 : c ≠ 23) (h24 : c ≠ 24) (h25 : c ≠ 25) (h26 : c ≠ 26) (h27 : c ≠ 27) : g_X0_button_20 M m t w n c = M c := by
  unfold g_X0_button_20
  repeat' split
  all_goals simp only [z_row_ne h20, z_row_ne h22, z_row_ne h23, z_row_ne h24, z_row_ne h25, z_row_ne h26, z_row_ne h27]
def q_X0_button_20 (M : Nat → Nat → Int32) (m : Int32) (t : Int32) (w : Int32) (n : Int32) : Prop := ((M 20 1 < (12 : Int32)) → (z_vin (M 20 1) 12 = true)) ∧ True
theorem c_X0_button_20 {d : Nat} {L : Nat → Nat → Int64} (M : Nat → Nat → Int32) (m : Int32) (t : Int32) (w : Int32) (n : Int32)  (hpre : q_X0_button_20 M m t w n) : z_C (d + 1) 3 [.ref 20, .int m, .int t, .int w, .int n] (z_SH, M, L) none (z_SH, g_X0_button_20 M m t w n, L) := by
  unfold q_X0_button_20 at hpre
  obtain ⟨p1, -⟩ := hpre
  refine z_mkA (tb := tb_X0_button) rfl (by decide) rfl rfl rfl ?_
  refine g_k 4 (pc' := (if z_cmp .lt (M 20 1) ((12 : Int32)) = true then 10 else 9)) (LI' := [some (.ref 20), some (.int m), some (.int t), some (.int w), some (.int n)]) (LL' := []) (st' := []) (S' := (z_SH, M, L)) (fun nq hq => And.intro rfl (And.intro rfl (And.intro rfl (And.intro rfl hq)))) ?_
  refine g_lt (fun hc1 => ?_) (fun hc1 => ?_)
  · refine g_k 9 (pc' := 25) (LI' := [some (.ref 20), some (.int m), some (.int t), some (.int w), some (.int n)]) (LL' := []) (st' := [.ref 20, .ref 23]) (S' := (z_SH, z_row M 22 (upd (M 22) ((M 20 1).toNatClampNeg) m), L)) (fun nq hq => And.intro rfl (And.intro rfl (And.intro rfl (And.intro rfl (And.intro rfl (And.intro (p1 hc1) (And.intro rfl (And.intro rfl (And.intro rfl hq))))))))) ?_
    refine g_k 9 (pc' := 40) (LI' := [some (.ref 20), some (.int m), some (.int t), some (.int w), some (.int n)]) (LL' := []) (st' := []) (S' := (z_SH, z_row (z_row (z_row M 22 (upd (M 22) ((M 20 1).toNatClampNeg) m)) 23 (upd (M 23) ((M 20 1).toNatClampNeg) t)) 24 (upd (M 24) ((M 20 1).toNatClampNeg) w), L)) (fun nq hq => And.intro rfl (And.intro rfl (And.intro (p1 hc1) (And.intro rfl (And.intro rfl (And.intro rfl (And.intro rfl (And.intro rfl (And.intro (p1 hc1) hq))))))))) ?_
    refine g_k 9 (pc' := 56) (LI' := [some (.ref 20), some (.int m), some (.int t), some (.int w), some (.int n)]) (LL' := []) (st' := [.ref 20, .ref 26]) (S' := (z_SH, z_row (z_row (z_row (z_row M 22 (upd (M 22) ((M 20 1).toNatClampNeg) m)) 23 (upd (M 23) ((M 20 1).toNatClampNeg) t)) 24 (upd (M 24) ((M 20 1).toNatClampNeg) w)) 25 (upd (M 25) ((M 20 1).toNatClampNeg) n), L)) (fun nq hq => And.intro rfl (And.intro rfl (And.intro rfl (And.intro rfl (And.intro rfl (And.intro (p1 hc1) (And.intro rfl (And.intro rfl (And.intro rfl hq))))))))) ?_
    refine g_k 9 (pc' := 71) (LI' := [some (.ref 20), some (.int m), some (.int t), some (.int w), some (.int n)]) (LL' := []) (st' := []) (S' := (z_SH, z_row (z_row (z_row (z_row (z_row (z_row M 22 (upd (M 22) ((M 20 1).toNatClampNeg) m)) 23 (upd (M 23) ((M 20 1).toNatClampNeg) t)) 24 (upd (M 24) ((M 20 1).toNatClampNeg) w)) 25 (upd (M 25) ((M 20 1).toNatClampNeg) n)) 26 (upd (M 26) ((M 20 1).toNatClampNeg) ((0 : Int32)))) 27 (upd (M 27) ((M 20 1).toNatClampNeg) ((0 : Int32))), L)) (fun nq hq => And.intro rfl (And.intro rfl (And.intro (p1 hc1) (And.intro rfl (And.intro rfl (And.intro rfl (And.intro rfl (And.intro rfl (And.intro (p1 hc1) hq))))))))) ?_
    refine g_k 6 (pc' := 81) (LI' := [some (.ref 20), some (.int m), some (.int t), some (.int w), some (.int n)]) (LL' := []) (st' := []) (S' := (z_SH, z_row (z_row (z_row (z_row (z_row (z_row (z_row M 22 (upd (M 22) ((M 20 1).toNatClampNeg) m)) 23 (upd (M 23) ((M 20 1).toNatClampNeg) t)) 24 (upd (M 24) ((M 20 1).toNatClampNeg) w)) 25 (upd (M 25) ((M 20 1).toNatClampNeg) n)) 26 (upd (M 26) ((M 20 1).toNatClampNeg) ((0 : Int32)))) 27 (upd (M 27) ((M 20 1).toNatClampNeg) ((0 : Int32)))) 20 (upd (M 20) 1 ((M 20 1) + ((1 : Int32)))), L)) (fun nq hq => And.intro rfl (And.intro rfl (And.intro rfl (And.intro rfl (And.intro rfl (And.intro rfl hq)))))) ?_
    exact ⟨1, And.intro rfl (⟨rfl, (by unfold g_X0_button_20; (first | rw [if_pos hc1] | skip); try rfl)⟩)⟩
  · exact ⟨1, And.intro rfl (⟨rfl, (by unfold g_X0_button_20; (first | rw [if_neg hc1] | skip); try rfl)⟩)⟩
def g_X0_clear_7 (M : Nat → Nat → Int32)  : Nat → Nat → Int32 := z_row (z_row (z_row (z_row (z_row M 7 (upd (M 7) 1 ((0 : Int32)))) 7 (upd (upd (M 7) 1 ((0 : Int32))) 8 ((0 : Int32)))) 7 (upd (upd (upd (M 7) 1 ((0 : Int32))) 8 ((0 : Int32))) 9 ((0 : Int32)))) 7 (upd (upd (upd (upd (M 7) 1 ((0 : Int32))) 8 ((0 : Int32))) 9 ((0 : Int32))) 10 ((0 : Int32)))) 7 (upd (upd (upd (upd (upd (M 7) 1 ((0 : Int32))) 8 ((0 : Int32))) 9 ((0 : Int32))) 10 ((0 : Int32))) 11 ((0 : Int32)))
theorem fr_g_X0_clear_7 (M : Nat → Nat → Int32)  (c : Nat) (h7 : c ≠ 7) : g_X0_clear_7 M c = M c := by
  unfold g_X0_clear_7
  repeat' split
  all_goals simp only [z_row_ne h7]
theorem c_X0_clear_7 {d : Nat} {L : Nat → Nat → Int64} (M : Nat → Nat → Int32)   : z_C (d + 1) 1 [.ref 7] (z_SH, M, L) none (z_SH, g_X0_clear_7 M, L) := by
  refine z_mkA (tb := tb_X0_clear) rfl (by decide) rfl rfl rfl ?_
  refine g_k 9 (pc' := 15) (LI' := [some (.ref 7)]) (LL' := []) (st' := []) (S' := (z_SH, z_row (z_row (z_row M 7 (upd (M 7) 1 ((0 : Int32)))) 7 (upd (upd (M 7) 1 ((0 : Int32))) 8 ((0 : Int32)))) 7 (upd (upd (upd (M 7) 1 ((0 : Int32))) 8 ((0 : Int32))) 9 ((0 : Int32))), L)) (fun nq hq => And.intro rfl (And.intro rfl (And.intro rfl (And.intro rfl (And.intro rfl (And.intro rfl (And.intro rfl (And.intro rfl (And.intro rfl hq))))))))) ?_
  refine g_k 6 (pc' := 25) (LI' := [some (.ref 7)]) (LL' := []) (st' := []) (S' := (z_SH, z_row (z_row (z_row (z_row (z_row M 7 (upd (M 7) 1 ((0 : Int32)))) 7 (upd (upd (M 7) 1 ((0 : Int32))) 8 ((0 : Int32)))) 7 (upd (upd (upd (M 7) 1 ((0 : Int32))) 8 ((0 : Int32))) 9 ((0 : Int32)))) 7 (upd (upd (upd (upd (M 7) 1 ((0 : Int32))) 8 ((0 : Int32))) 9 ((0 : Int32))) 10 ((0 : Int32)))) 7 (upd (upd (upd (upd (upd (M 7) 1 ((0 : Int32))) 8 ((0 : Int32))) 9 ((0 : Int32))) 10 ((0 : Int32))) 11 ((0 : Int32))), L)) (fun nq hq => And.intro rfl (And.intro rfl (And.intro rfl (And.intro rfl (And.intro rfl (And.intro rfl hq)))))) ?_
  exact ⟨1, And.intro rfl (⟨rfl, rfl⟩)⟩
def f_X2_stands_3 (M : Nat → Nat → Int32)  : Int32 := if M 3 0 ≤ (0 : Int32) then (0 : Int32) else (1 : Int32)
theorem b_X2_stands_3 (M : Nat → Nat → Int32)  : f_X2_stands_3 M = 0 ∨ f_X2_stands_3 M = 1 := by
  unfold f_X2_stands_3
  repeat' split
  all_goals first | exact Or.inl rfl | exact Or.inr rfl
theorem c_X2_stands_3 {d : Nat} {L : Nat → Nat → Int64} (M : Nat → Nat → Int32)   : z_C (d + 1) 29 [.ref 3] (z_SH, M, L) (some (.int (f_X2_stands_3 M))) (z_SH, M, L) := by
  refine z_mkA (tb := tb_X2_stands) rfl (by decide) rfl rfl rfl ?_
  refine g_k 3 (pc' := (if z_cmp .le (M 3 0) ((0 : Int32)) = true then 11 else 7)) (LI' := [some (.ref 3)]) (LL' := []) (st' := []) (S' := (z_SH, M, L)) (fun nq hq => And.intro rfl (And.intro rfl (And.intro rfl hq))) ?_
  refine g_le (fun hc1 => ?_) (fun hc1 => ?_)
  · refine g_k 1 (pc' := 12) (LI' := [some (.ref 3)]) (LL' := []) (st' := [.int 0]) (S' := (z_SH, M, L)) (fun nq hq => And.intro rfl hq) ?_
    exact ⟨1, And.intro rfl (⟨(by unfold f_X2_stands_3; (first | rw [if_pos hc1] | skip); try rfl), rfl⟩)⟩
  · refine g_k 2 (pc' := 12) (LI' := [some (.ref 3)]) (LL' := []) (st' := [.int 1]) (S' := (z_SH, M, L)) (fun nq hq => And.intro rfl (And.intro rfl hq)) ?_
    exact ⟨1, And.intro rfl (⟨(by unfold f_X2_stands_3; (first | rw [if_neg hc1] | skip); try rfl), rfl⟩)⟩
def f_X2_stands_15 (M : Nat → Nat → Int32)  : Int32 := if M 15 0 ≤ (0 : Int32) then (0 : Int32) else (1 : Int32)
theorem b_X2_stands_15 (M : Nat → Nat → Int32)  : f_X2_stands_15 M = 0 ∨ f_X2_stands_15 M = 1 := by
  unfold f_X2_stands_15
  repeat' split
  all_goals first | exact Or.inl rfl | exact Or.inr rfl
theorem c_X2_stands_15 {d : Nat} {L : Nat → Nat → Int64} (M : Nat → Nat → Int32)   : z_C (d + 1) 29 [.ref 15] (z_SH, M, L) (some (.int (f_X2_stands_15 M))) (z_SH, M, L) := by
  refine z_mkA (tb := tb_X2_stands) rfl (by decide) rfl rfl rfl ?_
  refine g_k 3 (pc' := (if z_cmp .le (M 15 0) ((0 : Int32)) = true then 11 else 7)) (LI' := [some (.ref 15)]) (LL' := []) (st' := []) (S' := (z_SH, M, L)) (fun nq hq => And.intro rfl (And.intro rfl (And.intro rfl hq))) ?_
  refine g_le (fun hc1 => ?_) (fun hc1 => ?_)
  · refine g_k 1 (pc' := 12) (LI' := [some (.ref 15)]) (LL' := []) (st' := [.int 0]) (S' := (z_SH, M, L)) (fun nq hq => And.intro rfl hq) ?_
    exact ⟨1, And.intro rfl (⟨(by unfold f_X2_stands_15; (first | rw [if_pos hc1] | skip); try rfl), rfl⟩)⟩
  · refine g_k 2 (pc' := 12) (LI' := [some (.ref 15)]) (LL' := []) (st' := [.int 1]) (S' := (z_SH, M, L)) (fun nq hq => And.intro rfl (And.intro rfl hq)) ?_
    exact ⟨1, And.intro rfl (⟨(by unfold f_X2_stands_15; (first | rw [if_neg hc1] | skip); try rfl), rfl⟩)⟩
def g_X2_clear_3 (M : Nat → Nat → Int32)  : Nat → Nat → Int32 := z_row (z_row M 3 (upd (M 3) 0 ((0 : Int32)))) 3 (upd (upd (M 3) 0 ((0 : Int32))) 1 ((0 : Int32)))
theorem fr_g_X2_clear_3 (M : Nat → Nat → Int32)  (c : Nat) (h3 : c ≠ 3) : g_X2_clear_3 M c = M c := by
  unfold g_X2_clear_3
  repeat' split
  all_goals simp only [z_row_ne h3]
theorem c_X2_clear_3 {d : Nat} {L : Nat → Nat → Int64} (M : Nat → Nat → Int32)   : z_C (d + 1) 30 [.ref 3] (z_SH, M, L) none (z_SH, g_X2_clear_3 M, L) := by
  refine z_mkA (tb := tb_X2_clear) rfl (by decide) rfl rfl rfl ?_
  refine g_k 6 (pc' := 10) (LI' := [some (.ref 3)]) (LL' := []) (st' := []) (S' := (z_SH, z_row (z_row M 3 (upd (M 3) 0 ((0 : Int32)))) 3 (upd (upd (M 3) 0 ((0 : Int32))) 1 ((0 : Int32))), L)) (fun nq hq => And.intro rfl (And.intro rfl (And.intro rfl (And.intro rfl (And.intro rfl (And.intro rfl hq)))))) ?_
  exact ⟨1, And.intro rfl (⟨rfl, rfl⟩)⟩
def g_X2_copyFrom_15_3 (M : Nat → Nat → Int32)  : Nat → Nat → Int32 := z_row (z_row (z_row (z_row (z_row M 15 (upd (M 15) 0 (M 3 0))) 15 (upd (upd (M 15) 0 (M 3 0)) 1 (M 3 1))) 16 (va_cpy (M 4) (M 16) 0 0 6)) 17 (va_cpy (M 5) (M 17) 0 0 6)) 18 (va_cpy (M 6) (M 18) 0 0 6)
theorem fr_g_X2_copyFrom_15_3 (M : Nat → Nat → Int32)  (c : Nat) (h15 : c ≠ 15) (h16 : c ≠ 16) (h17 : c ≠ 17) (h18 : c ≠ 18) : g_X2_copyFrom_15_3 M c = M c := by
  unfold g_X2_copyFrom_15_3
  repeat' split
  all_goals simp only [z_row_ne h15, z_row_ne h16, z_row_ne h17, z_row_ne h18]
theorem c_X2_copyFrom_15_3 {d : Nat} {L : Nat → Nat → Int64} (M : Nat → Nat → Int32)   : z_C (d + 2) 31 [.ref 15, .ref 3] (z_SH, M, L) none (z_SH, g_X2_copyFrom_15_3 M, L) := by
  refine z_mkA (tb := tb_X2_copyFrom) rfl (by decide) rfl rfl rfl ?_
  refine g_k 9 (pc' := 17) (LI' := [some (.ref 15), some (.ref 3)]) (LL' := []) (st' := [.ref 3]) (S' := (z_SH, z_row (z_row M 15 (upd (M 15) 0 (M 3 0))) 15 (upd (upd (M 15) 0 (M 3 0)) 1 (M 3 1)), L)) (fun nq hq => And.intro rfl (And.intro rfl (And.intro rfl (And.intro rfl (And.intro rfl (And.intro rfl (And.intro rfl (And.intro rfl (And.intro rfl hq))))))))) ?_
  refine g_k 9 (pc' := 35) (LI' := [some (.ref 15), some (.ref 3)]) (LL' := []) (st' := [.ref 5]) (S' := (z_SH, z_row (z_row (z_row M 15 (upd (M 15) 0 (M 3 0))) 15 (upd (upd (M 15) 0 (M 3 0)) 1 (M 3 1))) 16 (va_cpy (M 4) (M 16) 0 0 6), L)) (fun nq hq => And.intro rfl (And.intro rfl (And.intro rfl (And.intro rfl (And.intro rfl (And.intro rfl (And.intro rfl (And.intro rfl (And.intro rfl hq))))))))) ?_
  refine g_k 9 (pc' := 51) (LI' := [some (.ref 15), some (.ref 3)]) (LL' := []) (st' := [.int 0, .ref 6]) (S' := (z_SH, z_row (z_row (z_row (z_row M 15 (upd (M 15) 0 (M 3 0))) 15 (upd (upd (M 15) 0 (M 3 0)) 1 (M 3 1))) 16 (va_cpy (M 4) (M 16) 0 0 6)) 17 (va_cpy (M 5) (M 17) 0 0 6), L)) (fun nq hq => And.intro rfl (And.intro rfl (And.intro rfl (And.intro rfl (And.intro rfl (And.intro rfl (And.intro rfl (And.intro rfl (And.intro rfl hq))))))))) ?_
  refine g_k 5 (pc' := 61) (LI' := [some (.ref 15), some (.ref 3)]) (LL' := []) (st' := []) (S' := (z_SH, z_row (z_row (z_row (z_row (z_row M 15 (upd (M 15) 0 (M 3 0))) 15 (upd (upd (M 15) 0 (M 3 0)) 1 (M 3 1))) 16 (va_cpy (M 4) (M 16) 0 0 6)) 17 (va_cpy (M 5) (M 17) 0 0 6)) 18 (va_cpy (M 6) (M 18) 0 0 6), L)) (fun nq hq => And.intro rfl (And.intro rfl (And.intro rfl (And.intro rfl (And.intro rfl hq))))) ?_
  exact ⟨1, And.intro rfl (⟨rfl, rfl⟩)⟩
def f_X1_pullBy_28 (M : Nat → Nat → Int32) (s : Int32) : Int32 := if M 23 ((s).toNatClampNeg) = M 28 2 then if ¬ M 24 ((s).toNatClampNeg) = (1 : Int32) then -(M 25 ((s).toNatClampNeg)) else M 25 ((s).toNatClampNeg) else (0 : Int32)
def q_X1_pullBy_28 (M : Nat → Nat → Int32) (s : Int32) : Prop := (z_vin s 12 = true) ∧ True
theorem c_X1_pullBy_28 {d : Nat} {L : Nat → Nat → Int64} (M : Nat → Nat → Int32) (s : Int32)  (hpre : q_X1_pullBy_28 M s) : z_C (d + 1) 16 [.ref 28, .int s] (z_SH, M, L) (some (.int (f_X1_pullBy_28 M s))) (z_SH, M, L) := by
  unfold q_X1_pullBy_28 at hpre
  obtain ⟨p1, -⟩ := hpre
  refine z_mkA (tb := tb_X1_pullBy) rfl (by decide) rfl rfl rfl ?_
  refine g_k 8 (pc' := (if z_cmp .eq (M 23 ((s).toNatClampNeg)) (M 28 2) = true then 18 else 16)) (LI' := [some (.ref 28), some (.int s)]) (LL' := []) (st' := []) (S' := (z_SH, M, L)) (fun nq hq => And.intro rfl (And.intro rfl (And.intro rfl (And.intro rfl (And.intro p1 (And.intro rfl (And.intro rfl (And.intro rfl hq)))))))) ?_
  refine g_eq (fun hc1 => ?_) (fun hc1 => ?_)
  · refine g_k 7 (pc' := (if z_cmp .ne (M 24 ((s).toNatClampNeg)) ((1 : Int32)) = true then 43 else 31)) (LI' := [some (.ref 28), some (.int s)]) (LL' := []) (st' := []) (S' := (z_SH, M, L)) (fun nq hq => And.intro rfl (And.intro rfl (And.intro rfl (And.intro rfl (And.intro p1 (And.intro rfl (And.intro rfl hq))))))) ?_
    refine g_ne (fun hc2 => ?_) (fun hc2 => ?_)
    · refine g_k 6 (pc' := 53) (LI' := [some (.ref 28), some (.int s)]) (LL' := []) (st' := [.int (-(M 25 ((s).toNatClampNeg)))]) (S' := (z_SH, M, L)) (fun nq hq => And.intro rfl (And.intro rfl (And.intro rfl (And.intro rfl (And.intro p1 (And.intro rfl hq)))))) ?_
      exact ⟨1, And.intro rfl (⟨(by unfold f_X1_pullBy_28; (first | rw [if_pos hc1] | skip); (first | rw [if_pos hc2] | skip); try rfl), rfl⟩)⟩
    · refine g_k 6 (pc' := 53) (LI' := [some (.ref 28), some (.int s)]) (LL' := []) (st' := [.int (M 25 ((s).toNatClampNeg))]) (S' := (z_SH, M, L)) (fun nq hq => And.intro rfl (And.intro rfl (And.intro rfl (And.intro rfl (And.intro p1 (And.intro rfl hq)))))) ?_
      exact ⟨1, And.intro rfl (⟨(by unfold f_X1_pullBy_28; (first | rw [if_pos hc1] | skip); (first | rw [if_neg (not_not_intro hc2)] | skip); try rfl), rfl⟩)⟩
  · refine g_k 1 (pc' := 17) (LI' := [some (.ref 28), some (.int s)]) (LL' := []) (st' := [.int 0]) (S' := (z_SH, M, L)) (fun nq hq => And.intro rfl hq) ?_
    exact ⟨1, And.intro rfl (⟨(by unfold f_X1_pullBy_28; (first | rw [if_neg hc1] | skip); try rfl), rfl⟩)⟩
def f_X1_wayOf_28 (M : Nat → Nat → Int32) (m : Int32) : Int32 := if M 29 ((m).toNatClampNeg) = (0 : Int32) then if M 268 ((m).toNatClampNeg) = (0 : Int32) then M 269 ((m).toNatClampNeg) else (2 : Int32) else if M 29 ((m).toNatClampNeg) ≤ (0 : Int32) then (0 : Int32) else (1 : Int32)
def q_X1_wayOf_28 (M : Nat → Nat → Int32) (m : Int32) : Prop := (z_vin m 6 = true) ∧ True
theorem c_X1_wayOf_28 {d : Nat} {L : Nat → Nat → Int64} (M : Nat → Nat → Int32) (m : Int32)  (hpre : q_X1_wayOf_28 M m) : z_C (d + 1) 15 [.ref 28, .int m] (z_SH, M, L) (some (.int (f_X1_wayOf_28 M m))) (z_SH, M, L) := by
  unfold q_X1_wayOf_28 at hpre
  obtain ⟨p1, -⟩ := hpre
  refine z_mkA (tb := tb_X1_wayOf) rfl (by decide) rfl rfl rfl ?_
  refine g_k 5 (pc' := (if z_cmp .eq (M 29 ((m).toNatClampNeg)) ((0 : Int32)) = true then 24 else 9)) (LI' := [some (.ref 28), some (.int m)]) (LL' := []) (st' := []) (S' := (z_SH, M, L)) (fun nq hq => And.intro rfl (And.intro rfl (And.intro rfl (And.intro p1 (And.intro rfl hq))))) ?_
  refine g_eq (fun hc1 => ?_) (fun hc1 => ?_)
  · refine g_k 5 (pc' := (if z_cmp .eq (M 268 ((m).toNatClampNeg)) ((0 : Int32)) = true then 37 else 33)) (LI' := [some (.ref 28), some (.int m)]) (LL' := []) (st' := []) (S' := (z_SH, M, L)) (fun nq hq => And.intro rfl (And.intro rfl (And.intro rfl (And.intro p1 (And.intro rfl hq))))) ?_
    refine g_eq (fun hc2 => ?_) (fun hc2 => ?_)
    · refine g_k 4 (pc' := 43) (LI' := [some (.ref 28), some (.int m)]) (LL' := []) (st' := [.int (M 269 ((m).toNatClampNeg))]) (S' := (z_SH, M, L)) (fun nq hq => And.intro rfl (And.intro rfl (And.intro rfl (And.intro p1 hq)))) ?_
      exact ⟨1, And.intro rfl (⟨(by unfold f_X1_wayOf_28; (first | rw [if_pos hc1] | skip); (first | rw [if_pos hc2] | skip); try rfl), rfl⟩)⟩
    · refine g_k 2 (pc' := 43) (LI' := [some (.ref 28), some (.int m)]) (LL' := []) (st' := [.int 2]) (S' := (z_SH, M, L)) (fun nq hq => And.intro rfl (And.intro rfl hq)) ?_
      exact ⟨1, And.intro rfl (⟨(by unfold f_X1_wayOf_28; (first | rw [if_pos hc1] | skip); (first | rw [if_neg hc2] | skip); try rfl), rfl⟩)⟩
  · refine g_k 5 (pc' := (if z_cmp .le (M 29 ((m).toNatClampNeg)) ((0 : Int32)) = true then 22 else 18)) (LI' := [some (.ref 28), some (.int m)]) (LL' := []) (st' := []) (S' := (z_SH, M, L)) (fun nq hq => And.intro rfl (And.intro rfl (And.intro rfl (And.intro p1 (And.intro rfl hq))))) ?_
    refine g_le (fun hc3 => ?_) (fun hc3 => ?_)
    · refine g_k 1 (pc' := 23) (LI' := [some (.ref 28), some (.int m)]) (LL' := []) (st' := [.int 0]) (S' := (z_SH, M, L)) (fun nq hq => And.intro rfl hq) ?_
      exact ⟨1, And.intro rfl (⟨(by unfold f_X1_wayOf_28; (first | rw [if_neg hc1] | skip); (first | rw [if_pos hc3] | skip); try rfl), rfl⟩)⟩
    · refine g_k 2 (pc' := 23) (LI' := [some (.ref 28), some (.int m)]) (LL' := []) (st' := [.int 1]) (S' := (z_SH, M, L)) (fun nq hq => And.intro rfl (And.intro rfl hq)) ?_
      exact ⟨1, And.intro rfl (⟨(by unfold f_X1_wayOf_28; (first | rw [if_neg hc1] | skip); (first | rw [if_neg hc3] | skip); try rfl), rfl⟩)⟩
def f_X1_isHeld_28 (M : Nat → Nat → Int32) (m : Int32) : Int32 := if M 31 ((m).toNatClampNeg) = (2 : Int32) then (0 : Int32) else if M 31 ((m).toNatClampNeg) = M 269 ((m).toNatClampNeg) then (0 : Int32) else (1 : Int32)
theorem b_X1_isHeld_28 (M : Nat → Nat → Int32) (m : Int32) : f_X1_isHeld_28 M m = 0 ∨ f_X1_isHeld_28 M m = 1 := by
  unfold f_X1_isHeld_28
  repeat' split
  all_goals first | exact Or.inl rfl | exact Or.inr rfl
def q_X1_isHeld_28 (M : Nat → Nat → Int32) (m : Int32) : Prop := (z_vin m 6 = true) ∧ True
theorem c_X1_isHeld_28 {d : Nat} {L : Nat → Nat → Int64} (M : Nat → Nat → Int32) (m : Int32)  (hpre : q_X1_isHeld_28 M m) : z_C (d + 1) 18 [.ref 28, .int m] (z_SH, M, L) (some (.int (f_X1_isHeld_28 M m))) (z_SH, M, L) := by
  unfold q_X1_isHeld_28 at hpre
  obtain ⟨p1, -⟩ := hpre
  refine z_mkA (tb := tb_X1_isHeld) rfl (by decide) rfl rfl rfl ?_
  refine g_k 6 (pc' := (if z_cmp .eq (M 31 ((m).toNatClampNeg)) ((2 : Int32)) = true then 29 else 10)) (LI' := [some (.ref 28), some (.int m)]) (LL' := []) (st' := []) (S' := (z_SH, M, L)) (fun nq hq => And.intro rfl (And.intro rfl (And.intro rfl (And.intro p1 (And.intro rfl (And.intro rfl hq)))))) ?_
  refine g_eq (fun hc1 => ?_) (fun hc1 => ?_)
  · refine g_k 1 (pc' := 30) (LI' := [some (.ref 28), some (.int m)]) (LL' := []) (st' := [.int 0]) (S' := (z_SH, M, L)) (fun nq hq => And.intro rfl hq) ?_
    exact ⟨1, And.intro rfl (⟨(by unfold f_X1_isHeld_28; (first | rw [if_pos hc1] | skip); try rfl), rfl⟩)⟩
  · refine g_k 9 (pc' := (if z_cmp .eq (M 31 ((m).toNatClampNeg)) (M 269 ((m).toNatClampNeg)) = true then 29 else 25)) (LI' := [some (.ref 28), some (.int m)]) (LL' := []) (st' := []) (S' := (z_SH, M, L)) (fun nq hq => And.intro rfl (And.intro rfl (And.intro rfl (And.intro p1 (And.intro rfl (And.intro rfl (And.intro rfl (And.intro p1 (And.intro rfl hq))))))))) ?_
    refine g_eq (fun hc2 => ?_) (fun hc2 => ?_)
    · refine g_k 1 (pc' := 30) (LI' := [some (.ref 28), some (.int m)]) (LL' := []) (st' := [.int 0]) (S' := (z_SH, M, L)) (fun nq hq => And.intro rfl hq) ?_
      exact ⟨1, And.intro rfl (⟨(by unfold f_X1_isHeld_28; (first | rw [if_neg hc1] | skip); (first | rw [if_pos hc2] | skip); try rfl), rfl⟩)⟩
    · refine g_k 2 (pc' := 30) (LI' := [some (.ref 28), some (.int m)]) (LL' := []) (st' := [.int 1]) (S' := (z_SH, M, L)) (fun nq hq => And.intro rfl (And.intro rfl hq)) ?_
      exact ⟨1, And.intro rfl (⟨(by unfold f_X1_isHeld_28; (first | rw [if_neg hc1] | skip); (first | rw [if_neg hc2] | skip); try rfl), rfl⟩)⟩
def f_X1_votesOf_28 (M : Nat → Nat → Int32) (m : Int32) : Int32 := if ¬ M 31 ((m).toNatClampNeg) = (2 : Int32) then if ¬ M 16 ((m).toNatClampNeg) = (3 : Int32) then (1 : Int32) else if M 268 ((m).toNatClampNeg) = (0 : Int32) then (1 : Int32) else (2 : Int32) else (0 : Int32)
def q_X1_votesOf_28 (M : Nat → Nat → Int32) (m : Int32) : Prop := (z_vin m 6 = true) ∧ True
theorem c_X1_votesOf_28 {d : Nat} {L : Nat → Nat → Int64} (M : Nat → Nat → Int32) (m : Int32)  (hpre : q_X1_votesOf_28 M m) : z_C (d + 1) 19 [.ref 28, .int m] (z_SH, M, L) (some (.int (f_X1_votesOf_28 M m))) (z_SH, M, L) := by
  unfold q_X1_votesOf_28 at hpre
  obtain ⟨p1, -⟩ := hpre
  refine z_mkA (tb := tb_X1_votesOf) rfl (by decide) rfl rfl rfl ?_
  refine g_k 6 (pc' := (if z_cmp .ne (M 31 ((m).toNatClampNeg)) ((2 : Int32)) = true then 12 else 10)) (LI' := [some (.ref 28), some (.int m)]) (LL' := []) (st' := []) (S' := (z_SH, M, L)) (fun nq hq => And.intro rfl (And.intro rfl (And.intro rfl (And.intro p1 (And.intro rfl (And.intro rfl hq)))))) ?_
  refine g_ne (fun hc1 => ?_) (fun hc1 => ?_)
  · refine g_k 7 (pc' := (if z_cmp .ne (M 16 ((m).toNatClampNeg)) ((3 : Int32)) = true then 38 else 25)) (LI' := [some (.ref 28), some (.int m)]) (LL' := []) (st' := []) (S' := (z_SH, M, L)) (fun nq hq => And.intro rfl (And.intro rfl (And.intro rfl (And.intro rfl (And.intro p1 (And.intro rfl (And.intro rfl hq))))))) ?_
    refine g_ne (fun hc2 => ?_) (fun hc2 => ?_)
    · refine g_k 1 (pc' := 39) (LI' := [some (.ref 28), some (.int m)]) (LL' := []) (st' := [.int 1]) (S' := (z_SH, M, L)) (fun nq hq => And.intro rfl hq) ?_
      exact ⟨1, And.intro rfl (⟨(by unfold f_X1_votesOf_28; (first | rw [if_pos hc1] | skip); (first | rw [if_pos hc2] | skip); try rfl), rfl⟩)⟩
    · refine g_k 5 (pc' := (if z_cmp .eq (M 268 ((m).toNatClampNeg)) ((0 : Int32)) = true then 38 else 34)) (LI' := [some (.ref 28), some (.int m)]) (LL' := []) (st' := []) (S' := (z_SH, M, L)) (fun nq hq => And.intro rfl (And.intro rfl (And.intro rfl (And.intro p1 (And.intro rfl hq))))) ?_
      refine g_eq (fun hc3 => ?_) (fun hc3 => ?_)
      · refine g_k 1 (pc' := 39) (LI' := [some (.ref 28), some (.int m)]) (LL' := []) (st' := [.int 1]) (S' := (z_SH, M, L)) (fun nq hq => And.intro rfl hq) ?_
        exact ⟨1, And.intro rfl (⟨(by unfold f_X1_votesOf_28; (first | rw [if_pos hc1] | skip); (first | rw [if_neg (not_not_intro hc2)] | skip); (first | rw [if_pos hc3] | skip); try rfl), rfl⟩)⟩
      · refine g_k 2 (pc' := 39) (LI' := [some (.ref 28), some (.int m)]) (LL' := []) (st' := [.int 2]) (S' := (z_SH, M, L)) (fun nq hq => And.intro rfl (And.intro rfl hq)) ?_
        exact ⟨1, And.intro rfl (⟨(by unfold f_X1_votesOf_28; (first | rw [if_pos hc1] | skip); (first | rw [if_neg (not_not_intro hc2)] | skip); (first | rw [if_neg hc3] | skip); try rfl), rfl⟩)⟩
  · refine g_k 1 (pc' := 11) (LI' := [some (.ref 28), some (.int m)]) (LL' := []) (st' := [.int 0]) (S' := (z_SH, M, L)) (fun nq hq => And.intro rfl hq) ?_
    exact ⟨1, And.intro rfl (⟨(by unfold f_X1_votesOf_28; (first | rw [if_neg (not_not_intro hc1)] | skip); try rfl), rfl⟩)⟩
def f_X1_gainBy_28 (M : Nat → Nat → Int32) (m : Int32) : Int32 := if ¬ M 31 ((m).toNatClampNeg) = (1 : Int32) then -(M 270 ((m).toNatClampNeg)) else M 270 ((m).toNatClampNeg)
def q_X1_gainBy_28 (M : Nat → Nat → Int32) (m : Int32) : Prop := (z_vin m 6 = true) ∧ True
theorem c_X1_gainBy_28 {d : Nat} {L : Nat → Nat → Int64} (M : Nat → Nat → Int32) (m : Int32)  (hpre : q_X1_gainBy_28 M m) : z_C (d + 1) 20 [.ref 28, .int m] (z_SH, M, L) (some (.int (f_X1_gainBy_28 M m))) (z_SH, M, L) := by
  unfold q_X1_gainBy_28 at hpre
  obtain ⟨p1, -⟩ := hpre
  refine z_mkA (tb := tb_X1_gainBy) rfl (by decide) rfl rfl rfl ?_
  refine g_k 6 (pc' := (if z_cmp .ne (M 31 ((m).toNatClampNeg)) ((1 : Int32)) = true then 19 else 10)) (LI' := [some (.ref 28), some (.int m)]) (LL' := []) (st' := []) (S' := (z_SH, M, L)) (fun nq hq => And.intro rfl (And.intro rfl (And.intro rfl (And.intro p1 (And.intro rfl (And.intro rfl hq)))))) ?_
  refine g_ne (fun hc1 => ?_) (fun hc1 => ?_)
  · refine g_k 5 (pc' := 26) (LI' := [some (.ref 28), some (.int m)]) (LL' := []) (st' := [.int (-(M 270 ((m).toNatClampNeg)))]) (S' := (z_SH, M, L)) (fun nq hq => And.intro rfl (And.intro rfl (And.intro rfl (And.intro p1 (And.intro rfl hq))))) ?_
    exact ⟨1, And.intro rfl (⟨(by unfold f_X1_gainBy_28; (first | rw [if_pos hc1] | skip); try rfl), rfl⟩)⟩
  · refine g_k 5 (pc' := 26) (LI' := [some (.ref 28), some (.int m)]) (LL' := []) (st' := [.int (M 270 ((m).toNatClampNeg))]) (S' := (z_SH, M, L)) (fun nq hq => And.intro rfl (And.intro rfl (And.intro rfl (And.intro p1 (And.intro rfl hq))))) ?_
    exact ⟨1, And.intro rfl (⟨(by unfold f_X1_gainBy_28; (first | rw [if_neg (not_not_intro hc1)] | skip); try rfl), rfl⟩)⟩
def f_X1_isOn_28 (M : Nat → Nat → Int32) (s : Int32) : Int32 := if (f_X0_holds_20 M s) = (0 : Int32) then (0 : Int32) else if ¬ M 23 ((s).toNatClampNeg) = M 28 2 then (0 : Int32) else (1 : Int32)
theorem b_X1_isOn_28 (M : Nat → Nat → Int32) (s : Int32) : f_X1_isOn_28 M s = 0 ∨ f_X1_isOn_28 M s = 1 := by
  unfold f_X1_isOn_28
  repeat' split
  all_goals first | exact Or.inl rfl | exact Or.inr rfl
def q_X1_isOn_28 (M : Nat → Nat → Int32) (s : Int32) : Prop := (q_X0_holds_20 M s) ∧ ((¬ ((f_X0_holds_20 M s) = (0 : Int32))) → (z_vin s 12 = true)) ∧ True
theorem c_X1_isOn_28 {d : Nat} {L : Nat → Nat → Int64} (M : Nat → Nat → Int32) (s : Int32)  (hpre : q_X1_isOn_28 M s) : z_C (d + 2) 25 [.ref 28, .int s] (z_SH, M, L) (some (.int (f_X1_isOn_28 M s))) (z_SH, M, L) := by
  unfold q_X1_isOn_28 at hpre
  obtain ⟨p1, p2, -⟩ := hpre
  refine z_mkA (tb := tb_X1_isOn) rfl (by decide) rfl rfl rfl ?_
  refine g_k 3 (pc' := 5) (LI' := [some (.ref 28), some (.int s)]) (LL' := []) (st' := [.int s, .ref 20]) (S' := (z_SH, M, L)) (fun nq hq => And.intro rfl (And.intro rfl (And.intro rfl hq))) ?_
  refine g_k 1 (pc' := 8) (LI' := [some (.ref 28), some (.int s)]) (LL' := []) (st' := [.int (f_X0_holds_20 M s)]) (S' := (z_SH, M, L)) (fun nq hq => And.intro rfl (Exists.intro _ (Exists.intro _ (And.intro (c_X0_holds_20 (d := d) M s p1) (And.intro (z_fit_same _ _ _ _ _ _ _ _) hq))))) ?_
  generalize hg1 : f_X0_holds_20 M s = r1 at *
  refine g_k 1 (pc' := (if z_cmp .eq r1 ((0 : Int32)) = true then 31 else 11)) (LI' := [some (.ref 28), some (.int s)]) (LL' := []) (st' := []) (S' := (z_SH, M, L)) (fun nq hq => And.intro rfl hq) ?_
  refine g_eq (fun hc1 => ?_) (fun hc1 => ?_)
  · refine g_k 1 (pc' := 32) (LI' := [some (.ref 28), some (.int s)]) (LL' := []) (st' := [.int 0]) (S' := (z_SH, M, L)) (fun nq hq => And.intro rfl hq) ?_
    exact ⟨1, And.intro rfl (⟨(by subst hg1; unfold f_X1_isOn_28; (first | rw [if_pos hc1] | skip); try rfl), rfl⟩)⟩
  · refine g_k 8 (pc' := (if z_cmp .ne (M 23 ((s).toNatClampNeg)) (M 28 2) = true then 31 else 27)) (LI' := [some (.ref 28), some (.int s)]) (LL' := []) (st' := []) (S' := (z_SH, M, L)) (fun nq hq => And.intro rfl (And.intro rfl (And.intro rfl (And.intro rfl (And.intro (p2 hc1) (And.intro rfl (And.intro rfl (And.intro rfl hq)))))))) ?_
    refine g_ne (fun hc2 => ?_) (fun hc2 => ?_)
    · refine g_k 1 (pc' := 32) (LI' := [some (.ref 28), some (.int s)]) (LL' := []) (st' := [.int 0]) (S' := (z_SH, M, L)) (fun nq hq => And.intro rfl hq) ?_
      exact ⟨1, And.intro rfl (⟨(by subst hg1; unfold f_X1_isOn_28; (first | rw [if_neg hc1] | skip); (first | rw [if_pos hc2] | skip); try rfl), rfl⟩)⟩
    · refine g_k 2 (pc' := 32) (LI' := [some (.ref 28), some (.int s)]) (LL' := []) (st' := [.int 1]) (S' := (z_SH, M, L)) (fun nq hq => And.intro rfl (And.intro rfl hq)) ?_
      exact ⟨1, And.intro rfl (⟨(by subst hg1; unfold f_X1_isOn_28; (first | rw [if_neg hc1] | skip); (first | rw [if_neg (not_not_intro hc2)] | skip); try rfl), rfl⟩)⟩
def f_X1_pullBy_42 (M : Nat → Nat → Int32) (s : Int32) : Int32 := if M 37 ((s).toNatClampNeg) = M 42 2 then if ¬ M 38 ((s).toNatClampNeg) = (1 : Int32) then -(M 39 ((s).toNatClampNeg)) else M 39 ((s).toNatClampNeg) else (0 : Int32)
def q_X1_pullBy_42 (M : Nat → Nat → Int32) (s : Int32) : Prop := (z_vin s 12 = true) ∧ True
theorem c_X1_pullBy_42 {d : Nat} {L : Nat → Nat → Int64} (M : Nat → Nat → Int32) (s : Int32)  (hpre : q_X1_pullBy_42 M s) : z_C (d + 1) 16 [.ref 42, .int s] (z_SH, M, L) (some (.int (f_X1_pullBy_42 M s))) (z_SH, M, L) := by
  unfold q_X1_pullBy_42 at hpre
  obtain ⟨p1, -⟩ := hpre
  refine z_mkA (tb := tb_X1_pullBy) rfl (by decide) rfl rfl rfl ?_
  refine g_k 8 (pc' := (if z_cmp .eq (M 37 ((s).toNatClampNeg)) (M 42 2) = true then 18 else 16)) (LI' := [some (.ref 42), some (.int s)]) (LL' := []) (st' := []) (S' := (z_SH, M, L)) (fun nq hq => And.intro rfl (And.intro rfl (And.intro rfl (And.intro rfl (And.intro p1 (And.intro rfl (And.intro rfl (And.intro rfl hq)))))))) ?_
  refine g_eq (fun hc1 => ?_) (fun hc1 => ?_)
  · refine g_k 7 (pc' := (if z_cmp .ne (M 38 ((s).toNatClampNeg)) ((1 : Int32)) = true then 43 else 31)) (LI' := [some (.ref 42), some (.int s)]) (LL' := []) (st' := []) (S' := (z_SH, M, L)) (fun nq hq => And.intro rfl (And.intro rfl (And.intro rfl (And.intro rfl (And.intro p1 (And.intro rfl (And.intro rfl hq))))))) ?_
    refine g_ne (fun hc2 => ?_) (fun hc2 => ?_)
    · refine g_k 6 (pc' := 53) (LI' := [some (.ref 42), some (.int s)]) (LL' := []) (st' := [.int (-(M 39 ((s).toNatClampNeg)))]) (S' := (z_SH, M, L)) (fun nq hq => And.intro rfl (And.intro rfl (And.intro rfl (And.intro rfl (And.intro p1 (And.intro rfl hq)))))) ?_
      exact ⟨1, And.intro rfl (⟨(by unfold f_X1_pullBy_42; (first | rw [if_pos hc1] | skip); (first | rw [if_pos hc2] | skip); try rfl), rfl⟩)⟩
    · refine g_k 6 (pc' := 53) (LI' := [some (.ref 42), some (.int s)]) (LL' := []) (st' := [.int (M 39 ((s).toNatClampNeg))]) (S' := (z_SH, M, L)) (fun nq hq => And.intro rfl (And.intro rfl (And.intro rfl (And.intro rfl (And.intro p1 (And.intro rfl hq)))))) ?_
      exact ⟨1, And.intro rfl (⟨(by unfold f_X1_pullBy_42; (first | rw [if_pos hc1] | skip); (first | rw [if_neg (not_not_intro hc2)] | skip); try rfl), rfl⟩)⟩
  · refine g_k 1 (pc' := 17) (LI' := [some (.ref 42), some (.int s)]) (LL' := []) (st' := [.int 0]) (S' := (z_SH, M, L)) (fun nq hq => And.intro rfl hq) ?_
    exact ⟨1, And.intro rfl (⟨(by unfold f_X1_pullBy_42; (first | rw [if_neg hc1] | skip); try rfl), rfl⟩)⟩
def f_X1_wayOf_42 (M : Nat → Nat → Int32) (m : Int32) : Int32 := if M 43 ((m).toNatClampNeg) = (0 : Int32) then if M 271 ((m).toNatClampNeg) = (0 : Int32) then M 272 ((m).toNatClampNeg) else (2 : Int32) else if M 43 ((m).toNatClampNeg) ≤ (0 : Int32) then (0 : Int32) else (1 : Int32)
def q_X1_wayOf_42 (M : Nat → Nat → Int32) (m : Int32) : Prop := (z_vin m 6 = true) ∧ True
theorem c_X1_wayOf_42 {d : Nat} {L : Nat → Nat → Int64} (M : Nat → Nat → Int32) (m : Int32)  (hpre : q_X1_wayOf_42 M m) : z_C (d + 1) 15 [.ref 42, .int m] (z_SH, M, L) (some (.int (f_X1_wayOf_42 M m))) (z_SH, M, L) := by
  unfold q_X1_wayOf_42 at hpre
  obtain ⟨p1, -⟩ := hpre
  refine z_mkA (tb := tb_X1_wayOf) rfl (by decide) rfl rfl rfl ?_
  refine g_k 5 (pc' := (if z_cmp .eq (M 43 ((m).toNatClampNeg)) ((0 : Int32)) = true then 24 else 9)) (LI' := [some (.ref 42), some (.int m)]) (LL' := []) (st' := []) (S' := (z_SH, M, L)) (fun nq hq => And.intro rfl (And.intro rfl (And.intro rfl (And.intro p1 (And.intro rfl hq))))) ?_
  refine g_eq (fun hc1 => ?_) (fun hc1 => ?_)
  · refine g_k 5 (pc' := (if z_cmp .eq (M 271 ((m).toNatClampNeg)) ((0 : Int32)) = true then 37 else 33)) (LI' := [some (.ref 42), some (.int m)]) (LL' := []) (st' := []) (S' := (z_SH, M, L)) (fun nq hq => And.intro rfl (And.intro rfl (And.intro rfl (And.intro p1 (And.intro rfl hq))))) ?_
    refine g_eq (fun hc2 => ?_) (fun hc2 => ?_)
    · refine g_k 4 (pc' := 43) (LI' := [some (.ref 42), some (.int m)]) (LL' := []) (st' := [.int (M 272 ((m).toNatClampNeg))]) (S' := (z_SH, M, L)) (fun nq hq => And.intro rfl (And.intro rfl (And.intro rfl (And.intro p1 hq)))) ?_
      exact ⟨1, And.intro rfl (⟨(by unfold f_X1_wayOf_42; (first | rw [if_pos hc1] | skip); (first | rw [if_pos hc2] | skip); try rfl), rfl⟩)⟩
    · refine g_k 2 (pc' := 43) (LI' := [some (.ref 42), some (.int m)]) (LL' := []) (st' := [.int 2]) (S' := (z_SH, M, L)) (fun nq hq => And.intro rfl (And.intro rfl hq)) ?_
      exact ⟨1, And.intro rfl (⟨(by unfold f_X1_wayOf_42; (first | rw [if_pos hc1] | skip); (first | rw [if_neg hc2] | skip); try rfl), rfl⟩)⟩
  · refine g_k 5 (pc' := (if z_cmp .le (M 43 ((m).toNatClampNeg)) ((0 : Int32)) = true then 22 else 18)) (LI' := [some (.ref 42), some (.int m)]) (LL' := []) (st' := []) (S' := (z_SH, M, L)) (fun nq hq => And.intro rfl (And.intro rfl (And.intro rfl (And.intro p1 (And.intro rfl hq))))) ?_
    refine g_le (fun hc3 => ?_) (fun hc3 => ?_)
    · refine g_k 1 (pc' := 23) (LI' := [some (.ref 42), some (.int m)]) (LL' := []) (st' := [.int 0]) (S' := (z_SH, M, L)) (fun nq hq => And.intro rfl hq) ?_
      exact ⟨1, And.intro rfl (⟨(by unfold f_X1_wayOf_42; (first | rw [if_neg hc1] | skip); (first | rw [if_pos hc3] | skip); try rfl), rfl⟩)⟩
    · refine g_k 2 (pc' := 23) (LI' := [some (.ref 42), some (.int m)]) (LL' := []) (st' := [.int 1]) (S' := (z_SH, M, L)) (fun nq hq => And.intro rfl (And.intro rfl hq)) ?_
      exact ⟨1, And.intro rfl (⟨(by unfold f_X1_wayOf_42; (first | rw [if_neg hc1] | skip); (first | rw [if_neg hc3] | skip); try rfl), rfl⟩)⟩
def f_X1_isHeld_42 (M : Nat → Nat → Int32) (m : Int32) : Int32 := if M 45 ((m).toNatClampNeg) = (2 : Int32) then (0 : Int32) else if M 45 ((m).toNatClampNeg) = M 272 ((m).toNatClampNeg) then (0 : Int32) else (1 : Int32)
theorem b_X1_isHeld_42 (M : Nat → Nat → Int32) (m : Int32) : f_X1_isHeld_42 M m = 0 ∨ f_X1_isHeld_42 M m = 1 := by
  unfold f_X1_isHeld_42
  repeat' split
  all_goals first | exact Or.inl rfl | exact Or.inr rfl
def q_X1_isHeld_42 (M : Nat → Nat → Int32) (m : Int32) : Prop := (z_vin m 6 = true) ∧ True
theorem c_X1_isHeld_42 {d : Nat} {L : Nat → Nat → Int64} (M : Nat → Nat → Int32) (m : Int32)  (hpre : q_X1_isHeld_42 M m) : z_C (d + 1) 18 [.ref 42, .int m] (z_SH, M, L) (some (.int (f_X1_isHeld_42 M m))) (z_SH, M, L) := by
  unfold q_X1_isHeld_42 at hpre
  obtain ⟨p1, -⟩ := hpre
  refine z_mkA (tb := tb_X1_isHeld) rfl (by decide) rfl rfl rfl ?_
  refine g_k 6 (pc' := (if z_cmp .eq (M 45 ((m).toNatClampNeg)) ((2 : Int32)) = true then 29 else 10)) (LI' := [some (.ref 42), some (.int m)]) (LL' := []) (st' := []) (S' := (z_SH, M, L)) (fun nq hq => And.intro rfl (And.intro rfl (And.intro rfl (And.intro p1 (And.intro rfl (And.intro rfl hq)))))) ?_
  refine g_eq (fun hc1 => ?_) (fun hc1 => ?_)
  · refine g_k 1 (pc' := 30) (LI' := [some (.ref 42), some (.int m)]) (LL' := []) (st' := [.int 0]) (S' := (z_SH, M, L)) (fun nq hq => And.intro rfl hq) ?_
    exact ⟨1, And.intro rfl (⟨(by unfold f_X1_isHeld_42; (first | rw [if_pos hc1] | skip); try rfl), rfl⟩)⟩
  · refine g_k 9 (pc' := (if z_cmp .eq (M 45 ((m).toNatClampNeg)) (M 272 ((m).toNatClampNeg)) = true then 29 else 25)) (LI' := [some (.ref 42), some (.int m)]) (LL' := []) (st' := []) (S' := (z_SH, M, L)) (fun nq hq => And.intro rfl (And.intro rfl (And.intro rfl (And.intro p1 (And.intro rfl (And.intro rfl (And.intro rfl (And.intro p1 (And.intro rfl hq))))))))) ?_
    refine g_eq (fun hc2 => ?_) (fun hc2 => ?_)
    · refine g_k 1 (pc' := 30) (LI' := [some (.ref 42), some (.int m)]) (LL' := []) (st' := [.int 0]) (S' := (z_SH, M, L)) (fun nq hq => And.intro rfl hq) ?_
      exact ⟨1, And.intro rfl (⟨(by unfold f_X1_isHeld_42; (first | rw [if_neg hc1] | skip); (first | rw [if_pos hc2] | skip); try rfl), rfl⟩)⟩
    · refine g_k 2 (pc' := 30) (LI' := [some (.ref 42), some (.int m)]) (LL' := []) (st' := [.int 1]) (S' := (z_SH, M, L)) (fun nq hq => And.intro rfl (And.intro rfl hq)) ?_
      exact ⟨1, And.intro rfl (⟨(by unfold f_X1_isHeld_42; (first | rw [if_neg hc1] | skip); (first | rw [if_neg hc2] | skip); try rfl), rfl⟩)⟩
def f_X1_votesOf_42 (M : Nat → Nat → Int32) (m : Int32) : Int32 := if ¬ M 45 ((m).toNatClampNeg) = (2 : Int32) then if ¬ M 16 ((m).toNatClampNeg) = (3 : Int32) then (1 : Int32) else if M 271 ((m).toNatClampNeg) = (0 : Int32) then (1 : Int32) else (2 : Int32) else (0 : Int32)
def q_X1_votesOf_42 (M : Nat → Nat → Int32) (m : Int32) : Prop := (z_vin m 6 = true) ∧ True
theorem c_X1_votesOf_42 {d : Nat} {L : Nat → Nat → Int64} (M : Nat → Nat → Int32) (m : Int32)  (hpre : q_X1_votesOf_42 M m) : z_C (d + 1) 19 [.ref 42, .int m] (z_SH, M, L) (some (.int (f_X1_votesOf_42 M m))) (z_SH, M, L) := by
  unfold q_X1_votesOf_42 at hpre
  obtain ⟨p1, -⟩ := hpre
  refine z_mkA (tb := tb_X1_votesOf) rfl (by decide) rfl rfl rfl ?_
  refine g_k 6 (pc' := (if z_cmp .ne (M 45 ((m).toNatClampNeg)) ((2 : Int32)) = true then 12 else 10)) (LI' := [some (.ref 42), some (.int m)]) (LL' := []) (st' := []) (S' := (z_SH, M, L)) (fun nq hq => And.intro rfl (And.intro rfl (And.intro rfl (And.intro p1 (And.intro rfl (And.intro rfl hq)))))) ?_
  refine g_ne (fun hc1 => ?_) (fun hc1 => ?_)
  · refine g_k 7 (pc' := (if z_cmp .ne (M 16 ((m).toNatClampNeg)) ((3 : Int32)) = true then 38 else 25)) (LI' := [some (.ref 42), some (.int m)]) (LL' := []) (st' := []) (S' := (z_SH, M, L)) (fun nq hq => And.intro rfl (And.intro rfl (And.intro rfl (And.intro rfl (And.intro p1 (And.intro rfl (And.intro rfl hq))))))) ?_
    refine g_ne (fun hc2 => ?_) (fun hc2 => ?_)
    · refine g_k 1 (pc' := 39) (LI' := [some (.ref 42), some (.int m)]) (LL' := []) (st' := [.int 1]) (S' := (z_SH, M, L)) (fun nq hq => And.intro rfl hq) ?_
      exact ⟨1, And.intro rfl (⟨(by unfold f_X1_votesOf_42; (first | rw [if_pos hc1] | skip); (first | rw [if_pos hc2] | skip); try rfl), rfl⟩)⟩
    · refine g_k 5 (pc' := (if z_cmp .eq (M 271 ((m).toNatClampNeg)) ((0 : Int32)) = true then 38 else 34)) (LI' := [some (.ref 42), some (.int m)]) (LL' := []) (st' := []) (S' := (z_SH, M, L)) (fun nq hq => And.intro rfl (And.intro rfl (And.intro rfl (And.intro p1 (And.intro rfl hq))))) ?_
      refine g_eq (fun hc3 => ?_) (fun hc3 => ?_)
      · refine g_k 1 (pc' := 39) (LI' := [some (.ref 42), some (.int m)]) (LL' := []) (st' := [.int 1]) (S' := (z_SH, M, L)) (fun nq hq => And.intro rfl hq) ?_
        exact ⟨1, And.intro rfl (⟨(by unfold f_X1_votesOf_42; (first | rw [if_pos hc1] | skip); (first | rw [if_neg (not_not_intro hc2)] | skip); (first | rw [if_pos hc3] | skip); try rfl), rfl⟩)⟩
      · refine g_k 2 (pc' := 39) (LI' := [some (.ref 42), some (.int m)]) (LL' := []) (st' := [.int 2]) (S' := (z_SH, M, L)) (fun nq hq => And.intro rfl (And.intro rfl hq)) ?_
        exact ⟨1, And.intro rfl (⟨(by unfold f_X1_votesOf_42; (first | rw [if_pos hc1] | skip); (first | rw [if_neg (not_not_intro hc2)] | skip); (first | rw [if_neg hc3] | skip); try rfl), rfl⟩)⟩
  · refine g_k 1 (pc' := 11) (LI' := [some (.ref 42), some (.int m)]) (LL' := []) (st' := [.int 0]) (S' := (z_SH, M, L)) (fun nq hq => And.intro rfl hq) ?_
    exact ⟨1, And.intro rfl (⟨(by unfold f_X1_votesOf_42; (first | rw [if_neg (not_not_intro hc1)] | skip); try rfl), rfl⟩)⟩
def f_X1_gainBy_42 (M : Nat → Nat → Int32) (m : Int32) : Int32 := if ¬ M 45 ((m).toNatClampNeg) = (1 : Int32) then -(M 273 ((m).toNatClampNeg)) else M 273 ((m).toNatClampNeg)
def q_X1_gainBy_42 (M : Nat → Nat → Int32) (m : Int32) : Prop := (z_vin m 6 = true) ∧ True
theorem c_X1_gainBy_42 {d : Nat} {L : Nat → Nat → Int64} (M : Nat → Nat → Int32) (m : Int32)  (hpre : q_X1_gainBy_42 M m) : z_C (d + 1) 20 [.ref 42, .int m] (z_SH, M, L) (some (.int (f_X1_gainBy_42 M m))) (z_SH, M, L) := by
  unfold q_X1_gainBy_42 at hpre
  obtain ⟨p1, -⟩ := hpre
  refine z_mkA (tb := tb_X1_gainBy) rfl (by decide) rfl rfl rfl ?_
  refine g_k 6 (pc' := (if z_cmp .ne (M 45 ((m).toNatClampNeg)) ((1 : Int32)) = true then 19 else 10)) (LI' := [some (.ref 42), some (.int m)]) (LL' := []) (st' := []) (S' := (z_SH, M, L)) (fun nq hq => And.intro rfl (And.intro rfl (And.intro rfl (And.intro p1 (And.intro rfl (And.intro rfl hq)))))) ?_
  refine g_ne (fun hc1 => ?_) (fun hc1 => ?_)
  · refine g_k 5 (pc' := 26) (LI' := [some (.ref 42), some (.int m)]) (LL' := []) (st' := [.int (-(M 273 ((m).toNatClampNeg)))]) (S' := (z_SH, M, L)) (fun nq hq => And.intro rfl (And.intro rfl (And.intro rfl (And.intro p1 (And.intro rfl hq))))) ?_
    exact ⟨1, And.intro rfl (⟨(by unfold f_X1_gainBy_42; (first | rw [if_pos hc1] | skip); try rfl), rfl⟩)⟩
  · refine g_k 5 (pc' := 26) (LI' := [some (.ref 42), some (.int m)]) (LL' := []) (st' := [.int (M 273 ((m).toNatClampNeg))]) (S' := (z_SH, M, L)) (fun nq hq => And.intro rfl (And.intro rfl (And.intro rfl (And.intro p1 (And.intro rfl hq))))) ?_
    exact ⟨1, And.intro rfl (⟨(by unfold f_X1_gainBy_42; (first | rw [if_neg (not_not_intro hc1)] | skip); try rfl), rfl⟩)⟩
def f_X1_isOn_42 (M : Nat → Nat → Int32) (s : Int32) : Int32 := if (f_X0_holds_34 M s) = (0 : Int32) then (0 : Int32) else if ¬ M 37 ((s).toNatClampNeg) = M 42 2 then (0 : Int32) else (1 : Int32)
theorem b_X1_isOn_42 (M : Nat → Nat → Int32) (s : Int32) : f_X1_isOn_42 M s = 0 ∨ f_X1_isOn_42 M s = 1 := by
  unfold f_X1_isOn_42
  repeat' split
  all_goals first | exact Or.inl rfl | exact Or.inr rfl
def q_X1_isOn_42 (M : Nat → Nat → Int32) (s : Int32) : Prop := (q_X0_holds_34 M s) ∧ ((¬ ((f_X0_holds_34 M s) = (0 : Int32))) → (z_vin s 12 = true)) ∧ True
theorem c_X1_isOn_42 {d : Nat} {L : Nat → Nat → Int64} (M : Nat → Nat → Int32) (s : Int32)  (hpre : q_X1_isOn_42 M s) : z_C (d + 2) 25 [.ref 42, .int s] (z_SH, M, L) (some (.int (f_X1_isOn_42 M s))) (z_SH, M, L) := by
  unfold q_X1_isOn_42 at hpre
  obtain ⟨p1, p2, -⟩ := hpre
  refine z_mkA (tb := tb_X1_isOn) rfl (by decide) rfl rfl rfl ?_
  refine g_k 3 (pc' := 5) (LI' := [some (.ref 42), some (.int s)]) (LL' := []) (st' := [.int s, .ref 34]) (S' := (z_SH, M, L)) (fun nq hq => And.intro rfl (And.intro rfl (And.intro rfl hq))) ?_
  refine g_k 1 (pc' := 8) (LI' := [some (.ref 42), some (.int s)]) (LL' := []) (st' := [.int (f_X0_holds_34 M s)]) (S' := (z_SH, M, L)) (fun nq hq => And.intro rfl (Exists.intro _ (Exists.intro _ (And.intro (c_X0_holds_34 (d := d) M s p1) (And.intro (z_fit_same _ _ _ _ _ _ _ _) hq))))) ?_
  generalize hg1 : f_X0_holds_34 M s = r1 at *
  refine g_k 1 (pc' := (if z_cmp .eq r1 ((0 : Int32)) = true then 31 else 11)) (LI' := [some (.ref 42), some (.int s)]) (LL' := []) (st' := []) (S' := (z_SH, M, L)) (fun nq hq => And.intro rfl hq) ?_
  refine g_eq (fun hc1 => ?_) (fun hc1 => ?_)
  · refine g_k 1 (pc' := 32) (LI' := [some (.ref 42), some (.int s)]) (LL' := []) (st' := [.int 0]) (S' := (z_SH, M, L)) (fun nq hq => And.intro rfl hq) ?_
    exact ⟨1, And.intro rfl (⟨(by subst hg1; unfold f_X1_isOn_42; (first | rw [if_pos hc1] | skip); try rfl), rfl⟩)⟩
  · refine g_k 8 (pc' := (if z_cmp .ne (M 37 ((s).toNatClampNeg)) (M 42 2) = true then 31 else 27)) (LI' := [some (.ref 42), some (.int s)]) (LL' := []) (st' := []) (S' := (z_SH, M, L)) (fun nq hq => And.intro rfl (And.intro rfl (And.intro rfl (And.intro rfl (And.intro (p2 hc1) (And.intro rfl (And.intro rfl (And.intro rfl hq)))))))) ?_
    refine g_ne (fun hc2 => ?_) (fun hc2 => ?_)
    · refine g_k 1 (pc' := 32) (LI' := [some (.ref 42), some (.int s)]) (LL' := []) (st' := [.int 0]) (S' := (z_SH, M, L)) (fun nq hq => And.intro rfl hq) ?_
      exact ⟨1, And.intro rfl (⟨(by subst hg1; unfold f_X1_isOn_42; (first | rw [if_neg hc1] | skip); (first | rw [if_pos hc2] | skip); try rfl), rfl⟩)⟩
    · refine g_k 2 (pc' := 32) (LI' := [some (.ref 42), some (.int s)]) (LL' := []) (st' := [.int 1]) (S' := (z_SH, M, L)) (fun nq hq => And.intro rfl (And.intro rfl hq)) ?_
      exact ⟨1, And.intro rfl (⟨(by subst hg1; unfold f_X1_isOn_42; (first | rw [if_neg hc1] | skip); (first | rw [if_neg (not_not_intro hc2)] | skip); try rfl), rfl⟩)⟩
def g_X4_clear_49 (M : Nat → Nat → Int32)  : Nat → Nat → Int32 := z_row M 49 (upd (M 49) 2 ((0 : Int32)))
theorem fr_g_X4_clear_49 (M : Nat → Nat → Int32)  (c : Nat) (h49 : c ≠ 49) : g_X4_clear_49 M c = M c := by
  unfold g_X4_clear_49
  repeat' split
  all_goals simp only [z_row_ne h49]
theorem c_X4_clear_49 {d : Nat} {L : Nat → Nat → Int64} (M : Nat → Nat → Int32)   : z_C (d + 1) 41 [.ref 49] (z_SH, M, L) none (z_SH, g_X4_clear_49 M, L) := by
  refine z_mkA (tb := tb_X4_clear) rfl (by decide) rfl rfl rfl ?_
  refine g_k 3 (pc' := 5) (LI' := [some (.ref 49)]) (LL' := []) (st' := []) (S' := (z_SH, z_row M 49 (upd (M 49) 2 ((0 : Int32))), L)) (fun nq hq => And.intro rfl (And.intro rfl (And.intro rfl hq))) ?_
  exact ⟨1, And.intro rfl (⟨rfl, rfl⟩)⟩
def g_X3_clear_243 (M : Nat → Nat → Int32)  : Nat → Nat → Int32 := z_row (z_row M 243 (upd (M 243) 0 ((0 : Int32)))) 243 (upd (upd (M 243) 0 ((0 : Int32))) 3 ((0 : Int32)))
theorem fr_g_X3_clear_243 (M : Nat → Nat → Int32)  (c : Nat) (h243 : c ≠ 243) : g_X3_clear_243 M c = M c := by
  unfold g_X3_clear_243
  repeat' split
  all_goals simp only [z_row_ne h243]
theorem c_X3_clear_243 {d : Nat} {L : Nat → Nat → Int64} (M : Nat → Nat → Int32)   : z_C (d + 1) 33 [.ref 243] (z_SH, M, L) none (z_SH, g_X3_clear_243 M, L) := by
  refine z_mkA (tb := tb_X3_clear) rfl (by decide) rfl rfl rfl ?_
  refine g_k 6 (pc' := 10) (LI' := [some (.ref 243)]) (LL' := []) (st' := []) (S' := (z_SH, z_row (z_row M 243 (upd (M 243) 0 ((0 : Int32)))) 243 (upd (upd (M 243) 0 ((0 : Int32))) 3 ((0 : Int32))), L)) (fun nq hq => And.intro rfl (And.intro rfl (And.intro rfl (And.intro rfl (And.intro rfl (And.intro rfl hq)))))) ?_
  exact ⟨1, And.intro rfl (⟨rfl, rfl⟩)⟩
def g_X3_addSeen_243 (M : Nat → Nat → Int32) (t : Int32) (w : Int32) : Nat → Nat → Int32 := if M 243 0 < (6 : Int32) then z_row (z_row (z_row M 244 (upd (M 244) ((M 243 0).toNatClampNeg) t)) 245 (upd (M 245) ((M 243 0).toNatClampNeg) w)) 243 (upd (M 243) 0 ((M 243 0) + ((1 : Int32)))) else M
theorem fr_g_X3_addSeen_243 (M : Nat → Nat → Int32) (t : Int32) (w : Int32) (c : Nat) (h243 : c ≠ 243) (h244 : c ≠ 244) (h245 : c ≠ 245) : g_X3_addSeen_243 M t w c = M c := by
  unfold g_X3_addSeen_243
  repeat' split
  all_goals simp only [z_row_ne h243, z_row_ne h244, z_row_ne h245]
def q_X3_addSeen_243 (M : Nat → Nat → Int32) (t : Int32) (w : Int32) : Prop := ((M 243 0 < (6 : Int32)) → (z_vin (M 243 0) 6 = true)) ∧ True
theorem c_X3_addSeen_243 {d : Nat} {L : Nat → Nat → Int64} (M : Nat → Nat → Int32) (t : Int32) (w : Int32)  (hpre : q_X3_addSeen_243 M t w) : z_C (d + 1) 34 [.ref 243, .int t, .int w] (z_SH, M, L) none (z_SH, g_X3_addSeen_243 M t w, L) := by
  unfold q_X3_addSeen_243 at hpre
  obtain ⟨p1, -⟩ := hpre
  refine z_mkA (tb := tb_X3_addSeen) rfl (by decide) rfl rfl rfl ?_
  refine g_k 4 (pc' := (if z_cmp .lt (M 243 0) ((6 : Int32)) = true then 10 else 9)) (LI' := [some (.ref 243), some (.int t), some (.int w)]) (LL' := []) (st' := []) (S' := (z_SH, M, L)) (fun nq hq => And.intro rfl (And.intro rfl (And.intro rfl (And.intro rfl hq)))) ?_
  refine g_lt (fun hc1 => ?_) (fun hc1 => ?_)
  · refine g_k 9 (pc' := 25) (LI' := [some (.ref 243), some (.int t), some (.int w)]) (LL' := []) (st' := [.ref 243, .ref 245]) (S' := (z_SH, z_row M 244 (upd (M 244) ((M 243 0).toNatClampNeg) t), L)) (fun nq hq => And.intro rfl (And.intro rfl (And.intro rfl (And.intro rfl (And.intro rfl (And.intro (p1 hc1) (And.intro rfl (And.intro rfl (And.intro rfl hq))))))))) ?_
    refine g_k 9 (pc' := 40) (LI' := [some (.ref 243), some (.int t), some (.int w)]) (LL' := []) (st' := []) (S' := (z_SH, z_row (z_row (z_row M 244 (upd (M 244) ((M 243 0).toNatClampNeg) t)) 245 (upd (M 245) ((M 243 0).toNatClampNeg) w)) 243 (upd (M 243) 0 ((M 243 0) + ((1 : Int32)))), L)) (fun nq hq => And.intro rfl (And.intro rfl (And.intro (p1 hc1) (And.intro rfl (And.intro rfl (And.intro rfl (And.intro rfl (And.intro rfl (And.intro rfl hq))))))))) ?_
    exact ⟨1, And.intro rfl (⟨rfl, (by unfold g_X3_addSeen_243; (first | rw [if_pos hc1] | skip); try rfl)⟩)⟩
  · exact ⟨1, And.intro rfl (⟨rfl, (by unfold g_X3_addSeen_243; (first | rw [if_neg hc1] | skip); try rfl)⟩)⟩
def g_X3_addEntry_243 (M : Nat → Nat → Int32) (m : Int32) (t : Int32) (w : Int32) : Nat → Nat → Int32 := if M 243 3 < (20 : Int32) then z_row (z_row (z_row (z_row M 246 (upd (M 246) ((M 243 3).toNatClampNeg) m)) 247 (upd (M 247) ((M 243 3).toNatClampNeg) t)) 248 (upd (M 248) ((M 243 3).toNatClampNeg) w)) 243 (upd (M 243) 3 ((M 243 3) + ((1 : Int32)))) else M
theorem fr_g_X3_addEntry_243 (M : Nat → Nat → Int32) (m : Int32) (t : Int32) (w : Int32) (c : Nat) (h243 : c ≠ 243) (h246 : c ≠ 246) (h247 : c ≠ 247) (h248 : c ≠ 248) : g_X3_addEntry_243 M m t w c = M c := by
  unfold g_X3_addEntry_243
  repeat' split
  all_goals simp only [z_row_ne h243, z_row_ne h246, z_row_ne h247, z_row_ne h248]
def q_X3_addEntry_243 (M : Nat → Nat → Int32) (m : Int32) (t : Int32) (w : Int32) : Prop := ((M 243 3 < (20 : Int32)) → (z_vin (M 243 3) 20 = true)) ∧ True
theorem c_X3_addEntry_243 {d : Nat} {L : Nat → Nat → Int64} (M : Nat → Nat → Int32) (m : Int32) (t : Int32) (w : Int32)  (hpre : q_X3_addEntry_243 M m t w) : z_C (d + 1) 35 [.ref 243, .int m, .int t, .int w] (z_SH, M, L) none (z_SH, g_X3_addEntry_243 M m t w, L) := by
  unfold q_X3_addEntry_243 at hpre
  obtain ⟨p1, -⟩ := hpre
  refine z_mkA (tb := tb_X3_addEntry) rfl (by decide) rfl rfl rfl ?_
  refine g_k 4 (pc' := (if z_cmp .lt (M 243 3) ((20 : Int32)) = true then 10 else 9)) (LI' := [some (.ref 243), some (.int m), some (.int t), some (.int w)]) (LL' := []) (st' := []) (S' := (z_SH, M, L)) (fun nq hq => And.intro rfl (And.intro rfl (And.intro rfl (And.intro rfl hq)))) ?_
  refine g_lt (fun hc1 => ?_) (fun hc1 => ?_)
  · refine g_k 9 (pc' := 25) (LI' := [some (.ref 243), some (.int m), some (.int t), some (.int w)]) (LL' := []) (st' := [.ref 243, .ref 247]) (S' := (z_SH, z_row M 246 (upd (M 246) ((M 243 3).toNatClampNeg) m), L)) (fun nq hq => And.intro rfl (And.intro rfl (And.intro rfl (And.intro rfl (And.intro rfl (And.intro (p1 hc1) (And.intro rfl (And.intro rfl (And.intro rfl hq))))))))) ?_
    refine g_k 9 (pc' := 40) (LI' := [some (.ref 243), some (.int m), some (.int t), some (.int w)]) (LL' := []) (st' := []) (S' := (z_SH, z_row (z_row (z_row M 246 (upd (M 246) ((M 243 3).toNatClampNeg) m)) 247 (upd (M 247) ((M 243 3).toNatClampNeg) t)) 248 (upd (M 248) ((M 243 3).toNatClampNeg) w), L)) (fun nq hq => And.intro rfl (And.intro rfl (And.intro (p1 hc1) (And.intro rfl (And.intro rfl (And.intro rfl (And.intro rfl (And.intro rfl (And.intro (p1 hc1) hq))))))))) ?_
    refine g_k 6 (pc' := 50) (LI' := [some (.ref 243), some (.int m), some (.int t), some (.int w)]) (LL' := []) (st' := []) (S' := (z_SH, z_row (z_row (z_row (z_row M 246 (upd (M 246) ((M 243 3).toNatClampNeg) m)) 247 (upd (M 247) ((M 243 3).toNatClampNeg) t)) 248 (upd (M 248) ((M 243 3).toNatClampNeg) w)) 243 (upd (M 243) 3 ((M 243 3) + ((1 : Int32)))), L)) (fun nq hq => And.intro rfl (And.intro rfl (And.intro rfl (And.intro rfl (And.intro rfl (And.intro rfl hq)))))) ?_
    exact ⟨1, And.intro rfl (⟨rfl, (by unfold g_X3_addEntry_243; (first | rw [if_pos hc1] | skip); try rfl)⟩)⟩
  · exact ⟨1, And.intro rfl (⟨rfl, (by unfold g_X3_addEntry_243; (first | rw [if_neg hc1] | skip); try rfl)⟩)⟩
def f_X5_isFigure (M : Nat → Nat → Int32) (a : Int32) : Int32 := if a < (48 : Int32) then (0 : Int32) else if (57 : Int32) < a then (0 : Int32) else (1 : Int32)
theorem b_X5_isFigure (M : Nat → Nat → Int32) (a : Int32) : f_X5_isFigure M a = 0 ∨ f_X5_isFigure M a = 1 := by
  unfold f_X5_isFigure
  repeat' split
  all_goals first | exact Or.inl rfl | exact Or.inr rfl
theorem c_X5_isFigure {d : Nat} {L : Nat → Nat → Int64} (M : Nat → Nat → Int32) (a : Int32)  : z_C (d + 1) 53 [.int a] (z_SH, M, L) (some (.int (f_X5_isFigure M a))) (z_SH, M, L) := by
  refine z_mkA (tb := tb_X5_isFigure) rfl (by decide) rfl rfl rfl ?_
  refine g_k 3 (pc' := (if z_cmp .lt a ((48 : Int32)) = true then 16 else 6)) (LI' := [some (.int a)]) (LL' := []) (st' := []) (S' := (z_SH, M, L)) (fun nq hq => And.intro rfl (And.intro rfl (And.intro rfl hq))) ?_
  refine g_lt (fun hc1 => ?_) (fun hc1 => ?_)
  · refine g_k 1 (pc' := 17) (LI' := [some (.int a)]) (LL' := []) (st' := [.int 0]) (S' := (z_SH, M, L)) (fun nq hq => And.intro rfl hq) ?_
    exact ⟨1, And.intro rfl (⟨(by unfold f_X5_isFigure; (first | rw [if_pos hc1] | skip); try rfl), rfl⟩)⟩
  · refine g_k 3 (pc' := (if z_cmp .gt a ((57 : Int32)) = true then 16 else 12)) (LI' := [some (.int a)]) (LL' := []) (st' := []) (S' := (z_SH, M, L)) (fun nq hq => And.intro rfl (And.intro rfl (And.intro rfl hq))) ?_
    refine g_gt (fun hc2 => ?_) (fun hc2 => ?_)
    · refine g_k 1 (pc' := 17) (LI' := [some (.int a)]) (LL' := []) (st' := [.int 0]) (S' := (z_SH, M, L)) (fun nq hq => And.intro rfl hq) ?_
      exact ⟨1, And.intro rfl (⟨(by unfold f_X5_isFigure; (first | rw [if_neg hc1] | skip); (first | rw [if_pos hc2] | skip); try rfl), rfl⟩)⟩
    · refine g_k 2 (pc' := 17) (LI' := [some (.int a)]) (LL' := []) (st' := [.int 1]) (S' := (z_SH, M, L)) (fun nq hq => And.intro rfl (And.intro rfl hq)) ?_
      exact ⟨1, And.intro rfl (⟨(by unfold f_X5_isFigure; (first | rw [if_neg hc1] | skip); (first | rw [if_neg hc2] | skip); try rfl), rfl⟩)⟩
def g_X5_blame_2 (M : Nat → Nat → Int32) (a : Int32) (b : Int32) : Nat → Nat → Int32 := if ¬ M 2 3 = (0 : Int32) then M else z_row (z_row M 2 (upd (M 2) 3 a)) 2 (upd (upd (M 2) 3 a) 4 b)
theorem fr_g_X5_blame_2 (M : Nat → Nat → Int32) (a : Int32) (b : Int32) (c : Nat) (h2 : c ≠ 2) : g_X5_blame_2 M a b c = M c := by
  unfold g_X5_blame_2
  repeat' split
  all_goals simp only [z_row_ne h2]
theorem c_X5_blame_2 {d : Nat} {L : Nat → Nat → Int64} (M : Nat → Nat → Int32) (a : Int32) (b : Int32)  : z_C (d + 1) 54 [.ref 2, .int a, .int b] (z_SH, M, L) none (z_SH, g_X5_blame_2 M a b, L) := by
  refine z_mkA (tb := tb_X5_blame) rfl (by decide) rfl rfl rfl ?_
  refine g_k 3 (pc' := (if z_cmp .ne (M 2 3) ((0 : Int32)) = true then 17 else 7)) (LI' := [some (.ref 2), some (.int a), some (.int b)]) (LL' := []) (st' := []) (S' := (z_SH, M, L)) (fun nq hq => And.intro rfl (And.intro rfl (And.intro rfl hq))) ?_
  refine g_ne (fun hc1 => ?_) (fun hc1 => ?_)
  · exact ⟨1, And.intro rfl (⟨rfl, (by unfold g_X5_blame_2; (first | rw [if_pos hc1] | skip); try rfl)⟩)⟩
  · refine g_k 6 (pc' := 17) (LI' := [some (.ref 2), some (.int a), some (.int b)]) (LL' := []) (st' := []) (S' := (z_SH, z_row (z_row M 2 (upd (M 2) 3 a)) 2 (upd (upd (M 2) 3 a) 4 b), L)) (fun nq hq => And.intro rfl (And.intro rfl (And.intro rfl (And.intro rfl (And.intro rfl (And.intro rfl hq)))))) ?_
    exact ⟨1, And.intro rfl (⟨rfl, (by unfold g_X5_blame_2; (first | rw [if_neg (not_not_intro hc1)] | skip); try rfl)⟩)⟩
def f_X7_subsetBehind (M : Nat → Nat → Int32) (a : Int32) (b : Int32) : Int32 := (a - b) &&& b
theorem c_X7_subsetBehind {d : Nat} {L : Nat → Nat → Int64} (M : Nat → Nat → Int32) (a : Int32) (b : Int32)  : z_C (d + 1) 73 [.int a, .int b] (z_SH, M, L) (some (.int (f_X7_subsetBehind M a b))) (z_SH, M, L) := by
  refine z_mkA (tb := tb_X7_subsetBehind) rfl (by decide) rfl rfl rfl ?_
  refine g_k 5 (pc' := 5) (LI' := [some (.int a), some (.int b)]) (LL' := []) (st' := [.int ((a - b) &&& b)]) (S' := (z_SH, M, L)) (fun nq hq => And.intro rfl (And.intro rfl (And.intro rfl (And.intro rfl (And.intro rfl hq))))) ?_
  exact ⟨1, And.intro rfl (⟨rfl, rfl⟩)⟩
def f_X7_ordersOf (M : Nat → Nat → Int32) (a : Int32) : Int32 := if (f_X8_isOutside M a ((7 : Int32))) = (0 : Int32) then z_ord ((a).toNatClampNeg) else (0 : Int32)
def q_X7_ordersOf (M : Nat → Nat → Int32) (a : Int32) : Prop := (((f_X8_isOutside M a ((7 : Int32))) = (0 : Int32)) → (z_vin a 7 = true)) ∧ True
theorem c_X7_ordersOf {d : Nat} {L : Nat → Nat → Int64} (M : Nat → Nat → Int32) (a : Int32)  (hpre : q_X7_ordersOf M a) : z_C (d + 2) 22 [.int a] (z_SH, M, L) (some (.int (f_X7_ordersOf M a))) (z_SH, M, L) := by
  unfold q_X7_ordersOf at hpre
  obtain ⟨p1, -⟩ := hpre
  refine z_mkA (tb := tb_X7_ordersOf) rfl (by decide) rfl rfl rfl ?_
  refine g_k 3 (pc' := 5) (LI' := [some (.int a)]) (LL' := []) (st' := [.int 7, .int a]) (S' := (z_SH, M, L)) (fun nq hq => And.intro rfl (And.intro rfl (And.intro rfl hq))) ?_
  refine g_k 1 (pc' := 8) (LI' := [some (.int a)]) (LL' := []) (st' := [.int (f_X8_isOutside M a ((7 : Int32)))]) (S' := (z_SH, M, L)) (fun nq hq => And.intro rfl (Exists.intro _ (Exists.intro _ (And.intro (c_X8_isOutside (d := d) M a ((7 : Int32))) (And.intro (z_fit_same _ _ _ _ _ _ _ _) hq))))) ?_
  generalize hg1 : f_X8_isOutside M a ((7 : Int32)) = r1 at *
  refine g_k 1 (pc' := (if z_cmp .eq r1 ((0 : Int32)) = true then 15 else 11)) (LI' := [some (.int a)]) (LL' := []) (st' := []) (S' := (z_SH, M, L)) (fun nq hq => And.intro rfl hq) ?_
  refine g_eq (fun hc1 => ?_) (fun hc1 => ?_)
  · refine g_k 3 (pc' := 20) (LI' := [some (.int a)]) (LL' := []) (st' := [.int (z_ord ((a).toNatClampNeg))]) (S' := (z_SH, M, L)) (fun nq hq => And.intro rfl (And.intro rfl (And.intro (p1 hc1) hq))) ?_
    exact ⟨1, And.intro rfl (⟨(by subst hg1; unfold f_X7_ordersOf; (first | rw [if_pos hc1] | skip); try rfl), rfl⟩)⟩
  · refine g_k 2 (pc' := 20) (LI' := [some (.int a)]) (LL' := []) (st' := [.int 0]) (S' := (z_SH, M, L)) (fun nq hq => And.intro rfl (And.intro rfl hq)) ?_
    exact ⟨1, And.intro rfl (⟨(by subst hg1; unfold f_X7_ordersOf; (first | rw [if_neg hc1] | skip); try rfl), rfl⟩)⟩
def f_J9_floorMod_7cf53 (M : Nat → Nat → Int32) (a : Int32) (b : Int32) : Int32 := if (0 : Int32) ≤ a ^^^ b then a - a / b * b else if a - a / b * b = (0 : Int32) then a - a / b * b else (a - a / b * b) + b
def q_J9_floorMod_7cf53 (M : Nat → Nat → Int32) (a : Int32) (b : Int32) : Prop := (decide (¬ b = 0) = true) ∧ True
theorem c_J9_floorMod_7cf53 {d : Nat} {L : Nat → Nat → Int64} (M : Nat → Nat → Int32) (a : Int32) (b : Int32)  (hpre : q_J9_floorMod_7cf53 M a b) : z_C (d + 1) 181 [.int a, .int b] (z_SH, M, L) (some (.int (f_J9_floorMod_7cf53 M a b))) (z_SH, M, L) := by
  unfold q_J9_floorMod_7cf53 at hpre
  obtain ⟨p1, -⟩ := hpre
  refine z_mkA (tb := tb_J9_floorMod_7cf53) rfl (by decide) rfl rfl rfl ?_
  refine g_k 8 (pc' := (if z_cmp .ge (a ^^^ b) ((0 : Int32)) = true then 18 else 10)) (LI' := [some (.int a), some (.int b), some (.int (a - a / b * b))]) (LL' := []) (st' := []) (S' := (z_SH, M, L)) (fun nq hq => And.intro rfl (And.intro rfl (And.intro p1 (And.intro rfl (And.intro rfl (And.intro rfl (And.intro rfl (And.intro rfl hq)))))))) ?_
  refine g_ge (fun hc1 => ?_) (fun hc1 => ?_)
  · refine g_k 1 (pc' := 19) (LI' := [some (.int a), some (.int b), some (.int (a - a / b * b))]) (LL' := []) (st' := [.int (a - a / b * b)]) (S' := (z_SH, M, L)) (fun nq hq => And.intro rfl hq) ?_
    exact ⟨1, And.intro rfl (⟨(by unfold f_J9_floorMod_7cf53; (first | rw [if_pos hc1] | skip); try rfl), rfl⟩)⟩
  · refine g_k 2 (pc' := (if z_cmp .eq (a - a / b * b) ((0 : Int32)) = true then 18 else 14)) (LI' := [some (.int a), some (.int b), some (.int (a - a / b * b))]) (LL' := []) (st' := []) (S' := (z_SH, M, L)) (fun nq hq => And.intro rfl (And.intro rfl hq)) ?_
    refine g_eq (fun hc2 => ?_) (fun hc2 => ?_)
    · refine g_k 1 (pc' := 19) (LI' := [some (.int a), some (.int b), some (.int (a - a / b * b))]) (LL' := []) (st' := [.int (a - a / b * b)]) (S' := (z_SH, M, L)) (fun nq hq => And.intro rfl hq) ?_
      exact ⟨1, And.intro rfl (⟨(by unfold f_J9_floorMod_7cf53; (first | rw [if_neg hc1] | skip); (first | rw [if_pos hc2] | skip); try rfl), rfl⟩)⟩
    · refine g_k 3 (pc' := 17) (LI' := [some (.int a), some (.int b), some (.int (a - a / b * b))]) (LL' := []) (st' := [.int ((a - a / b * b) + b)]) (S' := (z_SH, M, L)) (fun nq hq => And.intro rfl (And.intro rfl (And.intro rfl hq))) ?_
      exact ⟨1, And.intro rfl (⟨(by unfold f_J9_floorMod_7cf53; (first | rw [if_neg hc1] | skip); (first | rw [if_neg hc2] | skip); try rfl), rfl⟩)⟩
def f_X6_setOfMembers_19 (M : Nat → Nat → Int32)  : Int32 := (((1 : Int32)) <<< ((M 15 1) &&& 31)) - ((1 : Int32))
theorem c_X6_setOfMembers_19 {d : Nat} {L : Nat → Nat → Int64} (M : Nat → Nat → Int32)   : z_C (d + 1) 17 [.ref 19] (z_SH, M, L) (some (.int (f_X6_setOfMembers_19 M))) (z_SH, M, L) := by
  refine z_mkA (tb := tb_X6_setOfMembers) rfl (by decide) rfl rfl rfl ?_
  refine g_k 7 (pc' := 11) (LI' := [some (.ref 19)]) (LL' := []) (st' := [.int ((((1 : Int32)) <<< ((M 15 1) &&& 31)) - ((1 : Int32)))]) (S' := (z_SH, M, L)) (fun nq hq => And.intro rfl (And.intro rfl (And.intro rfl (And.intro rfl (And.intro rfl (And.intro rfl (And.intro rfl hq))))))) ?_
  exact ⟨1, And.intro rfl (⟨rfl, rfl⟩)⟩
def f_X9_in (M : Nat → Nat → Int32) (v : Int32) (a : Int32) (b : Int32) : Int32 := if v < a then (0 : Int32) else if b < v then (0 : Int32) else (1 : Int32)
theorem b_X9_in (M : Nat → Nat → Int32) (v : Int32) (a : Int32) (b : Int32) : f_X9_in M v a b = 0 ∨ f_X9_in M v a b = 1 := by
  unfold f_X9_in
  repeat' split
  all_goals first | exact Or.inl rfl | exact Or.inr rfl
theorem c_X9_in {d : Nat} {L : Nat → Nat → Int64} (M : Nat → Nat → Int32) (v : Int32) (a : Int32) (b : Int32)  : z_C (d + 1) 108 [.int v, .int a, .int b] (z_SH, M, L) (some (.int (f_X9_in M v a b))) (z_SH, M, L) := by
  refine z_mkA (tb := tb_X9_in) rfl (by decide) rfl rfl rfl ?_
  refine g_k 3 (pc' := (if z_cmp .lt v a = true then 14 else 5)) (LI' := [some (.int v), some (.int a), some (.int b)]) (LL' := []) (st' := []) (S' := (z_SH, M, L)) (fun nq hq => And.intro rfl (And.intro rfl (And.intro rfl hq))) ?_
  refine g_lt (fun hc1 => ?_) (fun hc1 => ?_)
  · refine g_k 1 (pc' := 15) (LI' := [some (.int v), some (.int a), some (.int b)]) (LL' := []) (st' := [.int 0]) (S' := (z_SH, M, L)) (fun nq hq => And.intro rfl hq) ?_
    exact ⟨1, And.intro rfl (⟨(by unfold f_X9_in; (first | rw [if_pos hc1] | skip); try rfl), rfl⟩)⟩
  · refine g_k 3 (pc' := (if z_cmp .gt v b = true then 14 else 10)) (LI' := [some (.int v), some (.int a), some (.int b)]) (LL' := []) (st' := []) (S' := (z_SH, M, L)) (fun nq hq => And.intro rfl (And.intro rfl (And.intro rfl hq))) ?_
    refine g_gt (fun hc2 => ?_) (fun hc2 => ?_)
    · refine g_k 1 (pc' := 15) (LI' := [some (.int v), some (.int a), some (.int b)]) (LL' := []) (st' := [.int 0]) (S' := (z_SH, M, L)) (fun nq hq => And.intro rfl hq) ?_
      exact ⟨1, And.intro rfl (⟨(by unfold f_X9_in; (first | rw [if_neg hc1] | skip); (first | rw [if_pos hc2] | skip); try rfl), rfl⟩)⟩
    · refine g_k 2 (pc' := 15) (LI' := [some (.int v), some (.int a), some (.int b)]) (LL' := []) (st' := [.int 1]) (S' := (z_SH, M, L)) (fun nq hq => And.intro rfl (And.intro rfl hq)) ?_
      exact ⟨1, And.intro rfl (⟨(by unfold f_X9_in; (first | rw [if_neg hc1] | skip); (first | rw [if_neg hc2] | skip); try rfl), rfl⟩)⟩
def f_X9_has (M : Nat → Nat → Int32) (a : Int32) (b : Int32) : Int32 := if ¬ (a >>> (b &&& 31)) &&& ((1 : Int32)) = (1 : Int32) then (0 : Int32) else (1 : Int32)
theorem b_X9_has (M : Nat → Nat → Int32) (a : Int32) (b : Int32) : f_X9_has M a b = 0 ∨ f_X9_has M a b = 1 := by
  unfold f_X9_has
  repeat' split
  all_goals first | exact Or.inl rfl | exact Or.inr rfl
theorem c_X9_has {d : Nat} {L : Nat → Nat → Int64} (M : Nat → Nat → Int32) (a : Int32) (b : Int32)  : z_C (d + 1) 109 [.int a, .int b] (z_SH, M, L) (some (.int (f_X9_has M a b))) (z_SH, M, L) := by
  refine z_mkA (tb := tb_X9_has) rfl (by decide) rfl rfl rfl ?_
  refine g_k 7 (pc' := (if z_cmp .ne ((a >>> (b &&& 31)) &&& ((1 : Int32))) ((1 : Int32)) = true then 13 else 9)) (LI' := [some (.int a), some (.int b)]) (LL' := []) (st' := []) (S' := (z_SH, M, L)) (fun nq hq => And.intro rfl (And.intro rfl (And.intro rfl (And.intro rfl (And.intro rfl (And.intro rfl (And.intro rfl hq))))))) ?_
  refine g_ne (fun hc1 => ?_) (fun hc1 => ?_)
  · refine g_k 1 (pc' := 14) (LI' := [some (.int a), some (.int b)]) (LL' := []) (st' := [.int 0]) (S' := (z_SH, M, L)) (fun nq hq => And.intro rfl hq) ?_
    exact ⟨1, And.intro rfl (⟨(by unfold f_X9_has; (first | rw [if_pos hc1] | skip); try rfl), rfl⟩)⟩
  · refine g_k 2 (pc' := 14) (LI' := [some (.int a), some (.int b)]) (LL' := []) (st' := [.int 1]) (S' := (z_SH, M, L)) (fun nq hq => And.intro rfl (And.intro rfl hq)) ?_
    exact ⟨1, And.intro rfl (⟨(by unfold f_X9_has; (first | rw [if_neg (not_not_intro hc1)] | skip); try rfl), rfl⟩)⟩
def f_X9_isMember_274 (M : Nat → Nat → Int32) (m : Int32) : Int32 := (f_X9_in M m ((0 : Int32)) ((M 274 4) - ((1 : Int32))))
theorem b_X9_isMember_274 (M : Nat → Nat → Int32) (m : Int32) : f_X9_isMember_274 M m = 0 ∨ f_X9_isMember_274 M m = 1 := by
  unfold f_X9_isMember_274
  repeat' split
  all_goals first | exact Or.inl rfl | exact Or.inr rfl | exact b_X9_in M m ((0 : Int32)) ((M 274 4) - ((1 : Int32)))
theorem c_X9_isMember_274 {d : Nat} {L : Nat → Nat → Int64} (M : Nat → Nat → Int32) (m : Int32)  : z_C (d + 2) 112 [.ref 274, .int m] (z_SH, M, L) (some (.int (f_X9_isMember_274 M m))) (z_SH, M, L) := by
  refine z_mkA (tb := tb_X9_isMember) rfl (by decide) rfl rfl rfl ?_
  refine g_k 6 (pc' := 8) (LI' := [some (.ref 274), some (.int m)]) (LL' := []) (st' := [.int ((M 274 4) - ((1 : Int32))), .int 0, .int m]) (S' := (z_SH, M, L)) (fun nq hq => And.intro rfl (And.intro rfl (And.intro rfl (And.intro rfl (And.intro rfl (And.intro rfl hq)))))) ?_
  refine g_k 1 (pc' := 11) (LI' := [some (.ref 274), some (.int m)]) (LL' := []) (st' := [.int (f_X9_in M m ((0 : Int32)) ((M 274 4) - ((1 : Int32))))]) (S' := (z_SH, M, L)) (fun nq hq => And.intro rfl (Exists.intro _ (Exists.intro _ (And.intro (c_X9_in (d := d) M m ((0 : Int32)) ((M 274 4) - ((1 : Int32)))) (And.intro (z_fit_same _ _ _ _ _ _ _ _) hq))))) ?_
  generalize hg1 : f_X9_in M m ((0 : Int32)) ((M 274 4) - ((1 : Int32))) = r1 at *
  exact ⟨1, And.intro (z_gb (by subst hg1; exact b_X9_in M m ((0 : Int32)) ((M 274 4) - ((1 : Int32))))) (⟨(by subst hg1; rfl), rfl⟩)⟩
def f_X9_isStrap_274 (M : Nat → Nat → Int32) (s : Int32) : Int32 := (f_X9_in M s ((0 : Int32)) ((M 279 10) - ((1 : Int32))))
theorem b_X9_isStrap_274 (M : Nat → Nat → Int32) (s : Int32) : f_X9_isStrap_274 M s = 0 ∨ f_X9_isStrap_274 M s = 1 := by
  unfold f_X9_isStrap_274
  repeat' split
  all_goals first | exact Or.inl rfl | exact Or.inr rfl | exact b_X9_in M s ((0 : Int32)) ((M 279 10) - ((1 : Int32)))
theorem c_X9_isStrap_274 {d : Nat} {L : Nat → Nat → Int64} (M : Nat → Nat → Int32) (s : Int32)  : z_C (d + 2) 113 [.ref 274, .int s] (z_SH, M, L) (some (.int (f_X9_isStrap_274 M s))) (z_SH, M, L) := by
  refine z_mkA (tb := tb_X9_isStrap) rfl (by decide) rfl rfl rfl ?_
  refine g_k 8 (pc' := 11) (LI' := [some (.ref 274), some (.int s)]) (LL' := []) (st' := [.int ((M 279 10) - ((1 : Int32))), .int 0, .int s]) (S' := (z_SH, M, L)) (fun nq hq => And.intro rfl (And.intro rfl (And.intro rfl (And.intro rfl (And.intro rfl (And.intro rfl (And.intro rfl (And.intro rfl hq)))))))) ?_
  refine g_k 1 (pc' := 14) (LI' := [some (.ref 274), some (.int s)]) (LL' := []) (st' := [.int (f_X9_in M s ((0 : Int32)) ((M 279 10) - ((1 : Int32))))]) (S' := (z_SH, M, L)) (fun nq hq => And.intro rfl (Exists.intro _ (Exists.intro _ (And.intro (c_X9_in (d := d) M s ((0 : Int32)) ((M 279 10) - ((1 : Int32)))) (And.intro (z_fit_same _ _ _ _ _ _ _ _) hq))))) ?_
  generalize hg1 : f_X9_in M s ((0 : Int32)) ((M 279 10) - ((1 : Int32))) = r1 at *
  exact ⟨1, And.intro (z_gb (by subst hg1; exact b_X9_in M s ((0 : Int32)) ((M 279 10) - ((1 : Int32))))) (⟨(by subst hg1; rfl), rfl⟩)⟩
def f_X9_isMatter (M : Nat → Nat → Int32) (t : Int32) : Int32 := (f_X9_in M t ((0 : Int32)) ((7 : Int32)))
theorem b_X9_isMatter (M : Nat → Nat → Int32) (t : Int32) : f_X9_isMatter M t = 0 ∨ f_X9_isMatter M t = 1 := by
  unfold f_X9_isMatter
  repeat' split
  all_goals first | exact Or.inl rfl | exact Or.inr rfl | exact b_X9_in M t ((0 : Int32)) ((7 : Int32))
theorem c_X9_isMatter {d : Nat} {L : Nat → Nat → Int64} (M : Nat → Nat → Int32) (t : Int32)  : z_C (d + 2) 114 [.int t] (z_SH, M, L) (some (.int (f_X9_isMatter M t))) (z_SH, M, L) := by
  refine z_mkA (tb := tb_X9_isMatter) rfl (by decide) rfl rfl rfl ?_
  refine g_k 3 (pc' := 4) (LI' := [some (.int t)]) (LL' := []) (st' := [.int 7, .int 0, .int t]) (S' := (z_SH, M, L)) (fun nq hq => And.intro rfl (And.intro rfl (And.intro rfl hq))) ?_
  refine g_k 1 (pc' := 7) (LI' := [some (.int t)]) (LL' := []) (st' := [.int (f_X9_in M t ((0 : Int32)) ((7 : Int32)))]) (S' := (z_SH, M, L)) (fun nq hq => And.intro rfl (Exists.intro _ (Exists.intro _ (And.intro (c_X9_in (d := d) M t ((0 : Int32)) ((7 : Int32))) (And.intro (z_fit_same _ _ _ _ _ _ _ _) hq))))) ?_
  generalize hg1 : f_X9_in M t ((0 : Int32)) ((7 : Int32)) = r1 at *
  exact ⟨1, And.intro (z_gb (by subst hg1; exact b_X9_in M t ((0 : Int32)) ((7 : Int32)))) (⟨(by subst hg1; rfl), rfl⟩)⟩
def f_X9_holds_279 (M : Nat → Nat → Int32) (k : Int32) : Int32 := if ¬ M 279 ((((71 : Int32)) + k).toNatClampNeg) = (0 : Int32) then (0 : Int32) else (1 : Int32)
theorem b_X9_holds_279 (M : Nat → Nat → Int32) (k : Int32) : f_X9_holds_279 M k = 0 ∨ f_X9_holds_279 M k = 1 := by
  unfold f_X9_holds_279
  repeat' split
  all_goals first | exact Or.inl rfl | exact Or.inr rfl
def q_X9_holds_279 (M : Nat → Nat → Int32) (k : Int32) : Prop := (z_vin (((71 : Int32)) + k) 83 = true) ∧ True
theorem c_X9_holds_279 {d : Nat} {L : Nat → Nat → Int64} (M : Nat → Nat → Int32) (k : Int32)  (hpre : q_X9_holds_279 M k) : z_C (d + 1) 127 [.ref 279, .int k] (z_SH, M, L) (some (.int (f_X9_holds_279 M k))) (z_SH, M, L) := by
  unfold q_X9_holds_279 at hpre
  obtain ⟨p1, -⟩ := hpre
  refine z_mkA (tb := tb_X9_holds) rfl (by decide) rfl rfl rfl ?_
  refine g_k 6 (pc' := (if z_cmp .ne (M 279 ((((71 : Int32)) + k).toNatClampNeg)) ((0 : Int32)) = true then 13 else 9)) (LI' := [some (.ref 279), some (.int k)]) (LL' := []) (st' := []) (S' := (z_SH, M, L)) (fun nq hq => And.intro rfl (And.intro rfl (And.intro rfl (And.intro rfl (And.intro p1 (And.intro rfl hq)))))) ?_
  refine g_ne (fun hc1 => ?_) (fun hc1 => ?_)
  · refine g_k 1 (pc' := 14) (LI' := [some (.ref 279), some (.int k)]) (LL' := []) (st' := [.int 0]) (S' := (z_SH, M, L)) (fun nq hq => And.intro rfl hq) ?_
    exact ⟨1, And.intro rfl (⟨(by unfold f_X9_holds_279; (first | rw [if_pos hc1] | skip); try rfl), rfl⟩)⟩
  · refine g_k 2 (pc' := 14) (LI' := [some (.ref 279), some (.int k)]) (LL' := []) (st' := [.int 1]) (S' := (z_SH, M, L)) (fun nq hq => And.intro rfl (And.intro rfl hq)) ?_
    exact ⟨1, And.intro rfl (⟨(by unfold f_X9_holds_279; (first | rw [if_neg (not_not_intro hc1)] | skip); try rfl), rfl⟩)⟩
def f_X9_holds_280 (M : Nat → Nat → Int32) (k : Int32) : Int32 := if ¬ M 280 ((((71 : Int32)) + k).toNatClampNeg) = (0 : Int32) then (0 : Int32) else (1 : Int32)
theorem b_X9_holds_280 (M : Nat → Nat → Int32) (k : Int32) : f_X9_holds_280 M k = 0 ∨ f_X9_holds_280 M k = 1 := by
  unfold f_X9_holds_280
  repeat' split
  all_goals first | exact Or.inl rfl | exact Or.inr rfl
def q_X9_holds_280 (M : Nat → Nat → Int32) (k : Int32) : Prop := (z_vin (((71 : Int32)) + k) 83 = true) ∧ True
theorem c_X9_holds_280 {d : Nat} {L : Nat → Nat → Int64} (M : Nat → Nat → Int32) (k : Int32)  (hpre : q_X9_holds_280 M k) : z_C (d + 1) 127 [.ref 280, .int k] (z_SH, M, L) (some (.int (f_X9_holds_280 M k))) (z_SH, M, L) := by
  unfold q_X9_holds_280 at hpre
  obtain ⟨p1, -⟩ := hpre
  refine z_mkA (tb := tb_X9_holds) rfl (by decide) rfl rfl rfl ?_
  refine g_k 6 (pc' := (if z_cmp .ne (M 280 ((((71 : Int32)) + k).toNatClampNeg)) ((0 : Int32)) = true then 13 else 9)) (LI' := [some (.ref 280), some (.int k)]) (LL' := []) (st' := []) (S' := (z_SH, M, L)) (fun nq hq => And.intro rfl (And.intro rfl (And.intro rfl (And.intro rfl (And.intro p1 (And.intro rfl hq)))))) ?_
  refine g_ne (fun hc1 => ?_) (fun hc1 => ?_)
  · refine g_k 1 (pc' := 14) (LI' := [some (.ref 280), some (.int k)]) (LL' := []) (st' := [.int 0]) (S' := (z_SH, M, L)) (fun nq hq => And.intro rfl hq) ?_
    exact ⟨1, And.intro rfl (⟨(by unfold f_X9_holds_280; (first | rw [if_pos hc1] | skip); try rfl), rfl⟩)⟩
  · refine g_k 2 (pc' := 14) (LI' := [some (.ref 280), some (.int k)]) (LL' := []) (st' := [.int 1]) (S' := (z_SH, M, L)) (fun nq hq => And.intro rfl (And.intro rfl hq)) ?_
    exact ⟨1, And.intro rfl (⟨(by unfold f_X9_holds_280; (first | rw [if_neg (not_not_intro hc1)] | skip); try rfl), rfl⟩)⟩
def f_X9_wouldOf_274 (M : Nat → Nat → Int32) (m : Int32) (t : Int32) : Int32 := if (f_X9_has M (M 278 ((m).toNatClampNeg)) t) = (0 : Int32) then (0 : Int32) else (1 : Int32)
def q_X9_wouldOf_274 (M : Nat → Nat → Int32) (m : Int32) (t : Int32) : Prop := (z_vin m 6 = true) ∧ True
theorem c_X9_wouldOf_274 {d : Nat} {L : Nat → Nat → Int64} (M : Nat → Nat → Int32) (m : Int32) (t : Int32)  (hpre : q_X9_wouldOf_274 M m t) : z_C (d + 2) 131 [.ref 274, .int m, .int t] (z_SH, M, L) (some (.int (f_X9_wouldOf_274 M m t))) (z_SH, M, L) := by
  unfold q_X9_wouldOf_274 at hpre
  obtain ⟨p1, -⟩ := hpre
  refine z_mkA (tb := tb_X9_wouldOf) rfl (by decide) rfl rfl rfl ?_
  refine g_k 5 (pc' := 7) (LI' := [some (.ref 274), some (.int m), some (.int t)]) (LL' := []) (st' := [.int t, .int (M 278 ((m).toNatClampNeg))]) (S' := (z_SH, M, L)) (fun nq hq => And.intro rfl (And.intro rfl (And.intro rfl (And.intro p1 (And.intro rfl hq))))) ?_
  refine g_k 1 (pc' := 10) (LI' := [some (.ref 274), some (.int m), some (.int t)]) (LL' := []) (st' := [.int (f_X9_has M (M 278 ((m).toNatClampNeg)) t)]) (S' := (z_SH, M, L)) (fun nq hq => And.intro rfl (Exists.intro _ (Exists.intro _ (And.intro (c_X9_has (d := d) M (M 278 ((m).toNatClampNeg)) t) (And.intro (z_fit_same _ _ _ _ _ _ _ _) hq))))) ?_
  generalize hg1 : f_X9_has M (M 278 ((m).toNatClampNeg)) t = r1 at *
  refine g_k 1 (pc' := (if z_cmp .eq r1 ((0 : Int32)) = true then 17 else 13)) (LI' := [some (.ref 274), some (.int m), some (.int t)]) (LL' := []) (st' := []) (S' := (z_SH, M, L)) (fun nq hq => And.intro rfl hq) ?_
  refine g_eq (fun hc1 => ?_) (fun hc1 => ?_)
  · refine g_k 1 (pc' := 18) (LI' := [some (.ref 274), some (.int m), some (.int t)]) (LL' := []) (st' := [.int 0]) (S' := (z_SH, M, L)) (fun nq hq => And.intro rfl hq) ?_
    exact ⟨1, And.intro rfl (⟨(by subst hg1; unfold f_X9_wouldOf_274; (first | rw [if_pos hc1] | skip); try rfl), rfl⟩)⟩
  · refine g_k 2 (pc' := 18) (LI' := [some (.ref 274), some (.int m), some (.int t)]) (LL' := []) (st' := [.int 1]) (S' := (z_SH, M, L)) (fun nq hq => And.intro rfl (And.intro rfl hq)) ?_
    exact ⟨1, And.intro rfl (⟨(by subst hg1; unfold f_X9_wouldOf_274; (first | rw [if_neg hc1] | skip); try rfl), rfl⟩)⟩
def f_X9_here_274 (M : Nat → Nat → Int32)  : Int32 := if M 274 1 ≤ M 274 20 then (-1 : Int32) else M 275 ((M 274 20).toNatClampNeg)
def q_X9_here_274 (M : Nat → Nat → Int32)  : Prop := ((¬ (M 274 1 ≤ M 274 20)) → (z_vin (M 274 20) 240 = true)) ∧ True
theorem c_X9_here_274 {d : Nat} {L : Nat → Nat → Int64} (M : Nat → Nat → Int32)   (hpre : q_X9_here_274 M) : z_C (d + 1) 116 [.ref 274] (z_SH, M, L) (some (.int (f_X9_here_274 M))) (z_SH, M, L) := by
  unfold q_X9_here_274 at hpre
  obtain ⟨p1, -⟩ := hpre
  refine z_mkA (tb := tb_X9_here) rfl (by decide) rfl rfl rfl ?_
  refine g_k 5 (pc' := (if z_cmp .ge (M 274 20) (M 274 1) = true then 23 else 11)) (LI' := [some (.ref 274)]) (LL' := []) (st' := []) (S' := (z_SH, M, L)) (fun nq hq => And.intro rfl (And.intro rfl (And.intro rfl (And.intro rfl (And.intro rfl hq))))) ?_
  refine g_ge (fun hc1 => ?_) (fun hc1 => ?_)
  · refine g_k 1 (pc' := 24) (LI' := [some (.ref 274)]) (LL' := []) (st' := [.int (-1)]) (S' := (z_SH, M, L)) (fun nq hq => And.intro rfl hq) ?_
    exact ⟨1, And.intro rfl (⟨(by unfold f_X9_here_274; (first | rw [if_pos hc1] | skip); try rfl), rfl⟩)⟩
  · refine g_k 6 (pc' := 24) (LI' := [some (.ref 274)]) (LL' := []) (st' := [.int (M 275 ((M 274 20).toNatClampNeg))]) (S' := (z_SH, M, L)) (fun nq hq => And.intro rfl (And.intro rfl (And.intro rfl (And.intro rfl (And.intro (p1 hc1) (And.intro rfl hq)))))) ?_
    exact ⟨1, And.intro rfl (⟨(by unfold f_X9_here_274; (first | rw [if_neg hc1] | skip); try rfl), rfl⟩)⟩
def g_X9_fails_274 (M : Nat → Nat → Int32) (n : Int32) : Nat → Nat → Int32 := if ¬ M 274 21 = (0 : Int32) then M else z_row (z_row M 274 (upd (M 274) 21 n)) 274 (upd (upd (M 274) 21 n) 22 (M 274 20))
theorem fr_g_X9_fails_274 (M : Nat → Nat → Int32) (n : Int32) (c : Nat) (h274 : c ≠ 274) : g_X9_fails_274 M n c = M c := by
  unfold g_X9_fails_274
  repeat' split
  all_goals simp only [z_row_ne h274]
theorem c_X9_fails_274 {d : Nat} {L : Nat → Nat → Int64} (M : Nat → Nat → Int32) (n : Int32)  : z_C (d + 1) 118 [.ref 274, .int n] (z_SH, M, L) none (z_SH, g_X9_fails_274 M n, L) := by
  refine z_mkA (tb := tb_X9_fails) rfl (by decide) rfl rfl rfl ?_
  refine g_k 3 (pc' := (if z_cmp .ne (M 274 21) ((0 : Int32)) = true then 20 else 7)) (LI' := [some (.ref 274), some (.int n)]) (LL' := []) (st' := []) (S' := (z_SH, M, L)) (fun nq hq => And.intro rfl (And.intro rfl (And.intro rfl hq))) ?_
  refine g_ne (fun hc1 => ?_) (fun hc1 => ?_)
  · exact ⟨1, And.intro rfl (⟨rfl, (by unfold g_X9_fails_274; (first | rw [if_pos hc1] | skip); try rfl)⟩)⟩
  · refine g_k 7 (pc' := 20) (LI' := [some (.ref 274), some (.int n)]) (LL' := []) (st' := []) (S' := (z_SH, z_row (z_row M 274 (upd (M 274) 21 n)) 274 (upd (upd (M 274) 21 n) 22 (M 274 20)), L)) (fun nq hq => And.intro rfl (And.intro rfl (And.intro rfl (And.intro rfl (And.intro rfl (And.intro rfl (And.intro rfl hq))))))) ?_
    exact ⟨1, And.intro rfl (⟨rfl, (by unfold g_X9_fails_274; (first | rw [if_neg (not_not_intro hc1)] | skip); try rfl)⟩)⟩
def f_X9_fault_274 (M : Nat → Nat → Int32)  : Int32 := M 274 2
theorem c_X9_fault_274 {d : Nat} {L : Nat → Nat → Int64} (M : Nat → Nat → Int32)   : z_C (d + 1) 126 [.ref 274] (z_SH, M, L) (some (.int (f_X9_fault_274 M))) (z_SH, M, L) := by
  refine z_mkA (tb := tb_X9_fault) rfl (by decide) rfl rfl rfl ?_
  refine g_k 2 (pc' := 4) (LI' := [some (.ref 274)]) (LL' := []) (st' := [.int (M 274 2)]) (S' := (z_SH, M, L)) (fun nq hq => And.intro rfl (And.intro rfl hq)) ?_
  exact ⟨1, And.intro rfl (⟨rfl, rfl⟩)⟩
def f_X8_fault_0 (M : Nat → Nat → Int32)  : Int32 := M 0 2
theorem c_X8_fault_0 {d : Nat} {L : Nat → Nat → Int64} (M : Nat → Nat → Int32)   : z_C (d + 1) 78 [.ref 0] (z_SH, M, L) (some (.int (f_X8_fault_0 M))) (z_SH, M, L) := by
  refine z_mkA (tb := tb_X8_fault) rfl (by decide) rfl rfl rfl ?_
  refine g_k 2 (pc' := 4) (LI' := [some (.ref 0)]) (LL' := []) (st' := [.int (M 0 2)]) (S' := (z_SH, M, L)) (fun nq hq => And.intro rfl (And.intro rfl hq)) ?_
  exact ⟨1, And.intro rfl (⟨rfl, rfl⟩)⟩
def g_X9_lets_279 (M : Nat → Nat → Int32) (k : Int32) : Nat → Nat → Int32 := if ¬ (upd (M 279) ((((47 : Int32)) + k).toNatClampNeg) ((M 279 ((((47 : Int32)) + k).toNatClampNeg)) - ((1 : Int32)))) ((((47 : Int32)) + k).toNatClampNeg) = (0 : Int32) then z_row (z_row M 279 (upd (M 279) ((((47 : Int32)) + k).toNatClampNeg) ((M 279 ((((47 : Int32)) + k).toNatClampNeg)) - ((1 : Int32))))) 279 (upd (upd (M 279) ((((47 : Int32)) + k).toNatClampNeg) ((M 279 ((((47 : Int32)) + k).toNatClampNeg)) - ((1 : Int32)))) ((((71 : Int32)) + k).toNatClampNeg) ((0 : Int32))) else z_row (z_row M 279 (upd (M 279) ((((47 : Int32)) + k).toNatClampNeg) ((M 279 ((((47 : Int32)) + k).toNatClampNeg)) - ((1 : Int32))))) 279 (upd (upd (M 279) ((((47 : Int32)) + k).toNatClampNeg) ((M 279 ((((47 : Int32)) + k).toNatClampNeg)) - ((1 : Int32)))) ((((71 : Int32)) + k).toNatClampNeg) ((2 : Int32)))
theorem fr_g_X9_lets_279 (M : Nat → Nat → Int32) (k : Int32) (c : Nat) (h279 : c ≠ 279) : g_X9_lets_279 M k c = M c := by
  unfold g_X9_lets_279
  repeat' split
  all_goals simp only [z_row_ne h279]
def q_X9_lets_279 (M : Nat → Nat → Int32) (k : Int32) : Prop := (z_vin (((47 : Int32)) + k) 83 = true) ∧ ((¬ (upd (M 279) ((((47 : Int32)) + k).toNatClampNeg) ((M 279 ((((47 : Int32)) + k).toNatClampNeg)) - ((1 : Int32)))) ((((47 : Int32)) + k).toNatClampNeg) = (0 : Int32)) → (z_vin (((71 : Int32)) + k) 83 = true)) ∧ (((upd (M 279) ((((47 : Int32)) + k).toNatClampNeg) ((M 279 ((((47 : Int32)) + k).toNatClampNeg)) - ((1 : Int32)))) ((((47 : Int32)) + k).toNatClampNeg) = (0 : Int32)) → (z_vin (((71 : Int32)) + k) 83 = true)) ∧ True
theorem c_X9_lets_279 {d : Nat} {L : Nat → Nat → Int64} (M : Nat → Nat → Int32) (k : Int32)  (hpre : q_X9_lets_279 M k) : z_C (d + 1) 139 [.ref 279, .int k] (z_SH, M, L) none (z_SH, g_X9_lets_279 M k, L) := by
  unfold q_X9_lets_279 at hpre
  obtain ⟨p1, p2, p3, -⟩ := hpre
  refine z_mkA (tb := tb_X9_lets) rfl (by decide) rfl rfl rfl ?_
  refine g_k 9 (pc' := 10) (LI' := [some (.ref 279), some (.int k)]) (LL' := []) (st' := []) (S' := (z_SH, z_row M 279 (upd (M 279) ((((47 : Int32)) + k).toNatClampNeg) ((M 279 ((((47 : Int32)) + k).toNatClampNeg)) - ((1 : Int32)))), L)) (fun nq hq => And.intro rfl (And.intro rfl (And.intro rfl (And.intro rfl (And.intro rfl (And.intro p1 (And.intro rfl (And.intro rfl (And.intro p1 hq))))))))) ?_
  refine g_k 9 (pc' := 21) (LI' := [some (.ref 279), some (.int k)]) (LL' := []) (st' := [.int ((upd (M 279) ((((47 : Int32)) + k).toNatClampNeg) ((M 279 ((((47 : Int32)) + k).toNatClampNeg)) - ((1 : Int32)))) ((((47 : Int32)) + k).toNatClampNeg)), .int (((71 : Int32)) + k), .ref 279]) (S' := (z_SH, z_row M 279 (upd (M 279) ((((47 : Int32)) + k).toNatClampNeg) ((M 279 ((((47 : Int32)) + k).toNatClampNeg)) - ((1 : Int32)))), L)) (fun nq hq => And.intro rfl (And.intro rfl (And.intro rfl (And.intro rfl (And.intro rfl (And.intro rfl (And.intro rfl (And.intro rfl (And.intro p1 hq))))))))) ?_
  refine g_k 1 (pc' := (if z_cmp .ne ((upd (M 279) ((((47 : Int32)) + k).toNatClampNeg) ((M 279 ((((47 : Int32)) + k).toNatClampNeg)) - ((1 : Int32)))) ((((47 : Int32)) + k).toNatClampNeg)) ((0 : Int32)) = true then 28 else 24)) (LI' := [some (.ref 279), some (.int k)]) (LL' := []) (st' := [.int (((71 : Int32)) + k), .ref 279]) (S' := (z_SH, z_row M 279 (upd (M 279) ((((47 : Int32)) + k).toNatClampNeg) ((M 279 ((((47 : Int32)) + k).toNatClampNeg)) - ((1 : Int32)))), L)) (fun nq hq => And.intro rfl hq) ?_
  refine g_ne (fun hc1 => ?_) (fun hc1 => ?_)
  · refine g_k 2 (pc' := 30) (LI' := [some (.ref 279), some (.int k)]) (LL' := []) (st' := []) (S' := (z_SH, z_row (z_row M 279 (upd (M 279) ((((47 : Int32)) + k).toNatClampNeg) ((M 279 ((((47 : Int32)) + k).toNatClampNeg)) - ((1 : Int32))))) 279 (upd (upd (M 279) ((((47 : Int32)) + k).toNatClampNeg) ((M 279 ((((47 : Int32)) + k).toNatClampNeg)) - ((1 : Int32)))) ((((71 : Int32)) + k).toNatClampNeg) ((0 : Int32))), L)) (fun nq hq => And.intro rfl (And.intro (p2 hc1) hq)) ?_
    exact ⟨1, And.intro rfl (⟨rfl, (by unfold g_X9_lets_279; (first | rw [if_pos hc1] | skip); try rfl)⟩)⟩
  · refine g_k 3 (pc' := 30) (LI' := [some (.ref 279), some (.int k)]) (LL' := []) (st' := []) (S' := (z_SH, z_row (z_row M 279 (upd (M 279) ((((47 : Int32)) + k).toNatClampNeg) ((M 279 ((((47 : Int32)) + k).toNatClampNeg)) - ((1 : Int32))))) 279 (upd (upd (M 279) ((((47 : Int32)) + k).toNatClampNeg) ((M 279 ((((47 : Int32)) + k).toNatClampNeg)) - ((1 : Int32)))) ((((71 : Int32)) + k).toNatClampNeg) ((2 : Int32))), L)) (fun nq hq => And.intro rfl (And.intro rfl (And.intro (p3 hc1) hq))) ?_
    exact ⟨1, And.intro rfl (⟨rfl, (by unfold g_X9_lets_279; (first | rw [if_neg (not_not_intro hc1)] | skip); try rfl)⟩)⟩
def f_X9_feed_274 (M : Nat → Nat → Int32) (x : Int32) : Int32 := if ¬ (f_X9_in M x ((0 : Int32)) ((255 : Int32))) = (0 : Int32) then if ¬ M 274 1 = (240 : Int32) then (M 274 1) + ((1 : Int32)) else (-1000000004 : Int32) else (-1000000002 : Int32)
def g_X9_feed_274 (M : Nat → Nat → Int32) (x : Int32) : Nat → Nat → Int32 := if ¬ (f_X9_in M x ((0 : Int32)) ((255 : Int32))) = (0 : Int32) then if ¬ M 274 1 = (240 : Int32) then z_row (z_row M 275 (upd (M 275) ((M 274 1).toNatClampNeg) x)) 274 (upd (M 274) 1 ((M 274 1) + ((1 : Int32)))) else M else M
theorem fr_g_X9_feed_274 (M : Nat → Nat → Int32) (x : Int32) (c : Nat) (h274 : c ≠ 274) (h275 : c ≠ 275) : g_X9_feed_274 M x c = M c := by
  unfold g_X9_feed_274
  repeat' split
  all_goals simp only [z_row_ne h274, z_row_ne h275]
def q_X9_feed_274 (M : Nat → Nat → Int32) (x : Int32) : Prop := ((¬ (f_X9_in M x ((0 : Int32)) ((255 : Int32))) = (0 : Int32)) → (¬ M 274 1 = (240 : Int32)) → (z_vin (M 274 1) 240 = true)) ∧ True
theorem c_X9_feed_274 {d : Nat} {L : Nat → Nat → Int64} (M : Nat → Nat → Int32) (x : Int32)  (hpre : q_X9_feed_274 M x) : z_C (d + 2) 115 [.ref 274, .int x] (z_SH, M, L) (some (.int (f_X9_feed_274 M x))) (z_SH, g_X9_feed_274 M x, L) := by
  unfold q_X9_feed_274 at hpre
  obtain ⟨p1, -⟩ := hpre
  refine z_mkA (tb := tb_X9_feed) rfl (by decide) rfl rfl rfl ?_
  refine g_k 3 (pc' := 5) (LI' := [some (.ref 274), some (.int x)]) (LL' := []) (st' := [.int 255, .int 0, .int x]) (S' := (z_SH, M, L)) (fun nq hq => And.intro rfl (And.intro rfl (And.intro rfl hq))) ?_
  refine g_k 1 (pc' := 8) (LI' := [some (.ref 274), some (.int x)]) (LL' := []) (st' := [.int (f_X9_in M x ((0 : Int32)) ((255 : Int32)))]) (S' := (z_SH, M, L)) (fun nq hq => And.intro rfl (Exists.intro _ (Exists.intro _ (And.intro (c_X9_in (d := d) M x ((0 : Int32)) ((255 : Int32))) (And.intro (z_fit_same _ _ _ _ _ _ _ _) hq))))) ?_
  generalize hg1 : f_X9_in M x ((0 : Int32)) ((255 : Int32)) = r1 at *
  refine g_k 1 (pc' := (if z_cmp .ne r1 ((0 : Int32)) = true then 14 else 11)) (LI' := [some (.ref 274), some (.int x)]) (LL' := []) (st' := []) (S' := (z_SH, M, L)) (fun nq hq => And.intro rfl hq) ?_
  refine g_ne (fun hc1 => ?_) (fun hc1 => ?_)
  · refine g_k 4 (pc' := (if z_cmp .ne (M 274 1) ((240 : Int32)) = true then 27 else 24)) (LI' := [some (.ref 274), some (.int x)]) (LL' := []) (st' := []) (S' := (z_SH, M, L)) (fun nq hq => And.intro rfl (And.intro rfl (And.intro rfl (And.intro rfl hq)))) ?_
    refine g_ne (fun hc2 => ?_) (fun hc2 => ?_)
    · refine g_k 9 (pc' := 42) (LI' := [some (.ref 274), some (.int x)]) (LL' := []) (st' := [.int (M 274 1), .ref 274]) (S' := (z_SH, z_row M 275 (upd (M 275) ((M 274 1).toNatClampNeg) x), L)) (fun nq hq => And.intro rfl (And.intro rfl (And.intro rfl (And.intro rfl (And.intro rfl (And.intro (p1 hc1 hc2) (And.intro rfl (And.intro rfl (And.intro rfl hq))))))))) ?_
      refine g_k 5 (pc' := 51) (LI' := [some (.ref 274), some (.int x)]) (LL' := []) (st' := [.int ((M 274 1) + ((1 : Int32)))]) (S' := (z_SH, z_row (z_row M 275 (upd (M 275) ((M 274 1).toNatClampNeg) x)) 274 (upd (M 274) 1 ((M 274 1) + ((1 : Int32)))), L)) (fun nq hq => And.intro rfl (And.intro rfl (And.intro rfl (And.intro rfl (And.intro rfl hq))))) ?_
      exact ⟨1, And.intro rfl (⟨(by subst hg1; unfold f_X9_feed_274; (first | rw [if_pos hc1] | skip); (first | rw [if_pos hc2] | skip); try rfl), (by subst hg1; unfold g_X9_feed_274; (first | rw [if_pos hc1] | skip); (first | rw [if_pos hc2] | skip); try rfl)⟩)⟩
    · refine g_k 1 (pc' := 26) (LI' := [some (.ref 274), some (.int x)]) (LL' := []) (st' := [.int (-1000000004)]) (S' := (z_SH, M, L)) (fun nq hq => And.intro rfl hq) ?_
      exact ⟨1, And.intro rfl (⟨(by subst hg1; unfold f_X9_feed_274; (first | rw [if_pos hc1] | skip); (first | rw [if_neg (not_not_intro hc2)] | skip); try rfl), (by subst hg1; unfold g_X9_feed_274; (first | rw [if_pos hc1] | skip); (first | rw [if_neg (not_not_intro hc2)] | skip); try rfl)⟩)⟩
  · refine g_k 1 (pc' := 13) (LI' := [some (.ref 274), some (.int x)]) (LL' := []) (st' := [.int (-1000000002)]) (S' := (z_SH, M, L)) (fun nq hq => And.intro rfl hq) ?_
    exact ⟨1, And.intro rfl (⟨(by subst hg1; unfold f_X9_feed_274; (first | rw [if_neg (not_not_intro hc1)] | skip); try rfl), (by subst hg1; unfold g_X9_feed_274; (first | rw [if_neg (not_not_intro hc1)] | skip); try rfl)⟩)⟩
def f_X8_feed_0 (M : Nat → Nat → Int32) (x : Int32) : Int32 := if (f_X8_isOutside M x ((256 : Int32))) = (0 : Int32) then if M 0 1 < (240 : Int32) then (M 0 1) + ((1 : Int32)) else (-1000000004 : Int32) else (-1000000002 : Int32)
def g_X8_feed_0 (M : Nat → Nat → Int32) (x : Int32) : Nat → Nat → Int32 := if (f_X8_isOutside M x ((256 : Int32))) = (0 : Int32) then if M 0 1 < (240 : Int32) then z_row (z_row M 1 (upd (M 1) ((M 0 1).toNatClampNeg) x)) 0 (upd (M 0) 1 ((M 0 1) + ((1 : Int32)))) else M else M
theorem fr_g_X8_feed_0 (M : Nat → Nat → Int32) (x : Int32) (c : Nat) (h0 : c ≠ 0) (h1 : c ≠ 1) : g_X8_feed_0 M x c = M c := by
  unfold g_X8_feed_0
  repeat' split
  all_goals simp only [z_row_ne h0, z_row_ne h1]
def q_X8_feed_0 (M : Nat → Nat → Int32) (x : Int32) : Prop := (((f_X8_isOutside M x ((256 : Int32))) = (0 : Int32)) → (M 0 1 < (240 : Int32)) → (z_vin (M 0 1) 240 = true)) ∧ True
theorem c_X8_feed_0 {d : Nat} {L : Nat → Nat → Int64} (M : Nat → Nat → Int32) (x : Int32)  (hpre : q_X8_feed_0 M x) : z_C (d + 2) 76 [.ref 0, .int x] (z_SH, M, L) (some (.int (f_X8_feed_0 M x))) (z_SH, g_X8_feed_0 M x, L) := by
  unfold q_X8_feed_0 at hpre
  obtain ⟨p1, -⟩ := hpre
  refine z_mkA (tb := tb_X8_feed) rfl (by decide) rfl rfl rfl ?_
  refine g_k 2 (pc' := 4) (LI' := [some (.ref 0), some (.int x)]) (LL' := []) (st' := [.int 256, .int x]) (S' := (z_SH, M, L)) (fun nq hq => And.intro rfl (And.intro rfl hq)) ?_
  refine g_k 1 (pc' := 7) (LI' := [some (.ref 0), some (.int x)]) (LL' := []) (st' := [.int (f_X8_isOutside M x ((256 : Int32)))]) (S' := (z_SH, M, L)) (fun nq hq => And.intro rfl (Exists.intro _ (Exists.intro _ (And.intro (c_X8_isOutside (d := d) M x ((256 : Int32))) (And.intro (z_fit_same _ _ _ _ _ _ _ _) hq))))) ?_
  generalize hg1 : f_X8_isOutside M x ((256 : Int32)) = r1 at *
  refine g_k 1 (pc' := (if z_cmp .eq r1 ((0 : Int32)) = true then 13 else 10)) (LI' := [some (.ref 0), some (.int x)]) (LL' := []) (st' := []) (S' := (z_SH, M, L)) (fun nq hq => And.intro rfl hq) ?_
  refine g_eq (fun hc1 => ?_) (fun hc1 => ?_)
  · refine g_k 4 (pc' := (if z_cmp .lt (M 0 1) ((240 : Int32)) = true then 26 else 23)) (LI' := [some (.ref 0), some (.int x)]) (LL' := []) (st' := []) (S' := (z_SH, M, L)) (fun nq hq => And.intro rfl (And.intro rfl (And.intro rfl (And.intro rfl hq)))) ?_
    refine g_lt (fun hc2 => ?_) (fun hc2 => ?_)
    · refine g_k 9 (pc' := 41) (LI' := [some (.ref 0), some (.int x)]) (LL' := []) (st' := [.int (M 0 1), .ref 0]) (S' := (z_SH, z_row M 1 (upd (M 1) ((M 0 1).toNatClampNeg) x), L)) (fun nq hq => And.intro rfl (And.intro rfl (And.intro rfl (And.intro rfl (And.intro rfl (And.intro (p1 hc1 hc2) (And.intro rfl (And.intro rfl (And.intro rfl hq))))))))) ?_
      refine g_k 5 (pc' := 50) (LI' := [some (.ref 0), some (.int x)]) (LL' := []) (st' := [.int ((M 0 1) + ((1 : Int32)))]) (S' := (z_SH, z_row (z_row M 1 (upd (M 1) ((M 0 1).toNatClampNeg) x)) 0 (upd (M 0) 1 ((M 0 1) + ((1 : Int32)))), L)) (fun nq hq => And.intro rfl (And.intro rfl (And.intro rfl (And.intro rfl (And.intro rfl hq))))) ?_
      exact ⟨1, And.intro rfl (⟨(by subst hg1; unfold f_X8_feed_0; (first | rw [if_pos hc1] | skip); (first | rw [if_pos hc2] | skip); try rfl), (by subst hg1; unfold g_X8_feed_0; (first | rw [if_pos hc1] | skip); (first | rw [if_pos hc2] | skip); try rfl)⟩)⟩
    · refine g_k 1 (pc' := 25) (LI' := [some (.ref 0), some (.int x)]) (LL' := []) (st' := [.int (-1000000004)]) (S' := (z_SH, M, L)) (fun nq hq => And.intro rfl hq) ?_
      exact ⟨1, And.intro rfl (⟨(by subst hg1; unfold f_X8_feed_0; (first | rw [if_pos hc1] | skip); (first | rw [if_neg hc2] | skip); try rfl), (by subst hg1; unfold g_X8_feed_0; (first | rw [if_pos hc1] | skip); (first | rw [if_neg hc2] | skip); try rfl)⟩)⟩
  · refine g_k 1 (pc' := 12) (LI' := [some (.ref 0), some (.int x)]) (LL' := []) (st' := [.int (-1000000002)]) (S' := (z_SH, M, L)) (fun nq hq => And.intro rfl hq) ?_
    exact ⟨1, And.intro rfl (⟨(by subst hg1; unfold f_X8_feed_0; (first | rw [if_neg hc1] | skip); try rfl), (by subst hg1; unfold g_X8_feed_0; (first | rw [if_neg hc1] | skip); try rfl)⟩)⟩
def f_X1_strainByKind_28 (M : Nat → Nat → Int32) (m : Int32) : Int32 := if M 16 ((m).toNatClampNeg) = (1 : Int32) then (2 : Int32) else if M 16 ((m).toNatClampNeg) = (2 : Int32) then if M 268 ((m).toNatClampNeg) = (0 : Int32) then (0 : Int32) else (1 : Int32) else (1 : Int32)
def q_X1_strainByKind_28 (M : Nat → Nat → Int32) (m : Int32) : Prop := (z_vin m 6 = true) ∧ True
theorem c_X1_strainByKind_28 {d : Nat} {L : Nat → Nat → Int64} (M : Nat → Nat → Int32) (m : Int32)  (hpre : q_X1_strainByKind_28 M m) : z_C (d + 1) 27 [.ref 28, .int m] (z_SH, M, L) (some (.int (f_X1_strainByKind_28 M m))) (z_SH, M, L) := by
  unfold q_X1_strainByKind_28 at hpre
  obtain ⟨p1, -⟩ := hpre
  refine z_mkA (tb := tb_X1_strainByKind) rfl (by decide) rfl rfl rfl ?_
  refine g_k 6 (pc' := (z_jmp 9 (Op.lookupswitch.offset [(1, 27), (2, 29)] 44 (M 16 ((m).toNatClampNeg)).toInt))) (LI' := [some (.ref 28), some (.int m)]) (LL' := []) (st' := []) (S' := (z_SH, M, L)) (fun nq hq => And.intro rfl (And.intro rfl (And.intro rfl (And.intro rfl (And.intro p1 (And.intro rfl hq)))))) ?_
  refine g_lk (k1 := 1) (k2 := 2) rfl rfl (fun hc1 => ?_) (fun hc1 hc2 => ?_) (fun hc1 hc2 => ?_)
  · refine g_k 1 (pc' := 37) (LI' := [some (.ref 28), some (.int m)]) (LL' := []) (st' := [.int 2]) (S' := (z_SH, M, L)) (fun nq hq => And.intro rfl hq) ?_
    exact ⟨1, And.intro rfl (⟨(by unfold f_X1_strainByKind_28; (first | rw [if_pos hc1] | skip); try rfl), rfl⟩)⟩
  · refine g_k 5 (pc' := (if z_cmp .eq (M 268 ((m).toNatClampNeg)) ((0 : Int32)) = true then 51 else 47)) (LI' := [some (.ref 28), some (.int m)]) (LL' := []) (st' := []) (S' := (z_SH, M, L)) (fun nq hq => And.intro rfl (And.intro rfl (And.intro rfl (And.intro p1 (And.intro rfl hq))))) ?_
    refine g_eq (fun hc3 => ?_) (fun hc3 => ?_)
    · refine g_k 1 (pc' := 52) (LI' := [some (.ref 28), some (.int m)]) (LL' := []) (st' := [.int 0]) (S' := (z_SH, M, L)) (fun nq hq => And.intro rfl hq) ?_
      exact ⟨1, And.intro rfl (⟨(by unfold f_X1_strainByKind_28; (first | rw [if_neg hc1] | skip); (first | rw [if_pos hc2] | skip); (first | rw [if_pos hc3] | skip); try rfl), rfl⟩)⟩
    · refine g_k 2 (pc' := 52) (LI' := [some (.ref 28), some (.int m)]) (LL' := []) (st' := [.int 1]) (S' := (z_SH, M, L)) (fun nq hq => And.intro rfl (And.intro rfl hq)) ?_
      exact ⟨1, And.intro rfl (⟨(by unfold f_X1_strainByKind_28; (first | rw [if_neg hc1] | skip); (first | rw [if_pos hc2] | skip); (first | rw [if_neg hc3] | skip); try rfl), rfl⟩)⟩
  · refine g_k 1 (pc' := 54) (LI' := [some (.ref 28), some (.int m)]) (LL' := []) (st' := [.int 1]) (S' := (z_SH, M, L)) (fun nq hq => And.intro rfl hq) ?_
    exact ⟨1, And.intro rfl (⟨(by unfold f_X1_strainByKind_28; (first | rw [if_neg hc1] | skip); (first | rw [if_neg hc2] | skip); try rfl), rfl⟩)⟩
def f_X1_strainOn_28 (M : Nat → Nat → Int32) (s : Int32) : Int32 := if ¬ (f_X1_isOn_28 M s) = (0 : Int32) then if ¬ (f_X8_isOutside M (M 22 ((s).toNatClampNeg)) (M 15 1)) = (0 : Int32) then (0 : Int32) else if ¬ M 31 ((M 22 ((s).toNatClampNeg)).toNatClampNeg) = (2 : Int32) then if M 24 ((s).toNatClampNeg) = M 31 ((M 22 ((s).toNatClampNeg)).toNatClampNeg) then if (f_X1_isHeld_28 M (M 22 ((s).toNatClampNeg))) = (0 : Int32) then (0 : Int32) else (f_X1_strainByKind_28 M (M 22 ((s).toNatClampNeg))) else (2 : Int32) else (0 : Int32) else (0 : Int32)
def q_X1_strainOn_28 (M : Nat → Nat → Int32) (s : Int32) : Prop := (q_X1_isOn_28 M s) ∧ ((¬ (f_X1_isOn_28 M s) = (0 : Int32)) → (z_vin s 12 = true)) ∧ ((¬ (f_X1_isOn_28 M s) = (0 : Int32)) → ((f_X8_isOutside M (M 22 ((s).toNatClampNeg)) (M 15 1)) = (0 : Int32)) → (z_vin (M 22 ((s).toNatClampNeg)) 6 = true)) ∧ ((¬ (f_X1_isOn_28 M s) = (0 : Int32)) → ((f_X8_isOutside M (M 22 ((s).toNatClampNeg)) (M 15 1)) = (0 : Int32)) → (¬ M 31 ((M 22 ((s).toNatClampNeg)).toNatClampNeg) = (2 : Int32)) → (M 24 ((s).toNatClampNeg) = M 31 ((M 22 ((s).toNatClampNeg)).toNatClampNeg)) → (q_X1_isHeld_28 M (M 22 ((s).toNatClampNeg)))) ∧ ((¬ (f_X1_isOn_28 M s) = (0 : Int32)) → ((f_X8_isOutside M (M 22 ((s).toNatClampNeg)) (M 15 1)) = (0 : Int32)) → (¬ M 31 ((M 22 ((s).toNatClampNeg)).toNatClampNeg) = (2 : Int32)) → (M 24 ((s).toNatClampNeg) = M 31 ((M 22 ((s).toNatClampNeg)).toNatClampNeg)) → (¬ ((f_X1_isHeld_28 M (M 22 ((s).toNatClampNeg))) = (0 : Int32))) → (q_X1_strainByKind_28 M (M 22 ((s).toNatClampNeg)))) ∧ True
theorem c_X1_strainOn_28 {d : Nat} {L : Nat → Nat → Int64} (M : Nat → Nat → Int32) (s : Int32)  (hpre : q_X1_strainOn_28 M s) : z_C (d + 3) 26 [.ref 28, .int s] (z_SH, M, L) (some (.int (f_X1_strainOn_28 M s))) (z_SH, M, L) := by
  unfold q_X1_strainOn_28 at hpre
  obtain ⟨p1, p2, p3, p4, p5, -⟩ := hpre
  refine z_mkA (tb := tb_X1_strainOn) rfl (by decide) rfl rfl rfl ?_
  refine g_k 2 (pc' := 2) (LI' := [some (.ref 28), some (.int s), none]) (LL' := []) (st' := [.int s, .ref 28]) (S' := (z_SH, M, L)) (fun nq hq => And.intro rfl (And.intro rfl hq)) ?_
  refine g_k 1 (pc' := 5) (LI' := [some (.ref 28), some (.int s), none]) (LL' := []) (st' := [.int (f_X1_isOn_28 M s)]) (S' := (z_SH, M, L)) (fun nq hq => And.intro rfl (Exists.intro _ (Exists.intro _ (And.intro (c_X1_isOn_28 (d := d) M s p1) (And.intro (z_fit_same _ _ _ _ _ _ _ _) hq))))) ?_
  generalize hg1 : f_X1_isOn_28 M s = r1 at *
  refine g_k 1 (pc' := (if z_cmp .ne r1 ((0 : Int32)) = true then 10 else 8)) (LI' := [some (.ref 28), some (.int s), none]) (LL' := []) (st' := []) (S' := (z_SH, M, L)) (fun nq hq => And.intro rfl hq) ?_
  refine g_ne (fun hc1 => ?_) (fun hc1 => ?_)
  · refine g_k 9 (pc' := 25) (LI' := [some (.ref 28), some (.int s), some (.int (M 22 ((s).toNatClampNeg)))]) (LL' := []) (st' := [.ref 15, .int (M 22 ((s).toNatClampNeg))]) (S' := (z_SH, M, L)) (fun nq hq => And.intro rfl (And.intro rfl (And.intro rfl (And.intro rfl (And.intro (p2 hc1) (And.intro rfl (And.intro rfl (And.intro rfl (And.intro rfl hq))))))))) ?_
    refine g_k 1 (pc' := 28) (LI' := [some (.ref 28), some (.int s), some (.int (M 22 ((s).toNatClampNeg)))]) (LL' := []) (st' := [.int (M 15 1), .int (M 22 ((s).toNatClampNeg))]) (S' := (z_SH, M, L)) (fun nq hq => And.intro rfl hq) ?_
    refine g_k 1 (pc' := 31) (LI' := [some (.ref 28), some (.int s), some (.int (M 22 ((s).toNatClampNeg)))]) (LL' := []) (st' := [.int (f_X8_isOutside M (M 22 ((s).toNatClampNeg)) (M 15 1))]) (S' := (z_SH, M, L)) (fun nq hq => And.intro rfl (Exists.intro _ (Exists.intro _ (And.intro (c_X8_isOutside (d := d + 1) M (M 22 ((s).toNatClampNeg)) (M 15 1)) (And.intro (z_fit_same _ _ _ _ _ _ _ _) hq))))) ?_
    generalize hg2 : f_X8_isOutside M (M 22 ((s).toNatClampNeg)) (M 15 1) = r2 at *
    refine g_k 1 (pc' := (if z_cmp .ne r2 ((0 : Int32)) = true then 44 else 34)) (LI' := [some (.ref 28), some (.int s), some (.int (M 22 ((s).toNatClampNeg)))]) (LL' := []) (st' := []) (S' := (z_SH, M, L)) (fun nq hq => And.intro rfl hq) ?_
    refine g_ne (fun hc2 => ?_) (fun hc2 => ?_)
    · refine g_k 1 (pc' := 45) (LI' := [some (.ref 28), some (.int s), some (.int (M 22 ((s).toNatClampNeg)))]) (LL' := []) (st' := [.int 0]) (S' := (z_SH, M, L)) (fun nq hq => And.intro rfl hq) ?_
      exact ⟨1, And.intro rfl (⟨(by subst hg2; subst hg1; unfold f_X1_strainOn_28; (first | rw [if_pos hc1] | skip); (first | rw [if_pos hc2] | skip); try rfl), rfl⟩)⟩
    · refine g_k 6 (pc' := (if z_cmp .ne (M 31 ((M 22 ((s).toNatClampNeg)).toNatClampNeg)) ((2 : Int32)) = true then 46 else 44)) (LI' := [some (.ref 28), some (.int s), some (.int (M 22 ((s).toNatClampNeg)))]) (LL' := []) (st' := []) (S' := (z_SH, M, L)) (fun nq hq => And.intro rfl (And.intro rfl (And.intro rfl (And.intro (p3 hc1 hc2) (And.intro rfl (And.intro rfl hq)))))) ?_
      refine g_ne (fun hc3 => ?_) (fun hc3 => ?_)
      · refine g_k 9 (pc' := 61) (LI' := [some (.ref 28), some (.int s), some (.int (M 22 ((s).toNatClampNeg)))]) (LL' := []) (st' := [.int (M 31 ((M 22 ((s).toNatClampNeg)).toNatClampNeg)), .int (M 24 ((s).toNatClampNeg))]) (S' := (z_SH, M, L)) (fun nq hq => And.intro rfl (And.intro rfl (And.intro rfl (And.intro rfl (And.intro (p2 hc1) (And.intro rfl (And.intro rfl (And.intro rfl (And.intro (p3 hc1 hc2) hq))))))))) ?_
        refine g_k 1 (pc' := (if z_cmp .eq (M 24 ((s).toNatClampNeg)) (M 31 ((M 22 ((s).toNatClampNeg)).toNatClampNeg)) = true then 66 else 64)) (LI' := [some (.ref 28), some (.int s), some (.int (M 22 ((s).toNatClampNeg)))]) (LL' := []) (st' := []) (S' := (z_SH, M, L)) (fun nq hq => And.intro rfl hq) ?_
        refine g_eq (fun hc4 => ?_) (fun hc4 => ?_)
        · refine g_k 2 (pc' := 68) (LI' := [some (.ref 28), some (.int s), some (.int (M 22 ((s).toNatClampNeg)))]) (LL' := []) (st' := [.int (M 22 ((s).toNatClampNeg)), .ref 28]) (S' := (z_SH, M, L)) (fun nq hq => And.intro rfl (And.intro rfl hq)) ?_
          refine g_k 1 (pc' := 71) (LI' := [some (.ref 28), some (.int s), some (.int (M 22 ((s).toNatClampNeg)))]) (LL' := []) (st' := [.int (f_X1_isHeld_28 M (M 22 ((s).toNatClampNeg)))]) (S' := (z_SH, M, L)) (fun nq hq => And.intro rfl (Exists.intro _ (Exists.intro _ (And.intro (c_X1_isHeld_28 (d := d + 1) M (M 22 ((s).toNatClampNeg)) (p4 hc1 hc2 hc3 hc4)) (And.intro (z_fit_same _ _ _ _ _ _ _ _) hq))))) ?_
          generalize hg3 : f_X1_isHeld_28 M (M 22 ((s).toNatClampNeg)) = r3 at *
          refine g_k 1 (pc' := (if z_cmp .eq r3 ((0 : Int32)) = true then 82 else 74)) (LI' := [some (.ref 28), some (.int s), some (.int (M 22 ((s).toNatClampNeg)))]) (LL' := []) (st' := []) (S' := (z_SH, M, L)) (fun nq hq => And.intro rfl hq) ?_
          refine g_eq (fun hc5 => ?_) (fun hc5 => ?_)
          · refine g_k 1 (pc' := 83) (LI' := [some (.ref 28), some (.int s), some (.int (M 22 ((s).toNatClampNeg)))]) (LL' := []) (st' := [.int 0]) (S' := (z_SH, M, L)) (fun nq hq => And.intro rfl hq) ?_
            exact ⟨1, And.intro rfl (⟨(by subst hg3; subst hg2; subst hg1; unfold f_X1_strainOn_28; (first | rw [if_pos hc1] | skip); (first | rw [if_neg (not_not_intro hc2)] | skip); (first | rw [if_pos hc3] | skip); (first | rw [if_pos hc4] | skip); (first | rw [if_pos hc5] | skip); try rfl), rfl⟩)⟩
          · refine g_k 2 (pc' := 76) (LI' := [some (.ref 28), some (.int s), some (.int (M 22 ((s).toNatClampNeg)))]) (LL' := []) (st' := [.int (M 22 ((s).toNatClampNeg)), .ref 28]) (S' := (z_SH, M, L)) (fun nq hq => And.intro rfl (And.intro rfl hq)) ?_
            refine g_k 1 (pc' := 79) (LI' := [some (.ref 28), some (.int s), some (.int (M 22 ((s).toNatClampNeg)))]) (LL' := []) (st' := [.int (f_X1_strainByKind_28 M (M 22 ((s).toNatClampNeg)))]) (S' := (z_SH, M, L)) (fun nq hq => And.intro rfl (Exists.intro _ (Exists.intro _ (And.intro (c_X1_strainByKind_28 (d := d + 1) M (M 22 ((s).toNatClampNeg)) (p5 hc1 hc2 hc3 hc4 hc5)) (And.intro (z_fit_same _ _ _ _ _ _ _ _) hq))))) ?_
            generalize hg4 : f_X1_strainByKind_28 M (M 22 ((s).toNatClampNeg)) = r4 at *
            refine g_k 1 (pc' := 83) (LI' := [some (.ref 28), some (.int s), some (.int (M 22 ((s).toNatClampNeg)))]) (LL' := []) (st' := [.int r4]) (S' := (z_SH, M, L)) (fun nq hq => And.intro rfl hq) ?_
            exact ⟨1, And.intro rfl (⟨(by subst hg4; subst hg3; subst hg2; subst hg1; unfold f_X1_strainOn_28; (first | rw [if_pos hc1] | skip); (first | rw [if_neg (not_not_intro hc2)] | skip); (first | rw [if_pos hc3] | skip); (first | rw [if_pos hc4] | skip); (first | rw [if_neg hc5] | skip); try rfl), rfl⟩)⟩
        · refine g_k 1 (pc' := 65) (LI' := [some (.ref 28), some (.int s), some (.int (M 22 ((s).toNatClampNeg)))]) (LL' := []) (st' := [.int 2]) (S' := (z_SH, M, L)) (fun nq hq => And.intro rfl hq) ?_
          exact ⟨1, And.intro rfl (⟨(by subst hg2; subst hg1; unfold f_X1_strainOn_28; (first | rw [if_pos hc1] | skip); (first | rw [if_neg (not_not_intro hc2)] | skip); (first | rw [if_pos hc3] | skip); (first | rw [if_neg hc4] | skip); try rfl), rfl⟩)⟩
      · refine g_k 1 (pc' := 45) (LI' := [some (.ref 28), some (.int s), some (.int (M 22 ((s).toNatClampNeg)))]) (LL' := []) (st' := [.int 0]) (S' := (z_SH, M, L)) (fun nq hq => And.intro rfl hq) ?_
        exact ⟨1, And.intro rfl (⟨(by subst hg2; subst hg1; unfold f_X1_strainOn_28; (first | rw [if_pos hc1] | skip); (first | rw [if_neg (not_not_intro hc2)] | skip); (first | rw [if_neg (not_not_intro hc3)] | skip); try rfl), rfl⟩)⟩
  · refine g_k 1 (pc' := 9) (LI' := [some (.ref 28), some (.int s), none]) (LL' := []) (st' := [.int 0]) (S' := (z_SH, M, L)) (fun nq hq => And.intro rfl hq) ?_
    exact ⟨1, And.intro rfl (⟨(by subst hg1; unfold f_X1_strainOn_28; (first | rw [if_neg (not_not_intro hc1)] | skip); try rfl), rfl⟩)⟩
def f_X1_strainByKind_42 (M : Nat → Nat → Int32) (m : Int32) : Int32 := if M 16 ((m).toNatClampNeg) = (1 : Int32) then (2 : Int32) else if M 16 ((m).toNatClampNeg) = (2 : Int32) then if M 271 ((m).toNatClampNeg) = (0 : Int32) then (0 : Int32) else (1 : Int32) else (1 : Int32)
def q_X1_strainByKind_42 (M : Nat → Nat → Int32) (m : Int32) : Prop := (z_vin m 6 = true) ∧ True
theorem c_X1_strainByKind_42 {d : Nat} {L : Nat → Nat → Int64} (M : Nat → Nat → Int32) (m : Int32)  (hpre : q_X1_strainByKind_42 M m) : z_C (d + 1) 27 [.ref 42, .int m] (z_SH, M, L) (some (.int (f_X1_strainByKind_42 M m))) (z_SH, M, L) := by
  unfold q_X1_strainByKind_42 at hpre
  obtain ⟨p1, -⟩ := hpre
  refine z_mkA (tb := tb_X1_strainByKind) rfl (by decide) rfl rfl rfl ?_
  refine g_k 6 (pc' := (z_jmp 9 (Op.lookupswitch.offset [(1, 27), (2, 29)] 44 (M 16 ((m).toNatClampNeg)).toInt))) (LI' := [some (.ref 42), some (.int m)]) (LL' := []) (st' := []) (S' := (z_SH, M, L)) (fun nq hq => And.intro rfl (And.intro rfl (And.intro rfl (And.intro rfl (And.intro p1 (And.intro rfl hq)))))) ?_
  refine g_lk (k1 := 1) (k2 := 2) rfl rfl (fun hc1 => ?_) (fun hc1 hc2 => ?_) (fun hc1 hc2 => ?_)
  · refine g_k 1 (pc' := 37) (LI' := [some (.ref 42), some (.int m)]) (LL' := []) (st' := [.int 2]) (S' := (z_SH, M, L)) (fun nq hq => And.intro rfl hq) ?_
    exact ⟨1, And.intro rfl (⟨(by unfold f_X1_strainByKind_42; (first | rw [if_pos hc1] | skip); try rfl), rfl⟩)⟩
  · refine g_k 5 (pc' := (if z_cmp .eq (M 271 ((m).toNatClampNeg)) ((0 : Int32)) = true then 51 else 47)) (LI' := [some (.ref 42), some (.int m)]) (LL' := []) (st' := []) (S' := (z_SH, M, L)) (fun nq hq => And.intro rfl (And.intro rfl (And.intro rfl (And.intro p1 (And.intro rfl hq))))) ?_
    refine g_eq (fun hc3 => ?_) (fun hc3 => ?_)
    · refine g_k 1 (pc' := 52) (LI' := [some (.ref 42), some (.int m)]) (LL' := []) (st' := [.int 0]) (S' := (z_SH, M, L)) (fun nq hq => And.intro rfl hq) ?_
      exact ⟨1, And.intro rfl (⟨(by unfold f_X1_strainByKind_42; (first | rw [if_neg hc1] | skip); (first | rw [if_pos hc2] | skip); (first | rw [if_pos hc3] | skip); try rfl), rfl⟩)⟩
    · refine g_k 2 (pc' := 52) (LI' := [some (.ref 42), some (.int m)]) (LL' := []) (st' := [.int 1]) (S' := (z_SH, M, L)) (fun nq hq => And.intro rfl (And.intro rfl hq)) ?_
      exact ⟨1, And.intro rfl (⟨(by unfold f_X1_strainByKind_42; (first | rw [if_neg hc1] | skip); (first | rw [if_pos hc2] | skip); (first | rw [if_neg hc3] | skip); try rfl), rfl⟩)⟩
  · refine g_k 1 (pc' := 54) (LI' := [some (.ref 42), some (.int m)]) (LL' := []) (st' := [.int 1]) (S' := (z_SH, M, L)) (fun nq hq => And.intro rfl hq) ?_
    exact ⟨1, And.intro rfl (⟨(by unfold f_X1_strainByKind_42; (first | rw [if_neg hc1] | skip); (first | rw [if_neg hc2] | skip); try rfl), rfl⟩)⟩
def f_X1_strainOn_42 (M : Nat → Nat → Int32) (s : Int32) : Int32 := if ¬ (f_X1_isOn_42 M s) = (0 : Int32) then if ¬ (f_X8_isOutside M (M 36 ((s).toNatClampNeg)) (M 15 1)) = (0 : Int32) then (0 : Int32) else if ¬ M 45 ((M 36 ((s).toNatClampNeg)).toNatClampNeg) = (2 : Int32) then if M 38 ((s).toNatClampNeg) = M 45 ((M 36 ((s).toNatClampNeg)).toNatClampNeg) then if (f_X1_isHeld_42 M (M 36 ((s).toNatClampNeg))) = (0 : Int32) then (0 : Int32) else (f_X1_strainByKind_42 M (M 36 ((s).toNatClampNeg))) else (2 : Int32) else (0 : Int32) else (0 : Int32)
def q_X1_strainOn_42 (M : Nat → Nat → Int32) (s : Int32) : Prop := (q_X1_isOn_42 M s) ∧ ((¬ (f_X1_isOn_42 M s) = (0 : Int32)) → (z_vin s 12 = true)) ∧ ((¬ (f_X1_isOn_42 M s) = (0 : Int32)) → ((f_X8_isOutside M (M 36 ((s).toNatClampNeg)) (M 15 1)) = (0 : Int32)) → (z_vin (M 36 ((s).toNatClampNeg)) 6 = true)) ∧ ((¬ (f_X1_isOn_42 M s) = (0 : Int32)) → ((f_X8_isOutside M (M 36 ((s).toNatClampNeg)) (M 15 1)) = (0 : Int32)) → (¬ M 45 ((M 36 ((s).toNatClampNeg)).toNatClampNeg) = (2 : Int32)) → (M 38 ((s).toNatClampNeg) = M 45 ((M 36 ((s).toNatClampNeg)).toNatClampNeg)) → (q_X1_isHeld_42 M (M 36 ((s).toNatClampNeg)))) ∧ ((¬ (f_X1_isOn_42 M s) = (0 : Int32)) → ((f_X8_isOutside M (M 36 ((s).toNatClampNeg)) (M 15 1)) = (0 : Int32)) → (¬ M 45 ((M 36 ((s).toNatClampNeg)).toNatClampNeg) = (2 : Int32)) → (M 38 ((s).toNatClampNeg) = M 45 ((M 36 ((s).toNatClampNeg)).toNatClampNeg)) → (¬ ((f_X1_isHeld_42 M (M 36 ((s).toNatClampNeg))) = (0 : Int32))) → (q_X1_strainByKind_42 M (M 36 ((s).toNatClampNeg)))) ∧ True
theorem c_X1_strainOn_42 {d : Nat} {L : Nat → Nat → Int64} (M : Nat → Nat → Int32) (s : Int32)  (hpre : q_X1_strainOn_42 M s) : z_C (d + 3) 26 [.ref 42, .int s] (z_SH, M, L) (some (.int (f_X1_strainOn_42 M s))) (z_SH, M, L) := by
  unfold q_X1_strainOn_42 at hpre
  obtain ⟨p1, p2, p3, p4, p5, -⟩ := hpre
  refine z_mkA (tb := tb_X1_strainOn) rfl (by decide) rfl rfl rfl ?_
  refine g_k 2 (pc' := 2) (LI' := [some (.ref 42), some (.int s), none]) (LL' := []) (st' := [.int s, .ref 42]) (S' := (z_SH, M, L)) (fun nq hq => And.intro rfl (And.intro rfl hq)) ?_
  refine g_k 1 (pc' := 5) (LI' := [some (.ref 42), some (.int s), none]) (LL' := []) (st' := [.int (f_X1_isOn_42 M s)]) (S' := (z_SH, M, L)) (fun nq hq => And.intro rfl (Exists.intro _ (Exists.intro _ (And.intro (c_X1_isOn_42 (d := d) M s p1) (And.intro (z_fit_same _ _ _ _ _ _ _ _) hq))))) ?_
  generalize hg1 : f_X1_isOn_42 M s = r1 at *
  refine g_k 1 (pc' := (if z_cmp .ne r1 ((0 : Int32)) = true then 10 else 8)) (LI' := [some (.ref 42), some (.int s), none]) (LL' := []) (st' := []) (S' := (z_SH, M, L)) (fun nq hq => And.intro rfl hq) ?_
  refine g_ne (fun hc1 => ?_) (fun hc1 => ?_)
  · refine g_k 9 (pc' := 25) (LI' := [some (.ref 42), some (.int s), some (.int (M 36 ((s).toNatClampNeg)))]) (LL' := []) (st' := [.ref 15, .int (M 36 ((s).toNatClampNeg))]) (S' := (z_SH, M, L)) (fun nq hq => And.intro rfl (And.intro rfl (And.intro rfl (And.intro rfl (And.intro (p2 hc1) (And.intro rfl (And.intro rfl (And.intro rfl (And.intro rfl hq))))))))) ?_
    refine g_k 1 (pc' := 28) (LI' := [some (.ref 42), some (.int s), some (.int (M 36 ((s).toNatClampNeg)))]) (LL' := []) (st' := [.int (M 15 1), .int (M 36 ((s).toNatClampNeg))]) (S' := (z_SH, M, L)) (fun nq hq => And.intro rfl hq) ?_
    refine g_k 1 (pc' := 31) (LI' := [some (.ref 42), some (.int s), some (.int (M 36 ((s).toNatClampNeg)))]) (LL' := []) (st' := [.int (f_X8_isOutside M (M 36 ((s).toNatClampNeg)) (M 15 1))]) (S' := (z_SH, M, L)) (fun nq hq => And.intro rfl (Exists.intro _ (Exists.intro _ (And.intro (c_X8_isOutside (d := d + 1) M (M 36 ((s).toNatClampNeg)) (M 15 1)) (And.intro (z_fit_same _ _ _ _ _ _ _ _) hq))))) ?_
    generalize hg2 : f_X8_isOutside M (M 36 ((s).toNatClampNeg)) (M 15 1) = r2 at *
    refine g_k 1 (pc' := (if z_cmp .ne r2 ((0 : Int32)) = true then 44 else 34)) (LI' := [some (.ref 42), some (.int s), some (.int (M 36 ((s).toNatClampNeg)))]) (LL' := []) (st' := []) (S' := (z_SH, M, L)) (fun nq hq => And.intro rfl hq) ?_
    refine g_ne (fun hc2 => ?_) (fun hc2 => ?_)
    · refine g_k 1 (pc' := 45) (LI' := [some (.ref 42), some (.int s), some (.int (M 36 ((s).toNatClampNeg)))]) (LL' := []) (st' := [.int 0]) (S' := (z_SH, M, L)) (fun nq hq => And.intro rfl hq) ?_
      exact ⟨1, And.intro rfl (⟨(by subst hg2; subst hg1; unfold f_X1_strainOn_42; (first | rw [if_pos hc1] | skip); (first | rw [if_pos hc2] | skip); try rfl), rfl⟩)⟩
    · refine g_k 6 (pc' := (if z_cmp .ne (M 45 ((M 36 ((s).toNatClampNeg)).toNatClampNeg)) ((2 : Int32)) = true then 46 else 44)) (LI' := [some (.ref 42), some (.int s), some (.int (M 36 ((s).toNatClampNeg)))]) (LL' := []) (st' := []) (S' := (z_SH, M, L)) (fun nq hq => And.intro rfl (And.intro rfl (And.intro rfl (And.intro (p3 hc1 hc2) (And.intro rfl (And.intro rfl hq)))))) ?_
      refine g_ne (fun hc3 => ?_) (fun hc3 => ?_)
      · refine g_k 9 (pc' := 61) (LI' := [some (.ref 42), some (.int s), some (.int (M 36 ((s).toNatClampNeg)))]) (LL' := []) (st' := [.int (M 45 ((M 36 ((s).toNatClampNeg)).toNatClampNeg)), .int (M 38 ((s).toNatClampNeg))]) (S' := (z_SH, M, L)) (fun nq hq => And.intro rfl (And.intro rfl (And.intro rfl (And.intro rfl (And.intro (p2 hc1) (And.intro rfl (And.intro rfl (And.intro rfl (And.intro (p3 hc1 hc2) hq))))))))) ?_
        refine g_k 1 (pc' := (if z_cmp .eq (M 38 ((s).toNatClampNeg)) (M 45 ((M 36 ((s).toNatClampNeg)).toNatClampNeg)) = true then 66 else 64)) (LI' := [some (.ref 42), some (.int s), some (.int (M 36 ((s).toNatClampNeg)))]) (LL' := []) (st' := []) (S' := (z_SH, M, L)) (fun nq hq => And.intro rfl hq) ?_
        refine g_eq (fun hc4 => ?_) (fun hc4 => ?_)
        · refine g_k 2 (pc' := 68) (LI' := [some (.ref 42), some (.int s), some (.int (M 36 ((s).toNatClampNeg)))]) (LL' := []) (st' := [.int (M 36 ((s).toNatClampNeg)), .ref 42]) (S' := (z_SH, M, L)) (fun nq hq => And.intro rfl (And.intro rfl hq)) ?_
          refine g_k 1 (pc' := 71) (LI' := [some (.ref 42), some (.int s), some (.int (M 36 ((s).toNatClampNeg)))]) (LL' := []) (st' := [.int (f_X1_isHeld_42 M (M 36 ((s).toNatClampNeg)))]) (S' := (z_SH, M, L)) (fun nq hq => And.intro rfl (Exists.intro _ (Exists.intro _ (And.intro (c_X1_isHeld_42 (d := d + 1) M (M 36 ((s).toNatClampNeg)) (p4 hc1 hc2 hc3 hc4)) (And.intro (z_fit_same _ _ _ _ _ _ _ _) hq))))) ?_
          generalize hg3 : f_X1_isHeld_42 M (M 36 ((s).toNatClampNeg)) = r3 at *
          refine g_k 1 (pc' := (if z_cmp .eq r3 ((0 : Int32)) = true then 82 else 74)) (LI' := [some (.ref 42), some (.int s), some (.int (M 36 ((s).toNatClampNeg)))]) (LL' := []) (st' := []) (S' := (z_SH, M, L)) (fun nq hq => And.intro rfl hq) ?_
          refine g_eq (fun hc5 => ?_) (fun hc5 => ?_)
          · refine g_k 1 (pc' := 83) (LI' := [some (.ref 42), some (.int s), some (.int (M 36 ((s).toNatClampNeg)))]) (LL' := []) (st' := [.int 0]) (S' := (z_SH, M, L)) (fun nq hq => And.intro rfl hq) ?_
            exact ⟨1, And.intro rfl (⟨(by subst hg3; subst hg2; subst hg1; unfold f_X1_strainOn_42; (first | rw [if_pos hc1] | skip); (first | rw [if_neg (not_not_intro hc2)] | skip); (first | rw [if_pos hc3] | skip); (first | rw [if_pos hc4] | skip); (first | rw [if_pos hc5] | skip); try rfl), rfl⟩)⟩
          · refine g_k 2 (pc' := 76) (LI' := [some (.ref 42), some (.int s), some (.int (M 36 ((s).toNatClampNeg)))]) (LL' := []) (st' := [.int (M 36 ((s).toNatClampNeg)), .ref 42]) (S' := (z_SH, M, L)) (fun nq hq => And.intro rfl (And.intro rfl hq)) ?_
            refine g_k 1 (pc' := 79) (LI' := [some (.ref 42), some (.int s), some (.int (M 36 ((s).toNatClampNeg)))]) (LL' := []) (st' := [.int (f_X1_strainByKind_42 M (M 36 ((s).toNatClampNeg)))]) (S' := (z_SH, M, L)) (fun nq hq => And.intro rfl (Exists.intro _ (Exists.intro _ (And.intro (c_X1_strainByKind_42 (d := d + 1) M (M 36 ((s).toNatClampNeg)) (p5 hc1 hc2 hc3 hc4 hc5)) (And.intro (z_fit_same _ _ _ _ _ _ _ _) hq))))) ?_
            generalize hg4 : f_X1_strainByKind_42 M (M 36 ((s).toNatClampNeg)) = r4 at *
            refine g_k 1 (pc' := 83) (LI' := [some (.ref 42), some (.int s), some (.int (M 36 ((s).toNatClampNeg)))]) (LL' := []) (st' := [.int r4]) (S' := (z_SH, M, L)) (fun nq hq => And.intro rfl hq) ?_
            exact ⟨1, And.intro rfl (⟨(by subst hg4; subst hg3; subst hg2; subst hg1; unfold f_X1_strainOn_42; (first | rw [if_pos hc1] | skip); (first | rw [if_neg (not_not_intro hc2)] | skip); (first | rw [if_pos hc3] | skip); (first | rw [if_pos hc4] | skip); (first | rw [if_neg hc5] | skip); try rfl), rfl⟩)⟩
        · refine g_k 1 (pc' := 65) (LI' := [some (.ref 42), some (.int s), some (.int (M 36 ((s).toNatClampNeg)))]) (LL' := []) (st' := [.int 2]) (S' := (z_SH, M, L)) (fun nq hq => And.intro rfl hq) ?_
          exact ⟨1, And.intro rfl (⟨(by subst hg2; subst hg1; unfold f_X1_strainOn_42; (first | rw [if_pos hc1] | skip); (first | rw [if_neg (not_not_intro hc2)] | skip); (first | rw [if_pos hc3] | skip); (first | rw [if_neg hc4] | skip); try rfl), rfl⟩)⟩
      · refine g_k 1 (pc' := 45) (LI' := [some (.ref 42), some (.int s), some (.int (M 36 ((s).toNatClampNeg)))]) (LL' := []) (st' := [.int 0]) (S' := (z_SH, M, L)) (fun nq hq => And.intro rfl hq) ?_
        exact ⟨1, And.intro rfl (⟨(by subst hg2; subst hg1; unfold f_X1_strainOn_42; (first | rw [if_pos hc1] | skip); (first | rw [if_neg (not_not_intro hc2)] | skip); (first | rw [if_neg (not_not_intro hc3)] | skip); try rfl), rfl⟩)⟩
  · refine g_k 1 (pc' := 9) (LI' := [some (.ref 42), some (.int s), none]) (LL' := []) (st' := [.int 0]) (S' := (z_SH, M, L)) (fun nq hq => And.intro rfl hq) ?_
    exact ⟨1, And.intro rfl (⟨(by subst hg1; unfold f_X1_strainOn_42; (first | rw [if_neg (not_not_intro hc1)] | skip); try rfl), rfl⟩)⟩
