def f_X9_tear_274 (M : Nat → Nat → Int32)  : Int32 := (M 274 17) + (M 274 19)
def g_X9_tear_274 (M : Nat → Nat → Int32)  : Nat → Nat → Int32 := z_row (z_row M 274 (upd (M 274) 17 ((0 : Int32)))) 274 (upd (upd (M 274) 17 ((0 : Int32))) 19 ((0 : Int32)))
theorem fr_g_X9_tear_274 (M : Nat → Nat → Int32)  (c : Nat) (h274 : c ≠ 274) : g_X9_tear_274 M c = M c := by
  unfold g_X9_tear_274
  repeat' split
  all_goals simp only [z_row_ne h274]
theorem c_X9_tear_274 {d : Nat} {L : Nat → Nat → Int64} (M : Nat → Nat → Int32)   : z_C (d + 1) 176 [.ref 274] (z_SH, M, L) (some (.int (f_X9_tear_274 M))) (z_SH, g_X9_tear_274 M, L) := by
  refine z_mkA (tb := tb_X9_tear) rfl (by decide) rfl rfl rfl ?_
  refine g_k 9 (pc' := 15) (LI' := [some (.ref 274), some (.int ((M 274 17) + (M 274 19)))]) (LL' := []) (st' := []) (S' := (z_SH, z_row M 274 (upd (M 274) 17 ((0 : Int32))), L)) (fun nq hq => And.intro rfl (And.intro rfl (And.intro rfl (And.intro rfl (And.intro rfl (And.intro rfl (And.intro rfl (And.intro rfl (And.intro rfl hq))))))))) ?_
  refine g_k 4 (pc' := 21) (LI' := [some (.ref 274), some (.int ((M 274 17) + (M 274 19)))]) (LL' := []) (st' := [.int ((M 274 17) + (M 274 19))]) (S' := (z_SH, z_row (z_row M 274 (upd (M 274) 17 ((0 : Int32)))) 274 (upd (upd (M 274) 17 ((0 : Int32))) 19 ((0 : Int32))), L)) (fun nq hq => And.intro rfl (And.intro rfl (And.intro rfl (And.intro rfl hq)))) ?_
  exact ⟨1, And.intro rfl (⟨rfl, rfl⟩)⟩
