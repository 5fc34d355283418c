def e_X9_bring_281_279_3_M (M : Nat → Nat → Int32) (a1 : Int32) (a3 : Int32) (a4 : Int32) (i : Int32)  : Nat → Nat → Int32 := z_row M 279 (upd (M 279) ((a3 + i).toNatClampNeg) (M 281 ((a1 + i).toNatClampNeg)))
def qi_X9_bring_281_279_3 (M : Nat → Nat → Int32) (a1 : Int32) (a3 : Int32) (a4 : Int32) (i : Int32)  : Prop := (z_vin (a1 + i) 1992 = true) ∧ (z_vin (a3 + i) 83 = true) ∧ True
theorem it_X9_bring_281_279_3 {d : Nat} {L : Nat → Nat → Int64} {Q : Option Value → z_St → Prop} (M : Nat → Nat → Int32) (a1 : Int32) (a3 : Int32) (a4 : Int32) (i : Int32)  (hc : ¬ (a4 ≤ i)) (p1 : qi_X9_bring_281_279_3 M a1 a3 a4 i) (h : z_G (d + 0) tb_X9_bring 3 [some (.ref 281), some (.int a1), some (.ref 279), some (.int a3), some (.int a4), some (.int (i + 1))] [] [] (z_SH, e_X9_bring_281_279_3_M M a1 a3 a4 i, L) Q) : z_G (d + 0) tb_X9_bring 3 [some (.ref 281), some (.int a1), some (.ref 279), some (.int a3), some (.int a4), some (.int i)] [] [] (z_SH, M, L) Q := by
  unfold qi_X9_bring_281_279_3 at p1
  obtain ⟨p1, p2, -⟩ := p1
  refine g_k 3 (pc' := (if z_cmp .ge i a4 = true then 28 else 10)) (LI' := [some (.ref 281), some (.int a1), some (.ref 279), some (.int a3), some (.int a4), some (.int i)]) (LL' := []) (st' := []) (S' := (z_SH, M, L)) (fun nq hq => And.intro rfl (And.intro rfl (And.intro rfl hq))) ?_
  refine g_ge (fun hc1 => ?_) (fun hc1 => ?_)
  · exact absurd hc1 hc
  · refine g_k 9 (pc' := 21) (LI' := [some (.ref 281), some (.int a1), some (.ref 279), some (.int a3), some (.int a4), some (.int i)]) (LL' := []) (st' := [.int (M 281 ((a1 + i).toNatClampNeg)), .int (a3 + i), .ref 279]) (S' := (z_SH, M, L)) (fun nq hq => And.intro rfl (And.intro rfl (And.intro rfl (And.intro rfl (And.intro rfl (And.intro rfl (And.intro rfl (And.intro rfl (And.intro p1 hq))))))))) ?_
    refine g_k 3 (pc' := 3) (LI' := [some (.ref 281), some (.int a1), some (.ref 279), some (.int a3), some (.int a4), some (.int (i + 1))]) (LL' := []) (st' := []) (S' := (z_SH, z_row M 279 (upd (M 279) ((a3 + i).toNatClampNeg) (M 281 ((a1 + i).toNatClampNeg))), L)) (fun nq hq => And.intro p2 (And.intro rfl (And.intro rfl hq))) ?_
    (unfold e_X9_bring_281_279_3_M at h; exact h )
def s_X9_bring_281_279_3 (M : Nat → Nat → Int32) (a1 : Int32) (a3 : Int32) (a4 : Int32)  (n : Nat) : (Nat → Nat → Int32) := Nat.rec (motive := fun _ => (Nat → Nat → Int32)) (M) (fun k r => (e_X9_bring_281_279_3_M r a1 a3 a4 (nI k))) n
theorem fr_e_X9_bring_281_279_3_M (M : Nat → Nat → Int32) (a1 : Int32) (a3 : Int32) (a4 : Int32) (i : Int32)  (c : Nat) (h279 : c ≠ 279) : e_X9_bring_281_279_3_M M a1 a3 a4 i c = M c := by
  unfold e_X9_bring_281_279_3_M
  repeat' split
  all_goals simp only [z_row_ne h279]
theorem fr_s_X9_bring_281_279_3 (M : Nat → Nat → Int32) (a1 : Int32) (a3 : Int32) (a4 : Int32)  (n : Nat) (c : Nat) (h279 : c ≠ 279) : ((s_X9_bring_281_279_3 M a1 a3 a4 n)) c = M c := by
  induction n with
  | zero => rfl
  | succ n ih => exact (fr_e_X9_bring_281_279_3_M _ a1 a3 a4 (nI n)  c h279).trans ih
theorem l_X9_bring_281_279_3 {d : Nat} {L : Nat → Nat → Int64} {Q : Option Value → z_St → Prop} (M : Nat → Nat → Int32) (a1 : Int32) (a3 : Int32) (a4 : Int32)  (n : Nat) : (∀ k, k < n → ¬ (a4 ≤ (nI k))) → (∀ k, k < n → qi_X9_bring_281_279_3 ((s_X9_bring_281_279_3 M a1 a3 a4 k)) a1 a3 a4 (nI k)) → (z_G (d + 0) tb_X9_bring 3 [some (.ref 281), some (.int a1), some (.ref 279), some (.int a3), some (.int a4), some (.int (nI n))] [] [] (z_SH, (s_X9_bring_281_279_3 M a1 a3 a4 n), L) Q) → z_G (d + 0) tb_X9_bring 3 [some (.ref 281), some (.int a1), some (.ref 279), some (.int a3), some (.int a4), some (.int (nI 0))] [] [] (z_SH, M, L) Q := by
  induction n with
  | zero =>
    intro hc p1 h
    exact h
  | succ n ih =>
    intro hc p1 h
    refine ih (fun k hk => hc k (by omega)) (fun k hk => p1 k (by omega)) ?_
    have hcn := hc n (by omega)
    have p1n := p1 n (by omega)
    clear ih hc p1
    have hs : s_X9_bring_281_279_3 M a1 a3 a4 (n + 1) = (e_X9_bring_281_279_3_M ((s_X9_bring_281_279_3 M a1 a3 a4 n)) a1 a3 a4 (nI n)) := rfl
    rw [hs] at h
    clear hs
    generalize s_X9_bring_281_279_3 M a1 a3 a4 n = sg at *
    refine it_X9_bring_281_279_3 sg a1 a3 a4 (nI n)  hcn p1n ?_
    rw [nI_1]
    exact h
def g_X9_bring_281_279 (M : Nat → Nat → Int32) (a1 : Int32) (a3 : Int32) (a4 : Int32) : Nat → Nat → Int32 := ((s_X9_bring_281_279_3 M a1 a3 a4 ((a4).toNatClampNeg)))
theorem fr_g_X9_bring_281_279 (M : Nat → Nat → Int32) (a1 : Int32) (a3 : Int32) (a4 : Int32) (c : Nat) (h279 : c ≠ 279) : g_X9_bring_281_279 M a1 a3 a4 c = M c := by
  unfold g_X9_bring_281_279
  repeat' split
  all_goals simp only [z_row_ne h279, fr_s_X9_bring_281_279_3 (c := c) (h279 := h279)]
def q_X9_bring_281_279 (M : Nat → Nat → Int32) (a1 : Int32) (a3 : Int32) (a4 : Int32) : Prop := (∀ k69, k69 < (a4).toNatClampNeg → qi_X9_bring_281_279_3 ((s_X9_bring_281_279_3 M a1 a3 a4 k69)) a1 a3 a4 (nI k69)) ∧ True
theorem c_X9_bring_281_279 {d : Nat} {L : Nat → Nat → Int64} (M : Nat → Nat → Int32) (a1 : Int32) (a3 : Int32) (a4 : Int32)  (hpre : q_X9_bring_281_279 M a1 a3 a4) : z_C (d + 1) 111 [.ref 281, .int a1, .ref 279, .int a3, .int a4] (z_SH, M, L) none (z_SH, g_X9_bring_281_279 M a1 a3 a4, L) := by
  unfold q_X9_bring_281_279 at hpre
  obtain ⟨p1, -⟩ := hpre
  refine z_mkA (tb := tb_X9_bring) rfl (by decide) rfl rfl rfl ?_
  refine g_k 2 (pc' := 3) (LI' := [some (.ref 281), some (.int a1), some (.ref 279), some (.int a3), some (.int a4), some (.int 0)]) (LL' := []) (st' := []) (S' := (z_SH, M, L)) (fun nq hq => And.intro rfl (And.intro rfl hq)) ?_
  refine l_X9_bring_281_279_3 (d := d) M a1 a3 a4 ((a4).toNatClampNeg) (fun k hk => z_lpc hk) p1 ?_ 
  have hx1 : a4 ≤ nI ((a4).toNatClampNeg) := z_lpe
  generalize hg1 : nI ((a4).toNatClampNeg) = r1 at *
  generalize hg2 : (s_X9_bring_281_279_3 M a1 a3 a4 ((a4).toNatClampNeg)) = m2 at *
  refine g_k 3 (pc' := (if z_cmp .ge r1 a4 = true then 28 else 10)) (LI' := [some (.ref 281), some (.int a1), some (.ref 279), some (.int a3), some (.int a4), some (.int r1)]) (LL' := []) (st' := []) (S' := (z_SH, m2, L)) (fun nq hq => And.intro rfl (And.intro rfl (And.intro rfl hq))) ?_
  refine g_ge (fun hc1 => ?_) (fun hc1 => absurd (hx1) hc1)
  exact ⟨1, And.intro rfl (⟨rfl, (by subst hg2; subst hg1; rfl)⟩)⟩
def f_X9_undo_274 (M : Nat → Nat → Int32) (n : Int32) : Int32 := if ¬ (f_X9_in M n ((1 : Int32)) ((24 : Int32))) = (0 : Int32) then if n ≤ M 274 11 then (g_X9_bring_281_279 (z_row M 274 (upd (M 274) 11 ((M 274 11) - n))) (((83 : Int32)) * ((M 274 11) - n)) ((0 : Int32)) ((83 : Int32))) 279 0 else (-1000000003 : Int32) else (-1000000002 : Int32)
def g_X9_undo_274 (M : Nat → Nat → Int32) (n : Int32) : Nat → Nat → Int32 := if ¬ (f_X9_in M n ((1 : Int32)) ((24 : Int32))) = (0 : Int32) then if n ≤ M 274 11 then (g_X9_bring_281_279 (z_row M 274 (upd (M 274) 11 ((M 274 11) - n))) (((83 : Int32)) * ((M 274 11) - n)) ((0 : Int32)) ((83 : Int32))) else M else M
theorem fr_g_X9_undo_274 (M : Nat → Nat → Int32) (n : Int32) (c : Nat) (h274 : c ≠ 274) (h279 : c ≠ 279) : g_X9_undo_274 M n c = M c := by
  unfold g_X9_undo_274
  repeat' split
  all_goals simp only [z_row_ne h274, z_row_ne h279, fr_g_X9_bring_281_279 (c := c) (h279 := h279)]
def q_X9_undo_274 (M : Nat → Nat → Int32) (n : Int32) : Prop := ((¬ (f_X9_in M n ((1 : Int32)) ((24 : Int32))) = (0 : Int32)) → (n ≤ M 274 11) → (q_X9_bring_281_279 (z_row M 274 (upd (M 274) 11 ((M 274 11) - n))) (((83 : Int32)) * ((M 274 11) - n)) ((0 : Int32)) ((83 : Int32)))) ∧ True
theorem c_X9_undo_274 {d : Nat} {L : Nat → Nat → Int64} (M : Nat → Nat → Int32) (n : Int32)  (hpre : q_X9_undo_274 M n) : z_C (d + 2) 159 [.ref 274, .int n] (z_SH, M, L) (some (.int (f_X9_undo_274 M n))) (z_SH, g_X9_undo_274 M n, L) := by
  unfold q_X9_undo_274 at hpre
  obtain ⟨p1, -⟩ := hpre
  refine z_mkA (tb := tb_X9_undo) rfl (by decide) rfl rfl rfl ?_
  refine g_k 3 (pc' := 4) (LI' := [some (.ref 274), some (.int n)]) (LL' := []) (st' := [.int 24, .int 1, .int n]) (S' := (z_SH, M, L)) (fun nq hq => And.intro rfl (And.intro rfl (And.intro rfl hq))) ?_
  refine g_k 1 (pc' := 7) (LI' := [some (.ref 274), some (.int n)]) (LL' := []) (st' := [.int (f_X9_in M n ((1 : Int32)) ((24 : Int32)))]) (S' := (z_SH, M, L)) (fun nq hq => And.intro rfl (Exists.intro _ (Exists.intro _ (And.intro (c_X9_in (d := d) M n ((1 : Int32)) ((24 : Int32))) (And.intro (z_fit_same _ _ _ _ _ _ _ _) hq))))) ?_
  generalize hg1 : f_X9_in M n ((1 : Int32)) ((24 : Int32)) = r1 at *
  refine g_k 1 (pc' := (if z_cmp .ne r1 ((0 : Int32)) = true then 13 else 10)) (LI' := [some (.ref 274), some (.int n)]) (LL' := []) (st' := []) (S' := (z_SH, M, L)) (fun nq hq => And.intro rfl hq) ?_
  refine g_ne (fun hc1 => ?_) (fun hc1 => ?_)
  · refine g_k 4 (pc' := (if z_cmp .le n (M 274 11) = true then 24 else 21)) (LI' := [some (.ref 274), some (.int n)]) (LL' := []) (st' := []) (S' := (z_SH, M, L)) (fun nq hq => And.intro rfl (And.intro rfl (And.intro rfl (And.intro rfl hq)))) ?_
    refine g_le (fun hc2 => ?_) (fun hc2 => ?_)
    · refine g_k 9 (pc' := 40) (LI' := [some (.ref 274), some (.int n)]) (LL' := []) (st' := [.int 83, .ref 281]) (S' := (z_SH, z_row M 274 (upd (M 274) 11 ((M 274 11) - n)), L)) (fun nq hq => And.intro rfl (And.intro rfl (And.intro rfl (And.intro rfl (And.intro rfl (And.intro rfl (And.intro rfl (And.intro rfl (And.intro rfl hq))))))))) ?_
      refine g_k 7 (pc' := 52) (LI' := [some (.ref 274), some (.int n)]) (LL' := []) (st' := [.int 83, .int 0, .ref 279, .int (((83 : Int32)) * ((M 274 11) - n)), .ref 281]) (S' := (z_SH, z_row M 274 (upd (M 274) 11 ((M 274 11) - n)), L)) (fun nq hq => And.intro rfl (And.intro rfl (And.intro rfl (And.intro rfl (And.intro rfl (And.intro rfl (And.intro rfl hq))))))) ?_
      refine g_k 1 (pc' := 55) (LI' := [some (.ref 274), some (.int n)]) (LL' := []) (st' := []) (S' := (z_SH, g_X9_bring_281_279 (z_row M 274 (upd (M 274) 11 ((M 274 11) - n))) (((83 : Int32)) * ((M 274 11) - n)) ((0 : Int32)) ((83 : Int32)), L)) (fun nq hq => And.intro rfl (Exists.intro _ (Exists.intro _ (And.intro (c_X9_bring_281_279 (d := d) (z_row M 274 (upd (M 274) 11 ((M 274 11) - n))) (((83 : Int32)) * ((M 274 11) - n)) ((0 : Int32)) ((83 : Int32)) (p1 hc1 hc2)) (And.intro (z_fit_same _ _ _ _ _ _ _ _) hq))))) ?_
      generalize hg2 : g_X9_bring_281_279 (z_row M 274 (upd (M 274) 11 ((M 274 11) - n))) (((83 : Int32)) * ((M 274 11) - n)) ((0 : Int32)) ((83 : Int32)) = m2 at *
      refine g_k 4 (pc' := 61) (LI' := [some (.ref 274), some (.int n)]) (LL' := []) (st' := [.int (m2 279 0)]) (S' := (z_SH, m2, L)) (fun nq hq => And.intro rfl (And.intro rfl (And.intro rfl (And.intro rfl hq)))) ?_
      exact ⟨1, And.intro rfl (⟨(by subst hg2; subst hg1; unfold f_X9_undo_274; (first | rw [if_pos hc1] | skip); (first | rw [if_pos hc2] | skip); try rfl), (by subst hg2; subst hg1; unfold g_X9_undo_274; (first | rw [if_pos hc1] | skip); (first | rw [if_pos hc2] | skip); try rfl)⟩)⟩
    · refine g_k 1 (pc' := 23) (LI' := [some (.ref 274), some (.int n)]) (LL' := []) (st' := [.int (-1000000003)]) (S' := (z_SH, M, L)) (fun nq hq => And.intro rfl hq) ?_
      exact ⟨1, And.intro rfl (⟨(by subst hg1; unfold f_X9_undo_274; (first | rw [if_pos hc1] | skip); (first | rw [if_neg hc2] | skip); try rfl), (by subst hg1; unfold g_X9_undo_274; (first | rw [if_pos hc1] | skip); (first | rw [if_neg hc2] | skip); try rfl)⟩)⟩
  · refine g_k 1 (pc' := 12) (LI' := [some (.ref 274), some (.int n)]) (LL' := []) (st' := [.int (-1000000002)]) (S' := (z_SH, M, L)) (fun nq hq => And.intro rfl hq) ?_
    exact ⟨1, And.intro rfl (⟨(by subst hg1; unfold f_X9_undo_274; (first | rw [if_neg (not_not_intro hc1)] | skip); try rfl), (by subst hg1; unfold g_X9_undo_274; (first | rw [if_neg (not_not_intro hc1)] | skip); try rfl)⟩)⟩
