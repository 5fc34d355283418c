def t_X9_twangOf_268_6 (M : Nat → Nat → Int32) (t : Int32) (c2 : Int32) : Bool := if (100 : Int32) ≤ c2 then false else if (g_X9_puts_268_274 M t) 274 2 ≤ M 274 2 then true else false
def e_X9_twangOf_268_6_c2 (M : Nat → Nat → Int32) (t : Int32) (c2 : Int32) : Int32 := c2 + 1
def e_X9_twangOf_268_6_M (M : Nat → Nat → Int32) (t : Int32) (c2 : Int32) : Nat → Nat → Int32 := (g_X9_puts_268_274 M t)
def qi_X9_twangOf_268_6 (M : Nat → Nat → Int32) (t : Int32) (c2 : Int32) : Prop := (q_X9_puts_268_274 M t) ∧ True
theorem it_X9_twangOf_268_6 {d : Nat} {L : Nat → Nat → Int64} {Q : Option Value → z_St → Prop} (M : Nat → Nat → Int32) (t : Int32) (c2 : Int32) (ht : t_X9_twangOf_268_6 M t c2 = true) (p1 : qi_X9_twangOf_268_6 M t c2) (h : ∀ (y3 : Option Value), z_G (d + 7) tb_X9_twangOf 6 [some (.ref 268), some (.int t), some (.int (e_X9_twangOf_268_6_c2 M t c2)), y3] [] [] (z_SH, e_X9_twangOf_268_6_M M t c2, L) Q) : ∀ (x3 : Option Value), z_G (d + 7) tb_X9_twangOf 6 [some (.ref 268), some (.int t), some (.int c2), x3] [] [] (z_SH, M, L) Q := by
  intro x3
  unfold qi_X9_twangOf_268_6 at p1
  obtain ⟨p1, -⟩ := p1
  refine g_k 3 (pc' := (if z_cmp .ge c2 ((100 : Int32)) = true then 47 else 12)) (LI' := [some (.ref 268), some (.int t), some (.int c2), x3]) (LL' := []) (st' := []) (S' := (z_SH, M, L)) (fun nq hq => And.intro rfl (And.intro rfl (And.intro rfl hq))) ?_
  refine g_ge (fun hc1 => ?_) (fun hc1 => ?_)
  · (exfalso; unfold t_X9_twangOf_268_6 at ht; (try simp only [if_pos hc1] at ht); exact Bool.noConfusion ht)
  · refine g_k 9 (pc' := 25) (LI' := [some (.ref 268), some (.int t), some (.int c2), some (.int (M 274 2))]) (LL' := []) (st' := [.int t, .ref 274, .ref 268]) (S' := (z_SH, M, L)) (fun nq hq => And.intro rfl (And.intro rfl (And.intro rfl (And.intro rfl (And.intro rfl (And.intro rfl (And.intro rfl (And.intro rfl (And.intro rfl hq))))))))) ?_
    refine g_k 1 (pc' := 28) (LI' := [some (.ref 268), some (.int t), some (.int c2), some (.int (M 274 2))]) (LL' := []) (st' := [.int (f_X9_puts_268_274 M t)]) (S' := (z_SH, g_X9_puts_268_274 M t, L)) (fun nq hq => And.intro rfl (Exists.intro _ (Exists.intro _ (And.intro (c_X9_puts_268_274 (d := d) M t p1) (And.intro (z_fit_same _ _ _ _ _ _ _ _) hq))))) ?_
    generalize hg1 : f_X9_puts_268_274 M t = r1 at *
    generalize hg2 : g_X9_puts_268_274 M t = m2 at *
    refine g_k 7 (pc' := (if z_cmp .le (m2 274 2) (M 274 2) = true then 41 else 39)) (LI' := [some (.ref 268), some (.int t), some (.int c2), some (.int (M 274 2))]) (LL' := []) (st' := []) (S' := (z_SH, m2, L)) (fun nq hq => And.intro rfl (And.intro rfl (And.intro rfl (And.intro rfl (And.intro rfl (And.intro rfl (And.intro rfl hq))))))) ?_
    refine g_le (fun hc2 => ?_) (fun hc2 => ?_)
    · refine g_k 2 (pc' := 6) (LI' := [some (.ref 268), some (.int t), some (.int (c2 + 1)), some (.int (M 274 2))]) (LL' := []) (st' := []) (S' := (z_SH, m2, L)) (fun nq hq => And.intro rfl (And.intro rfl hq)) ?_
      (clear ht; subst hg2; subst hg1; unfold e_X9_twangOf_268_6_c2 e_X9_twangOf_268_6_M at h; (try simp only [if_neg hc1] at h); (try simp only [if_pos hc2] at h); exact h (some (.int (M 274 2))))
    · (exfalso; subst hg2; subst hg1; unfold t_X9_twangOf_268_6 at ht; (try simp only [if_neg hc1] at ht); (try simp only [if_neg hc2] at ht); exact Bool.noConfusion ht)
def s_X9_twangOf_268_6 (M : Nat → Nat → Int32) (t : Int32) (c2 : Int32) (n : Nat) : Int32 × (Nat → Nat → Int32) := Nat.rec (motive := fun _ => Int32 × (Nat → Nat → Int32)) (c2, M) (fun _ r => (e_X9_twangOf_268_6_c2 r.2 t r.1, e_X9_twangOf_268_6_M r.2 t r.1)) n
theorem fr_e_X9_twangOf_268_6_M (M : Nat → Nat → Int32) (t : Int32) (c2 : Int32) (c : Nat) (h274 : c ≠ 274) (h285 : c ≠ 285) : e_X9_twangOf_268_6_M M t c2 c = M c := by
  unfold e_X9_twangOf_268_6_M
  repeat' split
  all_goals simp only [z_row_ne h274, z_row_ne h285, fr_g_X9_puts_268_274 (c := c) (h274 := h274) (h285 := h285)]
theorem fr_s_X9_twangOf_268_6 (M : Nat → Nat → Int32) (t : Int32) (c2 : Int32) (n : Nat) (c : Nat) (h274 : c ≠ 274) (h285 : c ≠ 285) : ((s_X9_twangOf_268_6 M t c2 n).2) c = M c := by
  induction n with
  | zero => rfl
  | succ n ih =>
    have hs : s_X9_twangOf_268_6 M t c2 (n + 1) = (e_X9_twangOf_268_6_c2 ((s_X9_twangOf_268_6 M t c2 n).2) t ((s_X9_twangOf_268_6 M t c2 n).1), e_X9_twangOf_268_6_M ((s_X9_twangOf_268_6 M t c2 n).2) t ((s_X9_twangOf_268_6 M t c2 n).1)) := rfl
    rw [hs]
    dsimp only
    exact (fr_e_X9_twangOf_268_6_M ((s_X9_twangOf_268_6 M t c2 n).2) t ((s_X9_twangOf_268_6 M t c2 n).1) c h274 h285).trans ih
def n_X9_twangOf_268_6 (M : Nat → Nat → Int32) (t : Int32) (c2 : Int32) : Nat := z_fst (fun k => t_X9_twangOf_268_6 ((s_X9_twangOf_268_6 M t c2 k).2) t ((s_X9_twangOf_268_6 M t c2 k).1)) 99
theorem n_X9_twangOf_268_6_t (M : Nat → Nat → Int32) (t : Int32) (c2 : Int32) : ∀ k, k < n_X9_twangOf_268_6 M t c2 → t_X9_twangOf_268_6 ((s_X9_twangOf_268_6 M t c2 k).2) t ((s_X9_twangOf_268_6 M t c2 k).1) = true := fun k hk => z_fst_t (p := (fun k => t_X9_twangOf_268_6 ((s_X9_twangOf_268_6 M t c2 k).2) t ((s_X9_twangOf_268_6 M t c2 k).1))) (B := 99) hk
theorem n_X9_twangOf_268_6_f (M : Nat → Nat → Int32) (t : Int32) (c2 : Int32) (h : t_X9_twangOf_268_6 ((s_X9_twangOf_268_6 M t c2 99).2) t ((s_X9_twangOf_268_6 M t c2 99).1) = false) : t_X9_twangOf_268_6 ((s_X9_twangOf_268_6 M t c2 ((n_X9_twangOf_268_6 M t c2))).2) t ((s_X9_twangOf_268_6 M t c2 ((n_X9_twangOf_268_6 M t c2))).1) = false := by
  have h2 := z_fst_f (p := (fun k => t_X9_twangOf_268_6 ((s_X9_twangOf_268_6 M t c2 k).2) t ((s_X9_twangOf_268_6 M t c2 k).1))) (B := 99) h
  unfold n_X9_twangOf_268_6
  exact h2
theorem l_X9_twangOf_268_6 {d : Nat} {L : Nat → Nat → Int64} {Q : Option Value → z_St → Prop} (M : Nat → Nat → Int32) (t : Int32) (c2 : Int32) (n : Nat) : (∀ k, k < n → t_X9_twangOf_268_6 ((s_X9_twangOf_268_6 M t c2 k).2) t ((s_X9_twangOf_268_6 M t c2 k).1) = true) → (∀ k, k < n → qi_X9_twangOf_268_6 ((s_X9_twangOf_268_6 M t c2 k).2) t ((s_X9_twangOf_268_6 M t c2 k).1)) → (∀ (y3 : Option Value), z_G (d + 7) tb_X9_twangOf 6 [some (.ref 268), some (.int t), some (.int ((s_X9_twangOf_268_6 M t c2 n).1)), y3] [] [] (z_SH, (s_X9_twangOf_268_6 M t c2 n).2, L) Q) → ∀ (x3 : Option Value), z_G (d + 7) tb_X9_twangOf 6 [some (.ref 268), some (.int t), some (.int c2), x3] [] [] (z_SH, M, L) Q := by
  induction n with
  | zero =>
    intro hc p1 h
    exact h
  | succ n ih =>
    intro hc p1 h
    refine ih (fun k hk => hc k (by omega)) (fun k hk => p1 k (by omega)) ?_
    have hcn := hc n (by omega)
    have p1n := p1 n (by omega)
    clear ih hc p1
    have hs : s_X9_twangOf_268_6 M t c2 (n + 1) = (e_X9_twangOf_268_6_c2 ((s_X9_twangOf_268_6 M t c2 n).2) t ((s_X9_twangOf_268_6 M t c2 n).1), e_X9_twangOf_268_6_M ((s_X9_twangOf_268_6 M t c2 n).2) t ((s_X9_twangOf_268_6 M t c2 n).1)) := rfl
    rw [hs] at h
    clear hs
    try dsimp only at h
    generalize s_X9_twangOf_268_6 M t c2 n = sg at *
    refine it_X9_twangOf_268_6 sg.2 t sg.1 hcn p1n ?_
    exact h
def e_X9_bring_273_274_3_M (M : Nat → Nat → Int32) (a1 : Int32) (a3 : Int32) (a4 : Int32) (i : Int32)  : Nat → Nat → Int32 := z_row M 274 (upd (M 274) ((a3 + i).toNatClampNeg) (M 273 ((a1 + i).toNatClampNeg)))
def qi_X9_bring_273_274_3 (M : Nat → Nat → Int32) (a1 : Int32) (a3 : Int32) (a4 : Int32) (i : Int32)  : Prop := (z_vin (a1 + i) 83 = true) ∧ (z_vin (a3 + i) 83 = true) ∧ True
theorem it_X9_bring_273_274_3 {d : Nat} {L : Nat → Nat → Int64} {Q : Option Value → z_St → Prop} (M : Nat → Nat → Int32) (a1 : Int32) (a3 : Int32) (a4 : Int32) (i : Int32)  (hc : ¬ (a4 ≤ i)) (p1 : qi_X9_bring_273_274_3 M a1 a3 a4 i) (h : z_G (d + 0) tb_X9_bring 3 [some (.ref 273), some (.int a1), some (.ref 274), some (.int a3), some (.int a4), some (.int (i + 1))] [] [] (z_SH, e_X9_bring_273_274_3_M M a1 a3 a4 i, L) Q) : z_G (d + 0) tb_X9_bring 3 [some (.ref 273), some (.int a1), some (.ref 274), some (.int a3), some (.int a4), some (.int i)] [] [] (z_SH, M, L) Q := by
  unfold qi_X9_bring_273_274_3 at p1
  obtain ⟨p1, p2, -⟩ := p1
  refine g_k 3 (pc' := (if z_cmp .ge i a4 = true then 28 else 10)) (LI' := [some (.ref 273), some (.int a1), some (.ref 274), some (.int a3), some (.int a4), some (.int i)]) (LL' := []) (st' := []) (S' := (z_SH, M, L)) (fun nq hq => And.intro rfl (And.intro rfl (And.intro rfl hq))) ?_
  refine g_ge (fun hc1 => ?_) (fun hc1 => ?_)
  · exact absurd hc1 hc
  · refine g_k 9 (pc' := 21) (LI' := [some (.ref 273), some (.int a1), some (.ref 274), some (.int a3), some (.int a4), some (.int i)]) (LL' := []) (st' := [.int (M 273 ((a1 + i).toNatClampNeg)), .int (a3 + i), .ref 274]) (S' := (z_SH, M, L)) (fun nq hq => And.intro rfl (And.intro rfl (And.intro rfl (And.intro rfl (And.intro rfl (And.intro rfl (And.intro rfl (And.intro rfl (And.intro p1 hq))))))))) ?_
    refine g_k 3 (pc' := 3) (LI' := [some (.ref 273), some (.int a1), some (.ref 274), some (.int a3), some (.int a4), some (.int (i + 1))]) (LL' := []) (st' := []) (S' := (z_SH, z_row M 274 (upd (M 274) ((a3 + i).toNatClampNeg) (M 273 ((a1 + i).toNatClampNeg))), L)) (fun nq hq => And.intro p2 (And.intro rfl (And.intro rfl hq))) ?_
    (unfold e_X9_bring_273_274_3_M at h; exact h )
def s_X9_bring_273_274_3 (M : Nat → Nat → Int32) (a1 : Int32) (a3 : Int32) (a4 : Int32)  (n : Nat) : (Nat → Nat → Int32) := Nat.rec (motive := fun _ => (Nat → Nat → Int32)) (M) (fun k r => (e_X9_bring_273_274_3_M r a1 a3 a4 (nI k))) n
theorem fr_e_X9_bring_273_274_3_M (M : Nat → Nat → Int32) (a1 : Int32) (a3 : Int32) (a4 : Int32) (i : Int32)  (c : Nat) (h274 : c ≠ 274) : e_X9_bring_273_274_3_M M a1 a3 a4 i c = M c := by
  unfold e_X9_bring_273_274_3_M
  repeat' split
  all_goals simp only [z_row_ne h274]
theorem fr_s_X9_bring_273_274_3 (M : Nat → Nat → Int32) (a1 : Int32) (a3 : Int32) (a4 : Int32)  (n : Nat) (c : Nat) (h274 : c ≠ 274) : ((s_X9_bring_273_274_3 M a1 a3 a4 n)) c = M c := by
  induction n with
  | zero => rfl
  | succ n ih => exact (fr_e_X9_bring_273_274_3_M _ a1 a3 a4 (nI n)  c h274).trans ih
theorem l_X9_bring_273_274_3 {d : Nat} {L : Nat → Nat → Int64} {Q : Option Value → z_St → Prop} (M : Nat → Nat → Int32) (a1 : Int32) (a3 : Int32) (a4 : Int32)  (n : Nat) : (∀ k, k < n → ¬ (a4 ≤ (nI k))) → (∀ k, k < n → qi_X9_bring_273_274_3 ((s_X9_bring_273_274_3 M a1 a3 a4 k)) a1 a3 a4 (nI k)) → (z_G (d + 0) tb_X9_bring 3 [some (.ref 273), some (.int a1), some (.ref 274), some (.int a3), some (.int a4), some (.int (nI n))] [] [] (z_SH, (s_X9_bring_273_274_3 M a1 a3 a4 n), L) Q) → z_G (d + 0) tb_X9_bring 3 [some (.ref 273), some (.int a1), some (.ref 274), some (.int a3), some (.int a4), some (.int (nI 0))] [] [] (z_SH, M, L) Q := by
  induction n with
  | zero =>
    intro hc p1 h
    exact h
  | succ n ih =>
    intro hc p1 h
    refine ih (fun k hk => hc k (by omega)) (fun k hk => p1 k (by omega)) ?_
    have hcn := hc n (by omega)
    have p1n := p1 n (by omega)
    clear ih hc p1
    have hs : s_X9_bring_273_274_3 M a1 a3 a4 (n + 1) = (e_X9_bring_273_274_3_M ((s_X9_bring_273_274_3 M a1 a3 a4 n)) a1 a3 a4 (nI n)) := rfl
    rw [hs] at h
    clear hs
    generalize s_X9_bring_273_274_3 M a1 a3 a4 n = sg at *
    refine it_X9_bring_273_274_3 sg a1 a3 a4 (nI n)  hcn p1n ?_
    rw [nI_1]
    exact h
def g_X9_bring_273_274 (M : Nat → Nat → Int32) (a1 : Int32) (a3 : Int32) (a4 : Int32) : Nat → Nat → Int32 := ((s_X9_bring_273_274_3 M a1 a3 a4 ((a4).toNatClampNeg)))
theorem fr_g_X9_bring_273_274 (M : Nat → Nat → Int32) (a1 : Int32) (a3 : Int32) (a4 : Int32) (c : Nat) (h274 : c ≠ 274) : g_X9_bring_273_274 M a1 a3 a4 c = M c := by
  unfold g_X9_bring_273_274
  repeat' split
  all_goals simp only [z_row_ne h274, fr_s_X9_bring_273_274_3 (c := c) (h274 := h274)]
def q_X9_bring_273_274 (M : Nat → Nat → Int32) (a1 : Int32) (a3 : Int32) (a4 : Int32) : Prop := (∀ k93, k93 < (a4).toNatClampNeg → qi_X9_bring_273_274_3 ((s_X9_bring_273_274_3 M a1 a3 a4 k93)) a1 a3 a4 (nI k93)) ∧ True
theorem c_X9_bring_273_274 {d : Nat} {L : Nat → Nat → Int64} (M : Nat → Nat → Int32) (a1 : Int32) (a3 : Int32) (a4 : Int32) (hpre : q_X9_bring_273_274 M a1 a3 a4) : z_C (d + 1) 111 [.ref 273, .int a1, .ref 274, .int a3, .int a4] (z_SH, M, L) none (z_SH, g_X9_bring_273_274 M a1 a3 a4, L) := by
  unfold q_X9_bring_273_274 at hpre
  obtain ⟨p1, -⟩ := hpre
  refine z_mkA (tb := tb_X9_bring) rfl (by decide) rfl rfl rfl ?_
  refine g_k 2 (pc' := 3) (LI' := [some (.ref 273), some (.int a1), some (.ref 274), some (.int a3), some (.int a4), some (.int 0)]) (LL' := []) (st' := []) (S' := (z_SH, M, L)) (fun nq hq => And.intro rfl (And.intro rfl hq)) ?_
  refine l_X9_bring_273_274_3 (d := d) M a1 a3 a4 ((a4).toNatClampNeg) (fun k hk => z_lpc hk) p1 ?_ 
  have hx1 : a4 ≤ nI ((a4).toNatClampNeg) := z_lpe
  generalize hg1 : nI ((a4).toNatClampNeg) = r1 at *
  generalize hg2 : (s_X9_bring_273_274_3 M a1 a3 a4 ((a4).toNatClampNeg)) = m2 at *
  refine g_k 3 (pc' := (if z_cmp .ge r1 a4 = true then 28 else 10)) (LI' := [some (.ref 273), some (.int a1), some (.ref 274), some (.int a3), some (.int a4), some (.int r1)]) (LL' := []) (st' := []) (S' := (z_SH, m2, L)) (fun nq hq => And.intro rfl (And.intro rfl (And.intro rfl hq))) ?_
  refine g_ge (fun hc1 => ?_) (fun hc1 => absurd (hx1) hc1)
  exact ⟨1, And.intro rfl (⟨rfl, (by subst hg2; subst hg1; rfl)⟩)⟩
def g_X9_asItIs_268 (M : Nat → Nat → Int32)  : Nat → Nat → Int32 := (g_X9_bring_273_274 M ((0 : Int32)) ((0 : Int32)) ((83 : Int32)))
theorem fr_g_X9_asItIs_268 (M : Nat → Nat → Int32)  (c : Nat) (h274 : c ≠ 274) : g_X9_asItIs_268 M c = M c := by
  unfold g_X9_asItIs_268
  repeat' split
  all_goals simp only [z_row_ne h274, fr_g_X9_bring_273_274 (c := c) (h274 := h274)]
def q_X9_asItIs_268 (M : Nat → Nat → Int32)  : Prop := (q_X9_bring_273_274 M ((0 : Int32)) ((0 : Int32)) ((83 : Int32))) ∧ True
theorem c_X9_asItIs_268 {d : Nat} {L : Nat → Nat → Int64} (M : Nat → Nat → Int32)  (hpre : q_X9_asItIs_268 M) : z_C (d + 2) 160 [.ref 268] (z_SH, M, L) none (z_SH, g_X9_asItIs_268 M, L) := by
  unfold q_X9_asItIs_268 at hpre
  obtain ⟨p1, -⟩ := hpre
  refine z_mkA (tb := tb_X9_asItIs) rfl (by decide) rfl rfl rfl ?_
  refine g_k 7 (pc' := 12) (LI' := [some (.ref 268)]) (LL' := []) (st' := [.int 83, .int 0, .ref 274, .int 0, .ref 273]) (S' := (z_SH, M, L)) (fun nq hq => And.intro rfl (And.intro rfl (And.intro rfl (And.intro rfl (And.intro rfl (And.intro rfl (And.intro rfl hq))))))) ?_
  refine g_k 1 (pc' := 15) (LI' := [some (.ref 268)]) (LL' := []) (st' := []) (S' := (z_SH, g_X9_bring_273_274 M ((0 : Int32)) ((0 : Int32)) ((83 : Int32)), L)) (fun nq hq => And.intro rfl (Exists.intro _ (Exists.intro _ (And.intro (c_X9_bring_273_274 (d := d) M ((0 : Int32)) ((0 : Int32)) ((83 : Int32)) p1) (And.intro (z_fit_same _ _ _ _ _ _ _ _) hq))))) ?_
  generalize hg1 : g_X9_bring_273_274 M ((0 : Int32)) ((0 : Int32)) ((83 : Int32)) = m1 at *
  exact ⟨1, And.intro rfl (⟨rfl, (by subst hg1; rfl)⟩)⟩
def f_X9_twangOf_268 (M : Nat → Nat → Int32) (t : Int32) : Int32 := if (100 : Int32) ≤ ((s_X9_twangOf_268_6 (g_X9_asItIs_268 M) t ((1 : Int32)) (n_X9_twangOf_268_6 (g_X9_asItIs_268 M) t ((1 : Int32)))).1) then (-1 : Int32) else ((s_X9_twangOf_268_6 (g_X9_asItIs_268 M) t ((1 : Int32)) (n_X9_twangOf_268_6 (g_X9_asItIs_268 M) t ((1 : Int32)))).1)
def g_X9_twangOf_268 (M : Nat → Nat → Int32) (t : Int32) : Nat → Nat → Int32 := if (100 : Int32) ≤ ((s_X9_twangOf_268_6 (g_X9_asItIs_268 M) t ((1 : Int32)) (n_X9_twangOf_268_6 (g_X9_asItIs_268 M) t ((1 : Int32)))).1) then ((s_X9_twangOf_268_6 (g_X9_asItIs_268 M) t ((1 : Int32)) (n_X9_twangOf_268_6 (g_X9_asItIs_268 M) t ((1 : Int32)))).2) else (g_X9_puts_268_274 ((s_X9_twangOf_268_6 (g_X9_asItIs_268 M) t ((1 : Int32)) (n_X9_twangOf_268_6 (g_X9_asItIs_268 M) t ((1 : Int32)))).2) t)
theorem fr_g_X9_twangOf_268 (M : Nat → Nat → Int32) (t : Int32) (c : Nat) (h274 : c ≠ 274) (h285 : c ≠ 285) : g_X9_twangOf_268 M t c = M c := by
  unfold g_X9_twangOf_268
  repeat' split
  all_goals simp only [z_row_ne h274, z_row_ne h285, fr_g_X9_asItIs_268 (c := c) (h274 := h274), fr_g_X9_puts_268_274 (c := c) (h274 := h274) (h285 := h285), fr_s_X9_twangOf_268_6 (c := c) (h274 := h274) (h285 := h285)]
def q_X9_twangOf_268 (M : Nat → Nat → Int32) (t : Int32) : Prop := (q_X9_asItIs_268 M) ∧ (∀ k92, k92 < n_X9_twangOf_268_6 (g_X9_asItIs_268 M) t ((1 : Int32)) → qi_X9_twangOf_268_6 ((s_X9_twangOf_268_6 (g_X9_asItIs_268 M) t ((1 : Int32)) k92).2) t ((s_X9_twangOf_268_6 (g_X9_asItIs_268 M) t ((1 : Int32)) k92).1)) ∧ (t_X9_twangOf_268_6 ((s_X9_twangOf_268_6 (g_X9_asItIs_268 M) t ((1 : Int32)) 99).2) t ((s_X9_twangOf_268_6 (g_X9_asItIs_268 M) t ((1 : Int32)) 99).1) = false) ∧ (q_X9_puts_268_274 ((s_X9_twangOf_268_6 (g_X9_asItIs_268 M) t ((1 : Int32)) (n_X9_twangOf_268_6 (g_X9_asItIs_268 M) t ((1 : Int32)))).2) t) ∧ True
theorem c_X9_twangOf_268 {d : Nat} {L : Nat → Nat → Int64} (M : Nat → Nat → Int32) (t : Int32) (hpre : q_X9_twangOf_268 M t) : z_C (d + 8) 164 [.ref 268, .int t] (z_SH, M, L) (some (.int (f_X9_twangOf_268 M t))) (z_SH, g_X9_twangOf_268 M t, L) := by
  unfold q_X9_twangOf_268 at hpre
  obtain ⟨p1, p2, p3, p4, -⟩ := hpre
  refine z_mkA (tb := tb_X9_twangOf) rfl (by decide) rfl rfl rfl ?_
  refine g_k 1 (pc' := 1) (LI' := [some (.ref 268), some (.int t), none, none]) (LL' := []) (st' := [.ref 268]) (S' := (z_SH, M, L)) (fun nq hq => And.intro rfl hq) ?_
  refine g_k 1 (pc' := 4) (LI' := [some (.ref 268), some (.int t), none, none]) (LL' := []) (st' := []) (S' := (z_SH, g_X9_asItIs_268 M, L)) (fun nq hq => And.intro rfl (Exists.intro _ (Exists.intro _ (And.intro (c_X9_asItIs_268 (d := d + 5) M  p1) (And.intro (z_fit_same _ _ _ _ _ _ _ _) hq))))) ?_
  generalize hg1 : g_X9_asItIs_268 M = m1 at *
  refine g_k 2 (pc' := 6) (LI' := [some (.ref 268), some (.int t), some (.int 1), none]) (LL' := []) (st' := []) (S' := (z_SH, m1, L)) (fun nq hq => And.intro rfl (And.intro rfl hq)) ?_
  refine l_X9_twangOf_268_6 (d := d) m1 t ((1 : Int32)) (n_X9_twangOf_268_6 m1 t ((1 : Int32))) (n_X9_twangOf_268_6_t m1 t ((1 : Int32))) p2 (fun y1 => ?_) none
  have hx1 : t_X9_twangOf_268_6 ((s_X9_twangOf_268_6 m1 t ((1 : Int32)) ((n_X9_twangOf_268_6 m1 t ((1 : Int32))))).2) t ((s_X9_twangOf_268_6 m1 t ((1 : Int32)) ((n_X9_twangOf_268_6 m1 t ((1 : Int32))))).1) = false := n_X9_twangOf_268_6_f m1 t ((1 : Int32)) p3
  generalize hg2 : (s_X9_twangOf_268_6 m1 t ((1 : Int32)) (n_X9_twangOf_268_6 m1 t ((1 : Int32)))).1 = r2 at *
  generalize hg3 : (s_X9_twangOf_268_6 m1 t ((1 : Int32)) (n_X9_twangOf_268_6 m1 t ((1 : Int32)))).2 = m3 at *
  refine g_k 3 (pc' := (if z_cmp .ge r2 ((100 : Int32)) = true then 47 else 12)) (LI' := [some (.ref 268), some (.int t), some (.int r2), y1]) (LL' := []) (st' := []) (S' := (z_SH, m3, L)) (fun nq hq => And.intro rfl (And.intro rfl (And.intro rfl hq))) ?_
  refine g_ge (fun hc1 => ?_) (fun hc1 => ?_)
  · refine g_k 1 (pc' := 48) (LI' := [some (.ref 268), some (.int t), some (.int r2), y1]) (LL' := []) (st' := [.int (-1)]) (S' := (z_SH, m3, L)) (fun nq hq => And.intro rfl hq) ?_
    exact ⟨1, And.intro rfl (⟨(by subst hg3; subst hg2; subst hg1; unfold f_X9_twangOf_268; (first | rw [if_pos hc1] | skip); try rfl), (by subst hg3; subst hg2; subst hg1; unfold g_X9_twangOf_268; (first | rw [if_pos hc1] | skip); try rfl)⟩)⟩
  · refine g_k 9 (pc' := 25) (LI' := [some (.ref 268), some (.int t), some (.int r2), some (.int (m3 274 2))]) (LL' := []) (st' := [.int t, .ref 274, .ref 268]) (S' := (z_SH, m3, L)) (fun nq hq => And.intro rfl (And.intro rfl (And.intro rfl (And.intro rfl (And.intro rfl (And.intro rfl (And.intro rfl (And.intro rfl (And.intro rfl hq))))))))) ?_
    refine g_k 1 (pc' := 28) (LI' := [some (.ref 268), some (.int t), some (.int r2), some (.int (m3 274 2))]) (LL' := []) (st' := [.int (f_X9_puts_268_274 m3 t)]) (S' := (z_SH, g_X9_puts_268_274 m3 t, L)) (fun nq hq => And.intro rfl (Exists.intro _ (Exists.intro _ (And.intro (c_X9_puts_268_274 (d := d) m3 t p4) (And.intro (z_fit_same _ _ _ _ _ _ _ _) hq))))) ?_
    generalize hg4 : f_X9_puts_268_274 m3 t = r4 at *
    generalize hg5 : g_X9_puts_268_274 m3 t = m5 at *
    refine g_k 7 (pc' := (if z_cmp .le (m5 274 2) (m3 274 2) = true then 41 else 39)) (LI' := [some (.ref 268), some (.int t), some (.int r2), some (.int (m3 274 2))]) (LL' := []) (st' := []) (S' := (z_SH, m5, L)) (fun nq hq => And.intro rfl (And.intro rfl (And.intro rfl (And.intro rfl (And.intro rfl (And.intro rfl (And.intro rfl hq))))))) ?_
    refine g_le (fun hc2 => ?_) (fun hc2 => ?_)
    · refine g_k 2 (pc' := 6) (LI' := [some (.ref 268), some (.int t), some (.int (r2 + 1)), some (.int (m3 274 2))]) (LL' := []) (st' := []) (S' := (z_SH, m5, L)) (fun nq hq => And.intro rfl (And.intro rfl hq)) ?_
      (exfalso; subst hg5; subst hg4; unfold t_X9_twangOf_268_6 at hx1; (try simp only [if_neg hc1] at hx1); (try simp only [if_pos hc2] at hx1); exact Bool.noConfusion hx1)
    · refine g_k 1 (pc' := 40) (LI' := [some (.ref 268), some (.int t), some (.int r2), some (.int (m3 274 2))]) (LL' := []) (st' := [.int r2]) (S' := (z_SH, m5, L)) (fun nq hq => And.intro rfl hq) ?_
      exact ⟨1, And.intro rfl (⟨(by subst hg5; subst hg4; subst hg3; subst hg2; subst hg1; unfold f_X9_twangOf_268; (first | rw [if_neg hc1] | skip); (first | rw [if_neg hc2] | skip); try rfl), (by subst hg5; subst hg4; subst hg3; subst hg2; subst hg1; unfold g_X9_twangOf_268; (first | rw [if_neg hc1] | skip); (first | rw [if_neg hc2] | skip); try rfl)⟩)⟩
def e_X9_leastOf_268_52_M (M : Nat → Nat → Int32) (t : Int32) (v2 : Int32) (v3 : Int32) (v4 : Int32) (i : Int32)  : Nat → Nat → Int32 := if (f_X9_has M v4 i) = (0 : Int32) then z_row M 274 (upd (M 274) ((((71 : Int32)) + i).toNatClampNeg) (M 274 ((((71 : Int32)) + i).toNatClampNeg))) else z_row M 274 (upd (M 274) ((((71 : Int32)) + i).toNatClampNeg) ((2 : Int32)))
def qi_X9_leastOf_268_52 (M : Nat → Nat → Int32) (t : Int32) (v2 : Int32) (v3 : Int32) (v4 : Int32) (i : Int32)  : Prop := (z_vin (((71 : Int32)) + i) 83 = true) ∧ True
theorem it_X9_leastOf_268_52 {d : Nat} {L : Nat → Nat → Int64} {Q : Option Value → z_St → Prop} (M : Nat → Nat → Int32) (t : Int32) (v2 : Int32) (v3 : Int32) (v4 : Int32) (i : Int32)  (hc : ¬ (M 274 10 ≤ i)) (p1 : qi_X9_leastOf_268_52 M t v2 v3 v4 i) (h : z_G (d + 1) tb_X9_leastOf 52 [some (.ref 268), some (.int t), some (.int v2), some (.int v3), some (.int v4), some (.int (i + 1))] [] [] (z_SH, e_X9_leastOf_268_52_M M t v2 v3 v4 i, L) Q) : z_G (d + 1) tb_X9_leastOf 52 [some (.ref 268), some (.int t), some (.int v2), some (.int v3), some (.int v4), some (.int i)] [] [] (z_SH, M, L) Q := by
  unfold qi_X9_leastOf_268_52 at p1
  obtain ⟨p1, -⟩ := p1
  refine g_k 6 (pc' := (if z_cmp .ge i (M 274 10) = true then 104 else 64)) (LI' := [some (.ref 268), some (.int t), some (.int v2), some (.int v3), some (.int v4), some (.int i)]) (LL' := []) (st' := []) (S' := (z_SH, M, L)) (fun nq hq => And.intro rfl (And.intro rfl (And.intro rfl (And.intro rfl (And.intro rfl (And.intro rfl hq)))))) ?_
  refine g_ge (fun hc1 => ?_) (fun hc1 => ?_)
  · exact absurd hc1 hc
  · refine g_k 7 (pc' := 77) (LI' := [some (.ref 268), some (.int t), some (.int v2), some (.int v3), some (.int v4), some (.int i)]) (LL' := []) (st' := [.int i, .int v4, .int (((71 : Int32)) + i), .ref 274]) (S' := (z_SH, M, L)) (fun nq hq => And.intro rfl (And.intro rfl (And.intro rfl (And.intro rfl (And.intro rfl (And.intro rfl (And.intro rfl hq))))))) ?_
    refine g_k 1 (pc' := 80) (LI' := [some (.ref 268), some (.int t), some (.int v2), some (.int v3), some (.int v4), some (.int i)]) (LL' := []) (st' := [.int (f_X9_has M v4 i), .int (((71 : Int32)) + i), .ref 274]) (S' := (z_SH, M, L)) (fun nq hq => And.intro rfl (Exists.intro _ (Exists.intro _ (And.intro (c_X9_has (d := d) M v4 i) (And.intro (z_fit_same _ _ _ _ _ _ _ _) hq))))) ?_
    generalize hg1 : f_X9_has M v4 i = r1 at *
    refine g_k 1 (pc' := (if z_cmp .eq r1 ((0 : Int32)) = true then 87 else 83)) (LI' := [some (.ref 268), some (.int t), some (.int v2), some (.int v3), some (.int v4), some (.int i)]) (LL' := []) (st' := [.int (((71 : Int32)) + i), .ref 274]) (S' := (z_SH, M, L)) (fun nq hq => And.intro rfl hq) ?_
    refine g_eq (fun hc2 => ?_) (fun hc2 => ?_)
    · refine g_k 9 (pc' := 52) (LI' := [some (.ref 268), some (.int t), some (.int v2), some (.int v3), some (.int v4), some (.int (i + 1))]) (LL' := []) (st' := []) (S' := (z_SH, z_row M 274 (upd (M 274) ((((71 : Int32)) + i).toNatClampNeg) (M 274 ((((71 : Int32)) + i).toNatClampNeg))), L)) (fun nq hq => And.intro rfl (And.intro rfl (And.intro rfl (And.intro rfl (And.intro rfl (And.intro p1 (And.intro p1 (And.intro rfl (And.intro rfl hq))))))))) ?_
      (subst hg1; unfold e_X9_leastOf_268_52_M at h; (try simp only [if_pos hc2] at h); exact h )
    · refine g_k 5 (pc' := 52) (LI' := [some (.ref 268), some (.int t), some (.int v2), some (.int v3), some (.int v4), some (.int (i + 1))]) (LL' := []) (st' := []) (S' := (z_SH, z_row M 274 (upd (M 274) ((((71 : Int32)) + i).toNatClampNeg) ((2 : Int32))), L)) (fun nq hq => And.intro rfl (And.intro rfl (And.intro p1 (And.intro rfl (And.intro rfl hq))))) ?_
      (subst hg1; unfold e_X9_leastOf_268_52_M at h; (try simp only [if_neg hc2] at h); exact h )
def s_X9_leastOf_268_52 (M : Nat → Nat → Int32) (t : Int32) (v2 : Int32) (v3 : Int32) (v4 : Int32)  (n : Nat) : (Nat → Nat → Int32) := Nat.rec (motive := fun _ => (Nat → Nat → Int32)) (M) (fun k r => (e_X9_leastOf_268_52_M r t v2 v3 v4 (nI k))) n
theorem fr_e_X9_leastOf_268_52_M (M : Nat → Nat → Int32) (t : Int32) (v2 : Int32) (v3 : Int32) (v4 : Int32) (i : Int32)  (c : Nat) (h274 : c ≠ 274) : e_X9_leastOf_268_52_M M t v2 v3 v4 i c = M c := by
  unfold e_X9_leastOf_268_52_M
  repeat' split
  all_goals simp only [z_row_ne h274]
theorem fr_s_X9_leastOf_268_52 (M : Nat → Nat → Int32) (t : Int32) (v2 : Int32) (v3 : Int32) (v4 : Int32)  (n : Nat) (c : Nat) (h274 : c ≠ 274) : ((s_X9_leastOf_268_52 M t v2 v3 v4 n)) c = M c := by
  induction n with
  | zero => rfl
  | succ n ih => exact (fr_e_X9_leastOf_268_52_M _ t v2 v3 v4 (nI n)  c h274).trans ih
theorem l_X9_leastOf_268_52 {d : Nat} {L : Nat → Nat → Int64} {Q : Option Value → z_St → Prop} (M : Nat → Nat → Int32) (t : Int32) (v2 : Int32) (v3 : Int32) (v4 : Int32)  (n : Nat) : (∀ k, k < n → ¬ (((s_X9_leastOf_268_52 M t v2 v3 v4 k)) 274 10 ≤ (nI k))) → (∀ k, k < n → qi_X9_leastOf_268_52 ((s_X9_leastOf_268_52 M t v2 v3 v4 k)) t v2 v3 v4 (nI k)) → (z_G (d + 1) tb_X9_leastOf 52 [some (.ref 268), some (.int t), some (.int v2), some (.int v3), some (.int v4), some (.int (nI n))] [] [] (z_SH, (s_X9_leastOf_268_52 M t v2 v3 v4 n), L) Q) → z_G (d + 1) tb_X9_leastOf 52 [some (.ref 268), some (.int t), some (.int v2), some (.int v3), some (.int v4), some (.int (nI 0))] [] [] (z_SH, M, L) Q := by
  induction n with
  | zero =>
    intro hc p1 h
    exact h
  | succ n ih =>
    intro hc p1 h
    refine ih (fun k hk => hc k (by omega)) (fun k hk => p1 k (by omega)) ?_
    have hcn := hc n (by omega)
    have p1n := p1 n (by omega)
    clear ih hc p1
    have hs : s_X9_leastOf_268_52 M t v2 v3 v4 (n + 1) = (e_X9_leastOf_268_52_M ((s_X9_leastOf_268_52 M t v2 v3 v4 n)) t v2 v3 v4 (nI n)) := rfl
    rw [hs] at h
    clear hs
    generalize s_X9_leastOf_268_52 M t v2 v3 v4 n = sg at *
    refine it_X9_leastOf_268_52 sg t v2 v3 v4 (nI n)  hcn p1n ?_
    rw [nI_1]
    exact h
def t_X9_leastOf_268_14 (M : Nat → Nat → Int32) (t : Int32) (v2 : Int32) (c3 : Int32) (c4 : Int32) : Bool := if c4 < (0 : Int32) then false else true
def e_X9_leastOf_268_14_c3 (M : Nat → Nat → Int32) (t : Int32) (v2 : Int32) (c3 : Int32) (c4 : Int32) : Int32 := if ¬ c4 &&& (v2 ^^^ ((-1 : Int32))) = (0 : Int32) then c3 else if c3 = (-1 : Int32) then if (f_X9_marginOf_268_274 ((s_X9_leastOf_268_52 (g_X9_asItIs_268 M) t v2 c3 c4 (((g_X9_asItIs_268 M) 274 10).toNatClampNeg))) t) ≤ (0 : Int32) then c3 else c4 else if (f_X9_bits M c3) < (f_X9_bits M c4) then c3 else if (f_X9_marginOf_268_274 ((s_X9_leastOf_268_52 (g_X9_asItIs_268 M) t v2 c3 c4 (((g_X9_asItIs_268 M) 274 10).toNatClampNeg))) t) ≤ (0 : Int32) then c3 else c4
def e_X9_leastOf_268_14_c4 (M : Nat → Nat → Int32) (t : Int32) (v2 : Int32) (c3 : Int32) (c4 : Int32) : Int32 := c4 + (-1)
def e_X9_leastOf_268_14_M (M : Nat → Nat → Int32) (t : Int32) (v2 : Int32) (c3 : Int32) (c4 : Int32) : Nat → Nat → Int32 := if ¬ c4 &&& (v2 ^^^ ((-1 : Int32))) = (0 : Int32) then M else if c3 = (-1 : Int32) then ((s_X9_leastOf_268_52 (g_X9_asItIs_268 M) t v2 c3 c4 (((g_X9_asItIs_268 M) 274 10).toNatClampNeg))) else if (f_X9_bits M c3) < (f_X9_bits M c4) then M else ((s_X9_leastOf_268_52 (g_X9_asItIs_268 M) t v2 c3 c4 (((g_X9_asItIs_268 M) 274 10).toNatClampNeg)))
def qi_X9_leastOf_268_14 (M : Nat → Nat → Int32) (t : Int32) (v2 : Int32) (c3 : Int32) (c4 : Int32) : Prop := (q_X9_asItIs_268 M) ∧ (∀ k94, k94 < ((g_X9_asItIs_268 M) 274 10).toNatClampNeg → qi_X9_leastOf_268_52 ((s_X9_leastOf_268_52 (g_X9_asItIs_268 M) t v2 c3 c4 k94)) t v2 c3 c4 (nI k94)) ∧ (∀ k94, k94 < ((g_X9_asItIs_268 M) 274 10).toNatClampNeg → ¬ (((s_X9_leastOf_268_52 (g_X9_asItIs_268 M) t v2 c3 c4 k94)) 274 10 ≤ nI k94)) ∧ (((s_X9_leastOf_268_52 (g_X9_asItIs_268 M) t v2 c3 c4 ((((g_X9_asItIs_268 M) 274 10).toNatClampNeg)))) 274 10 ≤ nI (((g_X9_asItIs_268 M) 274 10).toNatClampNeg)) ∧ (q_X9_marginOf_268_274 ((s_X9_leastOf_268_52 (g_X9_asItIs_268 M) t v2 c3 c4 (((g_X9_asItIs_268 M) 274 10).toNatClampNeg))) t) ∧ (q_X9_bits M c4) ∧ (q_X9_bits M c3) ∧ True
theorem it_X9_leastOf_268_14 {d : Nat} {L : Nat → Nat → Int64} {Q : Option Value → z_St → Prop} (M : Nat → Nat → Int32) (t : Int32) (v2 : Int32) (c3 : Int32) (c4 : Int32) (ht : t_X9_leastOf_268_14 M t v2 c3 c4 = true) (p1 : qi_X9_leastOf_268_14 M t v2 c3 c4) (h : ∀ (y5 : Option Value), z_G (d + 5) tb_X9_leastOf 14 [some (.ref 268), some (.int t), some (.int v2), some (.int (e_X9_leastOf_268_14_c3 M t v2 c3 c4)), some (.int (e_X9_leastOf_268_14_c4 M t v2 c3 c4)), y5] [] [] (z_SH, e_X9_leastOf_268_14_M M t v2 c3 c4, L) Q) : ∀ (x5 : Option Value), z_G (d + 5) tb_X9_leastOf 14 [some (.ref 268), some (.int t), some (.int v2), some (.int c3), some (.int c4), x5] [] [] (z_SH, M, L) Q := by
  intro x5
  unfold qi_X9_leastOf_268_14 at p1
  obtain ⟨p1, p2, p3, p4, p5, p6, p7, -⟩ := p1
  refine g_k 2 (pc' := (if z_cmp .lt c4 ((0 : Int32)) = true then 129 else 19)) (LI' := [some (.ref 268), some (.int t), some (.int v2), some (.int c3), some (.int c4), x5]) (LL' := []) (st' := []) (S' := (z_SH, M, L)) (fun nq hq => And.intro rfl (And.intro rfl hq)) ?_
  refine g_lt (fun hc1 => ?_) (fun hc1 => ?_)
  · (exfalso; unfold t_X9_leastOf_268_14 at ht; (try simp only [if_pos hc1] at ht); exact Bool.noConfusion ht)
  · refine g_k 6 (pc' := (if z_cmp .ne (c4 &&& (v2 ^^^ ((-1 : Int32)))) ((0 : Int32)) = true then 123 else 28)) (LI' := [some (.ref 268), some (.int t), some (.int v2), some (.int c3), some (.int c4), x5]) (LL' := []) (st' := []) (S' := (z_SH, M, L)) (fun nq hq => And.intro rfl (And.intro rfl (And.intro rfl (And.intro rfl (And.intro rfl (And.intro rfl hq)))))) ?_
    refine g_ne (fun hc2 => ?_) (fun hc2 => ?_)
    · refine g_k 2 (pc' := 14) (LI' := [some (.ref 268), some (.int t), some (.int v2), some (.int c3), some (.int (c4 + (-1))), x5]) (LL' := []) (st' := []) (S' := (z_SH, M, L)) (fun nq hq => And.intro rfl (And.intro rfl hq)) ?_
      (clear ht; unfold e_X9_leastOf_268_14_c3 e_X9_leastOf_268_14_c4 e_X9_leastOf_268_14_M at h; (try simp only [if_neg hc1] at h); (try simp only [if_pos hc2] at h); exact h x5)
    · refine g_k 3 (pc' := (if z_cmp .eq c3 ((-1 : Int32)) = true then 45 else 33)) (LI' := [some (.ref 268), some (.int t), some (.int v2), some (.int c3), some (.int c4), x5]) (LL' := []) (st' := []) (S' := (z_SH, M, L)) (fun nq hq => And.intro rfl (And.intro rfl (And.intro rfl hq))) ?_
      refine g_eq (fun hc3 => ?_) (fun hc3 => ?_)
      · refine g_k 1 (pc' := 46) (LI' := [some (.ref 268), some (.int t), some (.int v2), some (.int c3), some (.int c4), x5]) (LL' := []) (st' := [.ref 268]) (S' := (z_SH, M, L)) (fun nq hq => And.intro rfl hq) ?_
        refine g_k 1 (pc' := 49) (LI' := [some (.ref 268), some (.int t), some (.int v2), some (.int c3), some (.int c4), x5]) (LL' := []) (st' := []) (S' := (z_SH, g_X9_asItIs_268 M, L)) (fun nq hq => And.intro rfl (Exists.intro _ (Exists.intro _ (And.intro (c_X9_asItIs_268 (d := d + 3) M  p1) (And.intro (z_fit_same _ _ _ _ _ _ _ _) hq))))) ?_
        generalize hg1 : g_X9_asItIs_268 M = m1 at *
        refine g_k 2 (pc' := 52) (LI' := [some (.ref 268), some (.int t), some (.int v2), some (.int c3), some (.int c4), some (.int 0)]) (LL' := []) (st' := []) (S' := (z_SH, m1, L)) (fun nq hq => And.intro rfl (And.intro rfl hq)) ?_
        refine l_X9_leastOf_268_52 (d := d + 4) m1 t v2 c3 c4 ((m1 274 10).toNatClampNeg) (fun k hk => p3 k hk) p2 ?_ 
        have hx1 : ((s_X9_leastOf_268_52 m1 t v2 c3 c4 ((m1 274 10).toNatClampNeg))) 274 10 ≤ nI ((m1 274 10).toNatClampNeg) := p4
        generalize hg2 : nI ((m1 274 10).toNatClampNeg) = r2 at *
        generalize hg3 : (s_X9_leastOf_268_52 m1 t v2 c3 c4 ((m1 274 10).toNatClampNeg)) = m3 at *
        refine g_k 6 (pc' := (if z_cmp .ge r2 (m3 274 10) = true then 104 else 64)) (LI' := [some (.ref 268), some (.int t), some (.int v2), some (.int c3), some (.int c4), some (.int r2)]) (LL' := []) (st' := []) (S' := (z_SH, m3, L)) (fun nq hq => And.intro rfl (And.intro rfl (And.intro rfl (And.intro rfl (And.intro rfl (And.intro rfl hq)))))) ?_
        refine g_ge (fun hc4 => ?_) (fun hc4 => absurd (hx1) hc4)
        refine g_k 4 (pc' := 110) (LI' := [some (.ref 268), some (.int t), some (.int v2), some (.int c3), some (.int c4), some (.int r2)]) (LL' := []) (st' := [.int t, .ref 274, .ref 268]) (S' := (z_SH, m3, L)) (fun nq hq => And.intro rfl (And.intro rfl (And.intro rfl (And.intro rfl hq)))) ?_
        refine g_k 1 (pc' := 113) (LI' := [some (.ref 268), some (.int t), some (.int v2), some (.int c3), some (.int c4), some (.int r2)]) (LL' := []) (st' := [.int (f_X9_marginOf_268_274 m3 t)]) (S' := (z_SH, m3, L)) (fun nq hq => And.intro rfl (Exists.intro _ (Exists.intro _ (And.intro (c_X9_marginOf_268_274 (d := d) m3 t p5) (And.intro (z_fit_same _ _ _ _ _ _ _ _) hq))))) ?_
        generalize hg4 : f_X9_marginOf_268_274 m3 t = r4 at *
        refine g_k 1 (pc' := (if z_cmp .le r4 ((0 : Int32)) = true then 121 else 116)) (LI' := [some (.ref 268), some (.int t), some (.int v2), some (.int c3), some (.int c4), some (.int r2)]) (LL' := []) (st' := []) (S' := (z_SH, m3, L)) (fun nq hq => And.intro rfl hq) ?_
        refine g_le (fun hc5 => ?_) (fun hc5 => ?_)
        · refine g_k 4 (pc' := 14) (LI' := [some (.ref 268), some (.int t), some (.int v2), some (.int c3), some (.int (c4 + (-1))), some (.int r2)]) (LL' := []) (st' := []) (S' := (z_SH, m3, L)) (fun nq hq => And.intro rfl (And.intro rfl (And.intro rfl (And.intro rfl hq)))) ?_
          (clear ht; subst hg4; subst hg3; subst hg2; subst hg1; unfold e_X9_leastOf_268_14_c3 e_X9_leastOf_268_14_c4 e_X9_leastOf_268_14_M at h; (try simp only [if_neg hc1] at h); (try simp only [if_neg (not_not_intro hc2)] at h); (try simp only [if_pos hc3] at h); (try simp only [if_pos hc5] at h); exact h (some (.int (nI (((g_X9_asItIs_268 M) 274 10).toNatClampNeg)))))
        · refine g_k 5 (pc' := 14) (LI' := [some (.ref 268), some (.int t), some (.int v2), some (.int c4), some (.int (c4 + (-1))), some (.int r2)]) (LL' := []) (st' := []) (S' := (z_SH, m3, L)) (fun nq hq => And.intro rfl (And.intro rfl (And.intro rfl (And.intro rfl (And.intro rfl hq))))) ?_
          (clear ht; subst hg4; subst hg3; subst hg2; subst hg1; unfold e_X9_leastOf_268_14_c3 e_X9_leastOf_268_14_c4 e_X9_leastOf_268_14_M at h; (try simp only [if_neg hc1] at h); (try simp only [if_neg (not_not_intro hc2)] at h); (try simp only [if_pos hc3] at h); (try simp only [if_neg hc5] at h); exact h (some (.int (nI (((g_X9_asItIs_268 M) 274 10).toNatClampNeg)))))
      · refine g_k 1 (pc' := 35) (LI' := [some (.ref 268), some (.int t), some (.int v2), some (.int c3), some (.int c4), x5]) (LL' := []) (st' := [.int c4]) (S' := (z_SH, M, L)) (fun nq hq => And.intro rfl hq) ?_
        refine g_k 1 (pc' := 38) (LI' := [some (.ref 268), some (.int t), some (.int v2), some (.int c3), some (.int c4), x5]) (LL' := []) (st' := [.int (f_X9_bits M c4)]) (S' := (z_SH, M, L)) (fun nq hq => And.intro rfl (Exists.intro _ (Exists.intro _ (And.intro (c_X9_bits (d := d + 4) M c4 p6) (And.intro (z_fit_same _ _ _ _ _ _ _ _) hq))))) ?_
        generalize hg5 : f_X9_bits M c4 = r5 at *
        refine g_k 1 (pc' := 39) (LI' := [some (.ref 268), some (.int t), some (.int v2), some (.int c3), some (.int c4), x5]) (LL' := []) (st' := [.int c3, .int r5]) (S' := (z_SH, M, L)) (fun nq hq => And.intro rfl hq) ?_
        refine g_k 1 (pc' := 42) (LI' := [some (.ref 268), some (.int t), some (.int v2), some (.int c3), some (.int c4), x5]) (LL' := []) (st' := [.int (f_X9_bits M c3), .int r5]) (S' := (z_SH, M, L)) (fun nq hq => And.intro rfl (Exists.intro _ (Exists.intro _ (And.intro (c_X9_bits (d := d + 4) M c3 p7) (And.intro (z_fit_same _ _ _ _ _ _ _ _) hq))))) ?_
        generalize hg6 : f_X9_bits M c3 = r6 at *
        refine g_k 1 (pc' := (if z_cmp .gt r5 r6 = true then 123 else 45)) (LI' := [some (.ref 268), some (.int t), some (.int v2), some (.int c3), some (.int c4), x5]) (LL' := []) (st' := []) (S' := (z_SH, M, L)) (fun nq hq => And.intro rfl hq) ?_
        refine g_gt (fun hc6 => ?_) (fun hc6 => ?_)
        · refine g_k 2 (pc' := 14) (LI' := [some (.ref 268), some (.int t), some (.int v2), some (.int c3), some (.int (c4 + (-1))), x5]) (LL' := []) (st' := []) (S' := (z_SH, M, L)) (fun nq hq => And.intro rfl (And.intro rfl hq)) ?_
          (clear ht; subst hg6; subst hg5; unfold e_X9_leastOf_268_14_c3 e_X9_leastOf_268_14_c4 e_X9_leastOf_268_14_M at h; (try simp only [if_neg hc1] at h); (try simp only [if_neg (not_not_intro hc2)] at h); (try simp only [if_neg hc3] at h); (try simp only [if_pos hc6] at h); exact h x5)
        · refine g_k 1 (pc' := 46) (LI' := [some (.ref 268), some (.int t), some (.int v2), some (.int c3), some (.int c4), x5]) (LL' := []) (st' := [.ref 268]) (S' := (z_SH, M, L)) (fun nq hq => And.intro rfl hq) ?_
          refine g_k 1 (pc' := 49) (LI' := [some (.ref 268), some (.int t), some (.int v2), some (.int c3), some (.int c4), x5]) (LL' := []) (st' := []) (S' := (z_SH, g_X9_asItIs_268 M, L)) (fun nq hq => And.intro rfl (Exists.intro _ (Exists.intro _ (And.intro (c_X9_asItIs_268 (d := d + 3) M  p1) (And.intro (z_fit_same _ _ _ _ _ _ _ _) hq))))) ?_
          generalize hg7 : g_X9_asItIs_268 M = m7 at *
          refine g_k 2 (pc' := 52) (LI' := [some (.ref 268), some (.int t), some (.int v2), some (.int c3), some (.int c4), some (.int 0)]) (LL' := []) (st' := []) (S' := (z_SH, m7, L)) (fun nq hq => And.intro rfl (And.intro rfl hq)) ?_
          refine l_X9_leastOf_268_52 (d := d + 4) m7 t v2 c3 c4 ((m7 274 10).toNatClampNeg) (fun k hk => p3 k hk) p2 ?_ 
          have hx2 : ((s_X9_leastOf_268_52 m7 t v2 c3 c4 ((m7 274 10).toNatClampNeg))) 274 10 ≤ nI ((m7 274 10).toNatClampNeg) := p4
          generalize hg8 : nI ((m7 274 10).toNatClampNeg) = r8 at *
          generalize hg9 : (s_X9_leastOf_268_52 m7 t v2 c3 c4 ((m7 274 10).toNatClampNeg)) = m9 at *
          refine g_k 6 (pc' := (if z_cmp .ge r8 (m9 274 10) = true then 104 else 64)) (LI' := [some (.ref 268), some (.int t), some (.int v2), some (.int c3), some (.int c4), some (.int r8)]) (LL' := []) (st' := []) (S' := (z_SH, m9, L)) (fun nq hq => And.intro rfl (And.intro rfl (And.intro rfl (And.intro rfl (And.intro rfl (And.intro rfl hq)))))) ?_
          refine g_ge (fun hc7 => ?_) (fun hc7 => absurd (hx2) hc7)
          refine g_k 4 (pc' := 110) (LI' := [some (.ref 268), some (.int t), some (.int v2), some (.int c3), some (.int c4), some (.int r8)]) (LL' := []) (st' := [.int t, .ref 274, .ref 268]) (S' := (z_SH, m9, L)) (fun nq hq => And.intro rfl (And.intro rfl (And.intro rfl (And.intro rfl hq)))) ?_
          refine g_k 1 (pc' := 113) (LI' := [some (.ref 268), some (.int t), some (.int v2), some (.int c3), some (.int c4), some (.int r8)]) (LL' := []) (st' := [.int (f_X9_marginOf_268_274 m9 t)]) (S' := (z_SH, m9, L)) (fun nq hq => And.intro rfl (Exists.intro _ (Exists.intro _ (And.intro (c_X9_marginOf_268_274 (d := d) m9 t p5) (And.intro (z_fit_same _ _ _ _ _ _ _ _) hq))))) ?_
          generalize hg10 : f_X9_marginOf_268_274 m9 t = r10 at *
          refine g_k 1 (pc' := (if z_cmp .le r10 ((0 : Int32)) = true then 121 else 116)) (LI' := [some (.ref 268), some (.int t), some (.int v2), some (.int c3), some (.int c4), some (.int r8)]) (LL' := []) (st' := []) (S' := (z_SH, m9, L)) (fun nq hq => And.intro rfl hq) ?_
          refine g_le (fun hc8 => ?_) (fun hc8 => ?_)
          · refine g_k 4 (pc' := 14) (LI' := [some (.ref 268), some (.int t), some (.int v2), some (.int c3), some (.int (c4 + (-1))), some (.int r8)]) (LL' := []) (st' := []) (S' := (z_SH, m9, L)) (fun nq hq => And.intro rfl (And.intro rfl (And.intro rfl (And.intro rfl hq)))) ?_
            (clear ht; subst hg10; subst hg9; subst hg8; subst hg7; subst hg6; subst hg5; unfold e_X9_leastOf_268_14_c3 e_X9_leastOf_268_14_c4 e_X9_leastOf_268_14_M at h; (try simp only [if_neg hc1] at h); (try simp only [if_neg (not_not_intro hc2)] at h); (try simp only [if_neg hc3] at h); (try simp only [if_neg hc6] at h); (try simp only [if_pos hc8] at h); exact h (some (.int (nI (((g_X9_asItIs_268 M) 274 10).toNatClampNeg)))))
          · refine g_k 5 (pc' := 14) (LI' := [some (.ref 268), some (.int t), some (.int v2), some (.int c4), some (.int (c4 + (-1))), some (.int r8)]) (LL' := []) (st' := []) (S' := (z_SH, m9, L)) (fun nq hq => And.intro rfl (And.intro rfl (And.intro rfl (And.intro rfl (And.intro rfl hq))))) ?_
            (clear ht; subst hg10; subst hg9; subst hg8; subst hg7; subst hg6; subst hg5; unfold e_X9_leastOf_268_14_c3 e_X9_leastOf_268_14_c4 e_X9_leastOf_268_14_M at h; (try simp only [if_neg hc1] at h); (try simp only [if_neg (not_not_intro hc2)] at h); (try simp only [if_neg hc3] at h); (try simp only [if_neg hc6] at h); (try simp only [if_neg hc8] at h); exact h (some (.int (nI (((g_X9_asItIs_268 M) 274 10).toNatClampNeg)))))
def s_X9_leastOf_268_14 (M : Nat → Nat → Int32) (t : Int32) (v2 : Int32) (c3 : Int32) (c4 : Int32) (n : Nat) : Int32 × Int32 × (Nat → Nat → Int32) := Nat.rec (motive := fun _ => Int32 × Int32 × (Nat → Nat → Int32)) (c3, c4, M) (fun _ r => (e_X9_leastOf_268_14_c3 r.2.2 t v2 r.1 r.2.1, e_X9_leastOf_268_14_c4 r.2.2 t v2 r.1 r.2.1, e_X9_leastOf_268_14_M r.2.2 t v2 r.1 r.2.1)) n
theorem fr_e_X9_leastOf_268_14_M (M : Nat → Nat → Int32) (t : Int32) (v2 : Int32) (c3 : Int32) (c4 : Int32) (c : Nat) (h274 : c ≠ 274) : e_X9_leastOf_268_14_M M t v2 c3 c4 c = M c := by
  unfold e_X9_leastOf_268_14_M
  repeat' split
  all_goals simp only [z_row_ne h274, fr_g_X9_asItIs_268 (c := c) (h274 := h274), fr_s_X9_leastOf_268_52 (c := c) (h274 := h274)]
theorem fr_s_X9_leastOf_268_14 (M : Nat → Nat → Int32) (t : Int32) (v2 : Int32) (c3 : Int32) (c4 : Int32) (n : Nat) (c : Nat) (h274 : c ≠ 274) : ((s_X9_leastOf_268_14 M t v2 c3 c4 n).2.2) c = M c := by
  induction n with
  | zero => rfl
  | succ n ih =>
    have hs : s_X9_leastOf_268_14 M t v2 c3 c4 (n + 1) = (e_X9_leastOf_268_14_c3 ((s_X9_leastOf_268_14 M t v2 c3 c4 n).2.2) t v2 ((s_X9_leastOf_268_14 M t v2 c3 c4 n).1) ((s_X9_leastOf_268_14 M t v2 c3 c4 n).2.1), e_X9_leastOf_268_14_c4 ((s_X9_leastOf_268_14 M t v2 c3 c4 n).2.2) t v2 ((s_X9_leastOf_268_14 M t v2 c3 c4 n).1) ((s_X9_leastOf_268_14 M t v2 c3 c4 n).2.1), e_X9_leastOf_268_14_M ((s_X9_leastOf_268_14 M t v2 c3 c4 n).2.2) t v2 ((s_X9_leastOf_268_14 M t v2 c3 c4 n).1) ((s_X9_leastOf_268_14 M t v2 c3 c4 n).2.1)) := rfl
    rw [hs]
    dsimp only
    exact (fr_e_X9_leastOf_268_14_M ((s_X9_leastOf_268_14 M t v2 c3 c4 n).2.2) t v2 ((s_X9_leastOf_268_14 M t v2 c3 c4 n).1) ((s_X9_leastOf_268_14 M t v2 c3 c4 n).2.1) c h274).trans ih
def n_X9_leastOf_268_14 (M : Nat → Nat → Int32) (t : Int32) (v2 : Int32) (c3 : Int32) (c4 : Int32) : Nat := z_fst (fun k => t_X9_leastOf_268_14 ((s_X9_leastOf_268_14 M t v2 c3 c4 k).2.2) t v2 ((s_X9_leastOf_268_14 M t v2 c3 c4 k).1) ((s_X9_leastOf_268_14 M t v2 c3 c4 k).2.1)) 4096
theorem n_X9_leastOf_268_14_t (M : Nat → Nat → Int32) (t : Int32) (v2 : Int32) (c3 : Int32) (c4 : Int32) : ∀ k, k < n_X9_leastOf_268_14 M t v2 c3 c4 → t_X9_leastOf_268_14 ((s_X9_leastOf_268_14 M t v2 c3 c4 k).2.2) t v2 ((s_X9_leastOf_268_14 M t v2 c3 c4 k).1) ((s_X9_leastOf_268_14 M t v2 c3 c4 k).2.1) = true := fun k hk => z_fst_t (p := (fun k => t_X9_leastOf_268_14 ((s_X9_leastOf_268_14 M t v2 c3 c4 k).2.2) t v2 ((s_X9_leastOf_268_14 M t v2 c3 c4 k).1) ((s_X9_leastOf_268_14 M t v2 c3 c4 k).2.1))) (B := 4096) hk
theorem n_X9_leastOf_268_14_f (M : Nat → Nat → Int32) (t : Int32) (v2 : Int32) (c3 : Int32) (c4 : Int32) (h : t_X9_leastOf_268_14 ((s_X9_leastOf_268_14 M t v2 c3 c4 4096).2.2) t v2 ((s_X9_leastOf_268_14 M t v2 c3 c4 4096).1) ((s_X9_leastOf_268_14 M t v2 c3 c4 4096).2.1) = false) : t_X9_leastOf_268_14 ((s_X9_leastOf_268_14 M t v2 c3 c4 ((n_X9_leastOf_268_14 M t v2 c3 c4))).2.2) t v2 ((s_X9_leastOf_268_14 M t v2 c3 c4 ((n_X9_leastOf_268_14 M t v2 c3 c4))).1) ((s_X9_leastOf_268_14 M t v2 c3 c4 ((n_X9_leastOf_268_14 M t v2 c3 c4))).2.1) = false := by
  have h2 := z_fst_f (p := (fun k => t_X9_leastOf_268_14 ((s_X9_leastOf_268_14 M t v2 c3 c4 k).2.2) t v2 ((s_X9_leastOf_268_14 M t v2 c3 c4 k).1) ((s_X9_leastOf_268_14 M t v2 c3 c4 k).2.1))) (B := 4096) h
  unfold n_X9_leastOf_268_14
  exact h2
theorem l_X9_leastOf_268_14 {d : Nat} {L : Nat → Nat → Int64} {Q : Option Value → z_St → Prop} (M : Nat → Nat → Int32) (t : Int32) (v2 : Int32) (c3 : Int32) (c4 : Int32) (n : Nat) : (∀ k, k < n → t_X9_leastOf_268_14 ((s_X9_leastOf_268_14 M t v2 c3 c4 k).2.2) t v2 ((s_X9_leastOf_268_14 M t v2 c3 c4 k).1) ((s_X9_leastOf_268_14 M t v2 c3 c4 k).2.1) = true) → (∀ k, k < n → qi_X9_leastOf_268_14 ((s_X9_leastOf_268_14 M t v2 c3 c4 k).2.2) t v2 ((s_X9_leastOf_268_14 M t v2 c3 c4 k).1) ((s_X9_leastOf_268_14 M t v2 c3 c4 k).2.1)) → (∀ (y5 : Option Value), z_G (d + 5) tb_X9_leastOf 14 [some (.ref 268), some (.int t), some (.int v2), some (.int ((s_X9_leastOf_268_14 M t v2 c3 c4 n).1)), some (.int ((s_X9_leastOf_268_14 M t v2 c3 c4 n).2.1)), y5] [] [] (z_SH, (s_X9_leastOf_268_14 M t v2 c3 c4 n).2.2, L) Q) → ∀ (x5 : Option Value), z_G (d + 5) tb_X9_leastOf 14 [some (.ref 268), some (.int t), some (.int v2), some (.int c3), some (.int c4), x5] [] [] (z_SH, M, L) Q := by
  induction n with
  | zero =>
    intro hc p1 h
    exact h
  | succ n ih =>
    intro hc p1 h
    refine ih (fun k hk => hc k (by omega)) (fun k hk => p1 k (by omega)) ?_
    have hcn := hc n (by omega)
    have p1n := p1 n (by omega)
    clear ih hc p1
    have hs : s_X9_leastOf_268_14 M t v2 c3 c4 (n + 1) = (e_X9_leastOf_268_14_c3 ((s_X9_leastOf_268_14 M t v2 c3 c4 n).2.2) t v2 ((s_X9_leastOf_268_14 M t v2 c3 c4 n).1) ((s_X9_leastOf_268_14 M t v2 c3 c4 n).2.1), e_X9_leastOf_268_14_c4 ((s_X9_leastOf_268_14 M t v2 c3 c4 n).2.2) t v2 ((s_X9_leastOf_268_14 M t v2 c3 c4 n).1) ((s_X9_leastOf_268_14 M t v2 c3 c4 n).2.1), e_X9_leastOf_268_14_M ((s_X9_leastOf_268_14 M t v2 c3 c4 n).2.2) t v2 ((s_X9_leastOf_268_14 M t v2 c3 c4 n).1) ((s_X9_leastOf_268_14 M t v2 c3 c4 n).2.1)) := rfl
    rw [hs] at h
    clear hs
    try dsimp only at h
    generalize s_X9_leastOf_268_14 M t v2 c3 c4 n = sg at *
    refine it_X9_leastOf_268_14 sg.2.2 t v2 sg.1 sg.2.1 hcn p1n ?_
    exact h
def f_X9_leastOf_268 (M : Nat → Nat → Int32) (t : Int32) : Int32 := ((s_X9_leastOf_268_14 M t (f_X9_strapsThat_273 M ((-1 : Int32))) ((-1 : Int32)) (f_X9_strapsThat_273 M ((-1 : Int32))) (n_X9_leastOf_268_14 M t (f_X9_strapsThat_273 M ((-1 : Int32))) ((-1 : Int32)) (f_X9_strapsThat_273 M ((-1 : Int32))))).1)
def g_X9_leastOf_268 (M : Nat → Nat → Int32) (t : Int32) : Nat → Nat → Int32 := ((s_X9_leastOf_268_14 M t (f_X9_strapsThat_273 M ((-1 : Int32))) ((-1 : Int32)) (f_X9_strapsThat_273 M ((-1 : Int32))) (n_X9_leastOf_268_14 M t (f_X9_strapsThat_273 M ((-1 : Int32))) ((-1 : Int32)) (f_X9_strapsThat_273 M ((-1 : Int32))))).2.2)
theorem fr_g_X9_leastOf_268 (M : Nat → Nat → Int32) (t : Int32) (c : Nat) (h274 : c ≠ 274) : g_X9_leastOf_268 M t c = M c := by
  unfold g_X9_leastOf_268
  repeat' split
  all_goals simp only [z_row_ne h274, fr_s_X9_leastOf_268_14 (c := c) (h274 := h274)]
def q_X9_leastOf_268 (M : Nat → Nat → Int32) (t : Int32) : Prop := (q_X9_strapsThat_273 M ((-1 : Int32))) ∧ (∀ k95, k95 < n_X9_leastOf_268_14 M t (f_X9_strapsThat_273 M ((-1 : Int32))) ((-1 : Int32)) (f_X9_strapsThat_273 M ((-1 : Int32))) → qi_X9_leastOf_268_14 ((s_X9_leastOf_268_14 M t (f_X9_strapsThat_273 M ((-1 : Int32))) ((-1 : Int32)) (f_X9_strapsThat_273 M ((-1 : Int32))) k95).2.2) t (f_X9_strapsThat_273 M ((-1 : Int32))) ((s_X9_leastOf_268_14 M t (f_X9_strapsThat_273 M ((-1 : Int32))) ((-1 : Int32)) (f_X9_strapsThat_273 M ((-1 : Int32))) k95).1) ((s_X9_leastOf_268_14 M t (f_X9_strapsThat_273 M ((-1 : Int32))) ((-1 : Int32)) (f_X9_strapsThat_273 M ((-1 : Int32))) k95).2.1)) ∧ (t_X9_leastOf_268_14 ((s_X9_leastOf_268_14 M t (f_X9_strapsThat_273 M ((-1 : Int32))) ((-1 : Int32)) (f_X9_strapsThat_273 M ((-1 : Int32))) 4096).2.2) t (f_X9_strapsThat_273 M ((-1 : Int32))) ((s_X9_leastOf_268_14 M t (f_X9_strapsThat_273 M ((-1 : Int32))) ((-1 : Int32)) (f_X9_strapsThat_273 M ((-1 : Int32))) 4096).1) ((s_X9_leastOf_268_14 M t (f_X9_strapsThat_273 M ((-1 : Int32))) ((-1 : Int32)) (f_X9_strapsThat_273 M ((-1 : Int32))) 4096).2.1) = false) ∧ (q_X9_asItIs_268 ((s_X9_leastOf_268_14 M t (f_X9_strapsThat_273 M ((-1 : Int32))) ((-1 : Int32)) (f_X9_strapsThat_273 M ((-1 : Int32))) (n_X9_leastOf_268_14 M t (f_X9_strapsThat_273 M ((-1 : Int32))) ((-1 : Int32)) (f_X9_strapsThat_273 M ((-1 : Int32))))).2.2)) ∧ (∀ k94, k94 < ((g_X9_asItIs_268 ((s_X9_leastOf_268_14 M t (f_X9_strapsThat_273 M ((-1 : Int32))) ((-1 : Int32)) (f_X9_strapsThat_273 M ((-1 : Int32))) (n_X9_leastOf_268_14 M t (f_X9_strapsThat_273 M ((-1 : Int32))) ((-1 : Int32)) (f_X9_strapsThat_273 M ((-1 : Int32))))).2.2)) 274 10).toNatClampNeg → qi_X9_leastOf_268_52 ((s_X9_leastOf_268_52 (g_X9_asItIs_268 ((s_X9_leastOf_268_14 M t (f_X9_strapsThat_273 M ((-1 : Int32))) ((-1 : Int32)) (f_X9_strapsThat_273 M ((-1 : Int32))) (n_X9_leastOf_268_14 M t (f_X9_strapsThat_273 M ((-1 : Int32))) ((-1 : Int32)) (f_X9_strapsThat_273 M ((-1 : Int32))))).2.2)) t (f_X9_strapsThat_273 M ((-1 : Int32))) ((s_X9_leastOf_268_14 M t (f_X9_strapsThat_273 M ((-1 : Int32))) ((-1 : Int32)) (f_X9_strapsThat_273 M ((-1 : Int32))) (n_X9_leastOf_268_14 M t (f_X9_strapsThat_273 M ((-1 : Int32))) ((-1 : Int32)) (f_X9_strapsThat_273 M ((-1 : Int32))))).1) ((s_X9_leastOf_268_14 M t (f_X9_strapsThat_273 M ((-1 : Int32))) ((-1 : Int32)) (f_X9_strapsThat_273 M ((-1 : Int32))) (n_X9_leastOf_268_14 M t (f_X9_strapsThat_273 M ((-1 : Int32))) ((-1 : Int32)) (f_X9_strapsThat_273 M ((-1 : Int32))))).2.1) k94)) t (f_X9_strapsThat_273 M ((-1 : Int32))) ((s_X9_leastOf_268_14 M t (f_X9_strapsThat_273 M ((-1 : Int32))) ((-1 : Int32)) (f_X9_strapsThat_273 M ((-1 : Int32))) (n_X9_leastOf_268_14 M t (f_X9_strapsThat_273 M ((-1 : Int32))) ((-1 : Int32)) (f_X9_strapsThat_273 M ((-1 : Int32))))).1) ((s_X9_leastOf_268_14 M t (f_X9_strapsThat_273 M ((-1 : Int32))) ((-1 : Int32)) (f_X9_strapsThat_273 M ((-1 : Int32))) (n_X9_leastOf_268_14 M t (f_X9_strapsThat_273 M ((-1 : Int32))) ((-1 : Int32)) (f_X9_strapsThat_273 M ((-1 : Int32))))).2.1) (nI k94)) ∧ (∀ k94, k94 < ((g_X9_asItIs_268 ((s_X9_leastOf_268_14 M t (f_X9_strapsThat_273 M ((-1 : Int32))) ((-1 : Int32)) (f_X9_strapsThat_273 M ((-1 : Int32))) (n_X9_leastOf_268_14 M t (f_X9_strapsThat_273 M ((-1 : Int32))) ((-1 : Int32)) (f_X9_strapsThat_273 M ((-1 : Int32))))).2.2)) 274 10).toNatClampNeg → ¬ (((s_X9_leastOf_268_52 (g_X9_asItIs_268 ((s_X9_leastOf_268_14 M t (f_X9_strapsThat_273 M ((-1 : Int32))) ((-1 : Int32)) (f_X9_strapsThat_273 M ((-1 : Int32))) (n_X9_leastOf_268_14 M t (f_X9_strapsThat_273 M ((-1 : Int32))) ((-1 : Int32)) (f_X9_strapsThat_273 M ((-1 : Int32))))).2.2)) t (f_X9_strapsThat_273 M ((-1 : Int32))) ((s_X9_leastOf_268_14 M t (f_X9_strapsThat_273 M ((-1 : Int32))) ((-1 : Int32)) (f_X9_strapsThat_273 M ((-1 : Int32))) (n_X9_leastOf_268_14 M t (f_X9_strapsThat_273 M ((-1 : Int32))) ((-1 : Int32)) (f_X9_strapsThat_273 M ((-1 : Int32))))).1) ((s_X9_leastOf_268_14 M t (f_X9_strapsThat_273 M ((-1 : Int32))) ((-1 : Int32)) (f_X9_strapsThat_273 M ((-1 : Int32))) (n_X9_leastOf_268_14 M t (f_X9_strapsThat_273 M ((-1 : Int32))) ((-1 : Int32)) (f_X9_strapsThat_273 M ((-1 : Int32))))).2.1) k94)) 274 10 ≤ nI k94)) ∧ (((s_X9_leastOf_268_52 (g_X9_asItIs_268 ((s_X9_leastOf_268_14 M t (f_X9_strapsThat_273 M ((-1 : Int32))) ((-1 : Int32)) (f_X9_strapsThat_273 M ((-1 : Int32))) (n_X9_leastOf_268_14 M t (f_X9_strapsThat_273 M ((-1 : Int32))) ((-1 : Int32)) (f_X9_strapsThat_273 M ((-1 : Int32))))).2.2)) t (f_X9_strapsThat_273 M ((-1 : Int32))) ((s_X9_leastOf_268_14 M t (f_X9_strapsThat_273 M ((-1 : Int32))) ((-1 : Int32)) (f_X9_strapsThat_273 M ((-1 : Int32))) (n_X9_leastOf_268_14 M t (f_X9_strapsThat_273 M ((-1 : Int32))) ((-1 : Int32)) (f_X9_strapsThat_273 M ((-1 : Int32))))).1) ((s_X9_leastOf_268_14 M t (f_X9_strapsThat_273 M ((-1 : Int32))) ((-1 : Int32)) (f_X9_strapsThat_273 M ((-1 : Int32))) (n_X9_leastOf_268_14 M t (f_X9_strapsThat_273 M ((-1 : Int32))) ((-1 : Int32)) (f_X9_strapsThat_273 M ((-1 : Int32))))).2.1) ((((g_X9_asItIs_268 ((s_X9_leastOf_268_14 M t (f_X9_strapsThat_273 M ((-1 : Int32))) ((-1 : Int32)) (f_X9_strapsThat_273 M ((-1 : Int32))) (n_X9_leastOf_268_14 M t (f_X9_strapsThat_273 M ((-1 : Int32))) ((-1 : Int32)) (f_X9_strapsThat_273 M ((-1 : Int32))))).2.2)) 274 10).toNatClampNeg)))) 274 10 ≤ nI (((g_X9_asItIs_268 ((s_X9_leastOf_268_14 M t (f_X9_strapsThat_273 M ((-1 : Int32))) ((-1 : Int32)) (f_X9_strapsThat_273 M ((-1 : Int32))) (n_X9_leastOf_268_14 M t (f_X9_strapsThat_273 M ((-1 : Int32))) ((-1 : Int32)) (f_X9_strapsThat_273 M ((-1 : Int32))))).2.2)) 274 10).toNatClampNeg)) ∧ (q_X9_marginOf_268_274 ((s_X9_leastOf_268_52 (g_X9_asItIs_268 ((s_X9_leastOf_268_14 M t (f_X9_strapsThat_273 M ((-1 : Int32))) ((-1 : Int32)) (f_X9_strapsThat_273 M ((-1 : Int32))) (n_X9_leastOf_268_14 M t (f_X9_strapsThat_273 M ((-1 : Int32))) ((-1 : Int32)) (f_X9_strapsThat_273 M ((-1 : Int32))))).2.2)) t (f_X9_strapsThat_273 M ((-1 : Int32))) ((s_X9_leastOf_268_14 M t (f_X9_strapsThat_273 M ((-1 : Int32))) ((-1 : Int32)) (f_X9_strapsThat_273 M ((-1 : Int32))) (n_X9_leastOf_268_14 M t (f_X9_strapsThat_273 M ((-1 : Int32))) ((-1 : Int32)) (f_X9_strapsThat_273 M ((-1 : Int32))))).1) ((s_X9_leastOf_268_14 M t (f_X9_strapsThat_273 M ((-1 : Int32))) ((-1 : Int32)) (f_X9_strapsThat_273 M ((-1 : Int32))) (n_X9_leastOf_268_14 M t (f_X9_strapsThat_273 M ((-1 : Int32))) ((-1 : Int32)) (f_X9_strapsThat_273 M ((-1 : Int32))))).2.1) (((g_X9_asItIs_268 ((s_X9_leastOf_268_14 M t (f_X9_strapsThat_273 M ((-1 : Int32))) ((-1 : Int32)) (f_X9_strapsThat_273 M ((-1 : Int32))) (n_X9_leastOf_268_14 M t (f_X9_strapsThat_273 M ((-1 : Int32))) ((-1 : Int32)) (f_X9_strapsThat_273 M ((-1 : Int32))))).2.2)) 274 10).toNatClampNeg))) t) ∧ (q_X9_bits ((s_X9_leastOf_268_14 M t (f_X9_strapsThat_273 M ((-1 : Int32))) ((-1 : Int32)) (f_X9_strapsThat_273 M ((-1 : Int32))) (n_X9_leastOf_268_14 M t (f_X9_strapsThat_273 M ((-1 : Int32))) ((-1 : Int32)) (f_X9_strapsThat_273 M ((-1 : Int32))))).2.2) ((s_X9_leastOf_268_14 M t (f_X9_strapsThat_273 M ((-1 : Int32))) ((-1 : Int32)) (f_X9_strapsThat_273 M ((-1 : Int32))) (n_X9_leastOf_268_14 M t (f_X9_strapsThat_273 M ((-1 : Int32))) ((-1 : Int32)) (f_X9_strapsThat_273 M ((-1 : Int32))))).2.1)) ∧ (q_X9_bits ((s_X9_leastOf_268_14 M t (f_X9_strapsThat_273 M ((-1 : Int32))) ((-1 : Int32)) (f_X9_strapsThat_273 M ((-1 : Int32))) (n_X9_leastOf_268_14 M t (f_X9_strapsThat_273 M ((-1 : Int32))) ((-1 : Int32)) (f_X9_strapsThat_273 M ((-1 : Int32))))).2.2) ((s_X9_leastOf_268_14 M t (f_X9_strapsThat_273 M ((-1 : Int32))) ((-1 : Int32)) (f_X9_strapsThat_273 M ((-1 : Int32))) (n_X9_leastOf_268_14 M t (f_X9_strapsThat_273 M ((-1 : Int32))) ((-1 : Int32)) (f_X9_strapsThat_273 M ((-1 : Int32))))).1)) ∧ True
theorem c_X9_leastOf_268 {d : Nat} {L : Nat → Nat → Int64} (M : Nat → Nat → Int32) (t : Int32) (hpre : q_X9_leastOf_268 M t) : z_C (d + 6) 163 [.ref 268, .int t] (z_SH, M, L) (some (.int (f_X9_leastOf_268 M t))) (z_SH, g_X9_leastOf_268 M t, L) := by
  unfold q_X9_leastOf_268 at hpre
  obtain ⟨p1, p2, p3, p4, p5, p6, p7, p8, p9, p10, -⟩ := hpre
  refine z_mkA (tb := tb_X9_leastOf) rfl (by decide) rfl rfl rfl ?_
  refine g_k 3 (pc' := 5) (LI' := [some (.ref 268), some (.int t), none, none, none, none]) (LL' := []) (st' := [.int (-1), .ref 273]) (S' := (z_SH, M, L)) (fun nq hq => And.intro rfl (And.intro rfl (And.intro rfl hq))) ?_
  refine g_k 1 (pc' := 8) (LI' := [some (.ref 268), some (.int t), none, none, none, none]) (LL' := []) (st' := [.int (f_X9_strapsThat_273 M ((-1 : Int32)))]) (S' := (z_SH, M, L)) (fun nq hq => And.intro rfl (Exists.intro _ (Exists.intro _ (And.intro (c_X9_strapsThat_273 (d := d + 3) M ((-1 : Int32)) p1) (And.intro (z_fit_same _ _ _ _ _ _ _ _) hq))))) ?_
  generalize hg1 : f_X9_strapsThat_273 M ((-1 : Int32)) = r1 at *
  refine g_k 5 (pc' := 14) (LI' := [some (.ref 268), some (.int t), some (.int r1), some (.int (-1)), some (.int r1), none]) (LL' := []) (st' := []) (S' := (z_SH, M, L)) (fun nq hq => And.intro rfl (And.intro rfl (And.intro rfl (And.intro rfl (And.intro rfl hq))))) ?_
  refine l_X9_leastOf_268_14 (d := d) M t r1 ((-1 : Int32)) r1 (n_X9_leastOf_268_14 M t r1 ((-1 : Int32)) r1) (n_X9_leastOf_268_14_t M t r1 ((-1 : Int32)) r1) p2 (fun y1 => ?_) none
  have hx1 : t_X9_leastOf_268_14 ((s_X9_leastOf_268_14 M t r1 ((-1 : Int32)) r1 ((n_X9_leastOf_268_14 M t r1 ((-1 : Int32)) r1))).2.2) t r1 ((s_X9_leastOf_268_14 M t r1 ((-1 : Int32)) r1 ((n_X9_leastOf_268_14 M t r1 ((-1 : Int32)) r1))).1) ((s_X9_leastOf_268_14 M t r1 ((-1 : Int32)) r1 ((n_X9_leastOf_268_14 M t r1 ((-1 : Int32)) r1))).2.1) = false := n_X9_leastOf_268_14_f M t r1 ((-1 : Int32)) r1 p3
  generalize hg2 : (s_X9_leastOf_268_14 M t r1 ((-1 : Int32)) r1 (n_X9_leastOf_268_14 M t r1 ((-1 : Int32)) r1)).1 = r2 at *
  generalize hg3 : (s_X9_leastOf_268_14 M t r1 ((-1 : Int32)) r1 (n_X9_leastOf_268_14 M t r1 ((-1 : Int32)) r1)).2.1 = r3 at *
  generalize hg4 : (s_X9_leastOf_268_14 M t r1 ((-1 : Int32)) r1 (n_X9_leastOf_268_14 M t r1 ((-1 : Int32)) r1)).2.2 = m4 at *
  refine g_k 2 (pc' := (if z_cmp .lt r3 ((0 : Int32)) = true then 129 else 19)) (LI' := [some (.ref 268), some (.int t), some (.int r1), some (.int r2), some (.int r3), y1]) (LL' := []) (st' := []) (S' := (z_SH, m4, L)) (fun nq hq => And.intro rfl (And.intro rfl hq)) ?_
  refine g_lt (fun hc1 => ?_) (fun hc1 => ?_)
  · refine g_k 1 (pc' := 130) (LI' := [some (.ref 268), some (.int t), some (.int r1), some (.int r2), some (.int r3), y1]) (LL' := []) (st' := [.int r2]) (S' := (z_SH, m4, L)) (fun nq hq => And.intro rfl hq) ?_
    exact ⟨1, And.intro rfl (⟨(by subst hg4; subst hg3; subst hg2; subst hg1; unfold f_X9_leastOf_268; (first | rw [if_pos hc1] | skip); try rfl), (by subst hg4; subst hg3; subst hg2; subst hg1; unfold g_X9_leastOf_268; (first | rw [if_pos hc1] | skip); try rfl)⟩)⟩
  · refine g_k 6 (pc' := (if z_cmp .ne (r3 &&& (r1 ^^^ ((-1 : Int32)))) ((0 : Int32)) = true then 123 else 28)) (LI' := [some (.ref 268), some (.int t), some (.int r1), some (.int r2), some (.int r3), y1]) (LL' := []) (st' := []) (S' := (z_SH, m4, L)) (fun nq hq => And.intro rfl (And.intro rfl (And.intro rfl (And.intro rfl (And.intro rfl (And.intro rfl hq)))))) ?_
    refine g_ne (fun hc2 => ?_) (fun hc2 => ?_)
    · refine g_k 2 (pc' := 14) (LI' := [some (.ref 268), some (.int t), some (.int r1), some (.int r2), some (.int (r3 + (-1))), y1]) (LL' := []) (st' := []) (S' := (z_SH, m4, L)) (fun nq hq => And.intro rfl (And.intro rfl hq)) ?_
      (exfalso; unfold t_X9_leastOf_268_14 at hx1; (try simp only [if_neg hc1] at hx1); (try simp only [if_pos hc2] at hx1); exact Bool.noConfusion hx1)
    · refine g_k 3 (pc' := (if z_cmp .eq r2 ((-1 : Int32)) = true then 45 else 33)) (LI' := [some (.ref 268), some (.int t), some (.int r1), some (.int r2), some (.int r3), y1]) (LL' := []) (st' := []) (S' := (z_SH, m4, L)) (fun nq hq => And.intro rfl (And.intro rfl (And.intro rfl hq))) ?_
      refine g_eq (fun hc3 => ?_) (fun hc3 => ?_)
      · refine g_k 1 (pc' := 46) (LI' := [some (.ref 268), some (.int t), some (.int r1), some (.int r2), some (.int r3), y1]) (LL' := []) (st' := [.ref 268]) (S' := (z_SH, m4, L)) (fun nq hq => And.intro rfl hq) ?_
        refine g_k 1 (pc' := 49) (LI' := [some (.ref 268), some (.int t), some (.int r1), some (.int r2), some (.int r3), y1]) (LL' := []) (st' := []) (S' := (z_SH, g_X9_asItIs_268 m4, L)) (fun nq hq => And.intro rfl (Exists.intro _ (Exists.intro _ (And.intro (c_X9_asItIs_268 (d := d + 3) m4  p4) (And.intro (z_fit_same _ _ _ _ _ _ _ _) hq))))) ?_
        generalize hg5 : g_X9_asItIs_268 m4 = m5 at *
        refine g_k 2 (pc' := 52) (LI' := [some (.ref 268), some (.int t), some (.int r1), some (.int r2), some (.int r3), some (.int 0)]) (LL' := []) (st' := []) (S' := (z_SH, m5, L)) (fun nq hq => And.intro rfl (And.intro rfl hq)) ?_
        refine l_X9_leastOf_268_52 (d := d + 4) m5 t r1 r2 r3 ((m5 274 10).toNatClampNeg) (fun k hk => p6 k hk) p5 ?_ 
        have hx2 : ((s_X9_leastOf_268_52 m5 t r1 r2 r3 ((m5 274 10).toNatClampNeg))) 274 10 ≤ nI ((m5 274 10).toNatClampNeg) := p7
        generalize hg6 : nI ((m5 274 10).toNatClampNeg) = r6 at *
        generalize hg7 : (s_X9_leastOf_268_52 m5 t r1 r2 r3 ((m5 274 10).toNatClampNeg)) = m7 at *
        refine g_k 6 (pc' := (if z_cmp .ge r6 (m7 274 10) = true then 104 else 64)) (LI' := [some (.ref 268), some (.int t), some (.int r1), some (.int r2), some (.int r3), some (.int r6)]) (LL' := []) (st' := []) (S' := (z_SH, m7, L)) (fun nq hq => And.intro rfl (And.intro rfl (And.intro rfl (And.intro rfl (And.intro rfl (And.intro rfl hq)))))) ?_
        refine g_ge (fun hc4 => ?_) (fun hc4 => absurd (hx2) hc4)
        refine g_k 4 (pc' := 110) (LI' := [some (.ref 268), some (.int t), some (.int r1), some (.int r2), some (.int r3), some (.int r6)]) (LL' := []) (st' := [.int t, .ref 274, .ref 268]) (S' := (z_SH, m7, L)) (fun nq hq => And.intro rfl (And.intro rfl (And.intro rfl (And.intro rfl hq)))) ?_
        refine g_k 1 (pc' := 113) (LI' := [some (.ref 268), some (.int t), some (.int r1), some (.int r2), some (.int r3), some (.int r6)]) (LL' := []) (st' := [.int (f_X9_marginOf_268_274 m7 t)]) (S' := (z_SH, m7, L)) (fun nq hq => And.intro rfl (Exists.intro _ (Exists.intro _ (And.intro (c_X9_marginOf_268_274 (d := d) m7 t p8) (And.intro (z_fit_same _ _ _ _ _ _ _ _) hq))))) ?_
        generalize hg8 : f_X9_marginOf_268_274 m7 t = r8 at *
        refine g_k 1 (pc' := (if z_cmp .le r8 ((0 : Int32)) = true then 121 else 116)) (LI' := [some (.ref 268), some (.int t), some (.int r1), some (.int r2), some (.int r3), some (.int r6)]) (LL' := []) (st' := []) (S' := (z_SH, m7, L)) (fun nq hq => And.intro rfl hq) ?_
        refine g_le (fun hc5 => ?_) (fun hc5 => ?_)
        · refine g_k 4 (pc' := 14) (LI' := [some (.ref 268), some (.int t), some (.int r1), some (.int r2), some (.int (r3 + (-1))), some (.int r6)]) (LL' := []) (st' := []) (S' := (z_SH, m7, L)) (fun nq hq => And.intro rfl (And.intro rfl (And.intro rfl (And.intro rfl hq)))) ?_
          (exfalso; subst hg8; subst hg7; subst hg6; subst hg5; unfold t_X9_leastOf_268_14 at hx1; (try simp only [if_neg hc1] at hx1); (try simp only [if_neg (not_not_intro hc2)] at hx1); (try simp only [if_pos hc3] at hx1); (try simp only [if_pos hc5] at hx1); exact Bool.noConfusion hx1)
        · refine g_k 5 (pc' := 14) (LI' := [some (.ref 268), some (.int t), some (.int r1), some (.int r3), some (.int (r3 + (-1))), some (.int r6)]) (LL' := []) (st' := []) (S' := (z_SH, m7, L)) (fun nq hq => And.intro rfl (And.intro rfl (And.intro rfl (And.intro rfl (And.intro rfl hq))))) ?_
          (exfalso; subst hg8; subst hg7; subst hg6; subst hg5; unfold t_X9_leastOf_268_14 at hx1; (try simp only [if_neg hc1] at hx1); (try simp only [if_neg (not_not_intro hc2)] at hx1); (try simp only [if_pos hc3] at hx1); (try simp only [if_neg hc5] at hx1); exact Bool.noConfusion hx1)
      · refine g_k 1 (pc' := 35) (LI' := [some (.ref 268), some (.int t), some (.int r1), some (.int r2), some (.int r3), y1]) (LL' := []) (st' := [.int r3]) (S' := (z_SH, m4, L)) (fun nq hq => And.intro rfl hq) ?_
        refine g_k 1 (pc' := 38) (LI' := [some (.ref 268), some (.int t), some (.int r1), some (.int r2), some (.int r3), y1]) (LL' := []) (st' := [.int (f_X9_bits m4 r3)]) (S' := (z_SH, m4, L)) (fun nq hq => And.intro rfl (Exists.intro _ (Exists.intro _ (And.intro (c_X9_bits (d := d + 4) m4 r3 p9) (And.intro (z_fit_same _ _ _ _ _ _ _ _) hq))))) ?_
        generalize hg9 : f_X9_bits m4 r3 = r9 at *
        refine g_k 1 (pc' := 39) (LI' := [some (.ref 268), some (.int t), some (.int r1), some (.int r2), some (.int r3), y1]) (LL' := []) (st' := [.int r2, .int r9]) (S' := (z_SH, m4, L)) (fun nq hq => And.intro rfl hq) ?_
        refine g_k 1 (pc' := 42) (LI' := [some (.ref 268), some (.int t), some (.int r1), some (.int r2), some (.int r3), y1]) (LL' := []) (st' := [.int (f_X9_bits m4 r2), .int r9]) (S' := (z_SH, m4, L)) (fun nq hq => And.intro rfl (Exists.intro _ (Exists.intro _ (And.intro (c_X9_bits (d := d + 4) m4 r2 p10) (And.intro (z_fit_same _ _ _ _ _ _ _ _) hq))))) ?_
        generalize hg10 : f_X9_bits m4 r2 = r10 at *
        refine g_k 1 (pc' := (if z_cmp .gt r9 r10 = true then 123 else 45)) (LI' := [some (.ref 268), some (.int t), some (.int r1), some (.int r2), some (.int r3), y1]) (LL' := []) (st' := []) (S' := (z_SH, m4, L)) (fun nq hq => And.intro rfl hq) ?_
        refine g_gt (fun hc6 => ?_) (fun hc6 => ?_)
        · refine g_k 2 (pc' := 14) (LI' := [some (.ref 268), some (.int t), some (.int r1), some (.int r2), some (.int (r3 + (-1))), y1]) (LL' := []) (st' := []) (S' := (z_SH, m4, L)) (fun nq hq => And.intro rfl (And.intro rfl hq)) ?_
          (exfalso; subst hg10; subst hg9; unfold t_X9_leastOf_268_14 at hx1; (try simp only [if_neg hc1] at hx1); (try simp only [if_neg (not_not_intro hc2)] at hx1); (try simp only [if_neg hc3] at hx1); (try simp only [if_pos hc6] at hx1); exact Bool.noConfusion hx1)
        · refine g_k 1 (pc' := 46) (LI' := [some (.ref 268), some (.int t), some (.int r1), some (.int r2), some (.int r3), y1]) (LL' := []) (st' := [.ref 268]) (S' := (z_SH, m4, L)) (fun nq hq => And.intro rfl hq) ?_
          refine g_k 1 (pc' := 49) (LI' := [some (.ref 268), some (.int t), some (.int r1), some (.int r2), some (.int r3), y1]) (LL' := []) (st' := []) (S' := (z_SH, g_X9_asItIs_268 m4, L)) (fun nq hq => And.intro rfl (Exists.intro _ (Exists.intro _ (And.intro (c_X9_asItIs_268 (d := d + 3) m4  p4) (And.intro (z_fit_same _ _ _ _ _ _ _ _) hq))))) ?_
          generalize hg11 : g_X9_asItIs_268 m4 = m11 at *
          refine g_k 2 (pc' := 52) (LI' := [some (.ref 268), some (.int t), some (.int r1), some (.int r2), some (.int r3), some (.int 0)]) (LL' := []) (st' := []) (S' := (z_SH, m11, L)) (fun nq hq => And.intro rfl (And.intro rfl hq)) ?_
          refine l_X9_leastOf_268_52 (d := d + 4) m11 t r1 r2 r3 ((m11 274 10).toNatClampNeg) (fun k hk => p6 k hk) p5 ?_ 
          have hx3 : ((s_X9_leastOf_268_52 m11 t r1 r2 r3 ((m11 274 10).toNatClampNeg))) 274 10 ≤ nI ((m11 274 10).toNatClampNeg) := p7
          generalize hg12 : nI ((m11 274 10).toNatClampNeg) = r12 at *
          generalize hg13 : (s_X9_leastOf_268_52 m11 t r1 r2 r3 ((m11 274 10).toNatClampNeg)) = m13 at *
          refine g_k 6 (pc' := (if z_cmp .ge r12 (m13 274 10) = true then 104 else 64)) (LI' := [some (.ref 268), some (.int t), some (.int r1), some (.int r2), some (.int r3), some (.int r12)]) (LL' := []) (st' := []) (S' := (z_SH, m13, L)) (fun nq hq => And.intro rfl (And.intro rfl (And.intro rfl (And.intro rfl (And.intro rfl (And.intro rfl hq)))))) ?_
          refine g_ge (fun hc7 => ?_) (fun hc7 => absurd (hx3) hc7)
          refine g_k 4 (pc' := 110) (LI' := [some (.ref 268), some (.int t), some (.int r1), some (.int r2), some (.int r3), some (.int r12)]) (LL' := []) (st' := [.int t, .ref 274, .ref 268]) (S' := (z_SH, m13, L)) (fun nq hq => And.intro rfl (And.intro rfl (And.intro rfl (And.intro rfl hq)))) ?_
          refine g_k 1 (pc' := 113) (LI' := [some (.ref 268), some (.int t), some (.int r1), some (.int r2), some (.int r3), some (.int r12)]) (LL' := []) (st' := [.int (f_X9_marginOf_268_274 m13 t)]) (S' := (z_SH, m13, L)) (fun nq hq => And.intro rfl (Exists.intro _ (Exists.intro _ (And.intro (c_X9_marginOf_268_274 (d := d) m13 t p8) (And.intro (z_fit_same _ _ _ _ _ _ _ _) hq))))) ?_
          generalize hg14 : f_X9_marginOf_268_274 m13 t = r14 at *
          refine g_k 1 (pc' := (if z_cmp .le r14 ((0 : Int32)) = true then 121 else 116)) (LI' := [some (.ref 268), some (.int t), some (.int r1), some (.int r2), some (.int r3), some (.int r12)]) (LL' := []) (st' := []) (S' := (z_SH, m13, L)) (fun nq hq => And.intro rfl hq) ?_
          refine g_le (fun hc8 => ?_) (fun hc8 => ?_)
          · refine g_k 4 (pc' := 14) (LI' := [some (.ref 268), some (.int t), some (.int r1), some (.int r2), some (.int (r3 + (-1))), some (.int r12)]) (LL' := []) (st' := []) (S' := (z_SH, m13, L)) (fun nq hq => And.intro rfl (And.intro rfl (And.intro rfl (And.intro rfl hq)))) ?_
            (exfalso; subst hg14; subst hg13; subst hg12; subst hg11; subst hg10; subst hg9; unfold t_X9_leastOf_268_14 at hx1; (try simp only [if_neg hc1] at hx1); (try simp only [if_neg (not_not_intro hc2)] at hx1); (try simp only [if_neg hc3] at hx1); (try simp only [if_neg hc6] at hx1); (try simp only [if_pos hc8] at hx1); exact Bool.noConfusion hx1)
          · refine g_k 5 (pc' := 14) (LI' := [some (.ref 268), some (.int t), some (.int r1), some (.int r3), some (.int (r3 + (-1))), some (.int r12)]) (LL' := []) (st' := []) (S' := (z_SH, m13, L)) (fun nq hq => And.intro rfl (And.intro rfl (And.intro rfl (And.intro rfl (And.intro rfl hq))))) ?_
            (exfalso; subst hg14; subst hg13; subst hg12; subst hg11; subst hg10; subst hg9; unfold t_X9_leastOf_268_14 at hx1; (try simp only [if_neg hc1] at hx1); (try simp only [if_neg (not_not_intro hc2)] at hx1); (try simp only [if_neg hc3] at hx1); (try simp only [if_neg hc6] at hx1); (try simp only [if_neg hc8] at hx1); exact Bool.noConfusion hx1)
