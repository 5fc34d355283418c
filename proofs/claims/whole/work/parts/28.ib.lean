def e_X9_readHouse_274_22_M (M : Nat → Nat → Int32)  (i : Int32)  : Nat → Nat → Int32 := z_row M 290 (upd (M 290) ((i).toNatClampNeg) ((0 : Int32)))
def qi_X9_readHouse_274_22 (M : Nat → Nat → Int32)  (i : Int32)  : Prop := (z_vin i 83 = true) ∧ True
set_option maxRecDepth 20000 in
theorem it_X9_readHouse_274_22 {d : Nat} {L : Nat → Nat → Int64} {Q : Option Value → z_St → Prop} (M : Nat → Nat → Int32)  (i : Int32)  (hc : ¬ ((83 : Int32) ≤ i)) (p1 : qi_X9_readHouse_274_22 M i) (h : z_G (d + 0) tb_X9_readHouse 22 [some (.ref 274), some (.int (i + 1))] [] [] (z_SH, e_X9_readHouse_274_22_M M i, L) Q) : z_G (d + 0) tb_X9_readHouse 22 [some (.ref 274), some (.int i)] [] [] (z_SH, M, L) Q := by
  unfold qi_X9_readHouse_274_22 at p1
  obtain ⟨p1, -⟩ := p1
  refine g_k 3 (pc' := (if z_cmp .ge i ((83 : Int32)) = true then 41 else 28)) (LI' := [some (.ref 274), some (.int i)]) (LL' := []) (st' := []) (S' := (z_SH, M, L)) (fun nq hq => And.intro rfl (And.intro rfl (And.intro rfl hq))) ?_
  refine g_ge (fun hc1 => ?_) (fun hc1 => ?_)
  · exact absurd hc1 hc
  · refine g_k 7 (pc' := 22) (LI' := [some (.ref 274), some (.int (i + 1))]) (LL' := []) (st' := []) (S' := (z_SH, z_row M 290 (upd (M 290) ((i).toNatClampNeg) ((0 : Int32))), L)) (fun nq hq => And.intro rfl (And.intro rfl (And.intro rfl (And.intro rfl (And.intro p1 (And.intro rfl (And.intro rfl hq))))))) ?_
    (unfold e_X9_readHouse_274_22_M at h; exact h )
def s_X9_readHouse_274_22 (M : Nat → Nat → Int32)   (n : Nat) : (Nat → Nat → Int32) := Nat.rec (motive := fun _ => (Nat → Nat → Int32)) (M) (fun k r => (e_X9_readHouse_274_22_M r (nI k))) n
theorem fr_e_X9_readHouse_274_22_M (M : Nat → Nat → Int32)  (i : Int32)  (c : Nat) (h290 : c ≠ 290) : e_X9_readHouse_274_22_M M i c = M c := by
  unfold e_X9_readHouse_274_22_M
  repeat' split
  all_goals simp only [z_row_ne h290]
theorem fr_s_X9_readHouse_274_22 (M : Nat → Nat → Int32)   (n : Nat) (c : Nat) (h290 : c ≠ 290) : ((s_X9_readHouse_274_22 M n)) c = M c := by
  induction n with
  | zero => rfl
  | succ n ih => exact (fr_e_X9_readHouse_274_22_M _  (nI n)  c h290).trans ih
theorem l_X9_readHouse_274_22 {d : Nat} {L : Nat → Nat → Int64} {Q : Option Value → z_St → Prop} (M : Nat → Nat → Int32)   (n : Nat) : (∀ k, k < n → ¬ ((83 : Int32) ≤ (nI k))) → (∀ k, k < n → qi_X9_readHouse_274_22 ((s_X9_readHouse_274_22 M k)) (nI k)) → (z_G (d + 0) tb_X9_readHouse 22 [some (.ref 274), some (.int (nI n))] [] [] (z_SH, (s_X9_readHouse_274_22 M n), L) Q) → z_G (d + 0) tb_X9_readHouse 22 [some (.ref 274), some (.int (nI 0))] [] [] (z_SH, M, L) Q := by
  induction n with
  | zero =>
    intro hc p1 h
    exact h
  | succ n ih =>
    intro hc p1 h
    refine ih (fun k hk => hc k (by omega)) (fun k hk => p1 k (by omega)) ?_
    have hcn := hc n (by omega)
    have p1n := p1 n (by omega)
    clear ih hc p1
    have hs : s_X9_readHouse_274_22 M (n + 1) = (e_X9_readHouse_274_22_M ((s_X9_readHouse_274_22 M n)) (nI n)) := rfl
    rw [hs] at h
    clear hs
    generalize s_X9_readHouse_274_22 M n = sg at *
    refine it_X9_readHouse_274_22 sg  (nI n)  hcn p1n ?_
    rw [nI_1]
    exact h
def t_X9_readHouse_274_45 (M : Nat → Nat → Int32)   : Bool := if ¬ M 274 21 = (0 : Int32) then false else if M 274 1 ≤ M 274 20 then false else true
def e_X9_readHouse_274_45_M (M : Nat → Nat → Int32)   : Nat → Nat → Int32 := if ¬ (g_X9_readClause_274 M) 274 21 = (0 : Int32) then (g_X9_readClause_274 M) else (g_X9_skips_274 (g_X9_readClause_274 M))
def qi_X9_readHouse_274_45 (M : Nat → Nat → Int32)   : Prop := ((M 274 21 = (0 : Int32)) → (¬ (M 274 1 ≤ M 274 20)) → (q_X9_readClause_274 M)) ∧ ((M 274 21 = (0 : Int32)) → (¬ (M 274 1 ≤ M 274 20)) → ((g_X9_readClause_274 M) 274 21 = (0 : Int32)) → (q_X9_skips_274 (g_X9_readClause_274 M))) ∧ True
set_option maxRecDepth 20000 in
theorem it_X9_readHouse_274_45 {d : Nat} {L : Nat → Nat → Int64} {Q : Option Value → z_St → Prop} (M : Nat → Nat → Int32)   (ht : t_X9_readHouse_274_45 M = true) (p1 : qi_X9_readHouse_274_45 M) (h : ∀ (y1 : Option Value), z_G (d + 5) tb_X9_readHouse 45 [some (.ref 274), y1] [] [] (z_SH, e_X9_readHouse_274_45_M M, L) Q) : ∀ (x1 : Option Value), z_G (d + 5) tb_X9_readHouse 45 [some (.ref 274), x1] [] [] (z_SH, M, L) Q := by
  intro x1
  unfold qi_X9_readHouse_274_45 at p1
  obtain ⟨p1, p2, -⟩ := p1
  refine g_k 3 (pc' := (if z_cmp .ne (M 274 21) ((0 : Int32)) = true then 81 else 52)) (LI' := [some (.ref 274), x1]) (LL' := []) (st' := []) (S' := (z_SH, M, L)) (fun nq hq => And.intro rfl (And.intro rfl (And.intro rfl hq))) ?_
  refine g_ne (fun hc1 => ?_) (fun hc1 => ?_)
  · (exfalso; unfold t_X9_readHouse_274_45 at ht; (try simp only [if_pos hc1] at ht); exact Bool.noConfusion ht)
  · refine g_k 5 (pc' := (if z_cmp .ge (M 274 20) (M 274 1) = true then 81 else 63)) (LI' := [some (.ref 274), x1]) (LL' := []) (st' := []) (S' := (z_SH, M, L)) (fun nq hq => And.intro rfl (And.intro rfl (And.intro rfl (And.intro rfl (And.intro rfl hq))))) ?_
    refine g_ge (fun hc2 => ?_) (fun hc2 => ?_)
    · (exfalso; unfold t_X9_readHouse_274_45 at ht; (try simp only [if_neg (not_not_intro hc1)] at ht); (try simp only [if_pos hc2] at ht); exact Bool.noConfusion ht)
    · refine g_k 1 (pc' := 64) (LI' := [some (.ref 274), x1]) (LL' := []) (st' := [.ref 274]) (S' := (z_SH, M, L)) (fun nq hq => And.intro rfl hq) ?_
      refine g_k 1 (pc' := 67) (LI' := [some (.ref 274), x1]) (LL' := []) (st' := []) (S' := (z_SH, g_X9_readClause_274 M, L)) (fun nq hq => And.intro rfl (Exists.intro _ (Exists.intro _ (And.intro (c_X9_readClause_274 (d := d) M  (p1 hc1 hc2)) (And.intro (z_fit_same _ _ _ _ _ _ _ _) hq))))) ?_
      generalize hg1 : g_X9_readClause_274 M = m1 at *
      refine g_k 3 (pc' := (if z_cmp .ne (m1 274 21) ((0 : Int32)) = true then 45 else 74)) (LI' := [some (.ref 274), x1]) (LL' := []) (st' := []) (S' := (z_SH, m1, L)) (fun nq hq => And.intro rfl (And.intro rfl (And.intro rfl hq))) ?_
      refine g_ne (fun hc3 => ?_) (fun hc3 => ?_)
      · (clear ht; subst hg1; unfold e_X9_readHouse_274_45_M at h; (try simp only [if_neg (not_not_intro hc1)] at h); (try simp only [if_neg hc2] at h); (try simp only [if_pos hc3] at h); exact h x1)
      · refine g_k 1 (pc' := 75) (LI' := [some (.ref 274), x1]) (LL' := []) (st' := [.ref 274]) (S' := (z_SH, m1, L)) (fun nq hq => And.intro rfl hq) ?_
        refine g_k 1 (pc' := 78) (LI' := [some (.ref 274), x1]) (LL' := []) (st' := []) (S' := (z_SH, g_X9_skips_274 m1, L)) (fun nq hq => And.intro rfl (Exists.intro _ (Exists.intro _ (And.intro (c_X9_skips_274 (d := d + 3) m1  (p2 hc1 hc2 hc3)) (And.intro (z_fit_same _ _ _ _ _ _ _ _) hq))))) ?_
        generalize hg2 : g_X9_skips_274 m1 = m2 at *
        refine g_k 1 (pc' := 45) (LI' := [some (.ref 274), x1]) (LL' := []) (st' := []) (S' := (z_SH, m2, L)) (fun nq hq => And.intro rfl hq) ?_
        (clear ht; subst hg2; subst hg1; unfold e_X9_readHouse_274_45_M at h; (try simp only [if_neg (not_not_intro hc1)] at h); (try simp only [if_neg hc2] at h); (try simp only [if_neg (not_not_intro hc3)] at h); exact h x1)
def s_X9_readHouse_274_45 (M : Nat → Nat → Int32)   (n : Nat) : (Nat → Nat → Int32) := Nat.rec (motive := fun _ => (Nat → Nat → Int32)) (M) (fun _ r => (e_X9_readHouse_274_45_M r)) n
theorem fr_e_X9_readHouse_274_45_M (M : Nat → Nat → Int32)   (c : Nat) (h274 : c ≠ 274) (h287 : c ≠ 287) (h288 : c ≠ 288) (h289 : c ≠ 289) (h290 : c ≠ 290) : e_X9_readHouse_274_45_M M c = M c := by
  unfold e_X9_readHouse_274_45_M
  repeat' split
  all_goals simp only [z_row_ne h274, z_row_ne h287, z_row_ne h288, z_row_ne h289, z_row_ne h290, fr_g_X9_readClause_274 (c := c) (h274 := h274) (h287 := h287) (h288 := h288) (h289 := h289) (h290 := h290), fr_g_X9_skips_274 (c := c) (h274 := h274)]
theorem fr_s_X9_readHouse_274_45 (M : Nat → Nat → Int32)   (n : Nat) (c : Nat) (h274 : c ≠ 274) (h287 : c ≠ 287) (h288 : c ≠ 288) (h289 : c ≠ 289) (h290 : c ≠ 290) : ((s_X9_readHouse_274_45 M n)) c = M c := by
  induction n with
  | zero => rfl
  | succ n ih =>
    have hs : s_X9_readHouse_274_45 M (n + 1) = (e_X9_readHouse_274_45_M ((s_X9_readHouse_274_45 M n))) := rfl
    rw [hs]
    exact (fr_e_X9_readHouse_274_45_M ((s_X9_readHouse_274_45 M n))   c h274 h287 h288 h289 h290).trans ih
def n_X9_readHouse_274_45 (M : Nat → Nat → Int32)   : Nat := z_fst (fun k => t_X9_readHouse_274_45 ((s_X9_readHouse_274_45 M k))) 240
theorem n_X9_readHouse_274_45_t (M : Nat → Nat → Int32)   : ∀ k, k < n_X9_readHouse_274_45 M → t_X9_readHouse_274_45 ((s_X9_readHouse_274_45 M k)) = true := fun k hk => z_fst_t (p := (fun k => t_X9_readHouse_274_45 ((s_X9_readHouse_274_45 M k)))) (B := 240) hk
theorem n_X9_readHouse_274_45_f (M : Nat → Nat → Int32)   (h : t_X9_readHouse_274_45 ((s_X9_readHouse_274_45 M 240)) = false) : t_X9_readHouse_274_45 ((s_X9_readHouse_274_45 M ((n_X9_readHouse_274_45 M)))) = false := by
  have h2 := z_fst_f (p := (fun k => t_X9_readHouse_274_45 ((s_X9_readHouse_274_45 M k)))) (B := 240) h
  unfold n_X9_readHouse_274_45
  exact h2
theorem l_X9_readHouse_274_45 {d : Nat} {L : Nat → Nat → Int64} {Q : Option Value → z_St → Prop} (M : Nat → Nat → Int32)   (n : Nat) : (∀ k, k < n → t_X9_readHouse_274_45 ((s_X9_readHouse_274_45 M k)) = true) → (∀ k, k < n → qi_X9_readHouse_274_45 ((s_X9_readHouse_274_45 M k))) → (∀ (y1 : Option Value), z_G (d + 5) tb_X9_readHouse 45 [some (.ref 274), y1] [] [] (z_SH, (s_X9_readHouse_274_45 M n), L) Q) → ∀ (x1 : Option Value), z_G (d + 5) tb_X9_readHouse 45 [some (.ref 274), x1] [] [] (z_SH, M, L) Q := by
  induction n with
  | zero =>
    intro hc p1 h
    exact h
  | succ n ih =>
    intro hc p1 h
    refine ih (fun k hk => hc k (by omega)) (fun k hk => p1 k (by omega)) ?_
    have hcn := hc n (by omega)
    have p1n := p1 n (by omega)
    clear ih hc p1
    have hs : s_X9_readHouse_274_45 M (n + 1) = (e_X9_readHouse_274_45_M ((s_X9_readHouse_274_45 M n))) := rfl
    rw [hs] at h
    clear hs
    generalize s_X9_readHouse_274_45 M n = sg at *
    refine it_X9_readHouse_274_45 sg   hcn p1n ?_
    exact h
