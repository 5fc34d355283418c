def f_X9_votesOf_274_280 (M : Nat → Nat → Int32) (a2 : Int32) : Int32 := if ¬ M 276 ((a2).toNatClampNeg) = (3 : Int32) then (1 : Int32) else if (f_X9_hangs_280 M a2) = (0 : Int32) then (1 : Int32) else (2 : Int32)
def q_X9_votesOf_274_280 (M : Nat → Nat → Int32) (a2 : Int32) : Prop := (z_vin a2 6 = true) ∧ ((M 276 ((a2).toNatClampNeg) = (3 : Int32)) → (q_X9_hangs_280 M a2)) ∧ True
theorem c_X9_votesOf_274_280 {d : Nat} {L : Nat → Nat → Int64} (M : Nat → Nat → Int32) (a2 : Int32)  (hpre : q_X9_votesOf_274_280 M a2) : z_C (d + 4) 134 [.ref 274, .ref 280, .int a2] (z_SH, M, L) (some (.int (f_X9_votesOf_274_280 M a2))) (z_SH, M, L) := by
  unfold q_X9_votesOf_274_280 at hpre
  obtain ⟨p1, p2, -⟩ := hpre
  refine z_mkA (tb := tb_X9_votesOf) rfl (by decide) rfl rfl rfl ?_
  refine g_k 6 (pc' := (if z_cmp .ne (M 276 ((a2).toNatClampNeg)) ((3 : Int32)) = true then 22 else 10)) (LI' := [some (.ref 274), some (.ref 280), some (.int a2)]) (LL' := []) (st' := []) (S' := (z_SH, M, L)) (fun nq hq => And.intro rfl (And.intro rfl (And.intro rfl (And.intro p1 (And.intro rfl (And.intro rfl hq)))))) ?_
  refine g_ne (fun hc1 => ?_) (fun hc1 => ?_)
  · refine g_k 1 (pc' := 23) (LI' := [some (.ref 274), some (.ref 280), some (.int a2)]) (LL' := []) (st' := [.int 1]) (S' := (z_SH, M, L)) (fun nq hq => And.intro rfl hq) ?_
    exact ⟨1, And.intro rfl (⟨(by unfold f_X9_votesOf_274_280; (first | rw [if_pos hc1] | skip); try rfl), rfl⟩)⟩
  · refine g_k 2 (pc' := 12) (LI' := [some (.ref 274), some (.ref 280), some (.int a2)]) (LL' := []) (st' := [.int a2, .ref 280]) (S' := (z_SH, M, L)) (fun nq hq => And.intro rfl (And.intro rfl hq)) ?_
    refine g_k 1 (pc' := 15) (LI' := [some (.ref 274), some (.ref 280), some (.int a2)]) (LL' := []) (st' := [.int (f_X9_hangs_280 M a2)]) (S' := (z_SH, M, L)) (fun nq hq => And.intro rfl (Exists.intro _ (Exists.intro _ (And.intro (c_X9_hangs_280 (d := d) M a2 (p2 hc1)) (And.intro (z_fit_same _ _ _ _ _ _ _ _) hq))))) ?_
    generalize hg1 : f_X9_hangs_280 M a2 = r1 at *
    refine g_k 1 (pc' := (if z_cmp .eq r1 ((0 : Int32)) = true then 22 else 18)) (LI' := [some (.ref 274), some (.ref 280), some (.int a2)]) (LL' := []) (st' := []) (S' := (z_SH, M, L)) (fun nq hq => And.intro rfl hq) ?_
    refine g_eq (fun hc2 => ?_) (fun hc2 => ?_)
    · refine g_k 1 (pc' := 23) (LI' := [some (.ref 274), some (.ref 280), some (.int a2)]) (LL' := []) (st' := [.int 1]) (S' := (z_SH, M, L)) (fun nq hq => And.intro rfl hq) ?_
      exact ⟨1, And.intro rfl (⟨(by subst hg1; unfold f_X9_votesOf_274_280; (first | rw [if_neg (not_not_intro hc1)] | skip); (first | rw [if_pos hc2] | skip); try rfl), rfl⟩)⟩
    · refine g_k 2 (pc' := 23) (LI' := [some (.ref 274), some (.ref 280), some (.int a2)]) (LL' := []) (st' := [.int 2]) (S' := (z_SH, M, L)) (fun nq hq => And.intro rfl (And.intro rfl hq)) ?_
      exact ⟨1, And.intro rfl (⟨(by subst hg1; unfold f_X9_votesOf_274_280; (first | rw [if_neg (not_not_intro hc1)] | skip); (first | rw [if_neg hc2] | skip); try rfl), rfl⟩)⟩
def e_X9_marginOf_274_280_5_c3 (M : Nat → Nat → Int32) (t : Int32) (i : Int32) (c3 : Int32) : Int32 := if ¬ (f_X9_goesOf_274_280 M i t) = (2 : Int32) then if ¬ (f_X9_goesOf_274_280 M i t) = (1 : Int32) then c3 + (-(f_X9_votesOf_274_280 M i)) else c3 + (f_X9_votesOf_274_280 M i) else c3 + ((0 : Int32))
def qi_X9_marginOf_274_280_5 (M : Nat → Nat → Int32) (t : Int32) (i : Int32) (c3 : Int32) : Prop := (q_X9_goesOf_274_280 M i t) ∧ ((¬ (f_X9_goesOf_274_280 M i t) = (2 : Int32)) → (¬ (f_X9_goesOf_274_280 M i t) = (1 : Int32)) → (q_X9_votesOf_274_280 M i)) ∧ ((¬ (f_X9_goesOf_274_280 M i t) = (2 : Int32)) → ((f_X9_goesOf_274_280 M i t) = (1 : Int32)) → (q_X9_votesOf_274_280 M i)) ∧ True
theorem it_X9_marginOf_274_280_5 {d : Nat} {L : Nat → Nat → Int64} {Q : Option Value → z_St → Prop} (M : Nat → Nat → Int32) (t : Int32) (i : Int32) (c3 : Int32) (hc : ¬ (M 274 4 ≤ i)) (p1 : qi_X9_marginOf_274_280_5 M t i c3) (h : ∀ (y5 : Option Value), z_G (d + 4) tb_X9_marginOf 5 [some (.ref 274), some (.ref 280), some (.int t), some (.int (e_X9_marginOf_274_280_5_c3 M t i c3)), some (.int (i + 1)), y5] [] [] (z_SH, M, L) Q) : ∀ (x5 : Option Value), z_G (d + 4) tb_X9_marginOf 5 [some (.ref 274), some (.ref 280), some (.int t), some (.int c3), some (.int i), x5] [] [] (z_SH, M, L) Q := by
  intro x5
  unfold qi_X9_marginOf_274_280_5 at p1
  obtain ⟨p1, p2, p3, -⟩ := p1
  refine g_k 4 (pc' := (if z_cmp .ge i (M 274 4) = true then 67 else 14)) (LI' := [some (.ref 274), some (.ref 280), some (.int t), some (.int c3), some (.int i), x5]) (LL' := []) (st' := []) (S' := (z_SH, M, L)) (fun nq hq => And.intro rfl (And.intro rfl (And.intro rfl (And.intro rfl hq)))) ?_
  refine g_ge (fun hc1 => ?_) (fun hc1 => ?_)
  · exact absurd hc1 hc
  · refine g_k 4 (pc' := 19) (LI' := [some (.ref 274), some (.ref 280), some (.int t), some (.int c3), some (.int i), x5]) (LL' := []) (st' := [.int t, .int i, .ref 280, .ref 274]) (S' := (z_SH, M, L)) (fun nq hq => And.intro rfl (And.intro rfl (And.intro rfl (And.intro rfl hq)))) ?_
    refine g_k 1 (pc' := 22) (LI' := [some (.ref 274), some (.ref 280), some (.int t), some (.int c3), some (.int i), x5]) (LL' := []) (st' := [.int (f_X9_goesOf_274_280 M i t)]) (S' := (z_SH, M, L)) (fun nq hq => And.intro rfl (Exists.intro _ (Exists.intro _ (And.intro (c_X9_goesOf_274_280 (d := d) M i t p1) (And.intro (z_fit_same _ _ _ _ _ _ _ _) hq))))) ?_
    generalize hg1 : f_X9_goesOf_274_280 M i t = r1 at *
    refine g_k 5 (pc' := (if z_cmp .ne r1 ((2 : Int32)) = true then 35 else 31)) (LI' := [some (.ref 274), some (.ref 280), some (.int t), some (.int c3), some (.int i), some (.int r1)]) (LL' := []) (st' := [.int c3]) (S' := (z_SH, M, L)) (fun nq hq => And.intro rfl (And.intro rfl (And.intro rfl (And.intro rfl (And.intro rfl hq))))) ?_
    refine g_ne (fun hc2 => ?_) (fun hc2 => ?_)
    · refine g_k 3 (pc' := (if z_cmp .ne r1 ((1 : Int32)) = true then 51 else 41)) (LI' := [some (.ref 274), some (.ref 280), some (.int t), some (.int c3), some (.int i), some (.int r1)]) (LL' := []) (st' := [.int c3]) (S' := (z_SH, M, L)) (fun nq hq => And.intro rfl (And.intro rfl (And.intro rfl hq))) ?_
      refine g_ne (fun hc3 => ?_) (fun hc3 => ?_)
      · refine g_k 3 (pc' := 55) (LI' := [some (.ref 274), some (.ref 280), some (.int t), some (.int c3), some (.int i), some (.int r1)]) (LL' := []) (st' := [.int i, .ref 280, .ref 274, .int c3]) (S' := (z_SH, M, L)) (fun nq hq => And.intro rfl (And.intro rfl (And.intro rfl hq))) ?_
        refine g_k 1 (pc' := 58) (LI' := [some (.ref 274), some (.ref 280), some (.int t), some (.int c3), some (.int i), some (.int r1)]) (LL' := []) (st' := [.int (f_X9_votesOf_274_280 M i), .int c3]) (S' := (z_SH, M, L)) (fun nq hq => And.intro rfl (Exists.intro _ (Exists.intro _ (And.intro (c_X9_votesOf_274_280 (d := d) M i (p2 hc2 hc3)) (And.intro (z_fit_same _ _ _ _ _ _ _ _) hq))))) ?_
        generalize hg2 : f_X9_votesOf_274_280 M i = r2 at *
        refine g_k 5 (pc' := 5) (LI' := [some (.ref 274), some (.ref 280), some (.int t), some (.int (c3 + (-r2))), some (.int (i + 1)), some (.int r1)]) (LL' := []) (st' := []) (S' := (z_SH, M, L)) (fun nq hq => And.intro rfl (And.intro rfl (And.intro rfl (And.intro rfl (And.intro rfl hq))))) ?_
        (subst hg2; subst hg1; unfold e_X9_marginOf_274_280_5_c3 at h; (try simp only [if_pos hc2] at h); (try simp only [if_pos hc3] at h); exact h (some (.int (f_X9_goesOf_274_280 M i t))))
      · refine g_k 3 (pc' := 45) (LI' := [some (.ref 274), some (.ref 280), some (.int t), some (.int c3), some (.int i), some (.int r1)]) (LL' := []) (st' := [.int i, .ref 280, .ref 274, .int c3]) (S' := (z_SH, M, L)) (fun nq hq => And.intro rfl (And.intro rfl (And.intro rfl hq))) ?_
        refine g_k 1 (pc' := 48) (LI' := [some (.ref 274), some (.ref 280), some (.int t), some (.int c3), some (.int i), some (.int r1)]) (LL' := []) (st' := [.int (f_X9_votesOf_274_280 M i), .int c3]) (S' := (z_SH, M, L)) (fun nq hq => And.intro rfl (Exists.intro _ (Exists.intro _ (And.intro (c_X9_votesOf_274_280 (d := d) M i (p3 hc2 hc3)) (And.intro (z_fit_same _ _ _ _ _ _ _ _) hq))))) ?_
        generalize hg3 : f_X9_votesOf_274_280 M i = r3 at *
        refine g_k 5 (pc' := 5) (LI' := [some (.ref 274), some (.ref 280), some (.int t), some (.int (c3 + r3)), some (.int (i + 1)), some (.int r1)]) (LL' := []) (st' := []) (S' := (z_SH, M, L)) (fun nq hq => And.intro rfl (And.intro rfl (And.intro rfl (And.intro rfl (And.intro rfl hq))))) ?_
        (subst hg3; subst hg1; unfold e_X9_marginOf_274_280_5_c3 at h; (try simp only [if_pos hc2] at h); (try simp only [if_neg (not_not_intro hc3)] at h); exact h (some (.int (f_X9_goesOf_274_280 M i t))))
    · refine g_k 6 (pc' := 5) (LI' := [some (.ref 274), some (.ref 280), some (.int t), some (.int (c3 + ((0 : Int32)))), some (.int (i + 1)), some (.int r1)]) (LL' := []) (st' := []) (S' := (z_SH, M, L)) (fun nq hq => And.intro rfl (And.intro rfl (And.intro rfl (And.intro rfl (And.intro rfl (And.intro rfl hq)))))) ?_
      (subst hg1; unfold e_X9_marginOf_274_280_5_c3 at h; (try simp only [if_neg (not_not_intro hc2)] at h); exact h (some (.int (f_X9_goesOf_274_280 M i t))))
def s_X9_marginOf_274_280_5 (M : Nat → Nat → Int32) (t : Int32) (c3 : Int32) (n : Nat) : Int32 := Nat.rec (motive := fun _ => Int32) (c3) (fun k r => (e_X9_marginOf_274_280_5_c3 M t (nI k) r)) n
theorem l_X9_marginOf_274_280_5 {d : Nat} {L : Nat → Nat → Int64} {Q : Option Value → z_St → Prop} (M : Nat → Nat → Int32) (t : Int32) (c3 : Int32) (n : Nat) : (∀ k, k < n → ¬ (M 274 4 ≤ (nI k))) → (∀ k, k < n → qi_X9_marginOf_274_280_5 M t (nI k) ((s_X9_marginOf_274_280_5 M t c3 k))) → (∀ (y5 : Option Value), z_G (d + 4) tb_X9_marginOf 5 [some (.ref 274), some (.ref 280), some (.int t), some (.int ((s_X9_marginOf_274_280_5 M t c3 n))), some (.int (nI n)), y5] [] [] (z_SH, M, L) Q) → ∀ (x5 : Option Value), z_G (d + 4) tb_X9_marginOf 5 [some (.ref 274), some (.ref 280), some (.int t), some (.int c3), some (.int (nI 0)), x5] [] [] (z_SH, M, L) Q := by
  induction n with
  | zero =>
    intro hc p1 h
    exact h
  | succ n ih =>
    intro hc p1 h
    refine ih (fun k hk => hc k (by omega)) (fun k hk => p1 k (by omega)) ?_
    have hcn := hc n (by omega)
    have p1n := p1 n (by omega)
    clear ih hc p1
    have hs : s_X9_marginOf_274_280_5 M t c3 (n + 1) = (e_X9_marginOf_274_280_5_c3 M t (nI n) ((s_X9_marginOf_274_280_5 M t c3 n))) := rfl
    rw [hs] at h
    clear hs
    generalize s_X9_marginOf_274_280_5 M t c3 n = sg at *
    refine it_X9_marginOf_274_280_5 M t (nI n) sg hcn p1n ?_
    rw [nI_1]
    exact h
def f_X9_marginOf_274_280 (M : Nat → Nat → Int32) (t : Int32) : Int32 := ((s_X9_marginOf_274_280_5 M t ((0 : Int32)) ((M 274 4).toNatClampNeg)))
def q_X9_marginOf_274_280 (M : Nat → Nat → Int32) (t : Int32) : Prop := (∀ k58, k58 < (M 274 4).toNatClampNeg → qi_X9_marginOf_274_280_5 M t (nI k58) ((s_X9_marginOf_274_280_5 M t ((0 : Int32)) k58))) ∧ True
theorem c_X9_marginOf_274_280 {d : Nat} {L : Nat → Nat → Int64} (M : Nat → Nat → Int32) (t : Int32)  (hpre : q_X9_marginOf_274_280 M t) : z_C (d + 5) 135 [.ref 274, .ref 280, .int t] (z_SH, M, L) (some (.int (f_X9_marginOf_274_280 M t))) (z_SH, M, L) := by
  unfold q_X9_marginOf_274_280 at hpre
  obtain ⟨p1, -⟩ := hpre
  refine z_mkA (tb := tb_X9_marginOf) rfl (by decide) rfl rfl rfl ?_
  refine g_k 4 (pc' := 5) (LI' := [some (.ref 274), some (.ref 280), some (.int t), some (.int 0), some (.int 0), none]) (LL' := []) (st' := []) (S' := (z_SH, M, L)) (fun nq hq => And.intro rfl (And.intro rfl (And.intro rfl (And.intro rfl hq)))) ?_
  refine l_X9_marginOf_274_280_5 (d := d) M t ((0 : Int32)) ((M 274 4).toNatClampNeg) (fun k hk => z_lpc hk) p1 (fun y1 => ?_) none
  have hx1 : M 274 4 ≤ nI ((M 274 4).toNatClampNeg) := z_lpe
  generalize hg1 : (s_X9_marginOf_274_280_5 M t ((0 : Int32)) ((M 274 4).toNatClampNeg)) = r1 at *
  generalize hg2 : nI ((M 274 4).toNatClampNeg) = r2 at *
  refine g_k 4 (pc' := (if z_cmp .ge r2 (M 274 4) = true then 67 else 14)) (LI' := [some (.ref 274), some (.ref 280), some (.int t), some (.int r1), some (.int r2), y1]) (LL' := []) (st' := []) (S' := (z_SH, M, L)) (fun nq hq => And.intro rfl (And.intro rfl (And.intro rfl (And.intro rfl hq)))) ?_
  refine g_ge (fun hc1 => ?_) (fun hc1 => absurd (hx1) hc1)
  refine g_k 1 (pc' := 68) (LI' := [some (.ref 274), some (.ref 280), some (.int t), some (.int r1), some (.int r2), y1]) (LL' := []) (st' := [.int r1]) (S' := (z_SH, M, L)) (fun nq hq => And.intro rfl hq) ?_
  exact ⟨1, And.intro rfl (⟨(by subst hg2; subst hg1; rfl), rfl⟩)⟩
