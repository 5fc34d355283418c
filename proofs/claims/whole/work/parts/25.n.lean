def f_X9_matter_w0 (M : Nat → Nat → Int32) (t : Int32) : Int32 := if ¬ (f_X9_isMatter M t) = (0 : Int32) then if (f_X9_marginOf_274_279 M t) ≤ (0 : Int32) then (0 : Int32) else (1 : Int32) else (-1000000002 : Int32)
def q_X9_matter_w0 (M : Nat → Nat → Int32) (t : Int32) : Prop := ((¬ (f_X9_isMatter M t) = (0 : Int32)) → (q_X9_marginOf_274_279 M t)) ∧ True
theorem c_X9_matter_w0 {d : Nat} {L : Nat → Nat → Int64} (M : Nat → Nat → Int32) (t : Int32)  (hpre : q_X9_matter_w0 M t) : z_C (d + 6) 165 [.ref 274, .int t, .int 0] (z_SH, M, L) (some (.int (f_X9_matter_w0 M t))) (z_SH, M, L) := by
  unfold q_X9_matter_w0 at hpre
  obtain ⟨p1, -⟩ := hpre
  refine z_mkA (tb := tb_X9_matter) rfl (by decide) rfl rfl rfl ?_
  refine g_k 1 (pc' := 1) (LI' := [some (.ref 274), some (.int t), some (.int 0)]) (LL' := []) (st' := [.int t]) (S' := (z_SH, M, L)) (fun nq hq => And.intro rfl hq) ?_
  refine g_k 1 (pc' := 4) (LI' := [some (.ref 274), some (.int t), some (.int 0)]) (LL' := []) (st' := [.int (f_X9_isMatter M t)]) (S' := (z_SH, M, L)) (fun nq hq => And.intro rfl (Exists.intro _ (Exists.intro _ (And.intro (c_X9_isMatter (d := d + 3) M t) (And.intro (z_fit_same _ _ _ _ _ _ _ _) hq))))) ?_
  generalize hg1 : f_X9_isMatter M t = r1 at *
  refine g_k 1 (pc' := (if z_cmp .ne r1 ((0 : Int32)) = true then 10 else 7)) (LI' := [some (.ref 274), some (.int t), some (.int 0)]) (LL' := []) (st' := []) (S' := (z_SH, M, L)) (fun nq hq => And.intro rfl hq) ?_
  refine g_ne (fun hc1 => ?_) (fun hc1 => ?_)
  · refine g_k 6 (pc' := 50) (LI' := [some (.ref 274), some (.int t), some (.int 0)]) (LL' := []) (st' := [.int t, .ref 279, .ref 274]) (S' := (z_SH, M, L)) (fun nq hq => And.intro rfl (And.intro rfl (And.intro rfl (And.intro rfl (And.intro rfl (And.intro rfl hq)))))) ?_
    refine g_k 1 (pc' := 53) (LI' := [some (.ref 274), some (.int t), some (.int 0)]) (LL' := []) (st' := [.int (f_X9_marginOf_274_279 M t)]) (S' := (z_SH, M, L)) (fun nq hq => And.intro rfl (Exists.intro _ (Exists.intro _ (And.intro (c_X9_marginOf_274_279 (d := d) M t (p1 hc1)) (And.intro (z_fit_same _ _ _ _ _ _ _ _) hq))))) ?_
    generalize hg2 : f_X9_marginOf_274_279 M t = r2 at *
    refine g_k 1 (pc' := (if z_cmp .le r2 ((0 : Int32)) = true then 60 else 56)) (LI' := [some (.ref 274), some (.int t), some (.int 0)]) (LL' := []) (st' := []) (S' := (z_SH, M, L)) (fun nq hq => And.intro rfl hq) ?_
    refine g_le (fun hc2 => ?_) (fun hc2 => ?_)
    · refine g_k 1 (pc' := 61) (LI' := [some (.ref 274), some (.int t), some (.int 0)]) (LL' := []) (st' := [.int 0]) (S' := (z_SH, M, L)) (fun nq hq => And.intro rfl hq) ?_
      exact ⟨1, And.intro rfl (⟨(by subst hg2; subst hg1; unfold f_X9_matter_w0; (first | rw [if_pos hc1] | skip); (first | rw [if_pos hc2] | skip); try rfl), rfl⟩)⟩
    · refine g_k 2 (pc' := 61) (LI' := [some (.ref 274), some (.int t), some (.int 0)]) (LL' := []) (st' := [.int 1]) (S' := (z_SH, M, L)) (fun nq hq => And.intro rfl (And.intro rfl hq)) ?_
      exact ⟨1, And.intro rfl (⟨(by subst hg2; subst hg1; unfold f_X9_matter_w0; (first | rw [if_pos hc1] | skip); (first | rw [if_neg hc2] | skip); try rfl), rfl⟩)⟩
  · refine g_k 1 (pc' := 9) (LI' := [some (.ref 274), some (.int t), some (.int 0)]) (LL' := []) (st' := [.int (-1000000002)]) (S' := (z_SH, M, L)) (fun nq hq => And.intro rfl hq) ?_
    exact ⟨1, And.intro rfl (⟨(by subst hg1; unfold f_X9_matter_w0; (first | rw [if_neg (not_not_intro hc1)] | skip); try rfl), rfl⟩)⟩
def f_X9_matter_w1 (M : Nat → Nat → Int32) (t : Int32) : Int32 := if ¬ (f_X9_isMatter M t) = (0 : Int32) then (f_X9_marginOf_274_279 M t) + ((1000 : Int32)) else (-1000000002 : Int32)
def q_X9_matter_w1 (M : Nat → Nat → Int32) (t : Int32) : Prop := ((¬ (f_X9_isMatter M t) = (0 : Int32)) → (q_X9_marginOf_274_279 M t)) ∧ True
theorem c_X9_matter_w1 {d : Nat} {L : Nat → Nat → Int64} (M : Nat → Nat → Int32) (t : Int32)  (hpre : q_X9_matter_w1 M t) : z_C (d + 6) 165 [.ref 274, .int t, .int 1] (z_SH, M, L) (some (.int (f_X9_matter_w1 M t))) (z_SH, M, L) := by
  unfold q_X9_matter_w1 at hpre
  obtain ⟨p1, -⟩ := hpre
  refine z_mkA (tb := tb_X9_matter) rfl (by decide) rfl rfl rfl ?_
  refine g_k 1 (pc' := 1) (LI' := [some (.ref 274), some (.int t), some (.int 1)]) (LL' := []) (st' := [.int t]) (S' := (z_SH, M, L)) (fun nq hq => And.intro rfl hq) ?_
  refine g_k 1 (pc' := 4) (LI' := [some (.ref 274), some (.int t), some (.int 1)]) (LL' := []) (st' := [.int (f_X9_isMatter M t)]) (S' := (z_SH, M, L)) (fun nq hq => And.intro rfl (Exists.intro _ (Exists.intro _ (And.intro (c_X9_isMatter (d := d + 3) M t) (And.intro (z_fit_same _ _ _ _ _ _ _ _) hq))))) ?_
  generalize hg1 : f_X9_isMatter M t = r1 at *
  refine g_k 1 (pc' := (if z_cmp .ne r1 ((0 : Int32)) = true then 10 else 7)) (LI' := [some (.ref 274), some (.int t), some (.int 1)]) (LL' := []) (st' := []) (S' := (z_SH, M, L)) (fun nq hq => And.intro rfl hq) ?_
  refine g_ne (fun hc1 => ?_) (fun hc1 => ?_)
  · refine g_k 6 (pc' := 68) (LI' := [some (.ref 274), some (.int t), some (.int 1)]) (LL' := []) (st' := [.int t, .ref 279, .ref 274]) (S' := (z_SH, M, L)) (fun nq hq => And.intro rfl (And.intro rfl (And.intro rfl (And.intro rfl (And.intro rfl (And.intro rfl hq)))))) ?_
    refine g_k 1 (pc' := 71) (LI' := [some (.ref 274), some (.int t), some (.int 1)]) (LL' := []) (st' := [.int (f_X9_marginOf_274_279 M t)]) (S' := (z_SH, M, L)) (fun nq hq => And.intro rfl (Exists.intro _ (Exists.intro _ (And.intro (c_X9_marginOf_274_279 (d := d) M t (p1 hc1)) (And.intro (z_fit_same _ _ _ _ _ _ _ _) hq))))) ?_
    generalize hg2 : f_X9_marginOf_274_279 M t = r2 at *
    refine g_k 2 (pc' := 75) (LI' := [some (.ref 274), some (.int t), some (.int 1)]) (LL' := []) (st' := [.int (r2 + ((1000 : Int32)))]) (S' := (z_SH, M, L)) (fun nq hq => And.intro rfl (And.intro rfl hq)) ?_
    exact ⟨1, And.intro rfl (⟨(by subst hg2; subst hg1; unfold f_X9_matter_w1; (first | rw [if_pos hc1] | skip); try rfl), rfl⟩)⟩
  · refine g_k 1 (pc' := 9) (LI' := [some (.ref 274), some (.int t), some (.int 1)]) (LL' := []) (st' := [.int (-1000000002)]) (S' := (z_SH, M, L)) (fun nq hq => And.intro rfl hq) ?_
    exact ⟨1, And.intro rfl (⟨(by subst hg1; unfold f_X9_matter_w1; (first | rw [if_neg (not_not_intro hc1)] | skip); try rfl), rfl⟩)⟩
def e_X9_creaksOf_274_4_c2 (M : Nat → Nat → Int32) (a1 : Int32) (i : Int32) (c2 : Int32) : Int32 := if (f_X9_strainBy_274_279 M i a1) ≤ (0 : Int32) then c2 ||| ((0 : Int32)) else c2 ||| (((1 : Int32)) <<< (i &&& 31))
def qi_X9_creaksOf_274_4 (M : Nat → Nat → Int32) (a1 : Int32) (i : Int32) (c2 : Int32) : Prop := (q_X9_strainBy_274_279 M i a1) ∧ True
theorem it_X9_creaksOf_274_4 {d : Nat} {L : Nat → Nat → Int64} {Q : Option Value → z_St → Prop} (M : Nat → Nat → Int32) (a1 : Int32) (i : Int32) (c2 : Int32) (hc : ¬ (M 279 10 ≤ i)) (p1 : qi_X9_creaksOf_274_4 M a1 i c2) (h : z_G (d + 6) tb_X9_creaksOf 4 [some (.ref 274), some (.int a1), some (.int (e_X9_creaksOf_274_4_c2 M a1 i c2)), some (.int (i + 1))] [] [] (z_SH, M, L) Q) : z_G (d + 6) tb_X9_creaksOf 4 [some (.ref 274), some (.int a1), some (.int c2), some (.int i)] [] [] (z_SH, M, L) Q := by
  unfold qi_X9_creaksOf_274_4 at p1
  obtain ⟨p1, -⟩ := p1
  refine g_k 6 (pc' := (if z_cmp .ge i (M 279 10) = true then 44 else 15)) (LI' := [some (.ref 274), some (.int a1), some (.int c2), some (.int i)]) (LL' := []) (st' := []) (S' := (z_SH, M, L)) (fun nq hq => And.intro rfl (And.intro rfl (And.intro rfl (And.intro rfl (And.intro rfl (And.intro rfl hq)))))) ?_
  refine g_ge (fun hc1 => ?_) (fun hc1 => ?_)
  · exact absurd hc1 hc
  · refine g_k 6 (pc' := 23) (LI' := [some (.ref 274), some (.int a1), some (.int c2), some (.int i)]) (LL' := []) (st' := [.int a1, .int i, .ref 279, .ref 274, .int c2]) (S' := (z_SH, M, L)) (fun nq hq => And.intro rfl (And.intro rfl (And.intro rfl (And.intro rfl (And.intro rfl (And.intro rfl hq)))))) ?_
    refine g_k 1 (pc' := 26) (LI' := [some (.ref 274), some (.int a1), some (.int c2), some (.int i)]) (LL' := []) (st' := [.int (f_X9_strainBy_274_279 M i a1), .int c2]) (S' := (z_SH, M, L)) (fun nq hq => And.intro rfl (Exists.intro _ (Exists.intro _ (And.intro (c_X9_strainBy_274_279 (d := d) M i a1 p1) (And.intro (z_fit_same _ _ _ _ _ _ _ _) hq))))) ?_
    generalize hg1 : f_X9_strainBy_274_279 M i a1 = r1 at *
    refine g_k 1 (pc' := (if z_cmp .le r1 ((0 : Int32)) = true then 35 else 29)) (LI' := [some (.ref 274), some (.int a1), some (.int c2), some (.int i)]) (LL' := []) (st' := [.int c2]) (S' := (z_SH, M, L)) (fun nq hq => And.intro rfl hq) ?_
    refine g_le (fun hc2 => ?_) (fun hc2 => ?_)
    · refine g_k 5 (pc' := 4) (LI' := [some (.ref 274), some (.int a1), some (.int (c2 ||| ((0 : Int32)))), some (.int (i + 1))]) (LL' := []) (st' := []) (S' := (z_SH, M, L)) (fun nq hq => And.intro rfl (And.intro rfl (And.intro rfl (And.intro rfl (And.intro rfl hq))))) ?_
      (subst hg1; unfold e_X9_creaksOf_274_4_c2 at h; (try simp only [if_pos hc2] at h); exact h )
    · refine g_k 8 (pc' := 4) (LI' := [some (.ref 274), some (.int a1), some (.int (c2 ||| (((1 : Int32)) <<< (i &&& 31)))), some (.int (i + 1))]) (LL' := []) (st' := []) (S' := (z_SH, M, L)) (fun nq hq => And.intro rfl (And.intro rfl (And.intro rfl (And.intro rfl (And.intro rfl (And.intro rfl (And.intro rfl (And.intro rfl hq)))))))) ?_
      (subst hg1; unfold e_X9_creaksOf_274_4_c2 at h; (try simp only [if_neg hc2] at h); exact h )
def s_X9_creaksOf_274_4 (M : Nat → Nat → Int32) (a1 : Int32) (c2 : Int32) (n : Nat) : Int32 := Nat.rec (motive := fun _ => Int32) (c2) (fun k r => (e_X9_creaksOf_274_4_c2 M a1 (nI k) r)) n
theorem l_X9_creaksOf_274_4 {d : Nat} {L : Nat → Nat → Int64} {Q : Option Value → z_St → Prop} (M : Nat → Nat → Int32) (a1 : Int32) (c2 : Int32) (n : Nat) : (∀ k, k < n → ¬ (M 279 10 ≤ (nI k))) → (∀ k, k < n → qi_X9_creaksOf_274_4 M a1 (nI k) ((s_X9_creaksOf_274_4 M a1 c2 k))) → (z_G (d + 6) tb_X9_creaksOf 4 [some (.ref 274), some (.int a1), some (.int ((s_X9_creaksOf_274_4 M a1 c2 n))), some (.int (nI n))] [] [] (z_SH, M, L) Q) → z_G (d + 6) tb_X9_creaksOf 4 [some (.ref 274), some (.int a1), some (.int c2), some (.int (nI 0))] [] [] (z_SH, M, L) Q := by
  induction n with
  | zero =>
    intro hc p1 h
    exact h
  | succ n ih =>
    intro hc p1 h
    refine ih (fun k hk => hc k (by omega)) (fun k hk => p1 k (by omega)) ?_
    have hcn := hc n (by omega)
    have p1n := p1 n (by omega)
    clear ih hc p1
    have hs : s_X9_creaksOf_274_4 M a1 c2 (n + 1) = (e_X9_creaksOf_274_4_c2 M a1 (nI n) ((s_X9_creaksOf_274_4 M a1 c2 n))) := rfl
    rw [hs] at h
    clear hs
    generalize s_X9_creaksOf_274_4 M a1 c2 n = sg at *
    refine it_X9_creaksOf_274_4 M a1 (nI n) sg hcn p1n ?_
    rw [nI_1]
    exact h
def f_X9_creaksOf_274 (M : Nat → Nat → Int32) (a1 : Int32) : Int32 := ((s_X9_creaksOf_274_4 M a1 ((0 : Int32)) ((M 279 10).toNatClampNeg)))
def q_X9_creaksOf_274 (M : Nat → Nat → Int32) (a1 : Int32) : Prop := (∀ k77, k77 < (M 279 10).toNatClampNeg → qi_X9_creaksOf_274_4 M a1 (nI k77) ((s_X9_creaksOf_274_4 M a1 ((0 : Int32)) k77))) ∧ True
theorem c_X9_creaksOf_274 {d : Nat} {L : Nat → Nat → Int64} (M : Nat → Nat → Int32) (a1 : Int32)  (hpre : q_X9_creaksOf_274 M a1) : z_C (d + 7) 162 [.ref 274, .int a1] (z_SH, M, L) (some (.int (f_X9_creaksOf_274 M a1))) (z_SH, M, L) := by
  unfold q_X9_creaksOf_274 at hpre
  obtain ⟨p1, -⟩ := hpre
  refine z_mkA (tb := tb_X9_creaksOf) rfl (by decide) rfl rfl rfl ?_
  refine g_k 4 (pc' := 4) (LI' := [some (.ref 274), some (.int a1), some (.int 0), some (.int 0)]) (LL' := []) (st' := []) (S' := (z_SH, M, L)) (fun nq hq => And.intro rfl (And.intro rfl (And.intro rfl (And.intro rfl hq)))) ?_
  refine l_X9_creaksOf_274_4 (d := d) M a1 ((0 : Int32)) ((M 279 10).toNatClampNeg) (fun k hk => z_lpc hk) p1 ?_ 
  have hx1 : M 279 10 ≤ nI ((M 279 10).toNatClampNeg) := z_lpe
  generalize hg1 : (s_X9_creaksOf_274_4 M a1 ((0 : Int32)) ((M 279 10).toNatClampNeg)) = r1 at *
  generalize hg2 : nI ((M 279 10).toNatClampNeg) = r2 at *
  refine g_k 6 (pc' := (if z_cmp .ge r2 (M 279 10) = true then 44 else 15)) (LI' := [some (.ref 274), some (.int a1), some (.int r1), some (.int r2)]) (LL' := []) (st' := []) (S' := (z_SH, M, L)) (fun nq hq => And.intro rfl (And.intro rfl (And.intro rfl (And.intro rfl (And.intro rfl (And.intro rfl hq)))))) ?_
  refine g_ge (fun hc1 => ?_) (fun hc1 => absurd (hx1) hc1)
  refine g_k 1 (pc' := 45) (LI' := [some (.ref 274), some (.int a1), some (.int r1), some (.int r2)]) (LL' := []) (st' := [.int r1]) (S' := (z_SH, M, L)) (fun nq hq => And.intro rfl hq) ?_
  exact ⟨1, And.intro rfl (⟨(by subst hg2; subst hg1; rfl), rfl⟩)⟩
def f_X9_matter_w2 (M : Nat → Nat → Int32) (t : Int32) : Int32 := if ¬ (f_X9_isMatter M t) = (0 : Int32) then (f_X9_creaksOf_274 M t) else (-1000000002 : Int32)
def q_X9_matter_w2 (M : Nat → Nat → Int32) (t : Int32) : Prop := ((¬ (f_X9_isMatter M t) = (0 : Int32)) → (q_X9_creaksOf_274 M t)) ∧ True
theorem c_X9_matter_w2 {d : Nat} {L : Nat → Nat → Int64} (M : Nat → Nat → Int32) (t : Int32)  (hpre : q_X9_matter_w2 M t) : z_C (d + 8) 165 [.ref 274, .int t, .int 2] (z_SH, M, L) (some (.int (f_X9_matter_w2 M t))) (z_SH, M, L) := by
  unfold q_X9_matter_w2 at hpre
  obtain ⟨p1, -⟩ := hpre
  refine z_mkA (tb := tb_X9_matter) rfl (by decide) rfl rfl rfl ?_
  refine g_k 1 (pc' := 1) (LI' := [some (.ref 274), some (.int t), some (.int 2)]) (LL' := []) (st' := [.int t]) (S' := (z_SH, M, L)) (fun nq hq => And.intro rfl hq) ?_
  refine g_k 1 (pc' := 4) (LI' := [some (.ref 274), some (.int t), some (.int 2)]) (LL' := []) (st' := [.int (f_X9_isMatter M t)]) (S' := (z_SH, M, L)) (fun nq hq => And.intro rfl (Exists.intro _ (Exists.intro _ (And.intro (c_X9_isMatter (d := d + 5) M t) (And.intro (z_fit_same _ _ _ _ _ _ _ _) hq))))) ?_
  generalize hg1 : f_X9_isMatter M t = r1 at *
  refine g_k 1 (pc' := (if z_cmp .ne r1 ((0 : Int32)) = true then 10 else 7)) (LI' := [some (.ref 274), some (.int t), some (.int 2)]) (LL' := []) (st' := []) (S' := (z_SH, M, L)) (fun nq hq => And.intro rfl hq) ?_
  refine g_ne (fun hc1 => ?_) (fun hc1 => ?_)
  · refine g_k 4 (pc' := 78) (LI' := [some (.ref 274), some (.int t), some (.int 2)]) (LL' := []) (st' := [.int t, .ref 274]) (S' := (z_SH, M, L)) (fun nq hq => And.intro rfl (And.intro rfl (And.intro rfl (And.intro rfl hq)))) ?_
    refine g_k 1 (pc' := 81) (LI' := [some (.ref 274), some (.int t), some (.int 2)]) (LL' := []) (st' := [.int (f_X9_creaksOf_274 M t)]) (S' := (z_SH, M, L)) (fun nq hq => And.intro rfl (Exists.intro _ (Exists.intro _ (And.intro (c_X9_creaksOf_274 (d := d) M t (p1 hc1)) (And.intro (z_fit_same _ _ _ _ _ _ _ _) hq))))) ?_
    generalize hg2 : f_X9_creaksOf_274 M t = r2 at *
    exact ⟨1, And.intro rfl (⟨(by subst hg2; subst hg1; unfold f_X9_matter_w2; (first | rw [if_pos hc1] | skip); try rfl), rfl⟩)⟩
  · refine g_k 1 (pc' := 9) (LI' := [some (.ref 274), some (.int t), some (.int 2)]) (LL' := []) (st' := [.int (-1000000002)]) (S' := (z_SH, M, L)) (fun nq hq => And.intro rfl hq) ?_
    exact ⟨1, And.intro rfl (⟨(by subst hg1; unfold f_X9_matter_w2; (first | rw [if_neg (not_not_intro hc1)] | skip); try rfl), rfl⟩)⟩
