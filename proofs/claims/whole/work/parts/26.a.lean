def z_fst (p : Nat → Bool) (B : Nat) : Nat := (List.range B).findIdx (fun k => !p k)
theorem z_fst_t {p : Nat → Bool} {B k : Nat} (h : k < z_fst p B) : p k = true := by
  have h1 := List.not_of_lt_findIdx h
  have h2 : z_fst p B ≤ B := by
    have := List.findIdx_le_length (xs := List.range B) (p := fun k => !p k)
    rwa [List.length_range] at this
  rw [List.getElem_range] at h1
  simpa using h1
theorem z_fst_f {p : Nat → Bool} {B : Nat} (hB : p B = false) : p (z_fst p B) = false := by
  by_cases h : z_fst p B < B
  · have h1 : (List.range B).findIdx (fun k => !p k) < (List.range B).length := by rw [List.length_range]; exact h
    have h2 := List.findIdx_getElem (w := h1)
    rw [List.getElem_range] at h2
    unfold z_fst
    simpa using h2
  · have h2 : z_fst p B ≤ B := by
      have := List.findIdx_le_length (xs := List.range B) (p := fun k => !p k)
      rwa [List.length_range] at this
    rw [show z_fst p B = B by omega]
    exact hB
def t_X7_matterAt_4 (M : Nat → Nat → Int32) (a : Int32) (b : Int32) (c2 : Int32) (c3 : Int32) : Bool := if (8 : Int32) ≤ c3 then false else if (f_X8_isIn M a c3) = (0 : Int32) then true else if ¬ c2 = b then true else false
def e_X7_matterAt_4_c2 (M : Nat → Nat → Int32) (a : Int32) (b : Int32) (c2 : Int32) (c3 : Int32) : Int32 := if (f_X8_isIn M a c3) = (0 : Int32) then c2 else c2 + 1
def e_X7_matterAt_4_c3 (M : Nat → Nat → Int32) (a : Int32) (b : Int32) (c2 : Int32) (c3 : Int32) : Int32 := c3 + 1
theorem it_X7_matterAt_4 {d : Nat} {L : Nat → Nat → Int64} {Q : Option Value → z_St → Prop} (M : Nat → Nat → Int32) (a : Int32) (b : Int32) (c2 : Int32) (c3 : Int32) (ht : t_X7_matterAt_4 M a b c2 c3 = true)  (h : z_G (d + 1) tb_X7_matterAt 4 [some (.int a), some (.int b), some (.int (e_X7_matterAt_4_c2 M a b c2 c3)), some (.int (e_X7_matterAt_4_c3 M a b c2 c3))] [] [] (z_SH, M, L) Q) : z_G (d + 1) tb_X7_matterAt 4 [some (.int a), some (.int b), some (.int c2), some (.int c3)] [] [] (z_SH, M, L) Q := by
  refine g_k 3 (pc' := (if z_cmp .ge c3 ((8 : Int32)) = true then 34 else 10)) (LI' := [some (.int a), some (.int b), some (.int c2), some (.int c3)]) (LL' := []) (st' := []) (S' := (z_SH, M, L)) (fun nq hq => And.intro rfl (And.intro rfl (And.intro rfl hq))) ?_
  refine g_ge (fun hc1 => ?_) (fun hc1 => ?_)
  · (exfalso; unfold t_X7_matterAt_4 at ht; (try simp only [if_pos hc1] at ht); exact Bool.noConfusion ht)
  · refine g_k 2 (pc' := 12) (LI' := [some (.int a), some (.int b), some (.int c2), some (.int c3)]) (LL' := []) (st' := [.int c3, .int a]) (S' := (z_SH, M, L)) (fun nq hq => And.intro rfl (And.intro rfl hq)) ?_
    refine g_k 1 (pc' := 15) (LI' := [some (.int a), some (.int b), some (.int c2), some (.int c3)]) (LL' := []) (st' := [.int (f_X8_isIn M a c3)]) (S' := (z_SH, M, L)) (fun nq hq => And.intro rfl (Exists.intro _ (Exists.intro _ (And.intro (c_X8_isIn (d := d) M a c3) (And.intro (z_fit_same _ _ _ _ _ _ _ _) hq))))) ?_
    generalize hg1 : f_X8_isIn M a c3 = r1 at *
    refine g_k 1 (pc' := (if z_cmp .eq r1 ((0 : Int32)) = true then 28 else 18)) (LI' := [some (.int a), some (.int b), some (.int c2), some (.int c3)]) (LL' := []) (st' := []) (S' := (z_SH, M, L)) (fun nq hq => And.intro rfl hq) ?_
    refine g_eq (fun hc2 => ?_) (fun hc2 => ?_)
    · refine g_k 2 (pc' := 4) (LI' := [some (.int a), some (.int b), some (.int c2), some (.int (c3 + 1))]) (LL' := []) (st' := []) (S' := (z_SH, M, L)) (fun nq hq => And.intro rfl (And.intro rfl hq)) ?_
      (clear ht; subst hg1; unfold e_X7_matterAt_4_c2 e_X7_matterAt_4_c3 at h; (try simp only [if_neg hc1] at h); (try simp only [if_pos hc2] at h); exact h )
    · refine g_k 3 (pc' := (if z_cmp .ne c2 b = true then 25 else 23)) (LI' := [some (.int a), some (.int b), some (.int c2), some (.int c3)]) (LL' := []) (st' := []) (S' := (z_SH, M, L)) (fun nq hq => And.intro rfl (And.intro rfl (And.intro rfl hq))) ?_
      refine g_ne (fun hc3 => ?_) (fun hc3 => ?_)
      · refine g_k 3 (pc' := 4) (LI' := [some (.int a), some (.int b), some (.int (c2 + 1)), some (.int (c3 + 1))]) (LL' := []) (st' := []) (S' := (z_SH, M, L)) (fun nq hq => And.intro rfl (And.intro rfl (And.intro rfl hq))) ?_
        (clear ht; subst hg1; unfold e_X7_matterAt_4_c2 e_X7_matterAt_4_c3 at h; (try simp only [if_neg hc1] at h); (try simp only [if_neg hc2] at h); (try simp only [if_pos hc3] at h); exact h )
      · (exfalso; subst hg1; unfold t_X7_matterAt_4 at ht; (try simp only [if_neg hc1] at ht); (try simp only [if_neg hc2] at ht); (try simp only [if_neg (not_not_intro hc3)] at ht); exact Bool.noConfusion ht)
def s_X7_matterAt_4 (M : Nat → Nat → Int32) (a : Int32) (b : Int32) (c2 : Int32) (c3 : Int32) (n : Nat) : Int32 × Int32 := Nat.rec (motive := fun _ => Int32 × Int32) (c2, c3) (fun _ r => (e_X7_matterAt_4_c2 M a b r.1 r.2, e_X7_matterAt_4_c3 M a b r.1 r.2)) n
def n_X7_matterAt_4 (M : Nat → Nat → Int32) (a : Int32) (b : Int32) (c2 : Int32) (c3 : Int32) : Nat := z_fst (fun k => t_X7_matterAt_4 M a b ((s_X7_matterAt_4 M a b c2 c3 k).1) ((s_X7_matterAt_4 M a b c2 c3 k).2)) 8
theorem n_X7_matterAt_4_t (M : Nat → Nat → Int32) (a : Int32) (b : Int32) (c2 : Int32) (c3 : Int32) : ∀ k, k < n_X7_matterAt_4 M a b c2 c3 → t_X7_matterAt_4 M a b ((s_X7_matterAt_4 M a b c2 c3 k).1) ((s_X7_matterAt_4 M a b c2 c3 k).2) = true := fun k hk => z_fst_t (p := (fun k => t_X7_matterAt_4 M a b ((s_X7_matterAt_4 M a b c2 c3 k).1) ((s_X7_matterAt_4 M a b c2 c3 k).2))) (B := 8) hk
theorem n_X7_matterAt_4_f (M : Nat → Nat → Int32) (a : Int32) (b : Int32) (c2 : Int32) (c3 : Int32) (h : t_X7_matterAt_4 M a b ((s_X7_matterAt_4 M a b c2 c3 8).1) ((s_X7_matterAt_4 M a b c2 c3 8).2) = false) : t_X7_matterAt_4 M a b ((s_X7_matterAt_4 M a b c2 c3 ((n_X7_matterAt_4 M a b c2 c3))).1) ((s_X7_matterAt_4 M a b c2 c3 ((n_X7_matterAt_4 M a b c2 c3))).2) = false := by
  have h2 := z_fst_f (p := (fun k => t_X7_matterAt_4 M a b ((s_X7_matterAt_4 M a b c2 c3 k).1) ((s_X7_matterAt_4 M a b c2 c3 k).2))) (B := 8) h
  unfold n_X7_matterAt_4
  exact h2
theorem l_X7_matterAt_4 {d : Nat} {L : Nat → Nat → Int64} {Q : Option Value → z_St → Prop} (M : Nat → Nat → Int32) (a : Int32) (b : Int32) (c2 : Int32) (c3 : Int32) (n : Nat) : (∀ k, k < n → t_X7_matterAt_4 M a b ((s_X7_matterAt_4 M a b c2 c3 k).1) ((s_X7_matterAt_4 M a b c2 c3 k).2) = true) → (z_G (d + 1) tb_X7_matterAt 4 [some (.int a), some (.int b), some (.int ((s_X7_matterAt_4 M a b c2 c3 n).1)), some (.int ((s_X7_matterAt_4 M a b c2 c3 n).2))] [] [] (z_SH, M, L) Q) → z_G (d + 1) tb_X7_matterAt 4 [some (.int a), some (.int b), some (.int c2), some (.int c3)] [] [] (z_SH, M, L) Q := by
  induction n with
  | zero =>
    intro hc  h
    exact h
  | succ n ih =>
    intro hc  h
    refine ih (fun k hk => hc k (by omega))  ?_
    have hcn := hc n (by omega)
    clear ih hc 
    have hs : s_X7_matterAt_4 M a b c2 c3 (n + 1) = (e_X7_matterAt_4_c2 M a b ((s_X7_matterAt_4 M a b c2 c3 n).1) ((s_X7_matterAt_4 M a b c2 c3 n).2), e_X7_matterAt_4_c3 M a b ((s_X7_matterAt_4 M a b c2 c3 n).1) ((s_X7_matterAt_4 M a b c2 c3 n).2)) := rfl
    rw [hs] at h
    clear hs
    try dsimp only at h
    generalize s_X7_matterAt_4 M a b c2 c3 n = sg at *
    refine it_X7_matterAt_4 M a b sg.1 sg.2 hcn  ?_
    exact h
def f_X7_matterAt (M : Nat → Nat → Int32) (a : Int32) (b : Int32) : Int32 := if (8 : Int32) ≤ ((s_X7_matterAt_4 M a b ((0 : Int32)) ((0 : Int32)) (n_X7_matterAt_4 M a b ((0 : Int32)) ((0 : Int32)))).2) then (0 : Int32) else ((s_X7_matterAt_4 M a b ((0 : Int32)) ((0 : Int32)) (n_X7_matterAt_4 M a b ((0 : Int32)) ((0 : Int32)))).2)
def q_X7_matterAt (M : Nat → Nat → Int32) (a : Int32) (b : Int32) : Prop := (t_X7_matterAt_4 M a b ((s_X7_matterAt_4 M a b ((0 : Int32)) ((0 : Int32)) 8).1) ((s_X7_matterAt_4 M a b ((0 : Int32)) ((0 : Int32)) 8).2) = false) ∧ True
theorem c_X7_matterAt {d : Nat} {L : Nat → Nat → Int64} (M : Nat → Nat → Int32) (a : Int32) (b : Int32)  (hpre : q_X7_matterAt M a b) : z_C (d + 2) 71 [.int a, .int b] (z_SH, M, L) (some (.int (f_X7_matterAt M a b))) (z_SH, M, L) := by
  unfold q_X7_matterAt at hpre
  obtain ⟨p1, -⟩ := hpre
  refine z_mkA (tb := tb_X7_matterAt) rfl (by decide) rfl rfl rfl ?_
  refine g_k 4 (pc' := 4) (LI' := [some (.int a), some (.int b), some (.int 0), some (.int 0)]) (LL' := []) (st' := []) (S' := (z_SH, M, L)) (fun nq hq => And.intro rfl (And.intro rfl (And.intro rfl (And.intro rfl hq)))) ?_
  refine l_X7_matterAt_4 (d := d) M a b ((0 : Int32)) ((0 : Int32)) (n_X7_matterAt_4 M a b ((0 : Int32)) ((0 : Int32))) (n_X7_matterAt_4_t M a b ((0 : Int32)) ((0 : Int32)))  ?_ 
  have hx1 : t_X7_matterAt_4 M a b ((s_X7_matterAt_4 M a b ((0 : Int32)) ((0 : Int32)) ((n_X7_matterAt_4 M a b ((0 : Int32)) ((0 : Int32))))).1) ((s_X7_matterAt_4 M a b ((0 : Int32)) ((0 : Int32)) ((n_X7_matterAt_4 M a b ((0 : Int32)) ((0 : Int32))))).2) = false := n_X7_matterAt_4_f M a b ((0 : Int32)) ((0 : Int32)) p1
  generalize hg1 : (s_X7_matterAt_4 M a b ((0 : Int32)) ((0 : Int32)) (n_X7_matterAt_4 M a b ((0 : Int32)) ((0 : Int32)))).1 = r1 at *
  generalize hg2 : (s_X7_matterAt_4 M a b ((0 : Int32)) ((0 : Int32)) (n_X7_matterAt_4 M a b ((0 : Int32)) ((0 : Int32)))).2 = r2 at *
  refine g_k 3 (pc' := (if z_cmp .ge r2 ((8 : Int32)) = true then 34 else 10)) (LI' := [some (.int a), some (.int b), some (.int r1), some (.int r2)]) (LL' := []) (st' := []) (S' := (z_SH, M, L)) (fun nq hq => And.intro rfl (And.intro rfl (And.intro rfl hq))) ?_
  refine g_ge (fun hc1 => ?_) (fun hc1 => ?_)
  · refine g_k 1 (pc' := 35) (LI' := [some (.int a), some (.int b), some (.int r1), some (.int r2)]) (LL' := []) (st' := [.int 0]) (S' := (z_SH, M, L)) (fun nq hq => And.intro rfl hq) ?_
    exact ⟨1, And.intro rfl (⟨(by subst hg2; subst hg1; unfold f_X7_matterAt; (first | rw [if_pos hc1] | skip); try rfl), rfl⟩)⟩
  · refine g_k 2 (pc' := 12) (LI' := [some (.int a), some (.int b), some (.int r1), some (.int r2)]) (LL' := []) (st' := [.int r2, .int a]) (S' := (z_SH, M, L)) (fun nq hq => And.intro rfl (And.intro rfl hq)) ?_
    refine g_k 1 (pc' := 15) (LI' := [some (.int a), some (.int b), some (.int r1), some (.int r2)]) (LL' := []) (st' := [.int (f_X8_isIn M a r2)]) (S' := (z_SH, M, L)) (fun nq hq => And.intro rfl (Exists.intro _ (Exists.intro _ (And.intro (c_X8_isIn (d := d) M a r2) (And.intro (z_fit_same _ _ _ _ _ _ _ _) hq))))) ?_
    generalize hg3 : f_X8_isIn M a r2 = r3 at *
    refine g_k 1 (pc' := (if z_cmp .eq r3 ((0 : Int32)) = true then 28 else 18)) (LI' := [some (.int a), some (.int b), some (.int r1), some (.int r2)]) (LL' := []) (st' := []) (S' := (z_SH, M, L)) (fun nq hq => And.intro rfl hq) ?_
    refine g_eq (fun hc2 => ?_) (fun hc2 => ?_)
    · refine g_k 2 (pc' := 4) (LI' := [some (.int a), some (.int b), some (.int r1), some (.int (r2 + 1))]) (LL' := []) (st' := []) (S' := (z_SH, M, L)) (fun nq hq => And.intro rfl (And.intro rfl hq)) ?_
      (exfalso; subst hg3; unfold t_X7_matterAt_4 at hx1; (try simp only [if_neg hc1] at hx1); (try simp only [if_pos hc2] at hx1); exact Bool.noConfusion hx1)
    · refine g_k 3 (pc' := (if z_cmp .ne r1 b = true then 25 else 23)) (LI' := [some (.int a), some (.int b), some (.int r1), some (.int r2)]) (LL' := []) (st' := []) (S' := (z_SH, M, L)) (fun nq hq => And.intro rfl (And.intro rfl (And.intro rfl hq))) ?_
      refine g_ne (fun hc3 => ?_) (fun hc3 => ?_)
      · refine g_k 3 (pc' := 4) (LI' := [some (.int a), some (.int b), some (.int (r1 + 1)), some (.int (r2 + 1))]) (LL' := []) (st' := []) (S' := (z_SH, M, L)) (fun nq hq => And.intro rfl (And.intro rfl (And.intro rfl hq))) ?_
        (exfalso; subst hg3; unfold t_X7_matterAt_4 at hx1; (try simp only [if_neg hc1] at hx1); (try simp only [if_neg hc2] at hx1); (try simp only [if_pos hc3] at hx1); exact Bool.noConfusion hx1)
      · refine g_k 1 (pc' := 24) (LI' := [some (.int a), some (.int b), some (.int r1), some (.int r2)]) (LL' := []) (st' := [.int r2]) (S' := (z_SH, M, L)) (fun nq hq => And.intro rfl hq) ?_
        exact ⟨1, And.intro rfl (⟨(by subst hg3; subst hg2; subst hg1; unfold f_X7_matterAt; (first | rw [if_neg hc1] | skip); (first | rw [if_neg hc2] | skip); (first | rw [if_neg (not_not_intro hc3)] | skip); try rfl), rfl⟩)⟩
def t_X9_bits_4 (M : Nat → Nat → Int32) (a : Int32) (c1 : Int32) (c2 : Int32) : Bool := if c2 = (0 : Int32) then false else true
def e_X9_bits_4_c1 (M : Nat → Nat → Int32) (a : Int32) (c1 : Int32) (c2 : Int32) : Int32 := c1 + 1
def e_X9_bits_4_c2 (M : Nat → Nat → Int32) (a : Int32) (c1 : Int32) (c2 : Int32) : Int32 := c2 &&& (c2 - ((1 : Int32)))
theorem it_X9_bits_4 {d : Nat} {L : Nat → Nat → Int64} {Q : Option Value → z_St → Prop} (M : Nat → Nat → Int32) (a : Int32) (c1 : Int32) (c2 : Int32) (ht : t_X9_bits_4 M a c1 c2 = true)  (h : z_G (d + 0) tb_X9_bits 4 [some (.int a), some (.int (e_X9_bits_4_c1 M a c1 c2)), some (.int (e_X9_bits_4_c2 M a c1 c2))] [] [] (z_SH, M, L) Q) : z_G (d + 0) tb_X9_bits 4 [some (.int a), some (.int c1), some (.int c2)] [] [] (z_SH, M, L) Q := by
  refine g_k 2 (pc' := (if z_cmp .eq c2 ((0 : Int32)) = true then 20 else 8)) (LI' := [some (.int a), some (.int c1), some (.int c2)]) (LL' := []) (st' := []) (S' := (z_SH, M, L)) (fun nq hq => And.intro rfl (And.intro rfl hq)) ?_
  refine g_eq (fun hc1 => ?_) (fun hc1 => ?_)
  · (exfalso; unfold t_X9_bits_4 at ht; (try simp only [if_pos hc1] at ht); exact Bool.noConfusion ht)
  · refine g_k 8 (pc' := 4) (LI' := [some (.int a), some (.int (c1 + 1)), some (.int (c2 &&& (c2 - ((1 : Int32)))))]) (LL' := []) (st' := []) (S' := (z_SH, M, L)) (fun nq hq => And.intro rfl (And.intro rfl (And.intro rfl (And.intro rfl (And.intro rfl (And.intro rfl (And.intro rfl (And.intro rfl hq)))))))) ?_
    (clear ht; unfold e_X9_bits_4_c1 e_X9_bits_4_c2 at h; (try simp only [if_neg hc1] at h); exact h )
def s_X9_bits_4 (M : Nat → Nat → Int32) (a : Int32) (c1 : Int32) (c2 : Int32) (n : Nat) : Int32 × Int32 := Nat.rec (motive := fun _ => Int32 × Int32) (c1, c2) (fun _ r => (e_X9_bits_4_c1 M a r.1 r.2, e_X9_bits_4_c2 M a r.1 r.2)) n
def n_X9_bits_4 (M : Nat → Nat → Int32) (a : Int32) (c1 : Int32) (c2 : Int32) : Nat := z_fst (fun k => t_X9_bits_4 M a ((s_X9_bits_4 M a c1 c2 k).1) ((s_X9_bits_4 M a c1 c2 k).2)) 32
theorem n_X9_bits_4_t (M : Nat → Nat → Int32) (a : Int32) (c1 : Int32) (c2 : Int32) : ∀ k, k < n_X9_bits_4 M a c1 c2 → t_X9_bits_4 M a ((s_X9_bits_4 M a c1 c2 k).1) ((s_X9_bits_4 M a c1 c2 k).2) = true := fun k hk => z_fst_t (p := (fun k => t_X9_bits_4 M a ((s_X9_bits_4 M a c1 c2 k).1) ((s_X9_bits_4 M a c1 c2 k).2))) (B := 32) hk
theorem n_X9_bits_4_f (M : Nat → Nat → Int32) (a : Int32) (c1 : Int32) (c2 : Int32) (h : t_X9_bits_4 M a ((s_X9_bits_4 M a c1 c2 32).1) ((s_X9_bits_4 M a c1 c2 32).2) = false) : t_X9_bits_4 M a ((s_X9_bits_4 M a c1 c2 ((n_X9_bits_4 M a c1 c2))).1) ((s_X9_bits_4 M a c1 c2 ((n_X9_bits_4 M a c1 c2))).2) = false := by
  have h2 := z_fst_f (p := (fun k => t_X9_bits_4 M a ((s_X9_bits_4 M a c1 c2 k).1) ((s_X9_bits_4 M a c1 c2 k).2))) (B := 32) h
  unfold n_X9_bits_4
  exact h2
theorem l_X9_bits_4 {d : Nat} {L : Nat → Nat → Int64} {Q : Option Value → z_St → Prop} (M : Nat → Nat → Int32) (a : Int32) (c1 : Int32) (c2 : Int32) (n : Nat) : (∀ k, k < n → t_X9_bits_4 M a ((s_X9_bits_4 M a c1 c2 k).1) ((s_X9_bits_4 M a c1 c2 k).2) = true) → (z_G (d + 0) tb_X9_bits 4 [some (.int a), some (.int ((s_X9_bits_4 M a c1 c2 n).1)), some (.int ((s_X9_bits_4 M a c1 c2 n).2))] [] [] (z_SH, M, L) Q) → z_G (d + 0) tb_X9_bits 4 [some (.int a), some (.int c1), some (.int c2)] [] [] (z_SH, M, L) Q := by
  induction n with
  | zero =>
    intro hc  h
    exact h
  | succ n ih =>
    intro hc  h
    refine ih (fun k hk => hc k (by omega))  ?_
    have hcn := hc n (by omega)
    clear ih hc 
    have hs : s_X9_bits_4 M a c1 c2 (n + 1) = (e_X9_bits_4_c1 M a ((s_X9_bits_4 M a c1 c2 n).1) ((s_X9_bits_4 M a c1 c2 n).2), e_X9_bits_4_c2 M a ((s_X9_bits_4 M a c1 c2 n).1) ((s_X9_bits_4 M a c1 c2 n).2)) := rfl
    rw [hs] at h
    clear hs
    try dsimp only at h
    generalize s_X9_bits_4 M a c1 c2 n = sg at *
    refine it_X9_bits_4 M a sg.1 sg.2 hcn  ?_
    exact h
def f_X9_bits (M : Nat → Nat → Int32) (a : Int32) : Int32 := ((s_X9_bits_4 M a ((0 : Int32)) a (n_X9_bits_4 M a ((0 : Int32)) a)).1)
def q_X9_bits (M : Nat → Nat → Int32) (a : Int32) : Prop := (t_X9_bits_4 M a ((s_X9_bits_4 M a ((0 : Int32)) a 32).1) ((s_X9_bits_4 M a ((0 : Int32)) a 32).2) = false) ∧ True
theorem c_X9_bits {d : Nat} {L : Nat → Nat → Int64} (M : Nat → Nat → Int32) (a : Int32)  (hpre : q_X9_bits M a) : z_C (d + 1) 110 [.int a] (z_SH, M, L) (some (.int (f_X9_bits M a))) (z_SH, M, L) := by
  unfold q_X9_bits at hpre
  obtain ⟨p1, -⟩ := hpre
  refine z_mkA (tb := tb_X9_bits) rfl (by decide) rfl rfl rfl ?_
  refine g_k 4 (pc' := 4) (LI' := [some (.int a), some (.int 0), some (.int a)]) (LL' := []) (st' := []) (S' := (z_SH, M, L)) (fun nq hq => And.intro rfl (And.intro rfl (And.intro rfl (And.intro rfl hq)))) ?_
  refine l_X9_bits_4 (d := d) M a ((0 : Int32)) a (n_X9_bits_4 M a ((0 : Int32)) a) (n_X9_bits_4_t M a ((0 : Int32)) a)  ?_ 
  have hx1 : t_X9_bits_4 M a ((s_X9_bits_4 M a ((0 : Int32)) a ((n_X9_bits_4 M a ((0 : Int32)) a))).1) ((s_X9_bits_4 M a ((0 : Int32)) a ((n_X9_bits_4 M a ((0 : Int32)) a))).2) = false := n_X9_bits_4_f M a ((0 : Int32)) a p1
  generalize hg1 : (s_X9_bits_4 M a ((0 : Int32)) a (n_X9_bits_4 M a ((0 : Int32)) a)).1 = r1 at *
  generalize hg2 : (s_X9_bits_4 M a ((0 : Int32)) a (n_X9_bits_4 M a ((0 : Int32)) a)).2 = r2 at *
  refine g_k 2 (pc' := (if z_cmp .eq r2 ((0 : Int32)) = true then 20 else 8)) (LI' := [some (.int a), some (.int r1), some (.int r2)]) (LL' := []) (st' := []) (S' := (z_SH, M, L)) (fun nq hq => And.intro rfl (And.intro rfl hq)) ?_
  refine g_eq (fun hc1 => ?_) (fun hc1 => ?_)
  · refine g_k 1 (pc' := 21) (LI' := [some (.int a), some (.int r1), some (.int r2)]) (LL' := []) (st' := [.int r1]) (S' := (z_SH, M, L)) (fun nq hq => And.intro rfl hq) ?_
    exact ⟨1, And.intro rfl (⟨(by subst hg2; subst hg1; unfold f_X9_bits; (first | rw [if_pos hc1] | skip); try rfl), rfl⟩)⟩
  · refine g_k 8 (pc' := 4) (LI' := [some (.int a), some (.int (r1 + 1)), some (.int (r2 &&& (r2 - ((1 : Int32)))))]) (LL' := []) (st' := []) (S' := (z_SH, M, L)) (fun nq hq => And.intro rfl (And.intro rfl (And.intro rfl (And.intro rfl (And.intro rfl (And.intro rfl (And.intro rfl (And.intro rfl hq)))))))) ?_
    (exfalso; unfold t_X9_bits_4 at hx1; (try simp only [if_neg hc1] at hx1); exact Bool.noConfusion hx1)
def t_X3_firstWrong_243_19_2 (M : Nat → Nat → Int32)  (c2 : Int32) : Bool := if M 243 3 ≤ c2 then false else if ¬ (f_X8_isOutside (g_X1_take_28 M (M 247 ((c2).toNatClampNeg))) ((g_X1_take_28 M (M 247 ((c2).toNatClampNeg))) 246 ((c2).toNatClampNeg)) ((g_X1_take_28 M (M 247 ((c2).toNatClampNeg))) 15 1)) = (0 : Int32) then true else if (g_X1_take_28 M (M 247 ((c2).toNatClampNeg))) 31 (((g_X1_take_28 M (M 247 ((c2).toNatClampNeg))) 246 ((c2).toNatClampNeg)).toNatClampNeg) = (g_X1_take_28 M (M 247 ((c2).toNatClampNeg))) 248 ((c2).toNatClampNeg) then true else false
def e_X3_firstWrong_243_19_2_c2 (M : Nat → Nat → Int32)  (c2 : Int32) : Int32 := c2 + 1
def e_X3_firstWrong_243_19_2_M (M : Nat → Nat → Int32)  (c2 : Int32) : Nat → Nat → Int32 := (g_X1_take_28 M (M 247 ((c2).toNatClampNeg)))
def qi_X3_firstWrong_243_19_2 (M : Nat → Nat → Int32)  (c2 : Int32) : Prop := ((¬ (M 243 3 ≤ c2)) → (z_vin c2 20 = true)) ∧ ((¬ (M 243 3 ≤ c2)) → (q_X1_take_28 M (M 247 ((c2).toNatClampNeg)))) ∧ ((¬ (M 243 3 ≤ c2)) → ((f_X8_isOutside (g_X1_take_28 M (M 247 ((c2).toNatClampNeg))) ((g_X1_take_28 M (M 247 ((c2).toNatClampNeg))) 246 ((c2).toNatClampNeg)) ((g_X1_take_28 M (M 247 ((c2).toNatClampNeg))) 15 1)) = (0 : Int32)) → (z_vin ((g_X1_take_28 M (M 247 ((c2).toNatClampNeg))) 246 ((c2).toNatClampNeg)) 6 = true)) ∧ True
theorem it_X3_firstWrong_243_19_2 {d : Nat} {L : Nat → Nat → Int64} {Q : Option Value → z_St → Prop} (M : Nat → Nat → Int32)  (c2 : Int32) (ht : t_X3_firstWrong_243_19_2 M c2 = true) (p1 : qi_X3_firstWrong_243_19_2 M c2) (h : ∀ (y3 : Option Value), z_G (d + 3) tb_X3_firstWrong 2 [some (.ref 243), some (.ref 19), some (.int (e_X3_firstWrong_243_19_2_c2 M c2)), y3] [] [] (z_SH, e_X3_firstWrong_243_19_2_M M c2, L) Q) : ∀ (x3 : Option Value), z_G (d + 3) tb_X3_firstWrong 2 [some (.ref 243), some (.ref 19), some (.int c2), x3] [] [] (z_SH, M, L) Q := by
  intro x3
  unfold qi_X3_firstWrong_243_19_2 at p1
  obtain ⟨p1, p2, p3, -⟩ := p1
  refine g_k 4 (pc' := (if z_cmp .ge c2 (M 243 3) = true then 70 else 10)) (LI' := [some (.ref 243), some (.ref 19), some (.int c2), x3]) (LL' := []) (st' := []) (S' := (z_SH, M, L)) (fun nq hq => And.intro rfl (And.intro rfl (And.intro rfl (And.intro rfl hq)))) ?_
  refine g_ge (fun hc1 => ?_) (fun hc1 => ?_)
  · (exfalso; unfold t_X3_firstWrong_243_19_2 at ht; (try simp only [if_pos hc1] at ht); exact Bool.noConfusion ht)
  · refine g_k 6 (pc' := 20) (LI' := [some (.ref 243), some (.ref 19), some (.int c2), x3]) (LL' := []) (st' := [.int (M 247 ((c2).toNatClampNeg)), .ref 28]) (S' := (z_SH, M, L)) (fun nq hq => And.intro rfl (And.intro rfl (And.intro rfl (And.intro rfl (And.intro rfl (And.intro (p1 hc1) hq)))))) ?_
    refine g_k 1 (pc' := 23) (LI' := [some (.ref 243), some (.ref 19), some (.int c2), x3]) (LL' := []) (st' := []) (S' := (z_SH, g_X1_take_28 M (M 247 ((c2).toNatClampNeg)), L)) (fun nq hq => And.intro rfl (Exists.intro _ (Exists.intro _ (And.intro (c_X1_take_28 (d := d) M (M 247 ((c2).toNatClampNeg)) (p2 hc1)) (And.intro (z_fit_same _ _ _ _ _ _ _ _) hq))))) ?_
    generalize hg1 : g_X1_take_28 M (M 247 ((c2).toNatClampNeg)) = m1 at *
    refine g_k 9 (pc' := 38) (LI' := [some (.ref 243), some (.ref 19), some (.int c2), some (.int (m1 246 ((c2).toNatClampNeg)))]) (LL' := []) (st' := [.int (m1 15 1), .int (m1 246 ((c2).toNatClampNeg))]) (S' := (z_SH, m1, L)) (fun nq hq => And.intro rfl (And.intro rfl (And.intro rfl (And.intro (p1 hc1) (And.intro rfl (And.intro rfl (And.intro rfl (And.intro rfl (And.intro rfl hq))))))))) ?_
    refine g_k 1 (pc' := 41) (LI' := [some (.ref 243), some (.ref 19), some (.int c2), some (.int (m1 246 ((c2).toNatClampNeg)))]) (LL' := []) (st' := [.int (f_X8_isOutside m1 (m1 246 ((c2).toNatClampNeg)) (m1 15 1))]) (S' := (z_SH, m1, L)) (fun nq hq => And.intro rfl (Exists.intro _ (Exists.intro _ (And.intro (c_X8_isOutside (d := d + 2) m1 (m1 246 ((c2).toNatClampNeg)) (m1 15 1)) (And.intro (z_fit_same _ _ _ _ _ _ _ _) hq))))) ?_
    generalize hg2 : f_X8_isOutside m1 (m1 246 ((c2).toNatClampNeg)) (m1 15 1) = r2 at *
    refine g_k 1 (pc' := (if z_cmp .ne r2 ((0 : Int32)) = true then 64 else 44)) (LI' := [some (.ref 243), some (.ref 19), some (.int c2), some (.int (m1 246 ((c2).toNatClampNeg)))]) (LL' := []) (st' := []) (S' := (z_SH, m1, L)) (fun nq hq => And.intro rfl hq) ?_
    refine g_ne (fun hc2 => ?_) (fun hc2 => ?_)
    · refine g_k 2 (pc' := 2) (LI' := [some (.ref 243), some (.ref 19), some (.int (c2 + 1)), some (.int (m1 246 ((c2).toNatClampNeg)))]) (LL' := []) (st' := []) (S' := (z_SH, m1, L)) (fun nq hq => And.intro rfl (And.intro rfl hq)) ?_
      (clear ht; subst hg2; subst hg1; unfold e_X3_firstWrong_243_19_2_c2 e_X3_firstWrong_243_19_2_M at h; (try simp only [if_neg hc1] at h); (try simp only [if_pos hc2] at h); exact h (some (.int ((g_X1_take_28 M (M 247 ((c2).toNatClampNeg))) 246 ((c2).toNatClampNeg)))))
    · refine g_k 9 (pc' := 59) (LI' := [some (.ref 243), some (.ref 19), some (.int c2), some (.int (m1 246 ((c2).toNatClampNeg)))]) (LL' := []) (st' := [.int (m1 248 ((c2).toNatClampNeg)), .int (m1 31 ((m1 246 ((c2).toNatClampNeg)).toNatClampNeg))]) (S' := (z_SH, m1, L)) (fun nq hq => And.intro rfl (And.intro rfl (And.intro rfl (And.intro rfl (And.intro (p3 hc1 hc2) (And.intro rfl (And.intro rfl (And.intro rfl (And.intro (p1 hc1) hq))))))))) ?_
      refine g_k 1 (pc' := (if z_cmp .eq (m1 31 ((m1 246 ((c2).toNatClampNeg)).toNatClampNeg)) (m1 248 ((c2).toNatClampNeg)) = true then 64 else 62)) (LI' := [some (.ref 243), some (.ref 19), some (.int c2), some (.int (m1 246 ((c2).toNatClampNeg)))]) (LL' := []) (st' := []) (S' := (z_SH, m1, L)) (fun nq hq => And.intro rfl hq) ?_
      refine g_eq (fun hc3 => ?_) (fun hc3 => ?_)
      · refine g_k 2 (pc' := 2) (LI' := [some (.ref 243), some (.ref 19), some (.int (c2 + 1)), some (.int (m1 246 ((c2).toNatClampNeg)))]) (LL' := []) (st' := []) (S' := (z_SH, m1, L)) (fun nq hq => And.intro rfl (And.intro rfl hq)) ?_
        (clear ht; subst hg2; subst hg1; unfold e_X3_firstWrong_243_19_2_c2 e_X3_firstWrong_243_19_2_M at h; (try simp only [if_neg hc1] at h); (try simp only [if_neg (not_not_intro hc2)] at h); (try simp only [if_pos hc3] at h); exact h (some (.int ((g_X1_take_28 M (M 247 ((c2).toNatClampNeg))) 246 ((c2).toNatClampNeg)))))
      · (exfalso; subst hg2; subst hg1; unfold t_X3_firstWrong_243_19_2 at ht; (try simp only [if_neg hc1] at ht); (try simp only [if_neg (not_not_intro hc2)] at ht); (try simp only [if_neg hc3] at ht); exact Bool.noConfusion ht)
def s_X3_firstWrong_243_19_2 (M : Nat → Nat → Int32)  (c2 : Int32) (n : Nat) : Int32 × (Nat → Nat → Int32) := Nat.rec (motive := fun _ => Int32 × (Nat → Nat → Int32)) (c2, M) (fun _ r => (e_X3_firstWrong_243_19_2_c2 r.2 r.1, e_X3_firstWrong_243_19_2_M r.2 r.1)) n
theorem fr_e_X3_firstWrong_243_19_2_M (M : Nat → Nat → Int32)  (c2 : Int32) (c : Nat) (h28 : c ≠ 28) (h29 : c ≠ 29) (h30 : c ≠ 30) (h31 : c ≠ 31) (h268 : c ≠ 268) (h269 : c ≠ 269) (h270 : c ≠ 270) : e_X3_firstWrong_243_19_2_M M c2 c = M c := by
  unfold e_X3_firstWrong_243_19_2_M
  repeat' split
  all_goals simp only [z_row_ne h28, z_row_ne h29, z_row_ne h30, z_row_ne h31, z_row_ne h268, z_row_ne h269, z_row_ne h270, fr_g_X1_take_28 (c := c) (h28 := h28) (h29 := h29) (h30 := h30) (h31 := h31) (h268 := h268) (h269 := h269) (h270 := h270)]
theorem fr_s_X3_firstWrong_243_19_2 (M : Nat → Nat → Int32)  (c2 : Int32) (n : Nat) (c : Nat) (h28 : c ≠ 28) (h29 : c ≠ 29) (h30 : c ≠ 30) (h31 : c ≠ 31) (h268 : c ≠ 268) (h269 : c ≠ 269) (h270 : c ≠ 270) : ((s_X3_firstWrong_243_19_2 M c2 n).2) c = M c := by
  induction n with
  | zero => rfl
  | succ n ih =>
    have hs : s_X3_firstWrong_243_19_2 M c2 (n + 1) = (e_X3_firstWrong_243_19_2_c2 ((s_X3_firstWrong_243_19_2 M c2 n).2) ((s_X3_firstWrong_243_19_2 M c2 n).1), e_X3_firstWrong_243_19_2_M ((s_X3_firstWrong_243_19_2 M c2 n).2) ((s_X3_firstWrong_243_19_2 M c2 n).1)) := rfl
    rw [hs]
    dsimp only
    exact (fr_e_X3_firstWrong_243_19_2_M ((s_X3_firstWrong_243_19_2 M c2 n).2)  ((s_X3_firstWrong_243_19_2 M c2 n).1) c h28 h29 h30 h31 h268 h269 h270).trans ih
def n_X3_firstWrong_243_19_2 (M : Nat → Nat → Int32)  (c2 : Int32) : Nat := z_fst (fun k => t_X3_firstWrong_243_19_2 ((s_X3_firstWrong_243_19_2 M c2 k).2) ((s_X3_firstWrong_243_19_2 M c2 k).1)) 20
theorem n_X3_firstWrong_243_19_2_t (M : Nat → Nat → Int32)  (c2 : Int32) : ∀ k, k < n_X3_firstWrong_243_19_2 M c2 → t_X3_firstWrong_243_19_2 ((s_X3_firstWrong_243_19_2 M c2 k).2) ((s_X3_firstWrong_243_19_2 M c2 k).1) = true := fun k hk => z_fst_t (p := (fun k => t_X3_firstWrong_243_19_2 ((s_X3_firstWrong_243_19_2 M c2 k).2) ((s_X3_firstWrong_243_19_2 M c2 k).1))) (B := 20) hk
theorem n_X3_firstWrong_243_19_2_f (M : Nat → Nat → Int32)  (c2 : Int32) (h : t_X3_firstWrong_243_19_2 ((s_X3_firstWrong_243_19_2 M c2 20).2) ((s_X3_firstWrong_243_19_2 M c2 20).1) = false) : t_X3_firstWrong_243_19_2 ((s_X3_firstWrong_243_19_2 M c2 ((n_X3_firstWrong_243_19_2 M c2))).2) ((s_X3_firstWrong_243_19_2 M c2 ((n_X3_firstWrong_243_19_2 M c2))).1) = false := by
  have h2 := z_fst_f (p := (fun k => t_X3_firstWrong_243_19_2 ((s_X3_firstWrong_243_19_2 M c2 k).2) ((s_X3_firstWrong_243_19_2 M c2 k).1))) (B := 20) h
  unfold n_X3_firstWrong_243_19_2
  exact h2
theorem l_X3_firstWrong_243_19_2 {d : Nat} {L : Nat → Nat → Int64} {Q : Option Value → z_St → Prop} (M : Nat → Nat → Int32)  (c2 : Int32) (n : Nat) : (∀ k, k < n → t_X3_firstWrong_243_19_2 ((s_X3_firstWrong_243_19_2 M c2 k).2) ((s_X3_firstWrong_243_19_2 M c2 k).1) = true) → (∀ k, k < n → qi_X3_firstWrong_243_19_2 ((s_X3_firstWrong_243_19_2 M c2 k).2) ((s_X3_firstWrong_243_19_2 M c2 k).1)) → (∀ (y3 : Option Value), z_G (d + 3) tb_X3_firstWrong 2 [some (.ref 243), some (.ref 19), some (.int ((s_X3_firstWrong_243_19_2 M c2 n).1)), y3] [] [] (z_SH, (s_X3_firstWrong_243_19_2 M c2 n).2, L) Q) → ∀ (x3 : Option Value), z_G (d + 3) tb_X3_firstWrong 2 [some (.ref 243), some (.ref 19), some (.int c2), x3] [] [] (z_SH, M, L) Q := by
  induction n with
  | zero =>
    intro hc p1 h
    exact h
  | succ n ih =>
    intro hc p1 h
    refine ih (fun k hk => hc k (by omega)) (fun k hk => p1 k (by omega)) ?_
    have hcn := hc n (by omega)
    have p1n := p1 n (by omega)
    clear ih hc p1
    have hs : s_X3_firstWrong_243_19_2 M c2 (n + 1) = (e_X3_firstWrong_243_19_2_c2 ((s_X3_firstWrong_243_19_2 M c2 n).2) ((s_X3_firstWrong_243_19_2 M c2 n).1), e_X3_firstWrong_243_19_2_M ((s_X3_firstWrong_243_19_2 M c2 n).2) ((s_X3_firstWrong_243_19_2 M c2 n).1)) := rfl
    rw [hs] at h
    clear hs
    try dsimp only at h
    generalize s_X3_firstWrong_243_19_2 M c2 n = sg at *
    refine it_X3_firstWrong_243_19_2 sg.2  sg.1 hcn p1n ?_
    exact h
def f_X3_firstWrong_243_19 (M : Nat → Nat → Int32)  : Int32 := if ((s_X3_firstWrong_243_19_2 M ((0 : Int32)) (n_X3_firstWrong_243_19_2 M ((0 : Int32)))).2) 243 3 ≤ ((s_X3_firstWrong_243_19_2 M ((0 : Int32)) (n_X3_firstWrong_243_19_2 M ((0 : Int32)))).1) then (-1 : Int32) else ((s_X3_firstWrong_243_19_2 M ((0 : Int32)) (n_X3_firstWrong_243_19_2 M ((0 : Int32)))).1)
def g_X3_firstWrong_243_19 (M : Nat → Nat → Int32)  : Nat → Nat → Int32 := if ((s_X3_firstWrong_243_19_2 M ((0 : Int32)) (n_X3_firstWrong_243_19_2 M ((0 : Int32)))).2) 243 3 ≤ ((s_X3_firstWrong_243_19_2 M ((0 : Int32)) (n_X3_firstWrong_243_19_2 M ((0 : Int32)))).1) then ((s_X3_firstWrong_243_19_2 M ((0 : Int32)) (n_X3_firstWrong_243_19_2 M ((0 : Int32)))).2) else (g_X1_take_28 ((s_X3_firstWrong_243_19_2 M ((0 : Int32)) (n_X3_firstWrong_243_19_2 M ((0 : Int32)))).2) (((s_X3_firstWrong_243_19_2 M ((0 : Int32)) (n_X3_firstWrong_243_19_2 M ((0 : Int32)))).2) 247 ((((s_X3_firstWrong_243_19_2 M ((0 : Int32)) (n_X3_firstWrong_243_19_2 M ((0 : Int32)))).1)).toNatClampNeg)))
theorem fr_g_X3_firstWrong_243_19 (M : Nat → Nat → Int32)  (c : Nat) (h28 : c ≠ 28) (h29 : c ≠ 29) (h30 : c ≠ 30) (h31 : c ≠ 31) (h268 : c ≠ 268) (h269 : c ≠ 269) (h270 : c ≠ 270) : g_X3_firstWrong_243_19 M c = M c := by
  unfold g_X3_firstWrong_243_19
  repeat' split
  all_goals simp only [z_row_ne h28, z_row_ne h29, z_row_ne h30, z_row_ne h31, z_row_ne h268, z_row_ne h269, z_row_ne h270, fr_g_X1_take_28 (c := c) (h28 := h28) (h29 := h29) (h30 := h30) (h31 := h31) (h268 := h268) (h269 := h269) (h270 := h270), fr_s_X3_firstWrong_243_19_2 (c := c) (h28 := h28) (h29 := h29) (h30 := h30) (h31 := h31) (h268 := h268) (h269 := h269) (h270 := h270)]
def q_X3_firstWrong_243_19 (M : Nat → Nat → Int32)  : Prop := (∀ k77, k77 < n_X3_firstWrong_243_19_2 M ((0 : Int32)) → qi_X3_firstWrong_243_19_2 ((s_X3_firstWrong_243_19_2 M ((0 : Int32)) k77).2) ((s_X3_firstWrong_243_19_2 M ((0 : Int32)) k77).1)) ∧ (t_X3_firstWrong_243_19_2 ((s_X3_firstWrong_243_19_2 M ((0 : Int32)) 20).2) ((s_X3_firstWrong_243_19_2 M ((0 : Int32)) 20).1) = false) ∧ ((¬ (((s_X3_firstWrong_243_19_2 M ((0 : Int32)) (n_X3_firstWrong_243_19_2 M ((0 : Int32)))).2) 243 3 ≤ ((s_X3_firstWrong_243_19_2 M ((0 : Int32)) (n_X3_firstWrong_243_19_2 M ((0 : Int32)))).1))) → (z_vin ((s_X3_firstWrong_243_19_2 M ((0 : Int32)) (n_X3_firstWrong_243_19_2 M ((0 : Int32)))).1) 20 = true)) ∧ ((¬ (((s_X3_firstWrong_243_19_2 M ((0 : Int32)) (n_X3_firstWrong_243_19_2 M ((0 : Int32)))).2) 243 3 ≤ ((s_X3_firstWrong_243_19_2 M ((0 : Int32)) (n_X3_firstWrong_243_19_2 M ((0 : Int32)))).1))) → (q_X1_take_28 ((s_X3_firstWrong_243_19_2 M ((0 : Int32)) (n_X3_firstWrong_243_19_2 M ((0 : Int32)))).2) (((s_X3_firstWrong_243_19_2 M ((0 : Int32)) (n_X3_firstWrong_243_19_2 M ((0 : Int32)))).2) 247 ((((s_X3_firstWrong_243_19_2 M ((0 : Int32)) (n_X3_firstWrong_243_19_2 M ((0 : Int32)))).1)).toNatClampNeg)))) ∧ ((¬ (((s_X3_firstWrong_243_19_2 M ((0 : Int32)) (n_X3_firstWrong_243_19_2 M ((0 : Int32)))).2) 243 3 ≤ ((s_X3_firstWrong_243_19_2 M ((0 : Int32)) (n_X3_firstWrong_243_19_2 M ((0 : Int32)))).1))) → ((f_X8_isOutside (g_X1_take_28 ((s_X3_firstWrong_243_19_2 M ((0 : Int32)) (n_X3_firstWrong_243_19_2 M ((0 : Int32)))).2) (((s_X3_firstWrong_243_19_2 M ((0 : Int32)) (n_X3_firstWrong_243_19_2 M ((0 : Int32)))).2) 247 ((((s_X3_firstWrong_243_19_2 M ((0 : Int32)) (n_X3_firstWrong_243_19_2 M ((0 : Int32)))).1)).toNatClampNeg))) ((g_X1_take_28 ((s_X3_firstWrong_243_19_2 M ((0 : Int32)) (n_X3_firstWrong_243_19_2 M ((0 : Int32)))).2) (((s_X3_firstWrong_243_19_2 M ((0 : Int32)) (n_X3_firstWrong_243_19_2 M ((0 : Int32)))).2) 247 ((((s_X3_firstWrong_243_19_2 M ((0 : Int32)) (n_X3_firstWrong_243_19_2 M ((0 : Int32)))).1)).toNatClampNeg))) 246 ((((s_X3_firstWrong_243_19_2 M ((0 : Int32)) (n_X3_firstWrong_243_19_2 M ((0 : Int32)))).1)).toNatClampNeg)) ((g_X1_take_28 ((s_X3_firstWrong_243_19_2 M ((0 : Int32)) (n_X3_firstWrong_243_19_2 M ((0 : Int32)))).2) (((s_X3_firstWrong_243_19_2 M ((0 : Int32)) (n_X3_firstWrong_243_19_2 M ((0 : Int32)))).2) 247 ((((s_X3_firstWrong_243_19_2 M ((0 : Int32)) (n_X3_firstWrong_243_19_2 M ((0 : Int32)))).1)).toNatClampNeg))) 15 1)) = (0 : Int32)) → (z_vin ((g_X1_take_28 ((s_X3_firstWrong_243_19_2 M ((0 : Int32)) (n_X3_firstWrong_243_19_2 M ((0 : Int32)))).2) (((s_X3_firstWrong_243_19_2 M ((0 : Int32)) (n_X3_firstWrong_243_19_2 M ((0 : Int32)))).2) 247 ((((s_X3_firstWrong_243_19_2 M ((0 : Int32)) (n_X3_firstWrong_243_19_2 M ((0 : Int32)))).1)).toNatClampNeg))) 246 ((((s_X3_firstWrong_243_19_2 M ((0 : Int32)) (n_X3_firstWrong_243_19_2 M ((0 : Int32)))).1)).toNatClampNeg)) 6 = true)) ∧ True
theorem c_X3_firstWrong_243_19 {d : Nat} {L : Nat → Nat → Int64} (M : Nat → Nat → Int32)   (hpre : q_X3_firstWrong_243_19 M) : z_C (d + 4) 39 [.ref 243, .ref 19] (z_SH, M, L) (some (.int (f_X3_firstWrong_243_19 M))) (z_SH, g_X3_firstWrong_243_19 M, L) := by
  unfold q_X3_firstWrong_243_19 at hpre
  obtain ⟨p1, p2, p3, p4, p5, -⟩ := hpre
  refine z_mkA (tb := tb_X3_firstWrong) rfl (by decide) rfl rfl rfl ?_
  refine g_k 2 (pc' := 2) (LI' := [some (.ref 243), some (.ref 19), some (.int 0), none]) (LL' := []) (st' := []) (S' := (z_SH, M, L)) (fun nq hq => And.intro rfl (And.intro rfl hq)) ?_
  refine l_X3_firstWrong_243_19_2 (d := d) M ((0 : Int32)) (n_X3_firstWrong_243_19_2 M ((0 : Int32))) (n_X3_firstWrong_243_19_2_t M ((0 : Int32))) p1 (fun y1 => ?_) none
  have hx1 : t_X3_firstWrong_243_19_2 ((s_X3_firstWrong_243_19_2 M ((0 : Int32)) ((n_X3_firstWrong_243_19_2 M ((0 : Int32))))).2) ((s_X3_firstWrong_243_19_2 M ((0 : Int32)) ((n_X3_firstWrong_243_19_2 M ((0 : Int32))))).1) = false := n_X3_firstWrong_243_19_2_f M ((0 : Int32)) p2
  generalize hg1 : (s_X3_firstWrong_243_19_2 M ((0 : Int32)) (n_X3_firstWrong_243_19_2 M ((0 : Int32)))).1 = r1 at *
  generalize hg2 : (s_X3_firstWrong_243_19_2 M ((0 : Int32)) (n_X3_firstWrong_243_19_2 M ((0 : Int32)))).2 = m2 at *
  refine g_k 4 (pc' := (if z_cmp .ge r1 (m2 243 3) = true then 70 else 10)) (LI' := [some (.ref 243), some (.ref 19), some (.int r1), y1]) (LL' := []) (st' := []) (S' := (z_SH, m2, L)) (fun nq hq => And.intro rfl (And.intro rfl (And.intro rfl (And.intro rfl hq)))) ?_
  refine g_ge (fun hc1 => ?_) (fun hc1 => ?_)
  · refine g_k 1 (pc' := 71) (LI' := [some (.ref 243), some (.ref 19), some (.int r1), y1]) (LL' := []) (st' := [.int (-1)]) (S' := (z_SH, m2, L)) (fun nq hq => And.intro rfl hq) ?_
    exact ⟨1, And.intro rfl (⟨(by subst hg2; subst hg1; unfold f_X3_firstWrong_243_19; (first | rw [if_pos hc1] | skip); try rfl), (by subst hg2; subst hg1; unfold g_X3_firstWrong_243_19; (first | rw [if_pos hc1] | skip); try rfl)⟩)⟩
  · refine g_k 6 (pc' := 20) (LI' := [some (.ref 243), some (.ref 19), some (.int r1), y1]) (LL' := []) (st' := [.int (m2 247 ((r1).toNatClampNeg)), .ref 28]) (S' := (z_SH, m2, L)) (fun nq hq => And.intro rfl (And.intro rfl (And.intro rfl (And.intro rfl (And.intro rfl (And.intro (p3 hc1) hq)))))) ?_
    refine g_k 1 (pc' := 23) (LI' := [some (.ref 243), some (.ref 19), some (.int r1), y1]) (LL' := []) (st' := []) (S' := (z_SH, g_X1_take_28 m2 (m2 247 ((r1).toNatClampNeg)), L)) (fun nq hq => And.intro rfl (Exists.intro _ (Exists.intro _ (And.intro (c_X1_take_28 (d := d) m2 (m2 247 ((r1).toNatClampNeg)) (p4 hc1)) (And.intro (z_fit_same _ _ _ _ _ _ _ _) hq))))) ?_
    generalize hg3 : g_X1_take_28 m2 (m2 247 ((r1).toNatClampNeg)) = m3 at *
    refine g_k 9 (pc' := 38) (LI' := [some (.ref 243), some (.ref 19), some (.int r1), some (.int (m3 246 ((r1).toNatClampNeg)))]) (LL' := []) (st' := [.int (m3 15 1), .int (m3 246 ((r1).toNatClampNeg))]) (S' := (z_SH, m3, L)) (fun nq hq => And.intro rfl (And.intro rfl (And.intro rfl (And.intro (p3 hc1) (And.intro rfl (And.intro rfl (And.intro rfl (And.intro rfl (And.intro rfl hq))))))))) ?_
    refine g_k 1 (pc' := 41) (LI' := [some (.ref 243), some (.ref 19), some (.int r1), some (.int (m3 246 ((r1).toNatClampNeg)))]) (LL' := []) (st' := [.int (f_X8_isOutside m3 (m3 246 ((r1).toNatClampNeg)) (m3 15 1))]) (S' := (z_SH, m3, L)) (fun nq hq => And.intro rfl (Exists.intro _ (Exists.intro _ (And.intro (c_X8_isOutside (d := d + 2) m3 (m3 246 ((r1).toNatClampNeg)) (m3 15 1)) (And.intro (z_fit_same _ _ _ _ _ _ _ _) hq))))) ?_
    generalize hg4 : f_X8_isOutside m3 (m3 246 ((r1).toNatClampNeg)) (m3 15 1) = r4 at *
    refine g_k 1 (pc' := (if z_cmp .ne r4 ((0 : Int32)) = true then 64 else 44)) (LI' := [some (.ref 243), some (.ref 19), some (.int r1), some (.int (m3 246 ((r1).toNatClampNeg)))]) (LL' := []) (st' := []) (S' := (z_SH, m3, L)) (fun nq hq => And.intro rfl hq) ?_
    refine g_ne (fun hc2 => ?_) (fun hc2 => ?_)
    · refine g_k 2 (pc' := 2) (LI' := [some (.ref 243), some (.ref 19), some (.int (r1 + 1)), some (.int (m3 246 ((r1).toNatClampNeg)))]) (LL' := []) (st' := []) (S' := (z_SH, m3, L)) (fun nq hq => And.intro rfl (And.intro rfl hq)) ?_
      (exfalso; subst hg4; subst hg3; unfold t_X3_firstWrong_243_19_2 at hx1; (try simp only [if_neg hc1] at hx1); (try simp only [if_pos hc2] at hx1); exact Bool.noConfusion hx1)
    · refine g_k 9 (pc' := 59) (LI' := [some (.ref 243), some (.ref 19), some (.int r1), some (.int (m3 246 ((r1).toNatClampNeg)))]) (LL' := []) (st' := [.int (m3 248 ((r1).toNatClampNeg)), .int (m3 31 ((m3 246 ((r1).toNatClampNeg)).toNatClampNeg))]) (S' := (z_SH, m3, L)) (fun nq hq => And.intro rfl (And.intro rfl (And.intro rfl (And.intro rfl (And.intro (p5 hc1 hc2) (And.intro rfl (And.intro rfl (And.intro rfl (And.intro (p3 hc1) hq))))))))) ?_
      refine g_k 1 (pc' := (if z_cmp .eq (m3 31 ((m3 246 ((r1).toNatClampNeg)).toNatClampNeg)) (m3 248 ((r1).toNatClampNeg)) = true then 64 else 62)) (LI' := [some (.ref 243), some (.ref 19), some (.int r1), some (.int (m3 246 ((r1).toNatClampNeg)))]) (LL' := []) (st' := []) (S' := (z_SH, m3, L)) (fun nq hq => And.intro rfl hq) ?_
      refine g_eq (fun hc3 => ?_) (fun hc3 => ?_)
      · refine g_k 2 (pc' := 2) (LI' := [some (.ref 243), some (.ref 19), some (.int (r1 + 1)), some (.int (m3 246 ((r1).toNatClampNeg)))]) (LL' := []) (st' := []) (S' := (z_SH, m3, L)) (fun nq hq => And.intro rfl (And.intro rfl hq)) ?_
        (exfalso; subst hg4; subst hg3; unfold t_X3_firstWrong_243_19_2 at hx1; (try simp only [if_neg hc1] at hx1); (try simp only [if_neg (not_not_intro hc2)] at hx1); (try simp only [if_pos hc3] at hx1); exact Bool.noConfusion hx1)
      · refine g_k 1 (pc' := 63) (LI' := [some (.ref 243), some (.ref 19), some (.int r1), some (.int (m3 246 ((r1).toNatClampNeg)))]) (LL' := []) (st' := [.int r1]) (S' := (z_SH, m3, L)) (fun nq hq => And.intro rfl hq) ?_
        exact ⟨1, And.intro rfl (⟨(by subst hg4; subst hg3; subst hg2; subst hg1; unfold f_X3_firstWrong_243_19; (first | rw [if_neg hc1] | skip); (first | rw [if_neg (not_not_intro hc2)] | skip); (first | rw [if_neg hc3] | skip); try rfl), (by subst hg4; subst hg3; subst hg2; subst hg1; unfold g_X3_firstWrong_243_19; (first | rw [if_neg hc1] | skip); (first | rw [if_neg (not_not_intro hc2)] | skip); (first | rw [if_neg hc3] | skip); try rfl)⟩)⟩
