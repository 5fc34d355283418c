def e_X9_pullOf_280_5_c3 (M : Nat → Nat → Int32) (a1 : Int32) (a2 : Int32) (i : Int32) (c3 : Int32) : Int32 := if (f_X9_holds_280 M i) = (0 : Int32) then c3 else if ¬ M 280 ((((11 : Int32)) + i).toNatClampNeg) = a1 then c3 else if ¬ M 280 ((((23 : Int32)) + i).toNatClampNeg) = a2 then c3 else if ¬ M 280 ((((35 : Int32)) + i).toNatClampNeg) = (1 : Int32) then c3 + (-(M 280 ((((47 : Int32)) + i).toNatClampNeg))) else c3 + (M 280 ((((47 : Int32)) + i).toNatClampNeg))
def qi_X9_pullOf_280_5 (M : Nat → Nat → Int32) (a1 : Int32) (a2 : Int32) (i : Int32) (c3 : Int32) : Prop := (q_X9_holds_280 M i) ∧ ((¬ ((f_X9_holds_280 M i) = (0 : Int32))) → (z_vin (((11 : Int32)) + i) 83 = true)) ∧ ((¬ ((f_X9_holds_280 M i) = (0 : Int32))) → (M 280 ((((11 : Int32)) + i).toNatClampNeg) = a1) → (z_vin (((23 : Int32)) + i) 83 = true)) ∧ ((¬ ((f_X9_holds_280 M i) = (0 : Int32))) → (M 280 ((((11 : Int32)) + i).toNatClampNeg) = a1) → (M 280 ((((23 : Int32)) + i).toNatClampNeg) = a2) → (z_vin (((35 : Int32)) + i) 83 = true)) ∧ ((¬ ((f_X9_holds_280 M i) = (0 : Int32))) → (M 280 ((((11 : Int32)) + i).toNatClampNeg) = a1) → (M 280 ((((23 : Int32)) + i).toNatClampNeg) = a2) → (¬ M 280 ((((35 : Int32)) + i).toNatClampNeg) = (1 : Int32)) → (z_vin (((47 : Int32)) + i) 83 = true)) ∧ ((¬ ((f_X9_holds_280 M i) = (0 : Int32))) → (M 280 ((((11 : Int32)) + i).toNatClampNeg) = a1) → (M 280 ((((23 : Int32)) + i).toNatClampNeg) = a2) → (M 280 ((((35 : Int32)) + i).toNatClampNeg) = (1 : Int32)) → (z_vin (((47 : Int32)) + i) 83 = true)) ∧ True
theorem it_X9_pullOf_280_5 {d : Nat} {L : Nat → Nat → Int64} {Q : Option Value → z_St → Prop} (M : Nat → Nat → Int32) (a1 : Int32) (a2 : Int32) (i : Int32) (c3 : Int32) (hc : ¬ (M 280 10 ≤ i)) (p1 : qi_X9_pullOf_280_5 M a1 a2 i c3) (h : z_G (d + 1) tb_X9_pullOf 5 [some (.ref 280), some (.int a1), some (.int a2), some (.int (e_X9_pullOf_280_5_c3 M a1 a2 i c3)), some (.int (i + 1))] [] [] (z_SH, M, L) Q) : z_G (d + 1) tb_X9_pullOf 5 [some (.ref 280), some (.int a1), some (.int a2), some (.int c3), some (.int i)] [] [] (z_SH, M, L) Q := by
  unfold qi_X9_pullOf_280_5 at p1
  obtain ⟨p1, p2, p3, p4, p5, p6, -⟩ := p1
  refine g_k 5 (pc' := (if z_cmp .ge i (M 280 10) = true then 83 else 14)) (LI' := [some (.ref 280), some (.int a1), some (.int a2), some (.int c3), some (.int i)]) (LL' := []) (st' := []) (S' := (z_SH, M, L)) (fun nq hq => And.intro rfl (And.intro rfl (And.intro rfl (And.intro rfl (And.intro rfl hq))))) ?_
  refine g_ge (fun hc1 => ?_) (fun hc1 => ?_)
  · exact absurd hc1 hc
  · refine g_k 2 (pc' := 17) (LI' := [some (.ref 280), some (.int a1), some (.int a2), some (.int c3), some (.int i)]) (LL' := []) (st' := [.int i, .ref 280]) (S' := (z_SH, M, L)) (fun nq hq => And.intro rfl (And.intro rfl hq)) ?_
    refine g_k 1 (pc' := 20) (LI' := [some (.ref 280), some (.int a1), some (.int a2), some (.int c3), some (.int i)]) (LL' := []) (st' := [.int (f_X9_holds_280 M i)]) (S' := (z_SH, M, L)) (fun nq hq => And.intro rfl (Exists.intro _ (Exists.intro _ (And.intro (c_X9_holds_280 (d := d) M i p1) (And.intro (z_fit_same _ _ _ _ _ _ _ _) hq))))) ?_
    generalize hg1 : f_X9_holds_280 M i = r1 at *
    refine g_k 1 (pc' := (if z_cmp .eq r1 ((0 : Int32)) = true then 77 else 23)) (LI' := [some (.ref 280), some (.int a1), some (.int a2), some (.int c3), some (.int i)]) (LL' := []) (st' := []) (S' := (z_SH, M, L)) (fun nq hq => And.intro rfl hq) ?_
    refine g_eq (fun hc2 => ?_) (fun hc2 => ?_)
    · refine g_k 2 (pc' := 5) (LI' := [some (.ref 280), some (.int a1), some (.int a2), some (.int c3), some (.int (i + 1))]) (LL' := []) (st' := []) (S' := (z_SH, M, L)) (fun nq hq => And.intro rfl (And.intro rfl hq)) ?_
      (subst hg1; unfold e_X9_pullOf_280_5_c3 at h; (try simp only [if_pos hc2] at h); exact h )
    · refine g_k 7 (pc' := (if z_cmp .ne (M 280 ((((11 : Int32)) + i).toNatClampNeg)) a1 = true then 77 else 34)) (LI' := [some (.ref 280), some (.int a1), some (.int a2), some (.int c3), some (.int i)]) (LL' := []) (st' := []) (S' := (z_SH, M, L)) (fun nq hq => And.intro rfl (And.intro rfl (And.intro rfl (And.intro rfl (And.intro (p2 hc2) (And.intro rfl (And.intro rfl hq))))))) ?_
      refine g_ne (fun hc3 => ?_) (fun hc3 => ?_)
      · refine g_k 2 (pc' := 5) (LI' := [some (.ref 280), some (.int a1), some (.int a2), some (.int c3), some (.int (i + 1))]) (LL' := []) (st' := []) (S' := (z_SH, M, L)) (fun nq hq => And.intro rfl (And.intro rfl hq)) ?_
        (subst hg1; unfold e_X9_pullOf_280_5_c3 at h; (try simp only [if_neg hc2] at h); (try simp only [if_pos hc3] at h); exact h )
      · refine g_k 7 (pc' := (if z_cmp .ne (M 280 ((((23 : Int32)) + i).toNatClampNeg)) a2 = true then 77 else 45)) (LI' := [some (.ref 280), some (.int a1), some (.int a2), some (.int c3), some (.int i)]) (LL' := []) (st' := []) (S' := (z_SH, M, L)) (fun nq hq => And.intro rfl (And.intro rfl (And.intro rfl (And.intro rfl (And.intro (p3 hc2 hc3) (And.intro rfl (And.intro rfl hq))))))) ?_
        refine g_ne (fun hc4 => ?_) (fun hc4 => ?_)
        · refine g_k 2 (pc' := 5) (LI' := [some (.ref 280), some (.int a1), some (.int a2), some (.int c3), some (.int (i + 1))]) (LL' := []) (st' := []) (S' := (z_SH, M, L)) (fun nq hq => And.intro rfl (And.intro rfl hq)) ?_
          (subst hg1; unfold e_X9_pullOf_280_5_c3 at h; (try simp only [if_neg hc2] at h); (try simp only [if_neg (not_not_intro hc3)] at h); (try simp only [if_pos hc4] at h); exact h )
        · refine g_k 8 (pc' := (if z_cmp .ne (M 280 ((((35 : Int32)) + i).toNatClampNeg)) ((1 : Int32)) = true then 67 else 57)) (LI' := [some (.ref 280), some (.int a1), some (.int a2), some (.int c3), some (.int i)]) (LL' := []) (st' := [.int c3]) (S' := (z_SH, M, L)) (fun nq hq => And.intro rfl (And.intro rfl (And.intro rfl (And.intro rfl (And.intro rfl (And.intro (p4 hc2 hc3 hc4) (And.intro rfl (And.intro rfl hq)))))))) ?_
          refine g_ne (fun hc5 => ?_) (fun hc5 => ?_)
          · refine g_k 9 (pc' := 80) (LI' := [some (.ref 280), some (.int a1), some (.int a2), some (.int (c3 + (-(M 280 ((((47 : Int32)) + i).toNatClampNeg))))), some (.int (i + 1))]) (LL' := []) (st' := []) (S' := (z_SH, M, L)) (fun nq hq => And.intro rfl (And.intro rfl (And.intro rfl (And.intro rfl (And.intro (p5 hc2 hc3 hc4 hc5) (And.intro rfl (And.intro rfl (And.intro rfl (And.intro rfl hq))))))))) ?_
            refine g_k 1 (pc' := 5) (LI' := [some (.ref 280), some (.int a1), some (.int a2), some (.int (c3 + (-(M 280 ((((47 : Int32)) + i).toNatClampNeg))))), some (.int (i + 1))]) (LL' := []) (st' := []) (S' := (z_SH, M, L)) (fun nq hq => And.intro rfl hq) ?_
            (subst hg1; unfold e_X9_pullOf_280_5_c3 at h; (try simp only [if_neg hc2] at h); (try simp only [if_neg (not_not_intro hc3)] at h); (try simp only [if_neg (not_not_intro hc4)] at h); (try simp only [if_pos hc5] at h); exact h )
          · refine g_k 9 (pc' := 80) (LI' := [some (.ref 280), some (.int a1), some (.int a2), some (.int (c3 + (M 280 ((((47 : Int32)) + i).toNatClampNeg)))), some (.int (i + 1))]) (LL' := []) (st' := []) (S' := (z_SH, M, L)) (fun nq hq => And.intro rfl (And.intro rfl (And.intro rfl (And.intro rfl (And.intro (p6 hc2 hc3 hc4 hc5) (And.intro rfl (And.intro rfl (And.intro rfl (And.intro rfl hq))))))))) ?_
            refine g_k 1 (pc' := 5) (LI' := [some (.ref 280), some (.int a1), some (.int a2), some (.int (c3 + (M 280 ((((47 : Int32)) + i).toNatClampNeg)))), some (.int (i + 1))]) (LL' := []) (st' := []) (S' := (z_SH, M, L)) (fun nq hq => And.intro rfl hq) ?_
            (subst hg1; unfold e_X9_pullOf_280_5_c3 at h; (try simp only [if_neg hc2] at h); (try simp only [if_neg (not_not_intro hc3)] at h); (try simp only [if_neg (not_not_intro hc4)] at h); (try simp only [if_neg (not_not_intro hc5)] at h); exact h )
def s_X9_pullOf_280_5 (M : Nat → Nat → Int32) (a1 : Int32) (a2 : Int32) (c3 : Int32) (n : Nat) : Int32 := Nat.rec (motive := fun _ => Int32) (c3) (fun k r => (e_X9_pullOf_280_5_c3 M a1 a2 (nI k) r)) n
theorem l_X9_pullOf_280_5 {d : Nat} {L : Nat → Nat → Int64} {Q : Option Value → z_St → Prop} (M : Nat → Nat → Int32) (a1 : Int32) (a2 : Int32) (c3 : Int32) (n : Nat) : (∀ k, k < n → ¬ (M 280 10 ≤ (nI k))) → (∀ k, k < n → qi_X9_pullOf_280_5 M a1 a2 (nI k) ((s_X9_pullOf_280_5 M a1 a2 c3 k))) → (z_G (d + 1) tb_X9_pullOf 5 [some (.ref 280), some (.int a1), some (.int a2), some (.int ((s_X9_pullOf_280_5 M a1 a2 c3 n))), some (.int (nI n))] [] [] (z_SH, M, L) Q) → z_G (d + 1) tb_X9_pullOf 5 [some (.ref 280), some (.int a1), some (.int a2), some (.int c3), some (.int (nI 0))] [] [] (z_SH, M, L) Q := by
  induction n with
  | zero =>
    intro hc p1 h
    exact h
  | succ n ih =>
    intro hc p1 h
    refine ih (fun k hk => hc k (by omega)) (fun k hk => p1 k (by omega)) ?_
    have hcn := hc n (by omega)
    have p1n := p1 n (by omega)
    clear ih hc p1
    have hs : s_X9_pullOf_280_5 M a1 a2 c3 (n + 1) = (e_X9_pullOf_280_5_c3 M a1 a2 (nI n) ((s_X9_pullOf_280_5 M a1 a2 c3 n))) := rfl
    rw [hs] at h
    clear hs
    generalize s_X9_pullOf_280_5 M a1 a2 c3 n = sg at *
    refine it_X9_pullOf_280_5 M a1 a2 (nI n) sg hcn p1n ?_
    rw [nI_1]
    exact h
def f_X9_pullOf_280 (M : Nat → Nat → Int32) (a1 : Int32) (a2 : Int32) : Int32 := ((s_X9_pullOf_280_5 M a1 a2 ((0 : Int32)) ((M 280 10).toNatClampNeg)))
def q_X9_pullOf_280 (M : Nat → Nat → Int32) (a1 : Int32) (a2 : Int32) : Prop := (∀ k55, k55 < (M 280 10).toNatClampNeg → qi_X9_pullOf_280_5 M a1 a2 (nI k55) ((s_X9_pullOf_280_5 M a1 a2 ((0 : Int32)) k55))) ∧ True
theorem c_X9_pullOf_280 {d : Nat} {L : Nat → Nat → Int64} (M : Nat → Nat → Int32) (a1 : Int32) (a2 : Int32)  (hpre : q_X9_pullOf_280 M a1 a2) : z_C (d + 2) 128 [.ref 280, .int a1, .int a2] (z_SH, M, L) (some (.int (f_X9_pullOf_280 M a1 a2))) (z_SH, M, L) := by
  unfold q_X9_pullOf_280 at hpre
  obtain ⟨p1, -⟩ := hpre
  refine z_mkA (tb := tb_X9_pullOf) rfl (by decide) rfl rfl rfl ?_
  refine g_k 4 (pc' := 5) (LI' := [some (.ref 280), some (.int a1), some (.int a2), some (.int 0), some (.int 0)]) (LL' := []) (st' := []) (S' := (z_SH, M, L)) (fun nq hq => And.intro rfl (And.intro rfl (And.intro rfl (And.intro rfl hq)))) ?_
  refine l_X9_pullOf_280_5 (d := d) M a1 a2 ((0 : Int32)) ((M 280 10).toNatClampNeg) (fun k hk => z_lpc hk) p1 ?_ 
  have hx1 : M 280 10 ≤ nI ((M 280 10).toNatClampNeg) := z_lpe
  generalize hg1 : (s_X9_pullOf_280_5 M a1 a2 ((0 : Int32)) ((M 280 10).toNatClampNeg)) = r1 at *
  generalize hg2 : nI ((M 280 10).toNatClampNeg) = r2 at *
  refine g_k 5 (pc' := (if z_cmp .ge r2 (M 280 10) = true then 83 else 14)) (LI' := [some (.ref 280), some (.int a1), some (.int a2), some (.int r1), some (.int r2)]) (LL' := []) (st' := []) (S' := (z_SH, M, L)) (fun nq hq => And.intro rfl (And.intro rfl (And.intro rfl (And.intro rfl (And.intro rfl hq))))) ?_
  refine g_ge (fun hc1 => ?_) (fun hc1 => absurd (hx1) hc1)
  refine g_k 1 (pc' := 84) (LI' := [some (.ref 280), some (.int a1), some (.int a2), some (.int r1), some (.int r2)]) (LL' := []) (st' := [.int r1]) (S' := (z_SH, M, L)) (fun nq hq => And.intro rfl hq) ?_
  exact ⟨1, And.intro rfl (⟨(by subst hg2; subst hg1; rfl), rfl⟩)⟩
def e_X9_notchesOf_280_4_c2 (M : Nat → Nat → Int32) (a1 : Int32) (i : Int32) (c2 : Int32) : Int32 := if (f_X9_holds_280 M i) = (0 : Int32) then c2 + ((0 : Int32)) else if ¬ M 280 ((((11 : Int32)) + i).toNatClampNeg) = a1 then c2 + ((0 : Int32)) else c2 + (M 280 ((((47 : Int32)) + i).toNatClampNeg))
def qi_X9_notchesOf_280_4 (M : Nat → Nat → Int32) (a1 : Int32) (i : Int32) (c2 : Int32) : Prop := (q_X9_holds_280 M i) ∧ ((¬ ((f_X9_holds_280 M i) = (0 : Int32))) → (z_vin (((11 : Int32)) + i) 83 = true)) ∧ ((¬ ((f_X9_holds_280 M i) = (0 : Int32))) → (M 280 ((((11 : Int32)) + i).toNatClampNeg) = a1) → (z_vin (((47 : Int32)) + i) 83 = true)) ∧ True
theorem it_X9_notchesOf_280_4 {d : Nat} {L : Nat → Nat → Int64} {Q : Option Value → z_St → Prop} (M : Nat → Nat → Int32) (a1 : Int32) (i : Int32) (c2 : Int32) (hc : ¬ (M 280 10 ≤ i)) (p1 : qi_X9_notchesOf_280_4 M a1 i c2) (h : z_G (d + 1) tb_X9_notchesOf 4 [some (.ref 280), some (.int a1), some (.int (e_X9_notchesOf_280_4_c2 M a1 i c2)), some (.int (i + 1))] [] [] (z_SH, M, L) Q) : z_G (d + 1) tb_X9_notchesOf 4 [some (.ref 280), some (.int a1), some (.int c2), some (.int i)] [] [] (z_SH, M, L) Q := by
  unfold qi_X9_notchesOf_280_4 at p1
  obtain ⟨p1, p2, p3, -⟩ := p1
  refine g_k 5 (pc' := (if z_cmp .ge i (M 280 10) = true then 49 else 12)) (LI' := [some (.ref 280), some (.int a1), some (.int c2), some (.int i)]) (LL' := []) (st' := []) (S' := (z_SH, M, L)) (fun nq hq => And.intro rfl (And.intro rfl (And.intro rfl (And.intro rfl (And.intro rfl hq))))) ?_
  refine g_ge (fun hc1 => ?_) (fun hc1 => ?_)
  · exact absurd hc1 hc
  · refine g_k 3 (pc' := 15) (LI' := [some (.ref 280), some (.int a1), some (.int c2), some (.int i)]) (LL' := []) (st' := [.int i, .ref 280, .int c2]) (S' := (z_SH, M, L)) (fun nq hq => And.intro rfl (And.intro rfl (And.intro rfl hq))) ?_
    refine g_k 1 (pc' := 18) (LI' := [some (.ref 280), some (.int a1), some (.int c2), some (.int i)]) (LL' := []) (st' := [.int (f_X9_holds_280 M i), .int c2]) (S' := (z_SH, M, L)) (fun nq hq => And.intro rfl (Exists.intro _ (Exists.intro _ (And.intro (c_X9_holds_280 (d := d) M i p1) (And.intro (z_fit_same _ _ _ _ _ _ _ _) hq))))) ?_
    generalize hg1 : f_X9_holds_280 M i = r1 at *
    refine g_k 1 (pc' := (if z_cmp .eq r1 ((0 : Int32)) = true then 40 else 21)) (LI' := [some (.ref 280), some (.int a1), some (.int c2), some (.int i)]) (LL' := []) (st' := [.int c2]) (S' := (z_SH, M, L)) (fun nq hq => And.intro rfl hq) ?_
    refine g_eq (fun hc2 => ?_) (fun hc2 => ?_)
    · refine g_k 5 (pc' := 4) (LI' := [some (.ref 280), some (.int a1), some (.int (c2 + ((0 : Int32)))), some (.int (i + 1))]) (LL' := []) (st' := []) (S' := (z_SH, M, L)) (fun nq hq => And.intro rfl (And.intro rfl (And.intro rfl (And.intro rfl (And.intro rfl hq))))) ?_
      (subst hg1; unfold e_X9_notchesOf_280_4_c2 at h; (try simp only [if_pos hc2] at h); exact h )
    · refine g_k 7 (pc' := (if z_cmp .ne (M 280 ((((11 : Int32)) + i).toNatClampNeg)) a1 = true then 40 else 31)) (LI' := [some (.ref 280), some (.int a1), some (.int c2), some (.int i)]) (LL' := []) (st' := [.int c2]) (S' := (z_SH, M, L)) (fun nq hq => And.intro rfl (And.intro rfl (And.intro rfl (And.intro rfl (And.intro (p2 hc2) (And.intro rfl (And.intro rfl hq))))))) ?_
      refine g_ne (fun hc3 => ?_) (fun hc3 => ?_)
      · refine g_k 5 (pc' := 4) (LI' := [some (.ref 280), some (.int a1), some (.int (c2 + ((0 : Int32)))), some (.int (i + 1))]) (LL' := []) (st' := []) (S' := (z_SH, M, L)) (fun nq hq => And.intro rfl (And.intro rfl (And.intro rfl (And.intro rfl (And.intro rfl hq))))) ?_
        (subst hg1; unfold e_X9_notchesOf_280_4_c2 at h; (try simp only [if_neg hc2] at h); (try simp only [if_pos hc3] at h); exact h )
      · refine g_k 9 (pc' := 46) (LI' := [some (.ref 280), some (.int a1), some (.int (c2 + (M 280 ((((47 : Int32)) + i).toNatClampNeg)))), some (.int (i + 1))]) (LL' := []) (st' := []) (S' := (z_SH, M, L)) (fun nq hq => And.intro rfl (And.intro rfl (And.intro rfl (And.intro rfl (And.intro (p3 hc2 hc3) (And.intro rfl (And.intro rfl (And.intro rfl (And.intro rfl hq))))))))) ?_
        refine g_k 1 (pc' := 4) (LI' := [some (.ref 280), some (.int a1), some (.int (c2 + (M 280 ((((47 : Int32)) + i).toNatClampNeg)))), some (.int (i + 1))]) (LL' := []) (st' := []) (S' := (z_SH, M, L)) (fun nq hq => And.intro rfl hq) ?_
        (subst hg1; unfold e_X9_notchesOf_280_4_c2 at h; (try simp only [if_neg hc2] at h); (try simp only [if_neg (not_not_intro hc3)] at h); exact h )
def s_X9_notchesOf_280_4 (M : Nat → Nat → Int32) (a1 : Int32) (c2 : Int32) (n : Nat) : Int32 := Nat.rec (motive := fun _ => Int32) (c2) (fun k r => (e_X9_notchesOf_280_4_c2 M a1 (nI k) r)) n
theorem l_X9_notchesOf_280_4 {d : Nat} {L : Nat → Nat → Int64} {Q : Option Value → z_St → Prop} (M : Nat → Nat → Int32) (a1 : Int32) (c2 : Int32) (n : Nat) : (∀ k, k < n → ¬ (M 280 10 ≤ (nI k))) → (∀ k, k < n → qi_X9_notchesOf_280_4 M a1 (nI k) ((s_X9_notchesOf_280_4 M a1 c2 k))) → (z_G (d + 1) tb_X9_notchesOf 4 [some (.ref 280), some (.int a1), some (.int ((s_X9_notchesOf_280_4 M a1 c2 n))), some (.int (nI n))] [] [] (z_SH, M, L) Q) → z_G (d + 1) tb_X9_notchesOf 4 [some (.ref 280), some (.int a1), some (.int c2), some (.int (nI 0))] [] [] (z_SH, M, L) Q := by
  induction n with
  | zero =>
    intro hc p1 h
    exact h
  | succ n ih =>
    intro hc p1 h
    refine ih (fun k hk => hc k (by omega)) (fun k hk => p1 k (by omega)) ?_
    have hcn := hc n (by omega)
    have p1n := p1 n (by omega)
    clear ih hc p1
    have hs : s_X9_notchesOf_280_4 M a1 c2 (n + 1) = (e_X9_notchesOf_280_4_c2 M a1 (nI n) ((s_X9_notchesOf_280_4 M a1 c2 n))) := rfl
    rw [hs] at h
    clear hs
    generalize s_X9_notchesOf_280_4 M a1 c2 n = sg at *
    refine it_X9_notchesOf_280_4 M a1 (nI n) sg hcn p1n ?_
    rw [nI_1]
    exact h
def f_X9_notchesOf_280 (M : Nat → Nat → Int32) (a1 : Int32) : Int32 := ((s_X9_notchesOf_280_4 M a1 ((0 : Int32)) ((M 280 10).toNatClampNeg)))
def q_X9_notchesOf_280 (M : Nat → Nat → Int32) (a1 : Int32) : Prop := (∀ k56, k56 < (M 280 10).toNatClampNeg → qi_X9_notchesOf_280_4 M a1 (nI k56) ((s_X9_notchesOf_280_4 M a1 ((0 : Int32)) k56))) ∧ True
theorem c_X9_notchesOf_280 {d : Nat} {L : Nat → Nat → Int64} (M : Nat → Nat → Int32) (a1 : Int32)  (hpre : q_X9_notchesOf_280 M a1) : z_C (d + 2) 129 [.ref 280, .int a1] (z_SH, M, L) (some (.int (f_X9_notchesOf_280 M a1))) (z_SH, M, L) := by
  unfold q_X9_notchesOf_280 at hpre
  obtain ⟨p1, -⟩ := hpre
  refine z_mkA (tb := tb_X9_notchesOf) rfl (by decide) rfl rfl rfl ?_
  refine g_k 4 (pc' := 4) (LI' := [some (.ref 280), some (.int a1), some (.int 0), some (.int 0)]) (LL' := []) (st' := []) (S' := (z_SH, M, L)) (fun nq hq => And.intro rfl (And.intro rfl (And.intro rfl (And.intro rfl hq)))) ?_
  refine l_X9_notchesOf_280_4 (d := d) M a1 ((0 : Int32)) ((M 280 10).toNatClampNeg) (fun k hk => z_lpc hk) p1 ?_ 
  have hx1 : M 280 10 ≤ nI ((M 280 10).toNatClampNeg) := z_lpe
  generalize hg1 : (s_X9_notchesOf_280_4 M a1 ((0 : Int32)) ((M 280 10).toNatClampNeg)) = r1 at *
  generalize hg2 : nI ((M 280 10).toNatClampNeg) = r2 at *
  refine g_k 5 (pc' := (if z_cmp .ge r2 (M 280 10) = true then 49 else 12)) (LI' := [some (.ref 280), some (.int a1), some (.int r1), some (.int r2)]) (LL' := []) (st' := []) (S' := (z_SH, M, L)) (fun nq hq => And.intro rfl (And.intro rfl (And.intro rfl (And.intro rfl (And.intro rfl hq))))) ?_
  refine g_ge (fun hc1 => ?_) (fun hc1 => absurd (hx1) hc1)
  refine g_k 1 (pc' := 50) (LI' := [some (.ref 280), some (.int a1), some (.int r1), some (.int r2)]) (LL' := []) (st' := [.int r1]) (S' := (z_SH, M, L)) (fun nq hq => And.intro rfl hq) ?_
  exact ⟨1, And.intro rfl (⟨(by subst hg2; subst hg1; rfl), rfl⟩)⟩
def f_X9_hangs_280 (M : Nat → Nat → Int32) (a1 : Int32) : Int32 := if (f_X9_notchesOf_280 M a1) ≤ M 280 ((((4 : Int32)) + a1).toNatClampNeg) then (0 : Int32) else (1 : Int32)
theorem b_X9_hangs_280 (M : Nat → Nat → Int32) (a1 : Int32) : f_X9_hangs_280 M a1 = 0 ∨ f_X9_hangs_280 M a1 = 1 := by
  unfold f_X9_hangs_280
  repeat' split
  all_goals first | exact Or.inl rfl | exact Or.inr rfl
def q_X9_hangs_280 (M : Nat → Nat → Int32) (a1 : Int32) : Prop := (q_X9_notchesOf_280 M a1) ∧ (z_vin (((4 : Int32)) + a1) 83 = true) ∧ True
theorem c_X9_hangs_280 {d : Nat} {L : Nat → Nat → Int64} (M : Nat → Nat → Int32) (a1 : Int32)  (hpre : q_X9_hangs_280 M a1) : z_C (d + 3) 130 [.ref 280, .int a1] (z_SH, M, L) (some (.int (f_X9_hangs_280 M a1))) (z_SH, M, L) := by
  unfold q_X9_hangs_280 at hpre
  obtain ⟨p1, p2, -⟩ := hpre
  refine z_mkA (tb := tb_X9_hangs) rfl (by decide) rfl rfl rfl ?_
  refine g_k 2 (pc' := 2) (LI' := [some (.ref 280), some (.int a1)]) (LL' := []) (st' := [.int a1, .ref 280]) (S' := (z_SH, M, L)) (fun nq hq => And.intro rfl (And.intro rfl hq)) ?_
  refine g_k 1 (pc' := 5) (LI' := [some (.ref 280), some (.int a1)]) (LL' := []) (st' := [.int (f_X9_notchesOf_280 M a1)]) (S' := (z_SH, M, L)) (fun nq hq => And.intro rfl (Exists.intro _ (Exists.intro _ (And.intro (c_X9_notchesOf_280 (d := d) M a1 p1) (And.intro (z_fit_same _ _ _ _ _ _ _ _) hq))))) ?_
  generalize hg1 : f_X9_notchesOf_280 M a1 = r1 at *
  refine g_k 6 (pc' := (if z_cmp .le r1 (M 280 ((((4 : Int32)) + a1).toNatClampNeg)) = true then 17 else 13)) (LI' := [some (.ref 280), some (.int a1)]) (LL' := []) (st' := []) (S' := (z_SH, M, L)) (fun nq hq => And.intro rfl (And.intro rfl (And.intro rfl (And.intro rfl (And.intro p2 (And.intro rfl hq)))))) ?_
  refine g_le (fun hc1 => ?_) (fun hc1 => ?_)
  · refine g_k 1 (pc' := 18) (LI' := [some (.ref 280), some (.int a1)]) (LL' := []) (st' := [.int 0]) (S' := (z_SH, M, L)) (fun nq hq => And.intro rfl hq) ?_
    exact ⟨1, And.intro rfl (⟨(by subst hg1; unfold f_X9_hangs_280; (first | rw [if_pos hc1] | skip); try rfl), rfl⟩)⟩
  · refine g_k 2 (pc' := 18) (LI' := [some (.ref 280), some (.int a1)]) (LL' := []) (st' := [.int 1]) (S' := (z_SH, M, L)) (fun nq hq => And.intro rfl (And.intro rfl hq)) ?_
    exact ⟨1, And.intro rfl (⟨(by subst hg1; unfold f_X9_hangs_280; (first | rw [if_neg hc1] | skip); try rfl), rfl⟩)⟩
def f_X9_goesOf_274_280 (M : Nat → Nat → Int32) (m : Int32) (t : Int32) : Int32 := if (f_X9_pullOf_280 M m t) ≤ (0 : Int32) then if (0 : Int32) ≤ (f_X9_pullOf_280 M m t) then if (f_X9_hangs_280 M m) = (0 : Int32) then (f_X9_wouldOf_274 M m t) else (2 : Int32) else (0 : Int32) else (1 : Int32)
def q_X9_goesOf_274_280 (M : Nat → Nat → Int32) (m : Int32) (t : Int32) : Prop := (q_X9_pullOf_280 M m t) ∧ (((f_X9_pullOf_280 M m t) ≤ (0 : Int32)) → ((0 : Int32) ≤ (f_X9_pullOf_280 M m t)) → (q_X9_hangs_280 M m)) ∧ (((f_X9_pullOf_280 M m t) ≤ (0 : Int32)) → ((0 : Int32) ≤ (f_X9_pullOf_280 M m t)) → ((f_X9_hangs_280 M m) = (0 : Int32)) → (q_X9_wouldOf_274 M m t)) ∧ True
theorem c_X9_goesOf_274_280 {d : Nat} {L : Nat → Nat → Int64} (M : Nat → Nat → Int32) (m : Int32) (t : Int32)  (hpre : q_X9_goesOf_274_280 M m t) : z_C (d + 4) 132 [.ref 274, .ref 280, .int m, .int t] (z_SH, M, L) (some (.int (f_X9_goesOf_274_280 M m t))) (z_SH, M, L) := by
  unfold q_X9_goesOf_274_280 at hpre
  obtain ⟨p1, p2, p3, -⟩ := hpre
  refine z_mkA (tb := tb_X9_goesOf) rfl (by decide) rfl rfl rfl ?_
  refine g_k 3 (pc' := 3) (LI' := [some (.ref 274), some (.ref 280), some (.int m), some (.int t), none]) (LL' := []) (st' := [.int t, .int m, .ref 280]) (S' := (z_SH, M, L)) (fun nq hq => And.intro rfl (And.intro rfl (And.intro rfl hq))) ?_
  refine g_k 1 (pc' := 6) (LI' := [some (.ref 274), some (.ref 280), some (.int m), some (.int t), none]) (LL' := []) (st' := [.int (f_X9_pullOf_280 M m t)]) (S' := (z_SH, M, L)) (fun nq hq => And.intro rfl (Exists.intro _ (Exists.intro _ (And.intro (c_X9_pullOf_280 (d := d + 1) M m t p1) (And.intro (z_fit_same _ _ _ _ _ _ _ _) hq))))) ?_
  generalize hg1 : f_X9_pullOf_280 M m t = r1 at *
  refine g_k 3 (pc' := (if z_cmp .le r1 ((0 : Int32)) = true then 17 else 13)) (LI' := [some (.ref 274), some (.ref 280), some (.int m), some (.int t), some (.int r1)]) (LL' := []) (st' := []) (S' := (z_SH, M, L)) (fun nq hq => And.intro rfl (And.intro rfl (And.intro rfl hq))) ?_
  refine g_le (fun hc1 => ?_) (fun hc1 => ?_)
  · refine g_k 2 (pc' := (if z_cmp .ge r1 ((0 : Int32)) = true then 26 else 22)) (LI' := [some (.ref 274), some (.ref 280), some (.int m), some (.int t), some (.int r1)]) (LL' := []) (st' := []) (S' := (z_SH, M, L)) (fun nq hq => And.intro rfl (And.intro rfl hq)) ?_
    refine g_ge (fun hc2 => ?_) (fun hc2 => ?_)
    · refine g_k 2 (pc' := 28) (LI' := [some (.ref 274), some (.ref 280), some (.int m), some (.int t), some (.int r1)]) (LL' := []) (st' := [.int m, .ref 280]) (S' := (z_SH, M, L)) (fun nq hq => And.intro rfl (And.intro rfl hq)) ?_
      refine g_k 1 (pc' := 31) (LI' := [some (.ref 274), some (.ref 280), some (.int m), some (.int t), some (.int r1)]) (LL' := []) (st' := [.int (f_X9_hangs_280 M m)]) (S' := (z_SH, M, L)) (fun nq hq => And.intro rfl (Exists.intro _ (Exists.intro _ (And.intro (c_X9_hangs_280 (d := d) M m (p2 hc1 hc2)) (And.intro (z_fit_same _ _ _ _ _ _ _ _) hq))))) ?_
      generalize hg2 : f_X9_hangs_280 M m = r2 at *
      refine g_k 1 (pc' := (if z_cmp .eq r2 ((0 : Int32)) = true then 38 else 34)) (LI' := [some (.ref 274), some (.ref 280), some (.int m), some (.int t), some (.int r1)]) (LL' := []) (st' := []) (S' := (z_SH, M, L)) (fun nq hq => And.intro rfl hq) ?_
      refine g_eq (fun hc3 => ?_) (fun hc3 => ?_)
      · refine g_k 3 (pc' := 41) (LI' := [some (.ref 274), some (.ref 280), some (.int m), some (.int t), some (.int r1)]) (LL' := []) (st' := [.int t, .int m, .ref 274]) (S' := (z_SH, M, L)) (fun nq hq => And.intro rfl (And.intro rfl (And.intro rfl hq))) ?_
        refine g_k 1 (pc' := 44) (LI' := [some (.ref 274), some (.ref 280), some (.int m), some (.int t), some (.int r1)]) (LL' := []) (st' := [.int (f_X9_wouldOf_274 M m t)]) (S' := (z_SH, M, L)) (fun nq hq => And.intro rfl (Exists.intro _ (Exists.intro _ (And.intro (c_X9_wouldOf_274 (d := d + 1) M m t (p3 hc1 hc2 hc3)) (And.intro (z_fit_same _ _ _ _ _ _ _ _) hq))))) ?_
        generalize hg3 : f_X9_wouldOf_274 M m t = r3 at *
        exact ⟨1, And.intro rfl (⟨(by subst hg3; subst hg2; subst hg1; unfold f_X9_goesOf_274_280; (first | rw [if_pos hc1] | skip); (first | rw [if_pos hc2] | skip); (first | rw [if_pos hc3] | skip); try rfl), rfl⟩)⟩
      · refine g_k 2 (pc' := 44) (LI' := [some (.ref 274), some (.ref 280), some (.int m), some (.int t), some (.int r1)]) (LL' := []) (st' := [.int 2]) (S' := (z_SH, M, L)) (fun nq hq => And.intro rfl (And.intro rfl hq)) ?_
        exact ⟨1, And.intro rfl (⟨(by subst hg2; subst hg1; unfold f_X9_goesOf_274_280; (first | rw [if_pos hc1] | skip); (first | rw [if_pos hc2] | skip); (first | rw [if_neg hc3] | skip); try rfl), rfl⟩)⟩
    · refine g_k 2 (pc' := 44) (LI' := [some (.ref 274), some (.ref 280), some (.int m), some (.int t), some (.int r1)]) (LL' := []) (st' := [.int 0]) (S' := (z_SH, M, L)) (fun nq hq => And.intro rfl (And.intro rfl hq)) ?_
      exact ⟨1, And.intro rfl (⟨(by subst hg1; unfold f_X9_goesOf_274_280; (first | rw [if_pos hc1] | skip); (first | rw [if_neg hc2] | skip); try rfl), rfl⟩)⟩
  · refine g_k 2 (pc' := 44) (LI' := [some (.ref 274), some (.ref 280), some (.int m), some (.int t), some (.int r1)]) (LL' := []) (st' := [.int 1]) (S' := (z_SH, M, L)) (fun nq hq => And.intro rfl (And.intro rfl hq)) ?_
    exact ⟨1, And.intro rfl (⟨(by subst hg1; unfold f_X9_goesOf_274_280; (first | rw [if_neg hc1] | skip); try rfl), rfl⟩)⟩
