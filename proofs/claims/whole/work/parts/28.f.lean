theorem g_swo {d : Nat} {tb : List (Option z_Ent)} {Q : Option Value → z_St → Prop} {pc : Nat} {LI : List (Option Value)} {LL : List (Option Int64)} {st : List Value} {S : z_St} {x : Int32} {df lo hi : Int} {offs : Array Int} (h : x.toInt < lo ∨ hi < x.toInt) (k : z_G d tb (z_jmp pc df) LI LL st S Q) : z_G d tb (z_jmp pc (z_sw df lo hi offs x)) LI LL st S Q := by
  rw [show z_sw df lo hi offs x = df from if_pos h]
  exact k
def f_X8_told_wout (M : Nat → Nat → Int32) (w : Int32) : Int32 := (-1000000002 : Int32)
theorem c_X8_told_wout {d : Nat} {L : Nat → Nat → Int64} (M : Nat → Nat → Int32) (w : Int32) (hsw : w.toInt < 0 ∨ 14 < w.toInt)  : z_C (d + 1) 79 [.ref 0, .int w] (z_SH, M, L) (some (.int (f_X8_told_wout M w))) (z_SH, M, L) := by
  refine z_mkA (tb := tb_X8_told) rfl (by decide) rfl rfl rfl ?_
  refine g_k 2 (pc' := (z_jmp 1 (z_sw (210) (0) (14) #[75, 83, 91, 102, 107, 118, 129, 140, 151, 162, 170, 178, 186, 194, 202] w))) (LI' := [some (.ref 0), some (.int w)]) (LL' := []) (st' := []) (S' := (z_SH, M, L)) (fun nq hq => And.intro rfl (And.intro rfl hq)) ?_
  refine g_swo hsw ?_
  refine g_k 1 (pc' := 213) (LI' := [some (.ref 0), some (.int w)]) (LL' := []) (st' := [.int (-1000000002)]) (S' := (z_SH, M, L)) (fun nq hq => And.intro rfl hq) ?_
  exact ⟨1, And.intro rfl (⟨rfl, rfl⟩)⟩
def f_X9_told_wout (M : Nat → Nat → Int32) (w : Int32) : Int32 := (-1000000002 : Int32)
theorem c_X9_told_wout {d : Nat} {L : Nat → Nat → Int64} (M : Nat → Nat → Int32) (w : Int32) (hsw : w.toInt < 0 ∨ 14 < w.toInt)  : z_C (d + 1) 144 [.ref 274, .int w] (z_SH, M, L) (some (.int (f_X9_told_wout M w))) (z_SH, M, L) := by
  refine z_mkA (tb := tb_X9_told) rfl (by decide) rfl rfl rfl ?_
  refine g_k 2 (pc' := (z_jmp 1 (z_sw (148) (0) (14) #[75, 80, 85, 93, 98, 98, 98, 98, 109, 118, 123, 128, 133, 138, 143] w))) (LI' := [some (.ref 274), some (.int w)]) (LL' := []) (st' := []) (S' := (z_SH, M, L)) (fun nq hq => And.intro rfl (And.intro rfl hq)) ?_
  refine g_swo hsw ?_
  refine g_k 1 (pc' := 151) (LI' := [some (.ref 274), some (.int w)]) (LL' := []) (st' := [.int (-1000000002)]) (S' := (z_SH, M, L)) (fun nq hq => And.intro rfl hq) ?_
  exact ⟨1, And.intro rfl (⟨rfl, rfl⟩)⟩
def f_X8_member_wout (M : Nat → Nat → Int32) (m : Int32) (w : Int32) : Int32 := if (f_X8_isOutside M m (M 15 1)) = (0 : Int32) then (-1000000002 : Int32) else (-1000000001 : Int32)
theorem c_X8_member_wout {d : Nat} {L : Nat → Nat → Int64} (M : Nat → Nat → Int32) (m : Int32) (w : Int32) (hsw : w.toInt < 0 ∨ 7 < w.toInt)  : z_C (d + 2) 80 [.ref 0, .int m, .int w] (z_SH, M, L) (some (.int (f_X8_member_wout M m w))) (z_SH, M, L) := by
  refine z_mkA (tb := tb_X8_member) rfl (by decide) rfl rfl rfl ?_
  refine g_k 4 (pc' := 8) (LI' := [some (.ref 0), some (.int m), some (.int w)]) (LL' := []) (st' := [.int (M 15 1), .int m]) (S' := (z_SH, M, L)) (fun nq hq => And.intro rfl (And.intro rfl (And.intro rfl (And.intro rfl hq)))) ?_
  refine g_k 1 (pc' := 11) (LI' := [some (.ref 0), some (.int m), some (.int w)]) (LL' := []) (st' := [.int (f_X8_isOutside M m (M 15 1))]) (S' := (z_SH, M, L)) (fun nq hq => And.intro rfl (Exists.intro _ (Exists.intro _ (And.intro (c_X8_isOutside (d := d) M m (M 15 1)) (And.intro (z_fit_same _ _ _ _ _ _ _ _) hq))))) ?_
  generalize hg1 : f_X8_isOutside M m (M 15 1) = r1 at *
  refine g_k 1 (pc' := (if z_cmp .eq r1 ((0 : Int32)) = true then 17 else 14)) (LI' := [some (.ref 0), some (.int m), some (.int w)]) (LL' := []) (st' := []) (S' := (z_SH, M, L)) (fun nq hq => And.intro rfl hq) ?_
  refine g_eq (fun hc1 => ?_) (fun hc1 => ?_)
  · refine g_k 2 (pc' := (z_jmp 18 (z_sw (134) (0) (7) #[46, 56, 66, 79, 89, 101, 110, 122] w))) (LI' := [some (.ref 0), some (.int m), some (.int w)]) (LL' := []) (st' := []) (S' := (z_SH, M, L)) (fun nq hq => And.intro rfl (And.intro rfl hq)) ?_
    refine g_swo hsw ?_
    refine g_k 1 (pc' := 154) (LI' := [some (.ref 0), some (.int m), some (.int w)]) (LL' := []) (st' := [.int (-1000000002)]) (S' := (z_SH, M, L)) (fun nq hq => And.intro rfl hq) ?_
    exact ⟨1, And.intro rfl (⟨(by subst hg1; unfold f_X8_member_wout; (first | rw [if_pos hc1] | skip); try rfl), rfl⟩)⟩
  · refine g_k 1 (pc' := 16) (LI' := [some (.ref 0), some (.int m), some (.int w)]) (LL' := []) (st' := [.int (-1000000001)]) (S' := (z_SH, M, L)) (fun nq hq => And.intro rfl hq) ?_
    exact ⟨1, And.intro rfl (⟨(by subst hg1; unfold f_X8_member_wout; (first | rw [if_neg hc1] | skip); try rfl), rfl⟩)⟩
def f_X9_member_wout (M : Nat → Nat → Int32) (m : Int32) (w : Int32) : Int32 := if ¬ (f_X9_isMember_274 M m) = (0 : Int32) then (-1000000002 : Int32) else (-1000000001 : Int32)
theorem c_X9_member_wout {d : Nat} {L : Nat → Nat → Int64} (M : Nat → Nat → Int32) (m : Int32) (w : Int32) (hsw : w.toInt < 0 ∨ 7 < w.toInt)  : z_C (d + 3) 148 [.ref 274, .int m, .int w] (z_SH, M, L) (some (.int (f_X9_member_wout M m w))) (z_SH, M, L) := by
  refine z_mkA (tb := tb_X9_member) rfl (by decide) rfl rfl rfl ?_
  refine g_k 2 (pc' := 2) (LI' := [some (.ref 274), some (.int m), some (.int w)]) (LL' := []) (st' := [.int m, .ref 274]) (S' := (z_SH, M, L)) (fun nq hq => And.intro rfl (And.intro rfl hq)) ?_
  refine g_k 1 (pc' := 5) (LI' := [some (.ref 274), some (.int m), some (.int w)]) (LL' := []) (st' := [.int (f_X9_isMember_274 M m)]) (S' := (z_SH, M, L)) (fun nq hq => And.intro rfl (Exists.intro _ (Exists.intro _ (And.intro (c_X9_isMember_274 (d := d) M m) (And.intro (z_fit_same _ _ _ _ _ _ _ _) hq))))) ?_
  generalize hg1 : f_X9_isMember_274 M m = r1 at *
  refine g_k 1 (pc' := (if z_cmp .ne r1 ((0 : Int32)) = true then 11 else 8)) (LI' := [some (.ref 274), some (.int m), some (.int w)]) (LL' := []) (st' := []) (S' := (z_SH, M, L)) (fun nq hq => And.intro rfl hq) ?_
  refine g_ne (fun hc1 => ?_) (fun hc1 => ?_)
  · refine g_k 2 (pc' := (z_jmp 12 (z_sw (112) (0) (7) #[48, 55, 62, 71, 78, 87, 93, 106] w))) (LI' := [some (.ref 274), some (.int m), some (.int w)]) (LL' := []) (st' := []) (S' := (z_SH, M, L)) (fun nq hq => And.intro rfl (And.intro rfl hq)) ?_
    refine g_swo hsw ?_
    refine g_k 1 (pc' := 126) (LI' := [some (.ref 274), some (.int m), some (.int w)]) (LL' := []) (st' := [.int (-1000000002)]) (S' := (z_SH, M, L)) (fun nq hq => And.intro rfl hq) ?_
    exact ⟨1, And.intro rfl (⟨(by subst hg1; unfold f_X9_member_wout; (first | rw [if_pos hc1] | skip); try rfl), rfl⟩)⟩
  · refine g_k 1 (pc' := 10) (LI' := [some (.ref 274), some (.int m), some (.int w)]) (LL' := []) (st' := [.int (-1000000001)]) (S' := (z_SH, M, L)) (fun nq hq => And.intro rfl hq) ?_
    exact ⟨1, And.intro rfl (⟨(by subst hg1; unfold f_X9_member_wout; (first | rw [if_neg (not_not_intro hc1)] | skip); try rfl), rfl⟩)⟩
def f_X8_strap_wout (M : Nat → Nat → Int32) (s : Int32) (w : Int32) : Int32 := if (f_X8_isOutside M s (M 20 1)) = (0 : Int32) then (-1000000002 : Int32) else (-1000000001 : Int32)
theorem c_X8_strap_wout {d : Nat} {L : Nat → Nat → Int64} (M : Nat → Nat → Int32) (s : Int32) (w : Int32) (hsw : w.toInt < 0 ∨ 5 < w.toInt)  : z_C (d + 2) 81 [.ref 0, .int s, .int w] (z_SH, M, L) (some (.int (f_X8_strap_wout M s w))) (z_SH, M, L) := by
  refine z_mkA (tb := tb_X8_strap) rfl (by decide) rfl rfl rfl ?_
  refine g_k 5 (pc' := 11) (LI' := [some (.ref 0), some (.int s), some (.int w)]) (LL' := []) (st' := [.int (M 20 1), .int s]) (S' := (z_SH, M, L)) (fun nq hq => And.intro rfl (And.intro rfl (And.intro rfl (And.intro rfl (And.intro rfl hq))))) ?_
  refine g_k 1 (pc' := 14) (LI' := [some (.ref 0), some (.int s), some (.int w)]) (LL' := []) (st' := [.int (f_X8_isOutside M s (M 20 1))]) (S' := (z_SH, M, L)) (fun nq hq => And.intro rfl (Exists.intro _ (Exists.intro _ (And.intro (c_X8_isOutside (d := d) M s (M 20 1)) (And.intro (z_fit_same _ _ _ _ _ _ _ _) hq))))) ?_
  generalize hg1 : f_X8_isOutside M s (M 20 1) = r1 at *
  refine g_k 1 (pc' := (if z_cmp .eq r1 ((0 : Int32)) = true then 20 else 17)) (LI' := [some (.ref 0), some (.int s), some (.int w)]) (LL' := []) (st' := []) (S' := (z_SH, M, L)) (fun nq hq => And.intro rfl hq) ?_
  refine g_eq (fun hc1 => ?_) (fun hc1 => ?_)
  · refine g_k 2 (pc' := (z_jmp 21 (z_sw (117) (0) (5) #[39, 52, 65, 78, 91, 104] w))) (LI' := [some (.ref 0), some (.int s), some (.int w)]) (LL' := []) (st' := []) (S' := (z_SH, M, L)) (fun nq hq => And.intro rfl (And.intro rfl hq)) ?_
    refine g_swo hsw ?_
    refine g_k 1 (pc' := 140) (LI' := [some (.ref 0), some (.int s), some (.int w)]) (LL' := []) (st' := [.int (-1000000002)]) (S' := (z_SH, M, L)) (fun nq hq => And.intro rfl hq) ?_
    exact ⟨1, And.intro rfl (⟨(by subst hg1; unfold f_X8_strap_wout; (first | rw [if_pos hc1] | skip); try rfl), rfl⟩)⟩
  · refine g_k 1 (pc' := 19) (LI' := [some (.ref 0), some (.int s), some (.int w)]) (LL' := []) (st' := [.int (-1000000001)]) (S' := (z_SH, M, L)) (fun nq hq => And.intro rfl hq) ?_
    exact ⟨1, And.intro rfl (⟨(by subst hg1; unfold f_X8_strap_wout; (first | rw [if_neg hc1] | skip); try rfl), rfl⟩)⟩
def f_X8_matter_wout (M : Nat → Nat → Int32) (t : Int32) (w : Int32) : Int32 := (-1000000002 : Int32)
theorem c_X8_matter_wout {d : Nat} {L : Nat → Nat → Int64} (M : Nat → Nat → Int32) (t : Int32) (w : Int32) (hsw : w.toInt < 0 ∨ 4 < w.toInt)  : z_C (d + 2) 90 [.ref 0, .int t, .int w] (z_SH, M, L) (some (.int (f_X8_matter_wout M t w))) (z_SH, M, L) := by
  refine z_mkA (tb := tb_X8_matter) rfl (by decide) rfl rfl rfl ?_
  refine g_k 2 (pc' := 3) (LI' := [some (.ref 0), some (.int t), some (.int w)]) (LL' := []) (st' := [.int 8, .int t]) (S' := (z_SH, M, L)) (fun nq hq => And.intro rfl (And.intro rfl hq)) ?_
  refine g_k 1 (pc' := 6) (LI' := [some (.ref 0), some (.int t), some (.int w)]) (LL' := []) (st' := [.int (f_X8_isOutside M t ((8 : Int32)))]) (S' := (z_SH, M, L)) (fun nq hq => And.intro rfl (Exists.intro _ (Exists.intro _ (And.intro (c_X8_isOutside (d := d) M t ((8 : Int32))) (And.intro (z_fit_same _ _ _ _ _ _ _ _) hq))))) ?_
  generalize hg1 : f_X8_isOutside M t ((8 : Int32)) = r1 at *
  refine g_k 1 (pc' := (if z_cmp .eq r1 ((0 : Int32)) = true then 12 else 9)) (LI' := [some (.ref 0), some (.int t), some (.int w)]) (LL' := []) (st' := []) (S' := (z_SH, M, L)) (fun nq hq => And.intro rfl hq) ?_
  refine g_eq (fun hc1 => ?_) (fun hc1 => ?_)
  · refine g_k 2 (pc' := (z_jmp 13 (z_sw (92) (0) (4) #[35, 52, 65, 74, 83] w))) (LI' := [some (.ref 0), some (.int t), some (.int w)]) (LL' := []) (st' := []) (S' := (z_SH, M, L)) (fun nq hq => And.intro rfl (And.intro rfl hq)) ?_
    refine g_swo hsw ?_
    refine g_k 1 (pc' := 107) (LI' := [some (.ref 0), some (.int t), some (.int w)]) (LL' := []) (st' := [.int (-1000000002)]) (S' := (z_SH, M, L)) (fun nq hq => And.intro rfl hq) ?_
    exact ⟨1, And.intro rfl (⟨(by subst hg1; unfold f_X8_matter_wout; (first | rw [if_pos hc1] | skip); try rfl), rfl⟩)⟩
  · refine g_k 1 (pc' := 11) (LI' := [some (.ref 0), some (.int t), some (.int w)]) (LL' := []) (st' := [.int (-1000000002)]) (S' := (z_SH, M, L)) (fun nq hq => And.intro rfl hq) ?_
    exact ⟨1, And.intro rfl (⟨(by subst hg1; unfold f_X8_matter_wout; (first | rw [if_neg hc1] | skip); try rfl), rfl⟩)⟩
def f_X9_matter_wout (M : Nat → Nat → Int32) (t : Int32) (w : Int32) : Int32 := (-1000000002 : Int32)
theorem c_X9_matter_wout {d : Nat} {L : Nat → Nat → Int64} (M : Nat → Nat → Int32) (t : Int32) (w : Int32) (hsw : w.toInt < 0 ∨ 4 < w.toInt)  : z_C (d + 3) 165 [.ref 274, .int t, .int w] (z_SH, M, L) (some (.int (f_X9_matter_wout M t w))) (z_SH, M, L) := by
  refine z_mkA (tb := tb_X9_matter) rfl (by decide) rfl rfl rfl ?_
  refine g_k 1 (pc' := 1) (LI' := [some (.ref 274), some (.int t), some (.int w)]) (LL' := []) (st' := [.int t]) (S' := (z_SH, M, L)) (fun nq hq => And.intro rfl hq) ?_
  refine g_k 1 (pc' := 4) (LI' := [some (.ref 274), some (.int t), some (.int w)]) (LL' := []) (st' := [.int (f_X9_isMatter M t)]) (S' := (z_SH, M, L)) (fun nq hq => And.intro rfl (Exists.intro _ (Exists.intro _ (And.intro (c_X9_isMatter (d := d) M t) (And.intro (z_fit_same _ _ _ _ _ _ _ _) hq))))) ?_
  generalize hg1 : f_X9_isMatter M t = r1 at *
  refine g_k 1 (pc' := (if z_cmp .ne r1 ((0 : Int32)) = true then 10 else 7)) (LI' := [some (.ref 274), some (.int t), some (.int w)]) (LL' := []) (st' := []) (S' := (z_SH, M, L)) (fun nq hq => And.intro rfl hq) ?_
  refine g_ne (fun hc1 => ?_) (fun hc1 => ?_)
  · refine g_k 2 (pc' := (z_jmp 11 (z_sw (83) (0) (4) #[33, 51, 65, 71, 77] w))) (LI' := [some (.ref 274), some (.int t), some (.int w)]) (LL' := []) (st' := []) (S' := (z_SH, M, L)) (fun nq hq => And.intro rfl (And.intro rfl hq)) ?_
    refine g_swo hsw ?_
    refine g_k 1 (pc' := 96) (LI' := [some (.ref 274), some (.int t), some (.int w)]) (LL' := []) (st' := [.int (-1000000002)]) (S' := (z_SH, M, L)) (fun nq hq => And.intro rfl hq) ?_
    exact ⟨1, And.intro rfl (⟨(by subst hg1; unfold f_X9_matter_wout; (first | rw [if_pos hc1] | skip); try rfl), rfl⟩)⟩
  · refine g_k 1 (pc' := 9) (LI' := [some (.ref 274), some (.int t), some (.int w)]) (LL' := []) (st' := [.int (-1000000002)]) (S' := (z_SH, M, L)) (fun nq hq => And.intro rfl hq) ?_
    exact ⟨1, And.intro rfl (⟨(by subst hg1; unfold f_X9_matter_wout; (first | rw [if_neg (not_not_intro hc1)] | skip); try rfl), rfl⟩)⟩
def t_X7_fewestToPass_32_55 (M : Nat → Nat → Int32) (t : Int32) (c2 : Int32) (c3 : Int32) : Bool := if (25 : Int32) ≤ c3 then false else true
def e_X7_fewestToPass_32_55_c2 (M : Nat → Nat → Int32) (t : Int32) (c2 : Int32) (c3 : Int32) : Int32 := if M 46 ((c3).toNatClampNeg) < c2 then M 46 ((c3).toNatClampNeg) else c2
def e_X7_fewestToPass_32_55_c3 (M : Nat → Nat → Int32) (t : Int32) (c2 : Int32) (c3 : Int32) : Int32 := c3 + 1
def qi_X7_fewestToPass_32_55 (M : Nat → Nat → Int32) (t : Int32) (c2 : Int32) (c3 : Int32) : Prop := ((¬ ((25 : Int32) ≤ c3)) → (z_vin c3 25 = true)) ∧ True
theorem it_X7_fewestToPass_32_55 {d : Nat} {L : Nat → Nat → Int64} {Q : Option Value → z_St → Prop} (M : Nat → Nat → Int32) (t : Int32) (c2 : Int32) (c3 : Int32) (ht : t_X7_fewestToPass_32_55 M t c2 c3 = true) (p1 : qi_X7_fewestToPass_32_55 M t c2 c3) (h : z_G (d + 1) tb_X7_fewestToPass 55 [some (.ref 32), some (.int t), some (.int (e_X7_fewestToPass_32_55_c2 M t c2 c3)), some (.int (e_X7_fewestToPass_32_55_c3 M t c2 c3))] [] [] (z_SH, M, L) Q) : z_G (d + 1) tb_X7_fewestToPass 55 [some (.ref 32), some (.int t), some (.int c2), some (.int c3)] [] [] (z_SH, M, L) Q := by
  unfold qi_X7_fewestToPass_32_55 at p1
  obtain ⟨p1, -⟩ := p1
  refine g_k 3 (pc' := (if z_cmp .ge c3 ((25 : Int32)) = true then 78 else 61)) (LI' := [some (.ref 32), some (.int t), some (.int c2), some (.int c3)]) (LL' := []) (st' := []) (S' := (z_SH, M, L)) (fun nq hq => And.intro rfl (And.intro rfl (And.intro rfl hq))) ?_
  refine g_ge (fun hc1 => ?_) (fun hc1 => ?_)
  · (exfalso; unfold t_X7_fewestToPass_32_55 at ht; (try simp only [if_pos hc1] at ht); exact Bool.noConfusion ht)
  · refine g_k 9 (pc' := 55) (LI' := [some (.ref 32), some (.int t), some (.int (if M 46 ((c3).toNatClampNeg) < c2 then M 46 ((c3).toNatClampNeg) else c2)), some (.int (c3 + 1))]) (LL' := []) (st' := []) (S' := (z_SH, M, L)) (fun nq hq => And.intro rfl (And.intro rfl (And.intro rfl (And.intro rfl (And.intro (p1 hc1) (And.intro rfl (And.intro rfl (And.intro rfl (And.intro rfl hq))))))))) ?_
    (clear ht; unfold e_X7_fewestToPass_32_55_c2 e_X7_fewestToPass_32_55_c3 at h; (try simp only [if_neg hc1] at h); exact h )
def s_X7_fewestToPass_32_55 (M : Nat → Nat → Int32) (t : Int32) (c2 : Int32) (c3 : Int32) (n : Nat) : Int32 × Int32 := Nat.rec (motive := fun _ => Int32 × Int32) (c2, c3) (fun _ r => (e_X7_fewestToPass_32_55_c2 M t r.1 r.2, e_X7_fewestToPass_32_55_c3 M t r.1 r.2)) n
def n_X7_fewestToPass_32_55 (M : Nat → Nat → Int32) (t : Int32) (c2 : Int32) (c3 : Int32) : Nat := z_fst (fun k => t_X7_fewestToPass_32_55 M t ((s_X7_fewestToPass_32_55 M t c2 c3 k).1) ((s_X7_fewestToPass_32_55 M t c2 c3 k).2)) 12
theorem n_X7_fewestToPass_32_55_t (M : Nat → Nat → Int32) (t : Int32) (c2 : Int32) (c3 : Int32) : ∀ k, k < n_X7_fewestToPass_32_55 M t c2 c3 → t_X7_fewestToPass_32_55 M t ((s_X7_fewestToPass_32_55 M t c2 c3 k).1) ((s_X7_fewestToPass_32_55 M t c2 c3 k).2) = true := fun k hk => z_fst_t (p := (fun k => t_X7_fewestToPass_32_55 M t ((s_X7_fewestToPass_32_55 M t c2 c3 k).1) ((s_X7_fewestToPass_32_55 M t c2 c3 k).2))) (B := 12) hk
theorem n_X7_fewestToPass_32_55_f (M : Nat → Nat → Int32) (t : Int32) (c2 : Int32) (c3 : Int32) (h : t_X7_fewestToPass_32_55 M t ((s_X7_fewestToPass_32_55 M t c2 c3 12).1) ((s_X7_fewestToPass_32_55 M t c2 c3 12).2) = false) : t_X7_fewestToPass_32_55 M t ((s_X7_fewestToPass_32_55 M t c2 c3 ((n_X7_fewestToPass_32_55 M t c2 c3))).1) ((s_X7_fewestToPass_32_55 M t c2 c3 ((n_X7_fewestToPass_32_55 M t c2 c3))).2) = false := by
  have h2 := z_fst_f (p := (fun k => t_X7_fewestToPass_32_55 M t ((s_X7_fewestToPass_32_55 M t c2 c3 k).1) ((s_X7_fewestToPass_32_55 M t c2 c3 k).2))) (B := 12) h
  unfold n_X7_fewestToPass_32_55
  exact h2
theorem l_X7_fewestToPass_32_55 {d : Nat} {L : Nat → Nat → Int64} {Q : Option Value → z_St → Prop} (M : Nat → Nat → Int32) (t : Int32) (c2 : Int32) (c3 : Int32) (n : Nat) : (∀ k, k < n → t_X7_fewestToPass_32_55 M t ((s_X7_fewestToPass_32_55 M t c2 c3 k).1) ((s_X7_fewestToPass_32_55 M t c2 c3 k).2) = true) → (∀ k, k < n → qi_X7_fewestToPass_32_55 M t ((s_X7_fewestToPass_32_55 M t c2 c3 k).1) ((s_X7_fewestToPass_32_55 M t c2 c3 k).2)) → (z_G (d + 1) tb_X7_fewestToPass 55 [some (.ref 32), some (.int t), some (.int ((s_X7_fewestToPass_32_55 M t c2 c3 n).1)), some (.int ((s_X7_fewestToPass_32_55 M t c2 c3 n).2))] [] [] (z_SH, M, L) Q) → z_G (d + 1) tb_X7_fewestToPass 55 [some (.ref 32), some (.int t), some (.int c2), some (.int c3)] [] [] (z_SH, M, L) Q := by
  induction n with
  | zero =>
    intro hc p1 h
    exact h
  | succ n ih =>
    intro hc p1 h
    refine ih (fun k hk => hc k (by omega)) (fun k hk => p1 k (by omega)) ?_
    have hcn := hc n (by omega)
    have p1n := p1 n (by omega)
    clear ih hc p1
    have hs : s_X7_fewestToPass_32_55 M t c2 c3 (n + 1) = (e_X7_fewestToPass_32_55_c2 M t ((s_X7_fewestToPass_32_55 M t c2 c3 n).1) ((s_X7_fewestToPass_32_55 M t c2 c3 n).2), e_X7_fewestToPass_32_55_c3 M t ((s_X7_fewestToPass_32_55 M t c2 c3 n).1) ((s_X7_fewestToPass_32_55 M t c2 c3 n).2)) := rfl
    rw [hs] at h
    clear hs
    try dsimp only at h
    generalize s_X7_fewestToPass_32_55 M t c2 c3 n = sg at *
    refine it_X7_fewestToPass_32_55 M t sg.1 sg.2 hcn p1n ?_
    exact h
def e_X7_fewestToPass_32_19_M (M : Nat → Nat → Int32) (t : Int32) (i : Int32)  : Nat → Nat → Int32 := (g_X7_joinGains_32 (g_X7_priceGains_32 M i t))
def qi_X7_fewestToPass_32_19 (M : Nat → Nat → Int32) (t : Int32) (i : Int32)  : Prop := (q_X7_priceGains_32 M i t) ∧ (q_X7_joinGains_32 (g_X7_priceGains_32 M i t)) ∧ True
theorem it_X7_fewestToPass_32_19 {d : Nat} {L : Nat → Nat → Int64} {Q : Option Value → z_St → Prop} (M : Nat → Nat → Int32) (t : Int32) (i : Int32)  (hc : ¬ (M 15 1 ≤ i)) (p1 : qi_X7_fewestToPass_32_19 M t i) (h : ∀ (y3 : Option Value), z_G (d + 3) tb_X7_fewestToPass 19 [some (.ref 32), some (.int t), some (.int (i + 1)), y3] [] [] (z_SH, e_X7_fewestToPass_32_19_M M t i, L) Q) : ∀ (x3 : Option Value), z_G (d + 3) tb_X7_fewestToPass 19 [some (.ref 32), some (.int t), some (.int i), x3] [] [] (z_SH, M, L) Q := by
  intro x3
  unfold qi_X7_fewestToPass_32_19 at p1
  obtain ⟨p1, p2, -⟩ := p1
  refine g_k 6 (pc' := (if z_cmp .ge i (M 15 1) = true then 49 else 33)) (LI' := [some (.ref 32), some (.int t), some (.int i), x3]) (LL' := []) (st' := []) (S' := (z_SH, M, L)) (fun nq hq => And.intro rfl (And.intro rfl (And.intro rfl (And.intro rfl (And.intro rfl (And.intro rfl hq)))))) ?_
  refine g_ge (fun hc1 => ?_) (fun hc1 => ?_)
  · exact absurd hc1 hc
  · refine g_k 3 (pc' := 36) (LI' := [some (.ref 32), some (.int t), some (.int i), x3]) (LL' := []) (st' := [.int t, .int i, .ref 32]) (S' := (z_SH, M, L)) (fun nq hq => And.intro rfl (And.intro rfl (And.intro rfl hq))) ?_
    refine g_k 1 (pc' := 39) (LI' := [some (.ref 32), some (.int t), some (.int i), x3]) (LL' := []) (st' := []) (S' := (z_SH, g_X7_priceGains_32 M i t, L)) (fun nq hq => And.intro rfl (Exists.intro _ (Exists.intro _ (And.intro (c_X7_priceGains_32 (d := d) M i t p1) (And.intro (z_fit_same _ _ _ _ _ _ _ _) hq))))) ?_
    generalize hg1 : g_X7_priceGains_32 M i t = m1 at *
    refine g_k 1 (pc' := 40) (LI' := [some (.ref 32), some (.int t), some (.int i), x3]) (LL' := []) (st' := [.ref 32]) (S' := (z_SH, m1, L)) (fun nq hq => And.intro rfl hq) ?_
    refine g_k 1 (pc' := 43) (LI' := [some (.ref 32), some (.int t), some (.int i), x3]) (LL' := []) (st' := []) (S' := (z_SH, g_X7_joinGains_32 m1, L)) (fun nq hq => And.intro rfl (Exists.intro _ (Exists.intro _ (And.intro (c_X7_joinGains_32 (d := d + 1) m1  p2) (And.intro (z_fit_same _ _ _ _ _ _ _ _) hq))))) ?_
    generalize hg2 : g_X7_joinGains_32 m1 = m2 at *
    refine g_k 2 (pc' := 19) (LI' := [some (.ref 32), some (.int t), some (.int (i + 1)), x3]) (LL' := []) (st' := []) (S' := (z_SH, m2, L)) (fun nq hq => And.intro rfl (And.intro rfl hq)) ?_
    (subst hg2; subst hg1; unfold e_X7_fewestToPass_32_19_M at h; exact h x3)
def s_X7_fewestToPass_32_19 (M : Nat → Nat → Int32) (t : Int32)  (n : Nat) : (Nat → Nat → Int32) := Nat.rec (motive := fun _ => (Nat → Nat → Int32)) (M) (fun k r => (e_X7_fewestToPass_32_19_M r t (nI k))) n
theorem fr_e_X7_fewestToPass_32_19_M (M : Nat → Nat → Int32) (t : Int32) (i : Int32)  (c : Nat) (h28 : c ≠ 28) (h29 : c ≠ 29) (h30 : c ≠ 30) (h31 : c ≠ 31) (h46 : c ≠ 46) (h47 : c ≠ 47) (h48 : c ≠ 48) (h268 : c ≠ 268) (h269 : c ≠ 269) (h270 : c ≠ 270) : e_X7_fewestToPass_32_19_M M t i c = M c := by
  unfold e_X7_fewestToPass_32_19_M
  repeat' split
  all_goals simp only [z_row_ne h28, z_row_ne h29, z_row_ne h30, z_row_ne h31, z_row_ne h46, z_row_ne h47, z_row_ne h48, z_row_ne h268, z_row_ne h269, z_row_ne h270, fr_g_X7_joinGains_32 (c := c) (h46 := h46) (h47 := h47), fr_g_X7_priceGains_32 (c := c) (h28 := h28) (h29 := h29) (h30 := h30) (h31 := h31) (h48 := h48) (h268 := h268) (h269 := h269) (h270 := h270)]
theorem fr_s_X7_fewestToPass_32_19 (M : Nat → Nat → Int32) (t : Int32)  (n : Nat) (c : Nat) (h28 : c ≠ 28) (h29 : c ≠ 29) (h30 : c ≠ 30) (h31 : c ≠ 31) (h46 : c ≠ 46) (h47 : c ≠ 47) (h48 : c ≠ 48) (h268 : c ≠ 268) (h269 : c ≠ 269) (h270 : c ≠ 270) : ((s_X7_fewestToPass_32_19 M t n)) c = M c := by
  induction n with
  | zero => rfl
  | succ n ih => exact (fr_e_X7_fewestToPass_32_19_M _ t (nI n)  c h28 h29 h30 h31 h46 h47 h48 h268 h269 h270).trans ih
theorem l_X7_fewestToPass_32_19 {d : Nat} {L : Nat → Nat → Int64} {Q : Option Value → z_St → Prop} (M : Nat → Nat → Int32) (t : Int32)  (n : Nat) : (∀ k, k < n → ¬ (((s_X7_fewestToPass_32_19 M t k)) 15 1 ≤ (nI k))) → (∀ k, k < n → qi_X7_fewestToPass_32_19 ((s_X7_fewestToPass_32_19 M t k)) t (nI k)) → (∀ (y3 : Option Value), z_G (d + 3) tb_X7_fewestToPass 19 [some (.ref 32), some (.int t), some (.int (nI n)), y3] [] [] (z_SH, (s_X7_fewestToPass_32_19 M t n), L) Q) → ∀ (x3 : Option Value), z_G (d + 3) tb_X7_fewestToPass 19 [some (.ref 32), some (.int t), some (.int (nI 0)), x3] [] [] (z_SH, M, L) Q := by
  induction n with
  | zero =>
    intro hc p1 h
    exact h
  | succ n ih =>
    intro hc p1 h
    refine ih (fun k hk => hc k (by omega)) (fun k hk => p1 k (by omega)) ?_
    have hcn := hc n (by omega)
    have p1n := p1 n (by omega)
    clear ih hc p1
    have hs : s_X7_fewestToPass_32_19 M t (n + 1) = (e_X7_fewestToPass_32_19_M ((s_X7_fewestToPass_32_19 M t n)) t (nI n)) := rfl
    rw [hs] at h
    clear hs
    generalize s_X7_fewestToPass_32_19 M t n = sg at *
    refine it_X7_fewestToPass_32_19 sg t (nI n)  hcn p1n ?_
    rw [nI_1]
    exact h
def e_X7_fill_46_2_M (M : Nat → Nat → Int32) (a1 : Int32) (i : Int32)  : Nat → Nat → Int32 := z_row M 46 (upd (M 46) ((i).toNatClampNeg) a1)
def qi_X7_fill_46_2 (M : Nat → Nat → Int32) (a1 : Int32) (i : Int32)  : Prop := (z_vin i 25 = true) ∧ True
theorem it_X7_fill_46_2 {d : Nat} {L : Nat → Nat → Int64} {Q : Option Value → z_St → Prop} (M : Nat → Nat → Int32) (a1 : Int32) (i : Int32)  (hc : ¬ ((25 : Int32) ≤ i)) (p1 : qi_X7_fill_46_2 M a1 i) (h : z_G (d + 0) tb_X7_fill 2 [some (.ref 46), some (.int a1), some (.int (i + 1))] [] [] (z_SH, e_X7_fill_46_2_M M a1 i, L) Q) : z_G (d + 0) tb_X7_fill 2 [some (.ref 46), some (.int a1), some (.int i)] [] [] (z_SH, M, L) Q := by
  unfold qi_X7_fill_46_2 at p1
  obtain ⟨p1, -⟩ := p1
  refine g_k 4 (pc' := (if z_cmp .ge i ((25 : Int32)) = true then 18 else 8)) (LI' := [some (.ref 46), some (.int a1), some (.int i)]) (LL' := []) (st' := []) (S' := (z_SH, M, L)) (fun nq hq => And.intro rfl (And.intro rfl (And.intro rfl (And.intro rfl hq)))) ?_
  refine g_ge (fun hc1 => ?_) (fun hc1 => ?_)
  · exact absurd hc1 hc
  · refine g_k 6 (pc' := 2) (LI' := [some (.ref 46), some (.int a1), some (.int (i + 1))]) (LL' := []) (st' := []) (S' := (z_SH, z_row M 46 (upd (M 46) ((i).toNatClampNeg) a1), L)) (fun nq hq => And.intro rfl (And.intro rfl (And.intro rfl (And.intro p1 (And.intro rfl (And.intro rfl hq)))))) ?_
    (unfold e_X7_fill_46_2_M at h; exact h )
def s_X7_fill_46_2 (M : Nat → Nat → Int32) (a1 : Int32)  (n : Nat) : (Nat → Nat → Int32) := Nat.rec (motive := fun _ => (Nat → Nat → Int32)) (M) (fun k r => (e_X7_fill_46_2_M r a1 (nI k))) n
theorem fr_e_X7_fill_46_2_M (M : Nat → Nat → Int32) (a1 : Int32) (i : Int32)  (c : Nat) (h46 : c ≠ 46) : e_X7_fill_46_2_M M a1 i c = M c := by
  unfold e_X7_fill_46_2_M
  repeat' split
  all_goals simp only [z_row_ne h46]
theorem fr_s_X7_fill_46_2 (M : Nat → Nat → Int32) (a1 : Int32)  (n : Nat) (c : Nat) (h46 : c ≠ 46) : ((s_X7_fill_46_2 M a1 n)) c = M c := by
  induction n with
  | zero => rfl
  | succ n ih => exact (fr_e_X7_fill_46_2_M _ a1 (nI n)  c h46).trans ih
theorem l_X7_fill_46_2 {d : Nat} {L : Nat → Nat → Int64} {Q : Option Value → z_St → Prop} (M : Nat → Nat → Int32) (a1 : Int32)  (n : Nat) : (∀ k, k < n → ¬ ((25 : Int32) ≤ (nI k))) → (∀ k, k < n → qi_X7_fill_46_2 ((s_X7_fill_46_2 M a1 k)) a1 (nI k)) → (z_G (d + 0) tb_X7_fill 2 [some (.ref 46), some (.int a1), some (.int (nI n))] [] [] (z_SH, (s_X7_fill_46_2 M a1 n), L) Q) → z_G (d + 0) tb_X7_fill 2 [some (.ref 46), some (.int a1), some (.int (nI 0))] [] [] (z_SH, M, L) Q := by
  induction n with
  | zero =>
    intro hc p1 h
    exact h
  | succ n ih =>
    intro hc p1 h
    refine ih (fun k hk => hc k (by omega)) (fun k hk => p1 k (by omega)) ?_
    have hcn := hc n (by omega)
    have p1n := p1 n (by omega)
    clear ih hc p1
    have hs : s_X7_fill_46_2 M a1 (n + 1) = (e_X7_fill_46_2_M ((s_X7_fill_46_2 M a1 n)) a1 (nI n)) := rfl
    rw [hs] at h
    clear hs
    generalize s_X7_fill_46_2 M a1 n = sg at *
    refine it_X7_fill_46_2 sg a1 (nI n)  hcn p1n ?_
    rw [nI_1]
    exact h
def g_X7_fill_46 (M : Nat → Nat → Int32) (a1 : Int32) : Nat → Nat → Int32 := ((s_X7_fill_46_2 M a1 25))
theorem fr_g_X7_fill_46 (M : Nat → Nat → Int32) (a1 : Int32) (c : Nat) (h46 : c ≠ 46) : g_X7_fill_46 M a1 c = M c := by
  unfold g_X7_fill_46
  repeat' split
  all_goals simp only [z_row_ne h46, fr_s_X7_fill_46_2 (c := c) (h46 := h46)]
def q_X7_fill_46 (M : Nat → Nat → Int32) (a1 : Int32) : Prop := (∀ k114, k114 < 25 → qi_X7_fill_46_2 ((s_X7_fill_46_2 M a1 k114)) a1 (nI k114)) ∧ True
theorem c_X7_fill_46 {d : Nat} {L : Nat → Nat → Int64} (M : Nat → Nat → Int32) (a1 : Int32)  (hpre : q_X7_fill_46 M a1) : z_C (d + 1) 74 [.ref 46, .int a1] (z_SH, M, L) none (z_SH, g_X7_fill_46 M a1, L) := by
  unfold q_X7_fill_46 at hpre
  obtain ⟨p1, -⟩ := hpre
  refine z_mkA (tb := tb_X7_fill) rfl (by decide) rfl rfl rfl ?_
  refine g_k 2 (pc' := 2) (LI' := [some (.ref 46), some (.int a1), some (.int 0)]) (LL' := []) (st' := []) (S' := (z_SH, M, L)) (fun nq hq => And.intro rfl (And.intro rfl hq)) ?_
  refine l_X7_fill_46_2 (d := d) M a1 25 (fun k hk => z_lpc hk) p1 ?_ 
  have hx1 : (25 : Int32) ≤ nI 25 := z_lpe
  generalize hg1 : nI 25 = r1 at *
  generalize hg2 : (s_X7_fill_46_2 M a1 25) = m2 at *
  refine g_k 4 (pc' := (if z_cmp .ge r1 ((25 : Int32)) = true then 18 else 8)) (LI' := [some (.ref 46), some (.int a1), some (.int r1)]) (LL' := []) (st' := []) (S' := (z_SH, m2, L)) (fun nq hq => And.intro rfl (And.intro rfl (And.intro rfl (And.intro rfl hq)))) ?_
  refine g_ge (fun hc1 => ?_) (fun hc1 => absurd (hx1) hc1)
  exact ⟨1, And.intro rfl (⟨rfl, (by subst hg2; subst hg1; rfl)⟩)⟩
def f_X7_fewestToPass_32 (M : Nat → Nat → Int32) (t : Int32) : Int32 := if ¬ ((s_X7_fewestToPass_32_55 ((s_X7_fewestToPass_32_19 (z_row (g_X7_fill_46 M ((1048576 : Int32))) 46 (upd ((g_X7_fill_46 M ((1048576 : Int32))) 46) 12 ((0 : Int32)))) t (((z_row (g_X7_fill_46 M ((1048576 : Int32))) 46 (upd ((g_X7_fill_46 M ((1048576 : Int32))) 46) 12 ((0 : Int32)))) 15 1).toNatClampNeg))) t ((1048576 : Int32)) ((13 : Int32)) (n_X7_fewestToPass_32_55 ((s_X7_fewestToPass_32_19 (z_row (g_X7_fill_46 M ((1048576 : Int32))) 46 (upd ((g_X7_fill_46 M ((1048576 : Int32))) 46) 12 ((0 : Int32)))) t (((z_row (g_X7_fill_46 M ((1048576 : Int32))) 46 (upd ((g_X7_fill_46 M ((1048576 : Int32))) 46) 12 ((0 : Int32)))) 15 1).toNatClampNeg))) t ((1048576 : Int32)) ((13 : Int32)))).1) = (1048576 : Int32) then ((s_X7_fewestToPass_32_55 ((s_X7_fewestToPass_32_19 (z_row (g_X7_fill_46 M ((1048576 : Int32))) 46 (upd ((g_X7_fill_46 M ((1048576 : Int32))) 46) 12 ((0 : Int32)))) t (((z_row (g_X7_fill_46 M ((1048576 : Int32))) 46 (upd ((g_X7_fill_46 M ((1048576 : Int32))) 46) 12 ((0 : Int32)))) 15 1).toNatClampNeg))) t ((1048576 : Int32)) ((13 : Int32)) (n_X7_fewestToPass_32_55 ((s_X7_fewestToPass_32_19 (z_row (g_X7_fill_46 M ((1048576 : Int32))) 46 (upd ((g_X7_fill_46 M ((1048576 : Int32))) 46) 12 ((0 : Int32)))) t (((z_row (g_X7_fill_46 M ((1048576 : Int32))) 46 (upd ((g_X7_fill_46 M ((1048576 : Int32))) 46) 12 ((0 : Int32)))) 15 1).toNatClampNeg))) t ((1048576 : Int32)) ((13 : Int32)))).1) - ((s_X7_fewestToPass_32_55 ((s_X7_fewestToPass_32_19 (z_row (g_X7_fill_46 M ((1048576 : Int32))) 46 (upd ((g_X7_fill_46 M ((1048576 : Int32))) 46) 12 ((0 : Int32)))) t (((z_row (g_X7_fill_46 M ((1048576 : Int32))) 46 (upd ((g_X7_fill_46 M ((1048576 : Int32))) 46) 12 ((0 : Int32)))) 15 1).toNatClampNeg))) t ((1048576 : Int32)) ((13 : Int32)) (n_X7_fewestToPass_32_55 ((s_X7_fewestToPass_32_19 (z_row (g_X7_fill_46 M ((1048576 : Int32))) 46 (upd ((g_X7_fill_46 M ((1048576 : Int32))) 46) 12 ((0 : Int32)))) t (((z_row (g_X7_fill_46 M ((1048576 : Int32))) 46 (upd ((g_X7_fill_46 M ((1048576 : Int32))) 46) 12 ((0 : Int32)))) 15 1).toNatClampNeg))) t ((1048576 : Int32)) ((13 : Int32)))).1) / ((4096 : Int32)) * ((4096 : Int32)) else (-1 : Int32)
def g_X7_fewestToPass_32 (M : Nat → Nat → Int32) (t : Int32) : Nat → Nat → Int32 := ((s_X7_fewestToPass_32_19 (z_row (g_X7_fill_46 M ((1048576 : Int32))) 46 (upd ((g_X7_fill_46 M ((1048576 : Int32))) 46) 12 ((0 : Int32)))) t (((z_row (g_X7_fill_46 M ((1048576 : Int32))) 46 (upd ((g_X7_fill_46 M ((1048576 : Int32))) 46) 12 ((0 : Int32)))) 15 1).toNatClampNeg)))
theorem fr_g_X7_fewestToPass_32 (M : Nat → Nat → Int32) (t : Int32) (c : Nat) (h28 : c ≠ 28) (h29 : c ≠ 29) (h30 : c ≠ 30) (h31 : c ≠ 31) (h46 : c ≠ 46) (h47 : c ≠ 47) (h48 : c ≠ 48) (h268 : c ≠ 268) (h269 : c ≠ 269) (h270 : c ≠ 270) : g_X7_fewestToPass_32 M t c = M c := by
  unfold g_X7_fewestToPass_32
  repeat' split
  all_goals simp only [z_row_ne h28, z_row_ne h29, z_row_ne h30, z_row_ne h31, z_row_ne h46, z_row_ne h47, z_row_ne h48, z_row_ne h268, z_row_ne h269, z_row_ne h270, fr_g_X7_fill_46 (c := c) (h46 := h46), fr_s_X7_fewestToPass_32_19 (c := c) (h28 := h28) (h29 := h29) (h30 := h30) (h31 := h31) (h46 := h46) (h47 := h47) (h48 := h48) (h268 := h268) (h269 := h269) (h270 := h270)]
def q_X7_fewestToPass_32 (M : Nat → Nat → Int32) (t : Int32) : Prop := (q_X7_fill_46 M ((1048576 : Int32))) ∧ (∀ k113, k113 < ((z_row (g_X7_fill_46 M ((1048576 : Int32))) 46 (upd ((g_X7_fill_46 M ((1048576 : Int32))) 46) 12 ((0 : Int32)))) 15 1).toNatClampNeg → qi_X7_fewestToPass_32_19 ((s_X7_fewestToPass_32_19 (z_row (g_X7_fill_46 M ((1048576 : Int32))) 46 (upd ((g_X7_fill_46 M ((1048576 : Int32))) 46) 12 ((0 : Int32)))) t k113)) t (nI k113)) ∧ (∀ k112, k112 < n_X7_fewestToPass_32_55 ((s_X7_fewestToPass_32_19 (z_row (g_X7_fill_46 M ((1048576 : Int32))) 46 (upd ((g_X7_fill_46 M ((1048576 : Int32))) 46) 12 ((0 : Int32)))) t (((z_row (g_X7_fill_46 M ((1048576 : Int32))) 46 (upd ((g_X7_fill_46 M ((1048576 : Int32))) 46) 12 ((0 : Int32)))) 15 1).toNatClampNeg))) t ((1048576 : Int32)) ((13 : Int32)) → qi_X7_fewestToPass_32_55 ((s_X7_fewestToPass_32_19 (z_row (g_X7_fill_46 M ((1048576 : Int32))) 46 (upd ((g_X7_fill_46 M ((1048576 : Int32))) 46) 12 ((0 : Int32)))) t (((z_row (g_X7_fill_46 M ((1048576 : Int32))) 46 (upd ((g_X7_fill_46 M ((1048576 : Int32))) 46) 12 ((0 : Int32)))) 15 1).toNatClampNeg))) t ((s_X7_fewestToPass_32_55 ((s_X7_fewestToPass_32_19 (z_row (g_X7_fill_46 M ((1048576 : Int32))) 46 (upd ((g_X7_fill_46 M ((1048576 : Int32))) 46) 12 ((0 : Int32)))) t (((z_row (g_X7_fill_46 M ((1048576 : Int32))) 46 (upd ((g_X7_fill_46 M ((1048576 : Int32))) 46) 12 ((0 : Int32)))) 15 1).toNatClampNeg))) t ((1048576 : Int32)) ((13 : Int32)) k112).1) ((s_X7_fewestToPass_32_55 ((s_X7_fewestToPass_32_19 (z_row (g_X7_fill_46 M ((1048576 : Int32))) 46 (upd ((g_X7_fill_46 M ((1048576 : Int32))) 46) 12 ((0 : Int32)))) t (((z_row (g_X7_fill_46 M ((1048576 : Int32))) 46 (upd ((g_X7_fill_46 M ((1048576 : Int32))) 46) 12 ((0 : Int32)))) 15 1).toNatClampNeg))) t ((1048576 : Int32)) ((13 : Int32)) k112).2)) ∧ (t_X7_fewestToPass_32_55 ((s_X7_fewestToPass_32_19 (z_row (g_X7_fill_46 M ((1048576 : Int32))) 46 (upd ((g_X7_fill_46 M ((1048576 : Int32))) 46) 12 ((0 : Int32)))) t (((z_row (g_X7_fill_46 M ((1048576 : Int32))) 46 (upd ((g_X7_fill_46 M ((1048576 : Int32))) 46) 12 ((0 : Int32)))) 15 1).toNatClampNeg))) t ((s_X7_fewestToPass_32_55 ((s_X7_fewestToPass_32_19 (z_row (g_X7_fill_46 M ((1048576 : Int32))) 46 (upd ((g_X7_fill_46 M ((1048576 : Int32))) 46) 12 ((0 : Int32)))) t (((z_row (g_X7_fill_46 M ((1048576 : Int32))) 46 (upd ((g_X7_fill_46 M ((1048576 : Int32))) 46) 12 ((0 : Int32)))) 15 1).toNatClampNeg))) t ((1048576 : Int32)) ((13 : Int32)) 12).1) ((s_X7_fewestToPass_32_55 ((s_X7_fewestToPass_32_19 (z_row (g_X7_fill_46 M ((1048576 : Int32))) 46 (upd ((g_X7_fill_46 M ((1048576 : Int32))) 46) 12 ((0 : Int32)))) t (((z_row (g_X7_fill_46 M ((1048576 : Int32))) 46 (upd ((g_X7_fill_46 M ((1048576 : Int32))) 46) 12 ((0 : Int32)))) 15 1).toNatClampNeg))) t ((1048576 : Int32)) ((13 : Int32)) 12).2) = false) ∧ ((¬ ((25 : Int32) ≤ ((s_X7_fewestToPass_32_55 ((s_X7_fewestToPass_32_19 (z_row (g_X7_fill_46 M ((1048576 : Int32))) 46 (upd ((g_X7_fill_46 M ((1048576 : Int32))) 46) 12 ((0 : Int32)))) t (((z_row (g_X7_fill_46 M ((1048576 : Int32))) 46 (upd ((g_X7_fill_46 M ((1048576 : Int32))) 46) 12 ((0 : Int32)))) 15 1).toNatClampNeg))) t ((1048576 : Int32)) ((13 : Int32)) (n_X7_fewestToPass_32_55 ((s_X7_fewestToPass_32_19 (z_row (g_X7_fill_46 M ((1048576 : Int32))) 46 (upd ((g_X7_fill_46 M ((1048576 : Int32))) 46) 12 ((0 : Int32)))) t (((z_row (g_X7_fill_46 M ((1048576 : Int32))) 46 (upd ((g_X7_fill_46 M ((1048576 : Int32))) 46) 12 ((0 : Int32)))) 15 1).toNatClampNeg))) t ((1048576 : Int32)) ((13 : Int32)))).2))) → (z_vin ((s_X7_fewestToPass_32_55 ((s_X7_fewestToPass_32_19 (z_row (g_X7_fill_46 M ((1048576 : Int32))) 46 (upd ((g_X7_fill_46 M ((1048576 : Int32))) 46) 12 ((0 : Int32)))) t (((z_row (g_X7_fill_46 M ((1048576 : Int32))) 46 (upd ((g_X7_fill_46 M ((1048576 : Int32))) 46) 12 ((0 : Int32)))) 15 1).toNatClampNeg))) t ((1048576 : Int32)) ((13 : Int32)) (n_X7_fewestToPass_32_55 ((s_X7_fewestToPass_32_19 (z_row (g_X7_fill_46 M ((1048576 : Int32))) 46 (upd ((g_X7_fill_46 M ((1048576 : Int32))) 46) 12 ((0 : Int32)))) t (((z_row (g_X7_fill_46 M ((1048576 : Int32))) 46 (upd ((g_X7_fill_46 M ((1048576 : Int32))) 46) 12 ((0 : Int32)))) 15 1).toNatClampNeg))) t ((1048576 : Int32)) ((13 : Int32)))).2) 25 = true)) ∧ True
theorem c_X7_fewestToPass_32 {d : Nat} {L : Nat → Nat → Int64} (M : Nat → Nat → Int32) (t : Int32)  (hpre : q_X7_fewestToPass_32 M t) : z_C (d + 4) 65 [.ref 32, .int t] (z_SH, M, L) (some (.int (f_X7_fewestToPass_32 M t))) (z_SH, g_X7_fewestToPass_32 M t, L) := by
  unfold q_X7_fewestToPass_32 at hpre
  obtain ⟨p1, p2, p3, p4, p5, -⟩ := hpre
  refine z_mkA (tb := tb_X7_fewestToPass) rfl (by decide) rfl rfl rfl ?_
  refine g_k 3 (pc' := 6) (LI' := [some (.ref 32), some (.int t), none, none]) (LL' := []) (st' := [.int 1048576, .ref 46]) (S' := (z_SH, M, L)) (fun nq hq => And.intro rfl (And.intro rfl (And.intro rfl hq))) ?_
  refine g_k 1 (pc' := 9) (LI' := [some (.ref 32), some (.int t), none, none]) (LL' := []) (st' := []) (S' := (z_SH, g_X7_fill_46 M ((1048576 : Int32)), L)) (fun nq hq => And.intro rfl (Exists.intro _ (Exists.intro _ (And.intro (c_X7_fill_46 (d := d + 2) M ((1048576 : Int32)) p1) (And.intro (z_fit_same _ _ _ _ _ _ _ _) hq))))) ?_
  generalize hg1 : g_X7_fill_46 M ((1048576 : Int32)) = m1 at *
  refine g_k 7 (pc' := 19) (LI' := [some (.ref 32), some (.int t), some (.int 0), none]) (LL' := []) (st' := []) (S' := (z_SH, z_row m1 46 (upd (m1 46) 12 ((0 : Int32))), L)) (fun nq hq => And.intro rfl (And.intro rfl (And.intro rfl (And.intro rfl (And.intro rfl (And.intro rfl (And.intro rfl hq))))))) ?_
  refine l_X7_fewestToPass_32_19 (d := d) (z_row m1 46 (upd (m1 46) 12 ((0 : Int32)))) t (((z_row m1 46 (upd (m1 46) 12 ((0 : Int32)))) 15 1).toNatClampNeg) (fun k hk => by rw [fr_s_X7_fewestToPass_32_19 (z_row m1 46 (upd (m1 46) 12 ((0 : Int32)))) t k 15 (by decide) (by decide) (by decide) (by decide) (by decide) (by decide) (by decide) (by decide) (by decide) (by decide)]; exact z_lpc hk) p2 (fun y1 => ?_) none
  have hx1 : ((s_X7_fewestToPass_32_19 (z_row m1 46 (upd (m1 46) 12 ((0 : Int32)))) t (((z_row m1 46 (upd (m1 46) 12 ((0 : Int32)))) 15 1).toNatClampNeg))) 15 1 ≤ nI (((z_row m1 46 (upd (m1 46) 12 ((0 : Int32)))) 15 1).toNatClampNeg) := by rw [fr_s_X7_fewestToPass_32_19 (z_row m1 46 (upd (m1 46) 12 ((0 : Int32)))) t (((z_row m1 46 (upd (m1 46) 12 ((0 : Int32)))) 15 1).toNatClampNeg) 15 (by decide) (by decide) (by decide) (by decide) (by decide) (by decide) (by decide) (by decide) (by decide) (by decide)]; exact z_lpe
  generalize hg2 : nI (((z_row m1 46 (upd (m1 46) 12 ((0 : Int32)))) 15 1).toNatClampNeg) = r2 at *
  generalize hg3 : (s_X7_fewestToPass_32_19 (z_row m1 46 (upd (m1 46) 12 ((0 : Int32)))) t (((z_row m1 46 (upd (m1 46) 12 ((0 : Int32)))) 15 1).toNatClampNeg)) = m3 at *
  refine g_k 6 (pc' := (if z_cmp .ge r2 (m3 15 1) = true then 49 else 33)) (LI' := [some (.ref 32), some (.int t), some (.int r2), y1]) (LL' := []) (st' := []) (S' := (z_SH, m3, L)) (fun nq hq => And.intro rfl (And.intro rfl (And.intro rfl (And.intro rfl (And.intro rfl (And.intro rfl hq)))))) ?_
  refine g_ge (fun hc1 => ?_) (fun hc1 => absurd (hx1) hc1)
  refine g_k 4 (pc' := 55) (LI' := [some (.ref 32), some (.int t), some (.int 1048576), some (.int 13)]) (LL' := []) (st' := []) (S' := (z_SH, m3, L)) (fun nq hq => And.intro rfl (And.intro rfl (And.intro rfl (And.intro rfl hq)))) ?_
  refine l_X7_fewestToPass_32_55 (d := d + 2) m3 t ((1048576 : Int32)) ((13 : Int32)) (n_X7_fewestToPass_32_55 m3 t ((1048576 : Int32)) ((13 : Int32))) (n_X7_fewestToPass_32_55_t m3 t ((1048576 : Int32)) ((13 : Int32))) p3 ?_ 
  have hx2 : t_X7_fewestToPass_32_55 m3 t ((s_X7_fewestToPass_32_55 m3 t ((1048576 : Int32)) ((13 : Int32)) ((n_X7_fewestToPass_32_55 m3 t ((1048576 : Int32)) ((13 : Int32))))).1) ((s_X7_fewestToPass_32_55 m3 t ((1048576 : Int32)) ((13 : Int32)) ((n_X7_fewestToPass_32_55 m3 t ((1048576 : Int32)) ((13 : Int32))))).2) = false := n_X7_fewestToPass_32_55_f m3 t ((1048576 : Int32)) ((13 : Int32)) p4
  generalize hg4 : (s_X7_fewestToPass_32_55 m3 t ((1048576 : Int32)) ((13 : Int32)) (n_X7_fewestToPass_32_55 m3 t ((1048576 : Int32)) ((13 : Int32)))).1 = r4 at *
  generalize hg5 : (s_X7_fewestToPass_32_55 m3 t ((1048576 : Int32)) ((13 : Int32)) (n_X7_fewestToPass_32_55 m3 t ((1048576 : Int32)) ((13 : Int32)))).2 = r5 at *
  refine g_k 3 (pc' := (if z_cmp .ge r5 ((25 : Int32)) = true then 78 else 61)) (LI' := [some (.ref 32), some (.int t), some (.int r4), some (.int r5)]) (LL' := []) (st' := []) (S' := (z_SH, m3, L)) (fun nq hq => And.intro rfl (And.intro rfl (And.intro rfl hq))) ?_
  refine g_ge (fun hc2 => ?_) (fun hc2 => ?_)
  · refine g_k 3 (pc' := (if z_cmp .ne r4 ((1048576 : Int32)) = true then 88 else 84)) (LI' := [some (.ref 32), some (.int t), some (.int r4), some (.int r5)]) (LL' := []) (st' := []) (S' := (z_SH, m3, L)) (fun nq hq => And.intro rfl (And.intro rfl (And.intro rfl hq))) ?_
    refine g_ne (fun hc3 => ?_) (fun hc3 => ?_)
    · refine g_k 3 (pc' := 93) (LI' := [some (.ref 32), some (.int t), some (.int r4), some (.int r5)]) (LL' := []) (st' := [.int (r4 - r4 / ((4096 : Int32)) * ((4096 : Int32)))]) (S' := (z_SH, m3, L)) (fun nq hq => And.intro rfl (And.intro rfl (And.intro rfl hq))) ?_
      exact ⟨1, And.intro rfl (⟨(by subst hg5; subst hg4; subst hg3; subst hg2; subst hg1; unfold f_X7_fewestToPass_32; (first | rw [if_pos hc2] | skip); (first | rw [if_pos hc3] | skip); try rfl), (by subst hg5; subst hg4; subst hg3; subst hg2; subst hg1; unfold g_X7_fewestToPass_32; (first | rw [if_pos hc2] | skip); (first | rw [if_pos hc3] | skip); try rfl)⟩)⟩
    · refine g_k 2 (pc' := 93) (LI' := [some (.ref 32), some (.int t), some (.int r4), some (.int r5)]) (LL' := []) (st' := [.int (-1)]) (S' := (z_SH, m3, L)) (fun nq hq => And.intro rfl (And.intro rfl hq)) ?_
      exact ⟨1, And.intro rfl (⟨(by subst hg5; subst hg4; subst hg3; subst hg2; subst hg1; unfold f_X7_fewestToPass_32; (first | rw [if_pos hc2] | skip); (first | rw [if_neg (not_not_intro hc3)] | skip); try rfl), (by subst hg5; subst hg4; subst hg3; subst hg2; subst hg1; unfold g_X7_fewestToPass_32; (first | rw [if_pos hc2] | skip); (first | rw [if_neg (not_not_intro hc3)] | skip); try rfl)⟩)⟩
  · refine g_k 9 (pc' := 55) (LI' := [some (.ref 32), some (.int t), some (.int (if m3 46 ((r5).toNatClampNeg) < r4 then m3 46 ((r5).toNatClampNeg) else r4)), some (.int (r5 + 1))]) (LL' := []) (st' := []) (S' := (z_SH, m3, L)) (fun nq hq => And.intro rfl (And.intro rfl (And.intro rfl (And.intro rfl (And.intro (p5 hc2) (And.intro rfl (And.intro rfl (And.intro rfl (And.intro rfl hq))))))))) ?_
    (exfalso; unfold t_X7_fewestToPass_32_55 at hx2; (try simp only [if_neg hc2] at hx2); exact Bool.noConfusion hx2)
def f_X8_matter_w3 (M : Nat → Nat → Int32) (t : Int32) : Int32 := if (f_X8_isOutside M t ((8 : Int32))) = (0 : Int32) then (f_X7_fewestToPass_32 M t) else (-1000000002 : Int32)
def g_X8_matter_w3 (M : Nat → Nat → Int32) (t : Int32) : Nat → Nat → Int32 := if (f_X8_isOutside M t ((8 : Int32))) = (0 : Int32) then (g_X7_fewestToPass_32 M t) else M
theorem fr_g_X8_matter_w3 (M : Nat → Nat → Int32) (t : Int32) (c : Nat) (h28 : c ≠ 28) (h29 : c ≠ 29) (h30 : c ≠ 30) (h31 : c ≠ 31) (h46 : c ≠ 46) (h47 : c ≠ 47) (h48 : c ≠ 48) (h268 : c ≠ 268) (h269 : c ≠ 269) (h270 : c ≠ 270) : g_X8_matter_w3 M t c = M c := by
  unfold g_X8_matter_w3
  repeat' split
  all_goals simp only [z_row_ne h28, z_row_ne h29, z_row_ne h30, z_row_ne h31, z_row_ne h46, z_row_ne h47, z_row_ne h48, z_row_ne h268, z_row_ne h269, z_row_ne h270, fr_g_X7_fewestToPass_32 (c := c) (h28 := h28) (h29 := h29) (h30 := h30) (h31 := h31) (h46 := h46) (h47 := h47) (h48 := h48) (h268 := h268) (h269 := h269) (h270 := h270)]
def q_X8_matter_w3 (M : Nat → Nat → Int32) (t : Int32) : Prop := (((f_X8_isOutside M t ((8 : Int32))) = (0 : Int32)) → (q_X7_fewestToPass_32 M t)) ∧ True
theorem c_X8_matter_w3 {d : Nat} {L : Nat → Nat → Int64} (M : Nat → Nat → Int32) (t : Int32)  (hpre : q_X8_matter_w3 M t) : z_C (d + 5) 90 [.ref 0, .int t, .int 3] (z_SH, M, L) (some (.int (f_X8_matter_w3 M t))) (z_SH, g_X8_matter_w3 M t, L) := by
  unfold q_X8_matter_w3 at hpre
  obtain ⟨p1, -⟩ := hpre
  refine z_mkA (tb := tb_X8_matter) rfl (by decide) rfl rfl rfl ?_
  refine g_k 2 (pc' := 3) (LI' := [some (.ref 0), some (.int t), some (.int 3)]) (LL' := []) (st' := [.int 8, .int t]) (S' := (z_SH, M, L)) (fun nq hq => And.intro rfl (And.intro rfl hq)) ?_
  refine g_k 1 (pc' := 6) (LI' := [some (.ref 0), some (.int t), some (.int 3)]) (LL' := []) (st' := [.int (f_X8_isOutside M t ((8 : Int32)))]) (S' := (z_SH, M, L)) (fun nq hq => And.intro rfl (Exists.intro _ (Exists.intro _ (And.intro (c_X8_isOutside (d := d + 3) M t ((8 : Int32))) (And.intro (z_fit_same _ _ _ _ _ _ _ _) hq))))) ?_
  generalize hg1 : f_X8_isOutside M t ((8 : Int32)) = r1 at *
  refine g_k 1 (pc' := (if z_cmp .eq r1 ((0 : Int32)) = true then 12 else 9)) (LI' := [some (.ref 0), some (.int t), some (.int 3)]) (LL' := []) (st' := []) (S' := (z_SH, M, L)) (fun nq hq => And.intro rfl hq) ?_
  refine g_eq (fun hc1 => ?_) (fun hc1 => ?_)
  · refine g_k 5 (pc' := 92) (LI' := [some (.ref 0), some (.int t), some (.int 3)]) (LL' := []) (st' := [.int t, .ref 32]) (S' := (z_SH, M, L)) (fun nq hq => And.intro rfl (And.intro rfl (And.intro rfl (And.intro rfl (And.intro rfl hq))))) ?_
    refine g_k 1 (pc' := 95) (LI' := [some (.ref 0), some (.int t), some (.int 3)]) (LL' := []) (st' := [.int (f_X7_fewestToPass_32 M t)]) (S' := (z_SH, g_X7_fewestToPass_32 M t, L)) (fun nq hq => And.intro rfl (Exists.intro _ (Exists.intro _ (And.intro (c_X7_fewestToPass_32 (d := d) M t (p1 hc1)) (And.intro (z_fit_same _ _ _ _ _ _ _ _) hq))))) ?_
    generalize hg2 : f_X7_fewestToPass_32 M t = r2 at *
    generalize hg3 : g_X7_fewestToPass_32 M t = m3 at *
    exact ⟨1, And.intro rfl (⟨(by subst hg3; subst hg2; subst hg1; unfold f_X8_matter_w3; (first | rw [if_pos hc1] | skip); try rfl), (by subst hg3; subst hg2; subst hg1; unfold g_X8_matter_w3; (first | rw [if_pos hc1] | skip); try rfl)⟩)⟩
  · refine g_k 1 (pc' := 11) (LI' := [some (.ref 0), some (.int t), some (.int 3)]) (LL' := []) (st' := [.int (-1000000002)]) (S' := (z_SH, M, L)) (fun nq hq => And.intro rfl hq) ?_
    exact ⟨1, And.intro rfl (⟨(by subst hg1; unfold f_X8_matter_w3; (first | rw [if_neg hc1] | skip); try rfl), (by subst hg1; unfold g_X8_matter_w3; (first | rw [if_neg hc1] | skip); try rfl)⟩)⟩
def f_X8_matter_w4 (M : Nat → Nat → Int32) (t : Int32) : Int32 := if (f_X8_isOutside M t ((8 : Int32))) = (0 : Int32) then (f_X7_firstTwang_32 M t) else (-1000000002 : Int32)
def g_X8_matter_w4 (M : Nat → Nat → Int32) (t : Int32) : Nat → Nat → Int32 := if (f_X8_isOutside M t ((8 : Int32))) = (0 : Int32) then (g_X7_firstTwang_32 M t) else M
theorem fr_g_X8_matter_w4 (M : Nat → Nat → Int32) (t : Int32) (c : Nat) (h34 : c ≠ 34) (h35 : c ≠ 35) (h36 : c ≠ 36) (h37 : c ≠ 37) (h38 : c ≠ 38) (h39 : c ≠ 39) (h40 : c ≠ 40) (h41 : c ≠ 41) (h42 : c ≠ 42) (h43 : c ≠ 43) (h44 : c ≠ 44) (h45 : c ≠ 45) (h271 : c ≠ 271) (h272 : c ≠ 272) (h273 : c ≠ 273) : g_X8_matter_w4 M t c = M c := by
  unfold g_X8_matter_w4
  repeat' split
  all_goals simp only [z_row_ne h34, z_row_ne h35, z_row_ne h36, z_row_ne h37, z_row_ne h38, z_row_ne h39, z_row_ne h40, z_row_ne h41, z_row_ne h42, z_row_ne h43, z_row_ne h44, z_row_ne h45, z_row_ne h271, z_row_ne h272, z_row_ne h273, fr_g_X7_firstTwang_32 (c := c) (h34 := h34) (h35 := h35) (h36 := h36) (h37 := h37) (h38 := h38) (h39 := h39) (h40 := h40) (h41 := h41) (h42 := h42) (h43 := h43) (h44 := h44) (h45 := h45) (h271 := h271) (h272 := h272) (h273 := h273)]
def q_X8_matter_w4 (M : Nat → Nat → Int32) (t : Int32) : Prop := (((f_X8_isOutside M t ((8 : Int32))) = (0 : Int32)) → (q_X7_firstTwang_32 M t)) ∧ True
theorem c_X8_matter_w4 {d : Nat} {L : Nat → Nat → Int64} (M : Nat → Nat → Int32) (t : Int32)  (hpre : q_X8_matter_w4 M t) : z_C (d + 6) 90 [.ref 0, .int t, .int 4] (z_SH, M, L) (some (.int (f_X8_matter_w4 M t))) (z_SH, g_X8_matter_w4 M t, L) := by
  unfold q_X8_matter_w4 at hpre
  obtain ⟨p1, -⟩ := hpre
  refine z_mkA (tb := tb_X8_matter) rfl (by decide) rfl rfl rfl ?_
  refine g_k 2 (pc' := 3) (LI' := [some (.ref 0), some (.int t), some (.int 4)]) (LL' := []) (st' := [.int 8, .int t]) (S' := (z_SH, M, L)) (fun nq hq => And.intro rfl (And.intro rfl hq)) ?_
  refine g_k 1 (pc' := 6) (LI' := [some (.ref 0), some (.int t), some (.int 4)]) (LL' := []) (st' := [.int (f_X8_isOutside M t ((8 : Int32)))]) (S' := (z_SH, M, L)) (fun nq hq => And.intro rfl (Exists.intro _ (Exists.intro _ (And.intro (c_X8_isOutside (d := d + 4) M t ((8 : Int32))) (And.intro (z_fit_same _ _ _ _ _ _ _ _) hq))))) ?_
  generalize hg1 : f_X8_isOutside M t ((8 : Int32)) = r1 at *
  refine g_k 1 (pc' := (if z_cmp .eq r1 ((0 : Int32)) = true then 12 else 9)) (LI' := [some (.ref 0), some (.int t), some (.int 4)]) (LL' := []) (st' := []) (S' := (z_SH, M, L)) (fun nq hq => And.intro rfl hq) ?_
  refine g_eq (fun hc1 => ?_) (fun hc1 => ?_)
  · refine g_k 5 (pc' := 101) (LI' := [some (.ref 0), some (.int t), some (.int 4)]) (LL' := []) (st' := [.int t, .ref 32]) (S' := (z_SH, M, L)) (fun nq hq => And.intro rfl (And.intro rfl (And.intro rfl (And.intro rfl (And.intro rfl hq))))) ?_
    refine g_k 1 (pc' := 104) (LI' := [some (.ref 0), some (.int t), some (.int 4)]) (LL' := []) (st' := [.int (f_X7_firstTwang_32 M t)]) (S' := (z_SH, g_X7_firstTwang_32 M t, L)) (fun nq hq => And.intro rfl (Exists.intro _ (Exists.intro _ (And.intro (c_X7_firstTwang_32 (d := d) M t (p1 hc1)) (And.intro (z_fit_same _ _ _ _ _ _ _ _) hq))))) ?_
    generalize hg2 : f_X7_firstTwang_32 M t = r2 at *
    generalize hg3 : g_X7_firstTwang_32 M t = m3 at *
    exact ⟨1, And.intro rfl (⟨(by subst hg3; subst hg2; subst hg1; unfold f_X8_matter_w4; (first | rw [if_pos hc1] | skip); try rfl), (by subst hg3; subst hg2; subst hg1; unfold g_X8_matter_w4; (first | rw [if_pos hc1] | skip); try rfl)⟩)⟩
  · refine g_k 1 (pc' := 11) (LI' := [some (.ref 0), some (.int t), some (.int 4)]) (LL' := []) (st' := [.int (-1000000002)]) (S' := (z_SH, M, L)) (fun nq hq => And.intro rfl hq) ?_
    exact ⟨1, And.intro rfl (⟨(by subst hg1; unfold f_X8_matter_w4; (first | rw [if_neg hc1] | skip); try rfl), (by subst hg1; unfold g_X8_matter_w4; (first | rw [if_neg hc1] | skip); try rfl)⟩)⟩
def f_X9_matter_w3 (M : Nat → Nat → Int32) (t : Int32) : Int32 := if ¬ (f_X9_isMatter M t) = (0 : Int32) then (f_X9_leastOf_274 M t) else (-1000000002 : Int32)
def g_X9_matter_w3 (M : Nat → Nat → Int32) (t : Int32) : Nat → Nat → Int32 := if ¬ (f_X9_isMatter M t) = (0 : Int32) then (g_X9_leastOf_274 M t) else M
theorem fr_g_X9_matter_w3 (M : Nat → Nat → Int32) (t : Int32) (c : Nat) (h280 : c ≠ 280) : g_X9_matter_w3 M t c = M c := by
  unfold g_X9_matter_w3
  repeat' split
  all_goals simp only [z_row_ne h280, fr_g_X9_leastOf_274 (c := c) (h280 := h280)]
def q_X9_matter_w3 (M : Nat → Nat → Int32) (t : Int32) : Prop := ((¬ (f_X9_isMatter M t) = (0 : Int32)) → (q_X9_leastOf_274 M t)) ∧ True
theorem c_X9_matter_w3 {d : Nat} {L : Nat → Nat → Int64} (M : Nat → Nat → Int32) (t : Int32)  (hpre : q_X9_matter_w3 M t) : z_C (d + 7) 165 [.ref 274, .int t, .int 3] (z_SH, M, L) (some (.int (f_X9_matter_w3 M t))) (z_SH, g_X9_matter_w3 M t, L) := by
  unfold q_X9_matter_w3 at hpre
  obtain ⟨p1, -⟩ := hpre
  refine z_mkA (tb := tb_X9_matter) rfl (by decide) rfl rfl rfl ?_
  refine g_k 1 (pc' := 1) (LI' := [some (.ref 274), some (.int t), some (.int 3)]) (LL' := []) (st' := [.int t]) (S' := (z_SH, M, L)) (fun nq hq => And.intro rfl hq) ?_
  refine g_k 1 (pc' := 4) (LI' := [some (.ref 274), some (.int t), some (.int 3)]) (LL' := []) (st' := [.int (f_X9_isMatter M t)]) (S' := (z_SH, M, L)) (fun nq hq => And.intro rfl (Exists.intro _ (Exists.intro _ (And.intro (c_X9_isMatter (d := d + 4) M t) (And.intro (z_fit_same _ _ _ _ _ _ _ _) hq))))) ?_
  generalize hg1 : f_X9_isMatter M t = r1 at *
  refine g_k 1 (pc' := (if z_cmp .ne r1 ((0 : Int32)) = true then 10 else 7)) (LI' := [some (.ref 274), some (.int t), some (.int 3)]) (LL' := []) (st' := []) (S' := (z_SH, M, L)) (fun nq hq => And.intro rfl hq) ?_
  refine g_ne (fun hc1 => ?_) (fun hc1 => ?_)
  · refine g_k 4 (pc' := 84) (LI' := [some (.ref 274), some (.int t), some (.int 3)]) (LL' := []) (st' := [.int t, .ref 274]) (S' := (z_SH, M, L)) (fun nq hq => And.intro rfl (And.intro rfl (And.intro rfl (And.intro rfl hq)))) ?_
    refine g_k 1 (pc' := 87) (LI' := [some (.ref 274), some (.int t), some (.int 3)]) (LL' := []) (st' := [.int (f_X9_leastOf_274 M t)]) (S' := (z_SH, g_X9_leastOf_274 M t, L)) (fun nq hq => And.intro rfl (Exists.intro _ (Exists.intro _ (And.intro (c_X9_leastOf_274 (d := d) M t (p1 hc1)) (And.intro (z_fit_same _ _ _ _ _ _ _ _) hq))))) ?_
    generalize hg2 : f_X9_leastOf_274 M t = r2 at *
    generalize hg3 : g_X9_leastOf_274 M t = m3 at *
    exact ⟨1, And.intro rfl (⟨(by subst hg3; subst hg2; subst hg1; unfold f_X9_matter_w3; (first | rw [if_pos hc1] | skip); try rfl), (by subst hg3; subst hg2; subst hg1; unfold g_X9_matter_w3; (first | rw [if_pos hc1] | skip); try rfl)⟩)⟩
  · refine g_k 1 (pc' := 9) (LI' := [some (.ref 274), some (.int t), some (.int 3)]) (LL' := []) (st' := [.int (-1000000002)]) (S' := (z_SH, M, L)) (fun nq hq => And.intro rfl hq) ?_
    exact ⟨1, And.intro rfl (⟨(by subst hg1; unfold f_X9_matter_w3; (first | rw [if_neg (not_not_intro hc1)] | skip); try rfl), (by subst hg1; unfold g_X9_matter_w3; (first | rw [if_neg (not_not_intro hc1)] | skip); try rfl)⟩)⟩
def f_X9_matter_w4 (M : Nat → Nat → Int32) (t : Int32) : Int32 := if ¬ (f_X9_isMatter M t) = (0 : Int32) then (f_X9_twangOf_274 M t) else (-1000000002 : Int32)
def g_X9_matter_w4 (M : Nat → Nat → Int32) (t : Int32) : Nat → Nat → Int32 := if ¬ (f_X9_isMatter M t) = (0 : Int32) then (g_X9_twangOf_274 M t) else M
theorem fr_g_X9_matter_w4 (M : Nat → Nat → Int32) (t : Int32) (c : Nat) (h280 : c ≠ 280) (h291 : c ≠ 291) : g_X9_matter_w4 M t c = M c := by
  unfold g_X9_matter_w4
  repeat' split
  all_goals simp only [z_row_ne h280, z_row_ne h291, fr_g_X9_twangOf_274 (c := c) (h280 := h280) (h291 := h291)]
def q_X9_matter_w4 (M : Nat → Nat → Int32) (t : Int32) : Prop := ((¬ (f_X9_isMatter M t) = (0 : Int32)) → (q_X9_twangOf_274 M t)) ∧ True
theorem c_X9_matter_w4 {d : Nat} {L : Nat → Nat → Int64} (M : Nat → Nat → Int32) (t : Int32)  (hpre : q_X9_matter_w4 M t) : z_C (d + 9) 165 [.ref 274, .int t, .int 4] (z_SH, M, L) (some (.int (f_X9_matter_w4 M t))) (z_SH, g_X9_matter_w4 M t, L) := by
  unfold q_X9_matter_w4 at hpre
  obtain ⟨p1, -⟩ := hpre
  refine z_mkA (tb := tb_X9_matter) rfl (by decide) rfl rfl rfl ?_
  refine g_k 1 (pc' := 1) (LI' := [some (.ref 274), some (.int t), some (.int 4)]) (LL' := []) (st' := [.int t]) (S' := (z_SH, M, L)) (fun nq hq => And.intro rfl hq) ?_
  refine g_k 1 (pc' := 4) (LI' := [some (.ref 274), some (.int t), some (.int 4)]) (LL' := []) (st' := [.int (f_X9_isMatter M t)]) (S' := (z_SH, M, L)) (fun nq hq => And.intro rfl (Exists.intro _ (Exists.intro _ (And.intro (c_X9_isMatter (d := d + 6) M t) (And.intro (z_fit_same _ _ _ _ _ _ _ _) hq))))) ?_
  generalize hg1 : f_X9_isMatter M t = r1 at *
  refine g_k 1 (pc' := (if z_cmp .ne r1 ((0 : Int32)) = true then 10 else 7)) (LI' := [some (.ref 274), some (.int t), some (.int 4)]) (LL' := []) (st' := []) (S' := (z_SH, M, L)) (fun nq hq => And.intro rfl hq) ?_
  refine g_ne (fun hc1 => ?_) (fun hc1 => ?_)
  · refine g_k 4 (pc' := 90) (LI' := [some (.ref 274), some (.int t), some (.int 4)]) (LL' := []) (st' := [.int t, .ref 274]) (S' := (z_SH, M, L)) (fun nq hq => And.intro rfl (And.intro rfl (And.intro rfl (And.intro rfl hq)))) ?_
    refine g_k 1 (pc' := 93) (LI' := [some (.ref 274), some (.int t), some (.int 4)]) (LL' := []) (st' := [.int (f_X9_twangOf_274 M t)]) (S' := (z_SH, g_X9_twangOf_274 M t, L)) (fun nq hq => And.intro rfl (Exists.intro _ (Exists.intro _ (And.intro (c_X9_twangOf_274 (d := d) M t (p1 hc1)) (And.intro (z_fit_same _ _ _ _ _ _ _ _) hq))))) ?_
    generalize hg2 : f_X9_twangOf_274 M t = r2 at *
    generalize hg3 : g_X9_twangOf_274 M t = m3 at *
    exact ⟨1, And.intro rfl (⟨(by subst hg3; subst hg2; subst hg1; unfold f_X9_matter_w4; (first | rw [if_pos hc1] | skip); try rfl), (by subst hg3; subst hg2; subst hg1; unfold g_X9_matter_w4; (first | rw [if_pos hc1] | skip); try rfl)⟩)⟩
  · refine g_k 1 (pc' := 9) (LI' := [some (.ref 274), some (.int t), some (.int 4)]) (LL' := []) (st' := [.int (-1000000002)]) (S' := (z_SH, M, L)) (fun nq hq => And.intro rfl hq) ?_
    exact ⟨1, And.intro rfl (⟨(by subst hg1; unfold f_X9_matter_w4; (first | rw [if_neg (not_not_intro hc1)] | skip); try rfl), (by subst hg1; unfold g_X9_matter_w4; (first | rw [if_neg (not_not_intro hc1)] | skip); try rfl)⟩)⟩
def f_X9_member_w7 (M : Nat → Nat → Int32) (m : Int32) : Int32 := if ¬ (f_X9_isMember_274 M m) = (0 : Int32) then (f_X9_freedOf_274 M m) else (-1000000001 : Int32)
def q_X9_member_w7 (M : Nat → Nat → Int32) (m : Int32) : Prop := ((¬ (f_X9_isMember_274 M m) = (0 : Int32)) → (q_X9_freedOf_274 M m)) ∧ True
theorem c_X9_member_w7 {d : Nat} {L : Nat → Nat → Int64} (M : Nat → Nat → Int32) (m : Int32)  (hpre : q_X9_member_w7 M m) : z_C (d + 4) 148 [.ref 274, .int m, .int 7] (z_SH, M, L) (some (.int (f_X9_member_w7 M m))) (z_SH, M, L) := by
  unfold q_X9_member_w7 at hpre
  obtain ⟨p1, -⟩ := hpre
  refine z_mkA (tb := tb_X9_member) rfl (by decide) rfl rfl rfl ?_
  refine g_k 2 (pc' := 2) (LI' := [some (.ref 274), some (.int m), some (.int 7)]) (LL' := []) (st' := [.int m, .ref 274]) (S' := (z_SH, M, L)) (fun nq hq => And.intro rfl (And.intro rfl hq)) ?_
  refine g_k 1 (pc' := 5) (LI' := [some (.ref 274), some (.int m), some (.int 7)]) (LL' := []) (st' := [.int (f_X9_isMember_274 M m)]) (S' := (z_SH, M, L)) (fun nq hq => And.intro rfl (Exists.intro _ (Exists.intro _ (And.intro (c_X9_isMember_274 (d := d + 1) M m) (And.intro (z_fit_same _ _ _ _ _ _ _ _) hq))))) ?_
  generalize hg1 : f_X9_isMember_274 M m = r1 at *
  refine g_k 1 (pc' := (if z_cmp .ne r1 ((0 : Int32)) = true then 11 else 8)) (LI' := [some (.ref 274), some (.int m), some (.int 7)]) (LL' := []) (st' := []) (S' := (z_SH, M, L)) (fun nq hq => And.intro rfl hq) ?_
  refine g_ne (fun hc1 => ?_) (fun hc1 => ?_)
  · refine g_k 4 (pc' := 120) (LI' := [some (.ref 274), some (.int m), some (.int 7)]) (LL' := []) (st' := [.int m, .ref 274]) (S' := (z_SH, M, L)) (fun nq hq => And.intro rfl (And.intro rfl (And.intro rfl (And.intro rfl hq)))) ?_
    refine g_k 1 (pc' := 123) (LI' := [some (.ref 274), some (.int m), some (.int 7)]) (LL' := []) (st' := [.int (f_X9_freedOf_274 M m)]) (S' := (z_SH, M, L)) (fun nq hq => And.intro rfl (Exists.intro _ (Exists.intro _ (And.intro (c_X9_freedOf_274 (d := d) M m (p1 hc1)) (And.intro (z_fit_same _ _ _ _ _ _ _ _) hq))))) ?_
    generalize hg2 : f_X9_freedOf_274 M m = r2 at *
    exact ⟨1, And.intro rfl (⟨(by subst hg2; subst hg1; unfold f_X9_member_w7; (first | rw [if_pos hc1] | skip); try rfl), rfl⟩)⟩
  · refine g_k 1 (pc' := 10) (LI' := [some (.ref 274), some (.int m), some (.int 7)]) (LL' := []) (st' := [.int (-1000000001)]) (S' := (z_SH, M, L)) (fun nq hq => And.intro rfl hq) ?_
    exact ⟨1, And.intro rfl (⟨(by subst hg1; unfold f_X9_member_w7; (first | rw [if_neg (not_not_intro hc1)] | skip); try rfl), rfl⟩)⟩
