def e_X7_joinGains_32_19_M (M : Nat → Nat → Int32) (v1 : Int32) (i : Int32)  : Nat → Nat → Int32 := if (1048576 : Int32) ≤ M 46 ((v1).toNatClampNeg) then M else if (1048576 : Int32) ≤ M 48 ((i).toNatClampNeg) then M else if ¬ (f_X8_isOutside M ((v1 + i) - ((2 : Int32))) ((25 : Int32))) = (0 : Int32) then M else z_row M 47 (upd (M 47) (((v1 + i) - ((2 : Int32))).toNatClampNeg) (if (M 46 ((v1).toNatClampNeg)) + (M 48 ((i).toNatClampNeg)) < M 47 (((v1 + i) - ((2 : Int32))).toNatClampNeg) then (M 46 ((v1).toNatClampNeg)) + (M 48 ((i).toNatClampNeg)) else M 47 (((v1 + i) - ((2 : Int32))).toNatClampNeg)))
def qi_X7_joinGains_32_19 (M : Nat → Nat → Int32) (v1 : Int32) (i : Int32)  : Prop := (z_vin v1 25 = true) ∧ ((¬ ((1048576 : Int32) ≤ M 46 ((v1).toNatClampNeg))) → (z_vin i 5 = true)) ∧ ((¬ ((1048576 : Int32) ≤ M 46 ((v1).toNatClampNeg))) → (¬ ((1048576 : Int32) ≤ M 48 ((i).toNatClampNeg))) → ((f_X8_isOutside M ((v1 + i) - ((2 : Int32))) ((25 : Int32))) = (0 : Int32)) → (z_vin ((v1 + i) - ((2 : Int32))) 25 = true)) ∧ True
theorem it_X7_joinGains_32_19 {d : Nat} {L : Nat → Nat → Int64} {Q : Option Value → z_St → Prop} (M : Nat → Nat → Int32) (v1 : Int32) (i : Int32)  (hc : ¬ ((5 : Int32) ≤ i)) (p1 : qi_X7_joinGains_32_19 M v1 i) (h : ∀ (y3 : Option Value), z_G (d + 1) tb_X7_joinGains 19 [some (.ref 32), some (.int v1), some (.int (i + 1)), y3] [] [] (z_SH, e_X7_joinGains_32_19_M M v1 i, L) Q) : ∀ (x3 : Option Value), z_G (d + 1) tb_X7_joinGains 19 [some (.ref 32), some (.int v1), some (.int i), x3] [] [] (z_SH, M, L) Q := by
  intro x3
  unfold qi_X7_joinGains_32_19 at p1
  obtain ⟨p1, p2, p3, -⟩ := p1
  refine g_k 3 (pc' := (if z_cmp .ge i ((5 : Int32)) = true then 95 else 24)) (LI' := [some (.ref 32), some (.int v1), some (.int i), x3]) (LL' := []) (st' := []) (S' := (z_SH, M, L)) (fun nq hq => And.intro rfl (And.intro rfl (And.intro rfl hq))) ?_
  refine g_ge (fun hc1 => ?_) (fun hc1 => ?_)
  · exact absurd hc1 hc
  · refine g_k 9 (pc' := 35) (LI' := [some (.ref 32), some (.int v1), some (.int i), some (.int ((v1 + i) - ((2 : Int32))))]) (LL' := []) (st' := [.int v1, .ref 46]) (S' := (z_SH, M, L)) (fun nq hq => And.intro rfl (And.intro rfl (And.intro rfl (And.intro rfl (And.intro rfl (And.intro rfl (And.intro rfl (And.intro rfl (And.intro rfl hq))))))))) ?_
    refine g_k 3 (pc' := (if z_cmp .ge (M 46 ((v1).toNatClampNeg)) ((1048576 : Int32)) = true then 89 else 41)) (LI' := [some (.ref 32), some (.int v1), some (.int i), some (.int ((v1 + i) - ((2 : Int32))))]) (LL' := []) (st' := []) (S' := (z_SH, M, L)) (fun nq hq => And.intro p1 (And.intro rfl (And.intro rfl hq))) ?_
    refine g_ge (fun hc2 => ?_) (fun hc2 => ?_)
    · refine g_k 2 (pc' := 19) (LI' := [some (.ref 32), some (.int v1), some (.int (i + 1)), some (.int ((v1 + i) - ((2 : Int32))))]) (LL' := []) (st' := []) (S' := (z_SH, M, L)) (fun nq hq => And.intro rfl (And.intro rfl hq)) ?_
      (unfold e_X7_joinGains_32_19_M at h; (try simp only [if_pos hc2] at h); exact h (some (.int ((v1 + i) - ((2 : Int32))))))
    · refine g_k 6 (pc' := (if z_cmp .ge (M 48 ((i).toNatClampNeg)) ((1048576 : Int32)) = true then 89 else 52)) (LI' := [some (.ref 32), some (.int v1), some (.int i), some (.int ((v1 + i) - ((2 : Int32))))]) (LL' := []) (st' := []) (S' := (z_SH, M, L)) (fun nq hq => And.intro rfl (And.intro rfl (And.intro rfl (And.intro (p2 hc2) (And.intro rfl (And.intro rfl hq)))))) ?_
      refine g_ge (fun hc3 => ?_) (fun hc3 => ?_)
      · refine g_k 2 (pc' := 19) (LI' := [some (.ref 32), some (.int v1), some (.int (i + 1)), some (.int ((v1 + i) - ((2 : Int32))))]) (LL' := []) (st' := []) (S' := (z_SH, M, L)) (fun nq hq => And.intro rfl (And.intro rfl hq)) ?_
        (unfold e_X7_joinGains_32_19_M at h; (try simp only [if_neg hc2] at h); (try simp only [if_pos hc3] at h); exact h (some (.int ((v1 + i) - ((2 : Int32))))))
      · refine g_k 2 (pc' := 55) (LI' := [some (.ref 32), some (.int v1), some (.int i), some (.int ((v1 + i) - ((2 : Int32))))]) (LL' := []) (st' := [.int 25, .int ((v1 + i) - ((2 : Int32)))]) (S' := (z_SH, M, L)) (fun nq hq => And.intro rfl (And.intro rfl hq)) ?_
        refine g_k 1 (pc' := 58) (LI' := [some (.ref 32), some (.int v1), some (.int i), some (.int ((v1 + i) - ((2 : Int32))))]) (LL' := []) (st' := [.int (f_X8_isOutside M ((v1 + i) - ((2 : Int32))) ((25 : Int32)))]) (S' := (z_SH, M, L)) (fun nq hq => And.intro rfl (Exists.intro _ (Exists.intro _ (And.intro (c_X8_isOutside (d := d) M ((v1 + i) - ((2 : Int32))) ((25 : Int32))) (And.intro (z_fit_same _ _ _ _ _ _ _ _) hq))))) ?_
        generalize hg1 : f_X8_isOutside M ((v1 + i) - ((2 : Int32))) ((25 : Int32)) = r1 at *
        refine g_k 1 (pc' := (if z_cmp .ne r1 ((0 : Int32)) = true then 89 else 61)) (LI' := [some (.ref 32), some (.int v1), some (.int i), some (.int ((v1 + i) - ((2 : Int32))))]) (LL' := []) (st' := []) (S' := (z_SH, M, L)) (fun nq hq => And.intro rfl hq) ?_
        refine g_ne (fun hc4 => ?_) (fun hc4 => ?_)
        · refine g_k 2 (pc' := 19) (LI' := [some (.ref 32), some (.int v1), some (.int (i + 1)), some (.int ((v1 + i) - ((2 : Int32))))]) (LL' := []) (st' := []) (S' := (z_SH, M, L)) (fun nq hq => And.intro rfl (And.intro rfl hq)) ?_
          (subst hg1; unfold e_X7_joinGains_32_19_M at h; (try simp only [if_neg hc2] at h); (try simp only [if_neg hc3] at h); (try simp only [if_pos hc4] at h); exact h (some (.int ((v1 + i) - ((2 : Int32))))))
        · refine g_k 9 (pc' := 76) (LI' := [some (.ref 32), some (.int v1), some (.int i), some (.int ((v1 + i) - ((2 : Int32))))]) (LL' := []) (st' := [.ref 46, .int (M 47 (((v1 + i) - ((2 : Int32))).toNatClampNeg)), .int ((v1 + i) - ((2 : Int32))), .ref 47]) (S' := (z_SH, M, L)) (fun nq hq => And.intro rfl (And.intro rfl (And.intro rfl (And.intro rfl (And.intro rfl (And.intro rfl (And.intro (p3 hc2 hc3 hc4) (And.intro rfl (And.intro rfl hq))))))))) ?_
          refine g_k 9 (pc' := 89) (LI' := [some (.ref 32), some (.int v1), some (.int i), some (.int ((v1 + i) - ((2 : Int32))))]) (LL' := []) (st' := []) (S' := (z_SH, z_row M 47 (upd (M 47) (((v1 + i) - ((2 : Int32))).toNatClampNeg) (if (M 46 ((v1).toNatClampNeg)) + (M 48 ((i).toNatClampNeg)) < M 47 (((v1 + i) - ((2 : Int32))).toNatClampNeg) then (M 46 ((v1).toNatClampNeg)) + (M 48 ((i).toNatClampNeg)) else M 47 (((v1 + i) - ((2 : Int32))).toNatClampNeg))), L)) (fun nq hq => And.intro rfl (And.intro p1 (And.intro rfl (And.intro rfl (And.intro rfl (And.intro (p2 hc2) (And.intro rfl (And.intro rfl (And.intro (p3 hc2 hc3 hc4) hq))))))))) ?_
          refine g_k 2 (pc' := 19) (LI' := [some (.ref 32), some (.int v1), some (.int (i + 1)), some (.int ((v1 + i) - ((2 : Int32))))]) (LL' := []) (st' := []) (S' := (z_SH, z_row M 47 (upd (M 47) (((v1 + i) - ((2 : Int32))).toNatClampNeg) (if (M 46 ((v1).toNatClampNeg)) + (M 48 ((i).toNatClampNeg)) < M 47 (((v1 + i) - ((2 : Int32))).toNatClampNeg) then (M 46 ((v1).toNatClampNeg)) + (M 48 ((i).toNatClampNeg)) else M 47 (((v1 + i) - ((2 : Int32))).toNatClampNeg))), L)) (fun nq hq => And.intro rfl (And.intro rfl hq)) ?_
          (subst hg1; unfold e_X7_joinGains_32_19_M at h; (try simp only [if_neg hc2] at h); (try simp only [if_neg hc3] at h); (try simp only [if_neg (not_not_intro hc4)] at h); exact h (some (.int ((v1 + i) - ((2 : Int32))))))
def s_X7_joinGains_32_19 (M : Nat → Nat → Int32) (v1 : Int32)  (n : Nat) : (Nat → Nat → Int32) := Nat.rec (motive := fun _ => (Nat → Nat → Int32)) (M) (fun k r => (e_X7_joinGains_32_19_M r v1 (nI k))) n
theorem fr_e_X7_joinGains_32_19_M (M : Nat → Nat → Int32) (v1 : Int32) (i : Int32)  (c : Nat) (h47 : c ≠ 47) : e_X7_joinGains_32_19_M M v1 i c = M c := by
  unfold e_X7_joinGains_32_19_M
  repeat' split
  all_goals simp only [z_row_ne h47]
theorem fr_s_X7_joinGains_32_19 (M : Nat → Nat → Int32) (v1 : Int32)  (n : Nat) (c : Nat) (h47 : c ≠ 47) : ((s_X7_joinGains_32_19 M v1 n)) c = M c := by
  induction n with
  | zero => rfl
  | succ n ih => exact (fr_e_X7_joinGains_32_19_M _ v1 (nI n)  c h47).trans ih
theorem l_X7_joinGains_32_19 {d : Nat} {L : Nat → Nat → Int64} {Q : Option Value → z_St → Prop} (M : Nat → Nat → Int32) (v1 : Int32)  (n : Nat) : (∀ k, k < n → ¬ ((5 : Int32) ≤ (nI k))) → (∀ k, k < n → qi_X7_joinGains_32_19 ((s_X7_joinGains_32_19 M v1 k)) v1 (nI k)) → (∀ (y3 : Option Value), z_G (d + 1) tb_X7_joinGains 19 [some (.ref 32), some (.int v1), some (.int (nI n)), y3] [] [] (z_SH, (s_X7_joinGains_32_19 M v1 n), L) Q) → ∀ (x3 : Option Value), z_G (d + 1) tb_X7_joinGains 19 [some (.ref 32), some (.int v1), some (.int (nI 0)), x3] [] [] (z_SH, M, L) Q := by
  induction n with
  | zero =>
    intro hc p1 h
    exact h
  | succ n ih =>
    intro hc p1 h
    refine ih (fun k hk => hc k (by omega)) (fun k hk => p1 k (by omega)) ?_
    have hcn := hc n (by omega)
    have p1n := p1 n (by omega)
    clear ih hc p1
    have hs : s_X7_joinGains_32_19 M v1 (n + 1) = (e_X7_joinGains_32_19_M ((s_X7_joinGains_32_19 M v1 n)) v1 (nI n)) := rfl
    rw [hs] at h
    clear hs
    generalize s_X7_joinGains_32_19 M v1 n = sg at *
    refine it_X7_joinGains_32_19 sg v1 (nI n)  hcn p1n ?_
    rw [nI_1]
    exact h
def e_X7_joinGains_32_11_M (M : Nat → Nat → Int32)  (i : Int32)  : Nat → Nat → Int32 := ((s_X7_joinGains_32_19 M i 5))
def qi_X7_joinGains_32_11 (M : Nat → Nat → Int32)  (i : Int32)  : Prop := (∀ k33, k33 < 5 → qi_X7_joinGains_32_19 ((s_X7_joinGains_32_19 M i k33)) i (nI k33)) ∧ True
theorem it_X7_joinGains_32_11 {d : Nat} {L : Nat → Nat → Int64} {Q : Option Value → z_St → Prop} (M : Nat → Nat → Int32)  (i : Int32)  (hc : ¬ ((25 : Int32) ≤ i)) (p1 : qi_X7_joinGains_32_11 M i) (h : ∀ (y2 y3 : Option Value), z_G (d + 1) tb_X7_joinGains 11 [some (.ref 32), some (.int (i + 1)), y2, y3] [] [] (z_SH, e_X7_joinGains_32_11_M M i, L) Q) : ∀ (x2 x3 : Option Value), z_G (d + 1) tb_X7_joinGains 11 [some (.ref 32), some (.int i), x2, x3] [] [] (z_SH, M, L) Q := by
  intro x2 x3
  unfold qi_X7_joinGains_32_11 at p1
  obtain ⟨p1, -⟩ := p1
  refine g_k 3 (pc' := (if z_cmp .ge i ((25 : Int32)) = true then 101 else 17)) (LI' := [some (.ref 32), some (.int i), x2, x3]) (LL' := []) (st' := []) (S' := (z_SH, M, L)) (fun nq hq => And.intro rfl (And.intro rfl (And.intro rfl hq))) ?_
  refine g_ge (fun hc1 => ?_) (fun hc1 => ?_)
  · exact absurd hc1 hc
  · refine g_k 2 (pc' := 19) (LI' := [some (.ref 32), some (.int i), some (.int 0), x3]) (LL' := []) (st' := []) (S' := (z_SH, M, L)) (fun nq hq => And.intro rfl (And.intro rfl hq)) ?_
    refine l_X7_joinGains_32_19 (d := d) M i 5 (fun k hk => z_lpc hk) p1 (fun y1 => ?_) x3
    have hx1 : (5 : Int32) ≤ nI 5 := z_lpe
    generalize hg1 : nI 5 = r1 at *
    generalize hg2 : (s_X7_joinGains_32_19 M i 5) = m2 at *
    refine g_k 3 (pc' := (if z_cmp .ge r1 ((5 : Int32)) = true then 95 else 24)) (LI' := [some (.ref 32), some (.int i), some (.int r1), y1]) (LL' := []) (st' := []) (S' := (z_SH, m2, L)) (fun nq hq => And.intro rfl (And.intro rfl (And.intro rfl hq))) ?_
    refine g_ge (fun hc2 => ?_) (fun hc2 => absurd (hx1) hc2)
    refine g_k 2 (pc' := 11) (LI' := [some (.ref 32), some (.int (i + 1)), some (.int r1), y1]) (LL' := []) (st' := []) (S' := (z_SH, m2, L)) (fun nq hq => And.intro rfl (And.intro rfl hq)) ?_
    (subst hg2; subst hg1; unfold e_X7_joinGains_32_11_M at h; exact h (some (.int (nI 5))) y1)
def s_X7_joinGains_32_11 (M : Nat → Nat → Int32)   (n : Nat) : (Nat → Nat → Int32) := Nat.rec (motive := fun _ => (Nat → Nat → Int32)) (M) (fun k r => (e_X7_joinGains_32_11_M r (nI k))) n
theorem fr_e_X7_joinGains_32_11_M (M : Nat → Nat → Int32)  (i : Int32)  (c : Nat) (h47 : c ≠ 47) : e_X7_joinGains_32_11_M M i c = M c := by
  unfold e_X7_joinGains_32_11_M
  repeat' split
  all_goals simp only [z_row_ne h47, fr_s_X7_joinGains_32_19 (c := c) (h47 := h47)]
theorem fr_s_X7_joinGains_32_11 (M : Nat → Nat → Int32)   (n : Nat) (c : Nat) (h47 : c ≠ 47) : ((s_X7_joinGains_32_11 M n)) c = M c := by
  induction n with
  | zero => rfl
  | succ n ih => exact (fr_e_X7_joinGains_32_11_M _  (nI n)  c h47).trans ih
theorem l_X7_joinGains_32_11 {d : Nat} {L : Nat → Nat → Int64} {Q : Option Value → z_St → Prop} (M : Nat → Nat → Int32)   (n : Nat) : (∀ k, k < n → ¬ ((25 : Int32) ≤ (nI k))) → (∀ k, k < n → qi_X7_joinGains_32_11 ((s_X7_joinGains_32_11 M k)) (nI k)) → (∀ (y2 y3 : Option Value), z_G (d + 1) tb_X7_joinGains 11 [some (.ref 32), some (.int (nI n)), y2, y3] [] [] (z_SH, (s_X7_joinGains_32_11 M n), L) Q) → ∀ (x2 x3 : Option Value), z_G (d + 1) tb_X7_joinGains 11 [some (.ref 32), some (.int (nI 0)), x2, x3] [] [] (z_SH, M, L) Q := by
  induction n with
  | zero =>
    intro hc p1 h
    exact h
  | succ n ih =>
    intro hc p1 h
    refine ih (fun k hk => hc k (by omega)) (fun k hk => p1 k (by omega)) ?_
    have hcn := hc n (by omega)
    have p1n := p1 n (by omega)
    clear ih hc p1
    have hs : s_X7_joinGains_32_11 M (n + 1) = (e_X7_joinGains_32_11_M ((s_X7_joinGains_32_11 M n)) (nI n)) := rfl
    rw [hs] at h
    clear hs
    generalize s_X7_joinGains_32_11 M n = sg at *
    refine it_X7_joinGains_32_11 sg  (nI n)  hcn p1n ?_
    rw [nI_1]
    exact h
def e_X7_fill_47_2_M (M : Nat → Nat → Int32) (a1 : Int32) (i : Int32)  : Nat → Nat → Int32 := z_row M 47 (upd (M 47) ((i).toNatClampNeg) a1)
def qi_X7_fill_47_2 (M : Nat → Nat → Int32) (a1 : Int32) (i : Int32)  : Prop := (z_vin i 25 = true) ∧ True
theorem it_X7_fill_47_2 {d : Nat} {L : Nat → Nat → Int64} {Q : Option Value → z_St → Prop} (M : Nat → Nat → Int32) (a1 : Int32) (i : Int32)  (hc : ¬ ((25 : Int32) ≤ i)) (p1 : qi_X7_fill_47_2 M a1 i) (h : z_G (d + 0) tb_X7_fill 2 [some (.ref 47), some (.int a1), some (.int (i + 1))] [] [] (z_SH, e_X7_fill_47_2_M M a1 i, L) Q) : z_G (d + 0) tb_X7_fill 2 [some (.ref 47), some (.int a1), some (.int i)] [] [] (z_SH, M, L) Q := by
  unfold qi_X7_fill_47_2 at p1
  obtain ⟨p1, -⟩ := p1
  refine g_k 4 (pc' := (if z_cmp .ge i ((25 : Int32)) = true then 18 else 8)) (LI' := [some (.ref 47), some (.int a1), some (.int i)]) (LL' := []) (st' := []) (S' := (z_SH, M, L)) (fun nq hq => And.intro rfl (And.intro rfl (And.intro rfl (And.intro rfl hq)))) ?_
  refine g_ge (fun hc1 => ?_) (fun hc1 => ?_)
  · exact absurd hc1 hc
  · refine g_k 6 (pc' := 2) (LI' := [some (.ref 47), some (.int a1), some (.int (i + 1))]) (LL' := []) (st' := []) (S' := (z_SH, z_row M 47 (upd (M 47) ((i).toNatClampNeg) a1), L)) (fun nq hq => And.intro rfl (And.intro rfl (And.intro rfl (And.intro p1 (And.intro rfl (And.intro rfl hq)))))) ?_
    (unfold e_X7_fill_47_2_M at h; exact h )
def s_X7_fill_47_2 (M : Nat → Nat → Int32) (a1 : Int32)  (n : Nat) : (Nat → Nat → Int32) := Nat.rec (motive := fun _ => (Nat → Nat → Int32)) (M) (fun k r => (e_X7_fill_47_2_M r a1 (nI k))) n
theorem fr_e_X7_fill_47_2_M (M : Nat → Nat → Int32) (a1 : Int32) (i : Int32)  (c : Nat) (h47 : c ≠ 47) : e_X7_fill_47_2_M M a1 i c = M c := by
  unfold e_X7_fill_47_2_M
  repeat' split
  all_goals simp only [z_row_ne h47]
theorem fr_s_X7_fill_47_2 (M : Nat → Nat → Int32) (a1 : Int32)  (n : Nat) (c : Nat) (h47 : c ≠ 47) : ((s_X7_fill_47_2 M a1 n)) c = M c := by
  induction n with
  | zero => rfl
  | succ n ih => exact (fr_e_X7_fill_47_2_M _ a1 (nI n)  c h47).trans ih
theorem l_X7_fill_47_2 {d : Nat} {L : Nat → Nat → Int64} {Q : Option Value → z_St → Prop} (M : Nat → Nat → Int32) (a1 : Int32)  (n : Nat) : (∀ k, k < n → ¬ ((25 : Int32) ≤ (nI k))) → (∀ k, k < n → qi_X7_fill_47_2 ((s_X7_fill_47_2 M a1 k)) a1 (nI k)) → (z_G (d + 0) tb_X7_fill 2 [some (.ref 47), some (.int a1), some (.int (nI n))] [] [] (z_SH, (s_X7_fill_47_2 M a1 n), L) Q) → z_G (d + 0) tb_X7_fill 2 [some (.ref 47), some (.int a1), some (.int (nI 0))] [] [] (z_SH, M, L) Q := by
  induction n with
  | zero =>
    intro hc p1 h
    exact h
  | succ n ih =>
    intro hc p1 h
    refine ih (fun k hk => hc k (by omega)) (fun k hk => p1 k (by omega)) ?_
    have hcn := hc n (by omega)
    have p1n := p1 n (by omega)
    clear ih hc p1
    have hs : s_X7_fill_47_2 M a1 (n + 1) = (e_X7_fill_47_2_M ((s_X7_fill_47_2 M a1 n)) a1 (nI n)) := rfl
    rw [hs] at h
    clear hs
    generalize s_X7_fill_47_2 M a1 n = sg at *
    refine it_X7_fill_47_2 sg a1 (nI n)  hcn p1n ?_
    rw [nI_1]
    exact h
def g_X7_fill_47 (M : Nat → Nat → Int32) (a1 : Int32) : Nat → Nat → Int32 := ((s_X7_fill_47_2 M a1 25))
theorem fr_g_X7_fill_47 (M : Nat → Nat → Int32) (a1 : Int32) (c : Nat) (h47 : c ≠ 47) : g_X7_fill_47 M a1 c = M c := by
  unfold g_X7_fill_47
  repeat' split
  all_goals simp only [z_row_ne h47, fr_s_X7_fill_47_2 (c := c) (h47 := h47)]
def q_X7_fill_47 (M : Nat → Nat → Int32) (a1 : Int32) : Prop := (∀ k35, k35 < 25 → qi_X7_fill_47_2 ((s_X7_fill_47_2 M a1 k35)) a1 (nI k35)) ∧ True
theorem c_X7_fill_47 {d : Nat} {L : Nat → Nat → Int64} (M : Nat → Nat → Int32) (a1 : Int32)  (hpre : q_X7_fill_47 M a1) : z_C (d + 1) 74 [.ref 47, .int a1] (z_SH, M, L) none (z_SH, g_X7_fill_47 M a1, L) := by
  unfold q_X7_fill_47 at hpre
  obtain ⟨p1, -⟩ := hpre
  refine z_mkA (tb := tb_X7_fill) rfl (by decide) rfl rfl rfl ?_
  refine g_k 2 (pc' := 2) (LI' := [some (.ref 47), some (.int a1), some (.int 0)]) (LL' := []) (st' := []) (S' := (z_SH, M, L)) (fun nq hq => And.intro rfl (And.intro rfl hq)) ?_
  refine l_X7_fill_47_2 (d := d) M a1 25 (fun k hk => z_lpc hk) p1 ?_ 
  have hx1 : (25 : Int32) ≤ nI 25 := z_lpe
  generalize hg1 : nI 25 = r1 at *
  generalize hg2 : (s_X7_fill_47_2 M a1 25) = m2 at *
  refine g_k 4 (pc' := (if z_cmp .ge r1 ((25 : Int32)) = true then 18 else 8)) (LI' := [some (.ref 47), some (.int a1), some (.int r1)]) (LL' := []) (st' := []) (S' := (z_SH, m2, L)) (fun nq hq => And.intro rfl (And.intro rfl (And.intro rfl (And.intro rfl hq)))) ?_
  refine g_ge (fun hc1 => ?_) (fun hc1 => absurd (hx1) hc1)
  exact ⟨1, And.intro rfl (⟨rfl, (by subst hg2; subst hg1; rfl)⟩)⟩
def g_X7_joinGains_32 (M : Nat → Nat → Int32)  : Nat → Nat → Int32 := z_row ((s_X7_joinGains_32_11 (g_X7_fill_47 M ((1048576 : Int32))) 25)) 46 (va_cpy (((s_X7_joinGains_32_11 (g_X7_fill_47 M ((1048576 : Int32))) 25)) 47) (((s_X7_joinGains_32_11 (g_X7_fill_47 M ((1048576 : Int32))) 25)) 46) 0 0 25)
theorem fr_g_X7_joinGains_32 (M : Nat → Nat → Int32)  (c : Nat) (h46 : c ≠ 46) (h47 : c ≠ 47) : g_X7_joinGains_32 M c = M c := by
  unfold g_X7_joinGains_32
  repeat' split
  all_goals simp only [z_row_ne h46, z_row_ne h47, fr_g_X7_fill_47 (c := c) (h47 := h47), fr_s_X7_joinGains_32_11 (c := c) (h47 := h47)]
def q_X7_joinGains_32 (M : Nat → Nat → Int32)  : Prop := (q_X7_fill_47 M ((1048576 : Int32))) ∧ (∀ k34, k34 < 25 → qi_X7_joinGains_32_11 ((s_X7_joinGains_32_11 (g_X7_fill_47 M ((1048576 : Int32))) k34)) (nI k34)) ∧ True
theorem c_X7_joinGains_32 {d : Nat} {L : Nat → Nat → Int64} (M : Nat → Nat → Int32)   (hpre : q_X7_joinGains_32 M) : z_C (d + 2) 67 [.ref 32] (z_SH, M, L) none (z_SH, g_X7_joinGains_32 M, L) := by
  unfold q_X7_joinGains_32 at hpre
  obtain ⟨p1, p2, -⟩ := hpre
  refine z_mkA (tb := tb_X7_joinGains) rfl (by decide) rfl rfl rfl ?_
  refine g_k 3 (pc' := 6) (LI' := [some (.ref 32), none, none, none]) (LL' := []) (st' := [.int 1048576, .ref 47]) (S' := (z_SH, M, L)) (fun nq hq => And.intro rfl (And.intro rfl (And.intro rfl hq))) ?_
  refine g_k 1 (pc' := 9) (LI' := [some (.ref 32), none, none, none]) (LL' := []) (st' := []) (S' := (z_SH, g_X7_fill_47 M ((1048576 : Int32)), L)) (fun nq hq => And.intro rfl (Exists.intro _ (Exists.intro _ (And.intro (c_X7_fill_47 (d := d) M ((1048576 : Int32)) p1) (And.intro (z_fit_same _ _ _ _ _ _ _ _) hq))))) ?_
  generalize hg1 : g_X7_fill_47 M ((1048576 : Int32)) = m1 at *
  refine g_k 2 (pc' := 11) (LI' := [some (.ref 32), some (.int 0), none, none]) (LL' := []) (st' := []) (S' := (z_SH, m1, L)) (fun nq hq => And.intro rfl (And.intro rfl hq)) ?_
  refine l_X7_joinGains_32_11 (d := d) m1 25 (fun k hk => z_lpc hk) p2 (fun y1 y2 => ?_) none none
  have hx1 : (25 : Int32) ≤ nI 25 := z_lpe
  generalize hg2 : nI 25 = r2 at *
  generalize hg3 : (s_X7_joinGains_32_11 m1 25) = m3 at *
  refine g_k 3 (pc' := (if z_cmp .ge r2 ((25 : Int32)) = true then 101 else 17)) (LI' := [some (.ref 32), some (.int r2), y1, y2]) (LL' := []) (st' := []) (S' := (z_SH, m3, L)) (fun nq hq => And.intro rfl (And.intro rfl (And.intro rfl hq))) ?_
  refine g_ge (fun hc1 => ?_) (fun hc1 => absurd (hx1) hc1)
  refine g_k 8 (pc' := 116) (LI' := [some (.ref 32), some (.int r2), y1, y2]) (LL' := []) (st' := []) (S' := (z_SH, z_row m3 46 (va_cpy (m3 47) (m3 46) 0 0 25), L)) (fun nq hq => And.intro rfl (And.intro rfl (And.intro rfl (And.intro rfl (And.intro rfl (And.intro rfl (And.intro rfl (And.intro rfl hq)))))))) ?_
  exact ⟨1, And.intro rfl (⟨rfl, (by subst hg3; subst hg2; subst hg1; rfl)⟩)⟩
def e_X7_priceGains_32_35_c5 (M : Nat → Nat → Int32) (m : Int32) (t : Int32) (v3 : Int32) (v4 : Int32) (i : Int32) (c5 : Int32) : Int32 := if ¬ (f_X8_isOutside (g_X1_takeOne_28 M m t c5) ((f_X1_gainBy_28 (g_X1_takeOne_28 M m t c5) m) + ((2 : Int32))) ((5 : Int32))) = (0 : Int32) then (f_X7_subsetBehind (g_X1_takeOne_28 M m t c5) c5 v3) else (f_X7_subsetBehind (z_row (g_X1_takeOne_28 M m t c5) 48 (upd ((g_X1_takeOne_28 M m t c5) 48) (((f_X1_gainBy_28 (g_X1_takeOne_28 M m t c5) m) + ((2 : Int32))).toNatClampNeg) (if ((f_J6_bitCount_0f7a4 (g_X1_takeOne_28 M m t c5) c5) * ((4096 : Int32))) + c5 < (g_X1_takeOne_28 M m t c5) 48 (((f_X1_gainBy_28 (g_X1_takeOne_28 M m t c5) m) + ((2 : Int32))).toNatClampNeg) then ((f_J6_bitCount_0f7a4 (g_X1_takeOne_28 M m t c5) c5) * ((4096 : Int32))) + c5 else (g_X1_takeOne_28 M m t c5) 48 (((f_X1_gainBy_28 (g_X1_takeOne_28 M m t c5) m) + ((2 : Int32))).toNatClampNeg)))) c5 v3)
def e_X7_priceGains_32_35_M (M : Nat → Nat → Int32) (m : Int32) (t : Int32) (v3 : Int32) (v4 : Int32) (i : Int32) (c5 : Int32) : Nat → Nat → Int32 := if ¬ (f_X8_isOutside (g_X1_takeOne_28 M m t c5) ((f_X1_gainBy_28 (g_X1_takeOne_28 M m t c5) m) + ((2 : Int32))) ((5 : Int32))) = (0 : Int32) then (g_X1_takeOne_28 M m t c5) else z_row (g_X1_takeOne_28 M m t c5) 48 (upd ((g_X1_takeOne_28 M m t c5) 48) (((f_X1_gainBy_28 (g_X1_takeOne_28 M m t c5) m) + ((2 : Int32))).toNatClampNeg) (if ((f_J6_bitCount_0f7a4 (g_X1_takeOne_28 M m t c5) c5) * ((4096 : Int32))) + c5 < (g_X1_takeOne_28 M m t c5) 48 (((f_X1_gainBy_28 (g_X1_takeOne_28 M m t c5) m) + ((2 : Int32))).toNatClampNeg) then ((f_J6_bitCount_0f7a4 (g_X1_takeOne_28 M m t c5) c5) * ((4096 : Int32))) + c5 else (g_X1_takeOne_28 M m t c5) 48 (((f_X1_gainBy_28 (g_X1_takeOne_28 M m t c5) m) + ((2 : Int32))).toNatClampNeg)))
def qi_X7_priceGains_32_35 (M : Nat → Nat → Int32) (m : Int32) (t : Int32) (v3 : Int32) (v4 : Int32) (i : Int32) (c5 : Int32) : Prop := (q_X1_takeOne_28 M m t c5) ∧ (q_X1_gainBy_28 (g_X1_takeOne_28 M m t c5) m) ∧ (((f_X8_isOutside (g_X1_takeOne_28 M m t c5) ((f_X1_gainBy_28 (g_X1_takeOne_28 M m t c5) m) + ((2 : Int32))) ((5 : Int32))) = (0 : Int32)) → (z_vin ((f_X1_gainBy_28 (g_X1_takeOne_28 M m t c5) m) + ((2 : Int32))) 5 = true)) ∧ True
theorem it_X7_priceGains_32_35 {d : Nat} {L : Nat → Nat → Int64} {Q : Option Value → z_St → Prop} (M : Nat → Nat → Int32) (m : Int32) (t : Int32) (v3 : Int32) (v4 : Int32) (i : Int32) (c5 : Int32) (hc : ¬ (v4 ≤ i)) (p1 : qi_X7_priceGains_32_35 M m t v3 v4 i c5) (h : ∀ (y7 y8 : Option Value), z_G (d + 2) tb_X7_priceGains 35 [some (.ref 32), some (.int m), some (.int t), some (.int v3), some (.int v4), some (.int (e_X7_priceGains_32_35_c5 M m t v3 v4 i c5)), some (.int (i + 1)), y7, y8] [] [] (z_SH, e_X7_priceGains_32_35_M M m t v3 v4 i c5, L) Q) : ∀ (x7 x8 : Option Value), z_G (d + 2) tb_X7_priceGains 35 [some (.ref 32), some (.int m), some (.int t), some (.int v3), some (.int v4), some (.int c5), some (.int i), x7, x8] [] [] (z_SH, M, L) Q := by
  intro x7 x8
  unfold qi_X7_priceGains_32_35 at p1
  obtain ⟨p1, p2, p3, -⟩ := p1
  refine g_k 3 (pc' := (if z_cmp .ge i v4 = true then 127 else 42)) (LI' := [some (.ref 32), some (.int m), some (.int t), some (.int v3), some (.int v4), some (.int c5), some (.int i), x7, x8]) (LL' := []) (st' := []) (S' := (z_SH, M, L)) (fun nq hq => And.intro rfl (And.intro rfl (And.intro rfl hq))) ?_
  refine g_ge (fun hc1 => ?_) (fun hc1 => ?_)
  · exact absurd hc1 hc
  · refine g_k 6 (pc' := 53) (LI' := [some (.ref 32), some (.int m), some (.int t), some (.int v3), some (.int v4), some (.int c5), some (.int i), x7, x8]) (LL' := []) (st' := [.int c5, .int t, .int m, .ref 28]) (S' := (z_SH, M, L)) (fun nq hq => And.intro rfl (And.intro rfl (And.intro rfl (And.intro rfl (And.intro rfl (And.intro rfl hq)))))) ?_
    refine g_k 1 (pc' := 56) (LI' := [some (.ref 32), some (.int m), some (.int t), some (.int v3), some (.int v4), some (.int c5), some (.int i), x7, x8]) (LL' := []) (st' := []) (S' := (z_SH, g_X1_takeOne_28 M m t c5, L)) (fun nq hq => And.intro rfl (Exists.intro _ (Exists.intro _ (And.intro (c_X1_takeOne_28 (d := d) M m t c5 p1) (And.intro (z_fit_same _ _ _ _ _ _ _ _) hq))))) ?_
    generalize hg1 : g_X1_takeOne_28 M m t c5 = m1 at *
    refine g_k 4 (pc' := 64) (LI' := [some (.ref 32), some (.int m), some (.int t), some (.int v3), some (.int v4), some (.int c5), some (.int i), x7, x8]) (LL' := []) (st' := [.int m, .ref 28]) (S' := (z_SH, m1, L)) (fun nq hq => And.intro rfl (And.intro rfl (And.intro rfl (And.intro rfl hq)))) ?_
    refine g_k 1 (pc' := 67) (LI' := [some (.ref 32), some (.int m), some (.int t), some (.int v3), some (.int v4), some (.int c5), some (.int i), x7, x8]) (LL' := []) (st' := [.int (f_X1_gainBy_28 m1 m)]) (S' := (z_SH, m1, L)) (fun nq hq => And.intro rfl (Exists.intro _ (Exists.intro _ (And.intro (c_X1_gainBy_28 (d := d + 1) m1 m p2) (And.intro (z_fit_same _ _ _ _ _ _ _ _) hq))))) ?_
    generalize hg2 : f_X1_gainBy_28 m1 m = r2 at *
    refine g_k 4 (pc' := 73) (LI' := [some (.ref 32), some (.int m), some (.int t), some (.int v3), some (.int v4), some (.int c5), some (.int i), some (.int (r2 + ((2 : Int32)))), x8]) (LL' := []) (st' := [.int c5]) (S' := (z_SH, m1, L)) (fun nq hq => And.intro rfl (And.intro rfl (And.intro rfl (And.intro rfl hq)))) ?_
    refine g_k 1 (pc' := 76) (LI' := [some (.ref 32), some (.int m), some (.int t), some (.int v3), some (.int v4), some (.int c5), some (.int i), some (.int (r2 + ((2 : Int32)))), x8]) (LL' := []) (st' := [.int (f_J6_bitCount_0f7a4 m1 c5)]) (S' := (z_SH, m1, L)) (fun nq hq => And.intro rfl (Exists.intro _ (Exists.intro _ (And.intro (c_J6_bitCount_0f7a4 (d := d + 1) m1 c5) (And.intro (z_fit_same _ _ _ _ _ _ _ _) hq))))) ?_
    generalize hg3 : f_J6_bitCount_0f7a4 m1 c5 = r3 at *
    refine g_k 7 (pc' := 88) (LI' := [some (.ref 32), some (.int m), some (.int t), some (.int v3), some (.int v4), some (.int c5), some (.int i), some (.int (r2 + ((2 : Int32)))), some (.int ((r3 * ((4096 : Int32))) + c5))]) (LL' := []) (st' := [.int 5, .int (r2 + ((2 : Int32)))]) (S' := (z_SH, m1, L)) (fun nq hq => And.intro rfl (And.intro rfl (And.intro rfl (And.intro rfl (And.intro rfl (And.intro rfl (And.intro rfl hq))))))) ?_
    refine g_k 1 (pc' := 91) (LI' := [some (.ref 32), some (.int m), some (.int t), some (.int v3), some (.int v4), some (.int c5), some (.int i), some (.int (r2 + ((2 : Int32)))), some (.int ((r3 * ((4096 : Int32))) + c5))]) (LL' := []) (st' := [.int (f_X8_isOutside m1 (r2 + ((2 : Int32))) ((5 : Int32)))]) (S' := (z_SH, m1, L)) (fun nq hq => And.intro rfl (Exists.intro _ (Exists.intro _ (And.intro (c_X8_isOutside (d := d + 1) m1 (r2 + ((2 : Int32))) ((5 : Int32))) (And.intro (z_fit_same _ _ _ _ _ _ _ _) hq))))) ?_
    generalize hg4 : f_X8_isOutside m1 (r2 + ((2 : Int32))) ((5 : Int32)) = r4 at *
    refine g_k 1 (pc' := (if z_cmp .ne r4 ((0 : Int32)) = true then 113 else 94)) (LI' := [some (.ref 32), some (.int m), some (.int t), some (.int v3), some (.int v4), some (.int c5), some (.int i), some (.int (r2 + ((2 : Int32)))), some (.int ((r3 * ((4096 : Int32))) + c5))]) (LL' := []) (st' := []) (S' := (z_SH, m1, L)) (fun nq hq => And.intro rfl hq) ?_
    refine g_ne (fun hc2 => ?_) (fun hc2 => ?_)
    · refine g_k 2 (pc' := 116) (LI' := [some (.ref 32), some (.int m), some (.int t), some (.int v3), some (.int v4), some (.int c5), some (.int i), some (.int (r2 + ((2 : Int32)))), some (.int ((r3 * ((4096 : Int32))) + c5))]) (LL' := []) (st' := [.int v3, .int c5]) (S' := (z_SH, m1, L)) (fun nq hq => And.intro rfl (And.intro rfl hq)) ?_
      refine g_k 1 (pc' := 119) (LI' := [some (.ref 32), some (.int m), some (.int t), some (.int v3), some (.int v4), some (.int c5), some (.int i), some (.int (r2 + ((2 : Int32)))), some (.int ((r3 * ((4096 : Int32))) + c5))]) (LL' := []) (st' := [.int (f_X7_subsetBehind m1 c5 v3)]) (S' := (z_SH, m1, L)) (fun nq hq => And.intro rfl (Exists.intro _ (Exists.intro _ (And.intro (c_X7_subsetBehind (d := d + 1) m1 c5 v3) (And.intro (z_fit_same _ _ _ _ _ _ _ _) hq))))) ?_
      generalize hg5 : f_X7_subsetBehind m1 c5 v3 = r5 at *
      refine g_k 3 (pc' := 35) (LI' := [some (.ref 32), some (.int m), some (.int t), some (.int v3), some (.int v4), some (.int r5), some (.int (i + 1)), some (.int (r2 + ((2 : Int32)))), some (.int ((r3 * ((4096 : Int32))) + c5))]) (LL' := []) (st' := []) (S' := (z_SH, m1, L)) (fun nq hq => And.intro rfl (And.intro rfl (And.intro rfl hq))) ?_
      (subst hg5; subst hg4; subst hg3; subst hg2; subst hg1; unfold e_X7_priceGains_32_35_c5 e_X7_priceGains_32_35_M at h; (try simp only [if_pos hc2] at h); exact h (some (.int ((f_X1_gainBy_28 (g_X1_takeOne_28 M m t c5) m) + ((2 : Int32))))) (some (.int (((f_J6_bitCount_0f7a4 (g_X1_takeOne_28 M m t c5) c5) * ((4096 : Int32))) + c5))))
    · refine g_k 9 (pc' := 112) (LI' := [some (.ref 32), some (.int m), some (.int t), some (.int v3), some (.int v4), some (.int c5), some (.int i), some (.int (r2 + ((2 : Int32)))), some (.int ((r3 * ((4096 : Int32))) + c5))]) (LL' := []) (st' := [.int (if (r3 * ((4096 : Int32))) + c5 < m1 48 ((r2 + ((2 : Int32))).toNatClampNeg) then (r3 * ((4096 : Int32))) + c5 else m1 48 ((r2 + ((2 : Int32))).toNatClampNeg)), .int (r2 + ((2 : Int32))), .ref 48]) (S' := (z_SH, m1, L)) (fun nq hq => And.intro rfl (And.intro rfl (And.intro rfl (And.intro rfl (And.intro rfl (And.intro rfl (And.intro (p3 hc2) (And.intro rfl (And.intro rfl hq))))))))) ?_
      refine g_k 3 (pc' := 116) (LI' := [some (.ref 32), some (.int m), some (.int t), some (.int v3), some (.int v4), some (.int c5), some (.int i), some (.int (r2 + ((2 : Int32)))), some (.int ((r3 * ((4096 : Int32))) + c5))]) (LL' := []) (st' := [.int v3, .int c5]) (S' := (z_SH, z_row m1 48 (upd (m1 48) ((r2 + ((2 : Int32))).toNatClampNeg) (if (r3 * ((4096 : Int32))) + c5 < m1 48 ((r2 + ((2 : Int32))).toNatClampNeg) then (r3 * ((4096 : Int32))) + c5 else m1 48 ((r2 + ((2 : Int32))).toNatClampNeg))), L)) (fun nq hq => And.intro (p3 hc2) (And.intro rfl (And.intro rfl hq))) ?_
      refine g_k 1 (pc' := 119) (LI' := [some (.ref 32), some (.int m), some (.int t), some (.int v3), some (.int v4), some (.int c5), some (.int i), some (.int (r2 + ((2 : Int32)))), some (.int ((r3 * ((4096 : Int32))) + c5))]) (LL' := []) (st' := [.int (f_X7_subsetBehind (z_row m1 48 (upd (m1 48) ((r2 + ((2 : Int32))).toNatClampNeg) (if (r3 * ((4096 : Int32))) + c5 < m1 48 ((r2 + ((2 : Int32))).toNatClampNeg) then (r3 * ((4096 : Int32))) + c5 else m1 48 ((r2 + ((2 : Int32))).toNatClampNeg)))) c5 v3)]) (S' := (z_SH, z_row m1 48 (upd (m1 48) ((r2 + ((2 : Int32))).toNatClampNeg) (if (r3 * ((4096 : Int32))) + c5 < m1 48 ((r2 + ((2 : Int32))).toNatClampNeg) then (r3 * ((4096 : Int32))) + c5 else m1 48 ((r2 + ((2 : Int32))).toNatClampNeg))), L)) (fun nq hq => And.intro rfl (Exists.intro _ (Exists.intro _ (And.intro (c_X7_subsetBehind (d := d + 1) (z_row m1 48 (upd (m1 48) ((r2 + ((2 : Int32))).toNatClampNeg) (if (r3 * ((4096 : Int32))) + c5 < m1 48 ((r2 + ((2 : Int32))).toNatClampNeg) then (r3 * ((4096 : Int32))) + c5 else m1 48 ((r2 + ((2 : Int32))).toNatClampNeg)))) c5 v3) (And.intro (z_fit_same _ _ _ _ _ _ _ _) hq))))) ?_
      generalize hg6 : f_X7_subsetBehind (z_row m1 48 (upd (m1 48) ((r2 + ((2 : Int32))).toNatClampNeg) (if (r3 * ((4096 : Int32))) + c5 < m1 48 ((r2 + ((2 : Int32))).toNatClampNeg) then (r3 * ((4096 : Int32))) + c5 else m1 48 ((r2 + ((2 : Int32))).toNatClampNeg)))) c5 v3 = r6 at *
      refine g_k 3 (pc' := 35) (LI' := [some (.ref 32), some (.int m), some (.int t), some (.int v3), some (.int v4), some (.int r6), some (.int (i + 1)), some (.int (r2 + ((2 : Int32)))), some (.int ((r3 * ((4096 : Int32))) + c5))]) (LL' := []) (st' := []) (S' := (z_SH, z_row m1 48 (upd (m1 48) ((r2 + ((2 : Int32))).toNatClampNeg) (if (r3 * ((4096 : Int32))) + c5 < m1 48 ((r2 + ((2 : Int32))).toNatClampNeg) then (r3 * ((4096 : Int32))) + c5 else m1 48 ((r2 + ((2 : Int32))).toNatClampNeg))), L)) (fun nq hq => And.intro rfl (And.intro rfl (And.intro rfl hq))) ?_
      (subst hg6; subst hg4; subst hg3; subst hg2; subst hg1; unfold e_X7_priceGains_32_35_c5 e_X7_priceGains_32_35_M at h; (try simp only [if_neg (not_not_intro hc2)] at h); exact h (some (.int ((f_X1_gainBy_28 (g_X1_takeOne_28 M m t c5) m) + ((2 : Int32))))) (some (.int (((f_J6_bitCount_0f7a4 (g_X1_takeOne_28 M m t c5) c5) * ((4096 : Int32))) + c5))))
def s_X7_priceGains_32_35 (M : Nat → Nat → Int32) (m : Int32) (t : Int32) (v3 : Int32) (v4 : Int32) (c5 : Int32) (n : Nat) : Int32 × (Nat → Nat → Int32) := Nat.rec (motive := fun _ => Int32 × (Nat → Nat → Int32)) (c5, M) (fun k r => (e_X7_priceGains_32_35_c5 r.2 m t v3 v4 (nI k) r.1, e_X7_priceGains_32_35_M r.2 m t v3 v4 (nI k) r.1)) n
theorem fr_e_X7_priceGains_32_35_M (M : Nat → Nat → Int32) (m : Int32) (t : Int32) (v3 : Int32) (v4 : Int32) (i : Int32) (c5 : Int32) (c : Nat) (h28 : c ≠ 28) (h29 : c ≠ 29) (h30 : c ≠ 30) (h31 : c ≠ 31) (h48 : c ≠ 48) (h268 : c ≠ 268) (h269 : c ≠ 269) (h270 : c ≠ 270) : e_X7_priceGains_32_35_M M m t v3 v4 i c5 c = M c := by
  unfold e_X7_priceGains_32_35_M
  repeat' split
  all_goals simp only [z_row_ne h28, z_row_ne h29, z_row_ne h30, z_row_ne h31, z_row_ne h48, z_row_ne h268, z_row_ne h269, z_row_ne h270, fr_g_X1_takeOne_28 (c := c) (h28 := h28) (h29 := h29) (h30 := h30) (h31 := h31) (h268 := h268) (h269 := h269) (h270 := h270)]
theorem fr_s_X7_priceGains_32_35 (M : Nat → Nat → Int32) (m : Int32) (t : Int32) (v3 : Int32) (v4 : Int32) (c5 : Int32) (n : Nat) (c : Nat) (h28 : c ≠ 28) (h29 : c ≠ 29) (h30 : c ≠ 30) (h31 : c ≠ 31) (h48 : c ≠ 48) (h268 : c ≠ 268) (h269 : c ≠ 269) (h270 : c ≠ 270) : ((s_X7_priceGains_32_35 M m t v3 v4 c5 n).2) c = M c := by
  induction n with
  | zero => rfl
  | succ n ih =>
    have hs : s_X7_priceGains_32_35 M m t v3 v4 c5 (n + 1) = (e_X7_priceGains_32_35_c5 ((s_X7_priceGains_32_35 M m t v3 v4 c5 n).2) m t v3 v4 (nI n) ((s_X7_priceGains_32_35 M m t v3 v4 c5 n).1), e_X7_priceGains_32_35_M ((s_X7_priceGains_32_35 M m t v3 v4 c5 n).2) m t v3 v4 (nI n) ((s_X7_priceGains_32_35 M m t v3 v4 c5 n).1)) := rfl
    rw [hs]
    dsimp only
    exact (fr_e_X7_priceGains_32_35_M ((s_X7_priceGains_32_35 M m t v3 v4 c5 n).2) m t v3 v4 (nI n) ((s_X7_priceGains_32_35 M m t v3 v4 c5 n).1) c h28 h29 h30 h31 h48 h268 h269 h270).trans ih
theorem l_X7_priceGains_32_35 {d : Nat} {L : Nat → Nat → Int64} {Q : Option Value → z_St → Prop} (M : Nat → Nat → Int32) (m : Int32) (t : Int32) (v3 : Int32) (v4 : Int32) (c5 : Int32) (n : Nat) : (∀ k, k < n → ¬ (v4 ≤ (nI k))) → (∀ k, k < n → qi_X7_priceGains_32_35 ((s_X7_priceGains_32_35 M m t v3 v4 c5 k).2) m t v3 v4 (nI k) ((s_X7_priceGains_32_35 M m t v3 v4 c5 k).1)) → (∀ (y7 y8 : Option Value), z_G (d + 2) tb_X7_priceGains 35 [some (.ref 32), some (.int m), some (.int t), some (.int v3), some (.int v4), some (.int ((s_X7_priceGains_32_35 M m t v3 v4 c5 n).1)), some (.int (nI n)), y7, y8] [] [] (z_SH, (s_X7_priceGains_32_35 M m t v3 v4 c5 n).2, L) Q) → ∀ (x7 x8 : Option Value), z_G (d + 2) tb_X7_priceGains 35 [some (.ref 32), some (.int m), some (.int t), some (.int v3), some (.int v4), some (.int c5), some (.int (nI 0)), x7, x8] [] [] (z_SH, M, L) Q := by
  induction n with
  | zero =>
    intro hc p1 h
    exact h
  | succ n ih =>
    intro hc p1 h
    refine ih (fun k hk => hc k (by omega)) (fun k hk => p1 k (by omega)) ?_
    have hcn := hc n (by omega)
    have p1n := p1 n (by omega)
    clear ih hc p1
    have hs : s_X7_priceGains_32_35 M m t v3 v4 c5 (n + 1) = (e_X7_priceGains_32_35_c5 ((s_X7_priceGains_32_35 M m t v3 v4 c5 n).2) m t v3 v4 (nI n) ((s_X7_priceGains_32_35 M m t v3 v4 c5 n).1), e_X7_priceGains_32_35_M ((s_X7_priceGains_32_35 M m t v3 v4 c5 n).2) m t v3 v4 (nI n) ((s_X7_priceGains_32_35 M m t v3 v4 c5 n).1)) := rfl
    rw [hs] at h
    clear hs
    try dsimp only at h
    generalize s_X7_priceGains_32_35 M m t v3 v4 c5 n = sg at *
    refine it_X7_priceGains_32_35 sg.2 m t v3 v4 (nI n) sg.1 hcn p1n ?_
    rw [nI_1]
    exact h
def e_X7_fill_48_2_M (M : Nat → Nat → Int32) (a1 : Int32) (i : Int32)  : Nat → Nat → Int32 := z_row M 48 (upd (M 48) ((i).toNatClampNeg) a1)
def qi_X7_fill_48_2 (M : Nat → Nat → Int32) (a1 : Int32) (i : Int32)  : Prop := (z_vin i 5 = true) ∧ True
theorem it_X7_fill_48_2 {d : Nat} {L : Nat → Nat → Int64} {Q : Option Value → z_St → Prop} (M : Nat → Nat → Int32) (a1 : Int32) (i : Int32)  (hc : ¬ ((5 : Int32) ≤ i)) (p1 : qi_X7_fill_48_2 M a1 i) (h : z_G (d + 0) tb_X7_fill 2 [some (.ref 48), some (.int a1), some (.int (i + 1))] [] [] (z_SH, e_X7_fill_48_2_M M a1 i, L) Q) : z_G (d + 0) tb_X7_fill 2 [some (.ref 48), some (.int a1), some (.int i)] [] [] (z_SH, M, L) Q := by
  unfold qi_X7_fill_48_2 at p1
  obtain ⟨p1, -⟩ := p1
  refine g_k 4 (pc' := (if z_cmp .ge i ((5 : Int32)) = true then 18 else 8)) (LI' := [some (.ref 48), some (.int a1), some (.int i)]) (LL' := []) (st' := []) (S' := (z_SH, M, L)) (fun nq hq => And.intro rfl (And.intro rfl (And.intro rfl (And.intro rfl hq)))) ?_
  refine g_ge (fun hc1 => ?_) (fun hc1 => ?_)
  · exact absurd hc1 hc
  · refine g_k 6 (pc' := 2) (LI' := [some (.ref 48), some (.int a1), some (.int (i + 1))]) (LL' := []) (st' := []) (S' := (z_SH, z_row M 48 (upd (M 48) ((i).toNatClampNeg) a1), L)) (fun nq hq => And.intro rfl (And.intro rfl (And.intro rfl (And.intro p1 (And.intro rfl (And.intro rfl hq)))))) ?_
    (unfold e_X7_fill_48_2_M at h; exact h )
def s_X7_fill_48_2 (M : Nat → Nat → Int32) (a1 : Int32)  (n : Nat) : (Nat → Nat → Int32) := Nat.rec (motive := fun _ => (Nat → Nat → Int32)) (M) (fun k r => (e_X7_fill_48_2_M r a1 (nI k))) n
theorem fr_e_X7_fill_48_2_M (M : Nat → Nat → Int32) (a1 : Int32) (i : Int32)  (c : Nat) (h48 : c ≠ 48) : e_X7_fill_48_2_M M a1 i c = M c := by
  unfold e_X7_fill_48_2_M
  repeat' split
  all_goals simp only [z_row_ne h48]
theorem fr_s_X7_fill_48_2 (M : Nat → Nat → Int32) (a1 : Int32)  (n : Nat) (c : Nat) (h48 : c ≠ 48) : ((s_X7_fill_48_2 M a1 n)) c = M c := by
  induction n with
  | zero => rfl
  | succ n ih => exact (fr_e_X7_fill_48_2_M _ a1 (nI n)  c h48).trans ih
theorem l_X7_fill_48_2 {d : Nat} {L : Nat → Nat → Int64} {Q : Option Value → z_St → Prop} (M : Nat → Nat → Int32) (a1 : Int32)  (n : Nat) : (∀ k, k < n → ¬ ((5 : Int32) ≤ (nI k))) → (∀ k, k < n → qi_X7_fill_48_2 ((s_X7_fill_48_2 M a1 k)) a1 (nI k)) → (z_G (d + 0) tb_X7_fill 2 [some (.ref 48), some (.int a1), some (.int (nI n))] [] [] (z_SH, (s_X7_fill_48_2 M a1 n), L) Q) → z_G (d + 0) tb_X7_fill 2 [some (.ref 48), some (.int a1), some (.int (nI 0))] [] [] (z_SH, M, L) Q := by
  induction n with
  | zero =>
    intro hc p1 h
    exact h
  | succ n ih =>
    intro hc p1 h
    refine ih (fun k hk => hc k (by omega)) (fun k hk => p1 k (by omega)) ?_
    have hcn := hc n (by omega)
    have p1n := p1 n (by omega)
    clear ih hc p1
    have hs : s_X7_fill_48_2 M a1 (n + 1) = (e_X7_fill_48_2_M ((s_X7_fill_48_2 M a1 n)) a1 (nI n)) := rfl
    rw [hs] at h
    clear hs
    generalize s_X7_fill_48_2 M a1 n = sg at *
    refine it_X7_fill_48_2 sg a1 (nI n)  hcn p1n ?_
    rw [nI_1]
    exact h
def g_X7_fill_48 (M : Nat → Nat → Int32) (a1 : Int32) : Nat → Nat → Int32 := ((s_X7_fill_48_2 M a1 5))
theorem fr_g_X7_fill_48 (M : Nat → Nat → Int32) (a1 : Int32) (c : Nat) (h48 : c ≠ 48) : g_X7_fill_48 M a1 c = M c := by
  unfold g_X7_fill_48
  repeat' split
  all_goals simp only [z_row_ne h48, fr_s_X7_fill_48_2 (c := c) (h48 := h48)]
def q_X7_fill_48 (M : Nat → Nat → Int32) (a1 : Int32) : Prop := (∀ k37, k37 < 5 → qi_X7_fill_48_2 ((s_X7_fill_48_2 M a1 k37)) a1 (nI k37)) ∧ True
theorem c_X7_fill_48 {d : Nat} {L : Nat → Nat → Int64} (M : Nat → Nat → Int32) (a1 : Int32)  (hpre : q_X7_fill_48 M a1) : z_C (d + 1) 74 [.ref 48, .int a1] (z_SH, M, L) none (z_SH, g_X7_fill_48 M a1, L) := by
  unfold q_X7_fill_48 at hpre
  obtain ⟨p1, -⟩ := hpre
  refine z_mkA (tb := tb_X7_fill) rfl (by decide) rfl rfl rfl ?_
  refine g_k 2 (pc' := 2) (LI' := [some (.ref 48), some (.int a1), some (.int 0)]) (LL' := []) (st' := []) (S' := (z_SH, M, L)) (fun nq hq => And.intro rfl (And.intro rfl hq)) ?_
  refine l_X7_fill_48_2 (d := d) M a1 5 (fun k hk => z_lpc hk) p1 ?_ 
  have hx1 : (5 : Int32) ≤ nI 5 := z_lpe
  generalize hg1 : nI 5 = r1 at *
  generalize hg2 : (s_X7_fill_48_2 M a1 5) = m2 at *
  refine g_k 4 (pc' := (if z_cmp .ge r1 ((5 : Int32)) = true then 18 else 8)) (LI' := [some (.ref 48), some (.int a1), some (.int r1)]) (LL' := []) (st' := []) (S' := (z_SH, m2, L)) (fun nq hq => And.intro rfl (And.intro rfl (And.intro rfl (And.intro rfl hq)))) ?_
  refine g_ge (fun hc1 => ?_) (fun hc1 => absurd (hx1) hc1)
  exact ⟨1, And.intro rfl (⟨rfl, (by subst hg2; subst hg1; rfl)⟩)⟩
def g_X7_priceGains_32 (M : Nat → Nat → Int32) (m : Int32) (t : Int32) : Nat → Nat → Int32 := ((s_X7_priceGains_32_35 (g_X7_fill_48 M ((1048576 : Int32))) m t (f_X0_setHoldingOf_20 (g_X7_fill_48 M ((1048576 : Int32))) m) (((1 : Int32)) <<< ((f_J6_bitCount_0f7a4 (g_X7_fill_48 M ((1048576 : Int32))) (f_X0_setHoldingOf_20 (g_X7_fill_48 M ((1048576 : Int32))) m)) &&& 31)) ((0 : Int32)) (((((1 : Int32)) <<< ((f_J6_bitCount_0f7a4 (g_X7_fill_48 M ((1048576 : Int32))) (f_X0_setHoldingOf_20 (g_X7_fill_48 M ((1048576 : Int32))) m)) &&& 31))).toNatClampNeg)).2)
theorem fr_g_X7_priceGains_32 (M : Nat → Nat → Int32) (m : Int32) (t : Int32) (c : Nat) (h28 : c ≠ 28) (h29 : c ≠ 29) (h30 : c ≠ 30) (h31 : c ≠ 31) (h48 : c ≠ 48) (h268 : c ≠ 268) (h269 : c ≠ 269) (h270 : c ≠ 270) : g_X7_priceGains_32 M m t c = M c := by
  unfold g_X7_priceGains_32
  repeat' split
  all_goals simp only [z_row_ne h28, z_row_ne h29, z_row_ne h30, z_row_ne h31, z_row_ne h48, z_row_ne h268, z_row_ne h269, z_row_ne h270, fr_g_X7_fill_48 (c := c) (h48 := h48), fr_s_X7_priceGains_32_35 (c := c) (h28 := h28) (h29 := h29) (h30 := h30) (h31 := h31) (h48 := h48) (h268 := h268) (h269 := h269) (h270 := h270)]
def q_X7_priceGains_32 (M : Nat → Nat → Int32) (m : Int32) (t : Int32) : Prop := (q_X7_fill_48 M ((1048576 : Int32))) ∧ (q_X0_setHoldingOf_20 (g_X7_fill_48 M ((1048576 : Int32))) m) ∧ (∀ k36, k36 < ((((1 : Int32)) <<< ((f_J6_bitCount_0f7a4 (g_X7_fill_48 M ((1048576 : Int32))) (f_X0_setHoldingOf_20 (g_X7_fill_48 M ((1048576 : Int32))) m)) &&& 31))).toNatClampNeg → qi_X7_priceGains_32_35 ((s_X7_priceGains_32_35 (g_X7_fill_48 M ((1048576 : Int32))) m t (f_X0_setHoldingOf_20 (g_X7_fill_48 M ((1048576 : Int32))) m) (((1 : Int32)) <<< ((f_J6_bitCount_0f7a4 (g_X7_fill_48 M ((1048576 : Int32))) (f_X0_setHoldingOf_20 (g_X7_fill_48 M ((1048576 : Int32))) m)) &&& 31)) ((0 : Int32)) k36).2) m t (f_X0_setHoldingOf_20 (g_X7_fill_48 M ((1048576 : Int32))) m) (((1 : Int32)) <<< ((f_J6_bitCount_0f7a4 (g_X7_fill_48 M ((1048576 : Int32))) (f_X0_setHoldingOf_20 (g_X7_fill_48 M ((1048576 : Int32))) m)) &&& 31)) (nI k36) ((s_X7_priceGains_32_35 (g_X7_fill_48 M ((1048576 : Int32))) m t (f_X0_setHoldingOf_20 (g_X7_fill_48 M ((1048576 : Int32))) m) (((1 : Int32)) <<< ((f_J6_bitCount_0f7a4 (g_X7_fill_48 M ((1048576 : Int32))) (f_X0_setHoldingOf_20 (g_X7_fill_48 M ((1048576 : Int32))) m)) &&& 31)) ((0 : Int32)) k36).1)) ∧ True
theorem c_X7_priceGains_32 {d : Nat} {L : Nat → Nat → Int64} (M : Nat → Nat → Int32) (m : Int32) (t : Int32)  (hpre : q_X7_priceGains_32 M m t) : z_C (d + 3) 66 [.ref 32, .int m, .int t] (z_SH, M, L) none (z_SH, g_X7_priceGains_32 M m t, L) := by
  unfold q_X7_priceGains_32 at hpre
  obtain ⟨p1, p2, p3, -⟩ := hpre
  refine z_mkA (tb := tb_X7_priceGains) rfl (by decide) rfl rfl rfl ?_
  refine g_k 3 (pc' := 6) (LI' := [some (.ref 32), some (.int m), some (.int t), none, none, none, none, none, none]) (LL' := []) (st' := [.int 1048576, .ref 48]) (S' := (z_SH, M, L)) (fun nq hq => And.intro rfl (And.intro rfl (And.intro rfl hq))) ?_
  refine g_k 1 (pc' := 9) (LI' := [some (.ref 32), some (.int m), some (.int t), none, none, none, none, none, none]) (LL' := []) (st' := []) (S' := (z_SH, g_X7_fill_48 M ((1048576 : Int32)), L)) (fun nq hq => And.intro rfl (Exists.intro _ (Exists.intro _ (And.intro (c_X7_fill_48 (d := d + 1) M ((1048576 : Int32)) p1) (And.intro (z_fit_same _ _ _ _ _ _ _ _) hq))))) ?_
  generalize hg1 : g_X7_fill_48 M ((1048576 : Int32)) = m1 at *
  refine g_k 4 (pc' := 17) (LI' := [some (.ref 32), some (.int m), some (.int t), none, none, none, none, none, none]) (LL' := []) (st' := [.int m, .ref 20]) (S' := (z_SH, m1, L)) (fun nq hq => And.intro rfl (And.intro rfl (And.intro rfl (And.intro rfl hq)))) ?_
  refine g_k 1 (pc' := 20) (LI' := [some (.ref 32), some (.int m), some (.int t), none, none, none, none, none, none]) (LL' := []) (st' := [.int (f_X0_setHoldingOf_20 m1 m)]) (S' := (z_SH, m1, L)) (fun nq hq => And.intro rfl (Exists.intro _ (Exists.intro _ (And.intro (c_X0_setHoldingOf_20 (d := d) m1 m p2) (And.intro (z_fit_same _ _ _ _ _ _ _ _) hq))))) ?_
  generalize hg2 : f_X0_setHoldingOf_20 m1 m = r2 at *
  refine g_k 3 (pc' := 23) (LI' := [some (.ref 32), some (.int m), some (.int t), some (.int r2), none, none, none, none, none]) (LL' := []) (st' := [.int r2, .int 1]) (S' := (z_SH, m1, L)) (fun nq hq => And.intro rfl (And.intro rfl (And.intro rfl hq))) ?_
  refine g_k 1 (pc' := 26) (LI' := [some (.ref 32), some (.int m), some (.int t), some (.int r2), none, none, none, none, none]) (LL' := []) (st' := [.int (f_J6_bitCount_0f7a4 m1 r2), .int 1]) (S' := (z_SH, m1, L)) (fun nq hq => And.intro rfl (Exists.intro _ (Exists.intro _ (And.intro (c_J6_bitCount_0f7a4 (d := d + 1) m1 r2) (And.intro (z_fit_same _ _ _ _ _ _ _ _) hq))))) ?_
  generalize hg3 : f_J6_bitCount_0f7a4 m1 r2 = r3 at *
  refine g_k 6 (pc' := 35) (LI' := [some (.ref 32), some (.int m), some (.int t), some (.int r2), some (.int (((1 : Int32)) <<< (r3 &&& 31))), some (.int 0), some (.int 0), none, none]) (LL' := []) (st' := []) (S' := (z_SH, m1, L)) (fun nq hq => And.intro rfl (And.intro rfl (And.intro rfl (And.intro rfl (And.intro rfl (And.intro rfl hq)))))) ?_
  refine l_X7_priceGains_32_35 (d := d) m1 m t r2 (((1 : Int32)) <<< (r3 &&& 31)) ((0 : Int32)) (((((1 : Int32)) <<< (r3 &&& 31))).toNatClampNeg) (fun k hk => z_lpc hk) p3 (fun y1 y2 => ?_) none none
  have hx1 : (((1 : Int32)) <<< (r3 &&& 31)) ≤ nI (((((1 : Int32)) <<< (r3 &&& 31))).toNatClampNeg) := z_lpe
  generalize hg4 : (s_X7_priceGains_32_35 m1 m t r2 (((1 : Int32)) <<< (r3 &&& 31)) ((0 : Int32)) (((((1 : Int32)) <<< (r3 &&& 31))).toNatClampNeg)).1 = r4 at *
  generalize hg5 : nI (((((1 : Int32)) <<< (r3 &&& 31))).toNatClampNeg) = r5 at *
  generalize hg6 : (s_X7_priceGains_32_35 m1 m t r2 (((1 : Int32)) <<< (r3 &&& 31)) ((0 : Int32)) (((((1 : Int32)) <<< (r3 &&& 31))).toNatClampNeg)).2 = m6 at *
  refine g_k 3 (pc' := (if z_cmp .ge r5 (((1 : Int32)) <<< (r3 &&& 31)) = true then 127 else 42)) (LI' := [some (.ref 32), some (.int m), some (.int t), some (.int r2), some (.int (((1 : Int32)) <<< (r3 &&& 31))), some (.int r4), some (.int r5), y1, y2]) (LL' := []) (st' := []) (S' := (z_SH, m6, L)) (fun nq hq => And.intro rfl (And.intro rfl (And.intro rfl hq))) ?_
  refine g_ge (fun hc1 => ?_) (fun hc1 => absurd (hx1) hc1)
  exact ⟨1, And.intro rfl (⟨rfl, (by subst hg6; subst hg5; subst hg4; subst hg3; subst hg2; subst hg1; rfl)⟩)⟩
def e_X7_ordersTurnedBy_32_98_c7 (M : Nat → Nat → Int32) (m : Int32) (t : Int32) (v3 : Int32) (v4 : Int32) (v5 : Int32) (v6 : Int32) (i : Int32) (c7 : Int32) (c8 : Int32) : Int32 := if v3 < ((2 : Int32)) * (f_X1_votesOfSet_28 M c8) then c7 else if ((2 : Int32)) * ((f_X1_votesOfSet_28 M c8) + v4) ≤ v3 then c7 else c7 + ((f_X7_ordersOf M (f_J6_bitCount_0f7a4 M c8)) * (f_X7_ordersOf M (f_J6_bitCount_0f7a4 M (v5 &&& (c8 ^^^ ((-1 : Int32)))))))
def e_X7_ordersTurnedBy_32_98_c8 (M : Nat → Nat → Int32) (m : Int32) (t : Int32) (v3 : Int32) (v4 : Int32) (v5 : Int32) (v6 : Int32) (i : Int32) (c7 : Int32) (c8 : Int32) : Int32 := (f_X7_subsetBehind M c8 v5)
def qi_X7_ordersTurnedBy_32_98 (M : Nat → Nat → Int32) (m : Int32) (t : Int32) (v3 : Int32) (v4 : Int32) (v5 : Int32) (v6 : Int32) (i : Int32) (c7 : Int32) (c8 : Int32) : Prop := (q_X1_votesOfSet_28 M c8) ∧ ((¬ (v3 < ((2 : Int32)) * (f_X1_votesOfSet_28 M c8))) → (¬ (((2 : Int32)) * ((f_X1_votesOfSet_28 M c8) + v4) ≤ v3)) → (q_X7_ordersOf M (f_J6_bitCount_0f7a4 M c8))) ∧ ((¬ (v3 < ((2 : Int32)) * (f_X1_votesOfSet_28 M c8))) → (¬ (((2 : Int32)) * ((f_X1_votesOfSet_28 M c8) + v4) ≤ v3)) → (q_X7_ordersOf M (f_J6_bitCount_0f7a4 M (v5 &&& (c8 ^^^ ((-1 : Int32))))))) ∧ True
theorem it_X7_ordersTurnedBy_32_98 {d : Nat} {L : Nat → Nat → Int64} {Q : Option Value → z_St → Prop} (M : Nat → Nat → Int32) (m : Int32) (t : Int32) (v3 : Int32) (v4 : Int32) (v5 : Int32) (v6 : Int32) (i : Int32) (c7 : Int32) (c8 : Int32) (hc : ¬ (v6 ≤ i)) (p1 : qi_X7_ordersTurnedBy_32_98 M m t v3 v4 v5 v6 i c7 c8) (h : ∀ (y10 : Option Value), z_G (d + 2) tb_X7_ordersTurnedBy 98 [some (.ref 32), some (.int m), some (.int t), some (.int v3), some (.int v4), some (.int v5), some (.int v6), some (.int (e_X7_ordersTurnedBy_32_98_c7 M m t v3 v4 v5 v6 i c7 c8)), some (.int (e_X7_ordersTurnedBy_32_98_c8 M m t v3 v4 v5 v6 i c7 c8)), some (.int (i + 1)), y10] [] [] (z_SH, M, L) Q) : ∀ (x10 : Option Value), z_G (d + 2) tb_X7_ordersTurnedBy 98 [some (.ref 32), some (.int m), some (.int t), some (.int v3), some (.int v4), some (.int v5), some (.int v6), some (.int c7), some (.int c8), some (.int i), x10] [] [] (z_SH, M, L) Q := by
  intro x10
  unfold qi_X7_ordersTurnedBy_32_98 at p1
  obtain ⟨p1, p2, p3, -⟩ := p1
  refine g_k 3 (pc' := (if z_cmp .ge i v6 = true then 180 else 105)) (LI' := [some (.ref 32), some (.int m), some (.int t), some (.int v3), some (.int v4), some (.int v5), some (.int v6), some (.int c7), some (.int c8), some (.int i), x10]) (LL' := []) (st' := []) (S' := (z_SH, M, L)) (fun nq hq => And.intro rfl (And.intro rfl (And.intro rfl hq))) ?_
  refine g_ge (fun hc1 => ?_) (fun hc1 => ?_)
  · exact absurd hc1 hc
  · refine g_k 4 (pc' := 114) (LI' := [some (.ref 32), some (.int m), some (.int t), some (.int v3), some (.int v4), some (.int v5), some (.int v6), some (.int c7), some (.int c8), some (.int i), x10]) (LL' := []) (st' := [.int c8, .ref 28]) (S' := (z_SH, M, L)) (fun nq hq => And.intro rfl (And.intro rfl (And.intro rfl (And.intro rfl hq)))) ?_
    refine g_k 1 (pc' := 117) (LI' := [some (.ref 32), some (.int m), some (.int t), some (.int v3), some (.int v4), some (.int v5), some (.int v6), some (.int c7), some (.int c8), some (.int i), x10]) (LL' := []) (st' := [.int (f_X1_votesOfSet_28 M c8)]) (S' := (z_SH, M, L)) (fun nq hq => And.intro rfl (Exists.intro _ (Exists.intro _ (And.intro (c_X1_votesOfSet_28 (d := d) M c8 p1) (And.intro (z_fit_same _ _ _ _ _ _ _ _) hq))))) ?_
    generalize hg1 : f_X1_votesOfSet_28 M c8 = r1 at *
    refine g_k 6 (pc' := (if z_cmp .gt (((2 : Int32)) * r1) v3 = true then 165 else 127)) (LI' := [some (.ref 32), some (.int m), some (.int t), some (.int v3), some (.int v4), some (.int v5), some (.int v6), some (.int c7), some (.int c8), some (.int i), some (.int r1)]) (LL' := []) (st' := []) (S' := (z_SH, M, L)) (fun nq hq => And.intro rfl (And.intro rfl (And.intro rfl (And.intro rfl (And.intro rfl (And.intro rfl hq)))))) ?_
    refine g_gt (fun hc2 => ?_) (fun hc2 => ?_)
    · refine g_k 2 (pc' := 169) (LI' := [some (.ref 32), some (.int m), some (.int t), some (.int v3), some (.int v4), some (.int v5), some (.int v6), some (.int c7), some (.int c8), some (.int i), some (.int r1)]) (LL' := []) (st' := [.int v5, .int c8]) (S' := (z_SH, M, L)) (fun nq hq => And.intro rfl (And.intro rfl hq)) ?_
      refine g_k 1 (pc' := 172) (LI' := [some (.ref 32), some (.int m), some (.int t), some (.int v3), some (.int v4), some (.int v5), some (.int v6), some (.int c7), some (.int c8), some (.int i), some (.int r1)]) (LL' := []) (st' := [.int (f_X7_subsetBehind M c8 v5)]) (S' := (z_SH, M, L)) (fun nq hq => And.intro rfl (Exists.intro _ (Exists.intro _ (And.intro (c_X7_subsetBehind (d := d + 1) M c8 v5) (And.intro (z_fit_same _ _ _ _ _ _ _ _) hq))))) ?_
      generalize hg2 : f_X7_subsetBehind M c8 v5 = r2 at *
      refine g_k 3 (pc' := 98) (LI' := [some (.ref 32), some (.int m), some (.int t), some (.int v3), some (.int v4), some (.int v5), some (.int v6), some (.int c7), some (.int r2), some (.int (i + 1)), some (.int r1)]) (LL' := []) (st' := []) (S' := (z_SH, M, L)) (fun nq hq => And.intro rfl (And.intro rfl (And.intro rfl hq))) ?_
      (subst hg2; subst hg1; unfold e_X7_ordersTurnedBy_32_98_c7 e_X7_ordersTurnedBy_32_98_c8 at h; (try simp only [if_pos hc2] at h); exact h (some (.int (f_X1_votesOfSet_28 M c8))))
    · refine g_k 7 (pc' := (if z_cmp .le (((2 : Int32)) * (r1 + v4)) v3 = true then 165 else 138)) (LI' := [some (.ref 32), some (.int m), some (.int t), some (.int v3), some (.int v4), some (.int v5), some (.int v6), some (.int c7), some (.int c8), some (.int i), some (.int r1)]) (LL' := []) (st' := []) (S' := (z_SH, M, L)) (fun nq hq => And.intro rfl (And.intro rfl (And.intro rfl (And.intro rfl (And.intro rfl (And.intro rfl (And.intro rfl hq))))))) ?_
      refine g_le (fun hc3 => ?_) (fun hc3 => ?_)
      · refine g_k 2 (pc' := 169) (LI' := [some (.ref 32), some (.int m), some (.int t), some (.int v3), some (.int v4), some (.int v5), some (.int v6), some (.int c7), some (.int c8), some (.int i), some (.int r1)]) (LL' := []) (st' := [.int v5, .int c8]) (S' := (z_SH, M, L)) (fun nq hq => And.intro rfl (And.intro rfl hq)) ?_
        refine g_k 1 (pc' := 172) (LI' := [some (.ref 32), some (.int m), some (.int t), some (.int v3), some (.int v4), some (.int v5), some (.int v6), some (.int c7), some (.int c8), some (.int i), some (.int r1)]) (LL' := []) (st' := [.int (f_X7_subsetBehind M c8 v5)]) (S' := (z_SH, M, L)) (fun nq hq => And.intro rfl (Exists.intro _ (Exists.intro _ (And.intro (c_X7_subsetBehind (d := d + 1) M c8 v5) (And.intro (z_fit_same _ _ _ _ _ _ _ _) hq))))) ?_
        generalize hg3 : f_X7_subsetBehind M c8 v5 = r3 at *
        refine g_k 3 (pc' := 98) (LI' := [some (.ref 32), some (.int m), some (.int t), some (.int v3), some (.int v4), some (.int v5), some (.int v6), some (.int c7), some (.int r3), some (.int (i + 1)), some (.int r1)]) (LL' := []) (st' := []) (S' := (z_SH, M, L)) (fun nq hq => And.intro rfl (And.intro rfl (And.intro rfl hq))) ?_
        (subst hg3; subst hg1; unfold e_X7_ordersTurnedBy_32_98_c7 e_X7_ordersTurnedBy_32_98_c8 at h; (try simp only [if_neg hc2] at h); (try simp only [if_pos hc3] at h); exact h (some (.int (f_X1_votesOfSet_28 M c8))))
      · refine g_k 2 (pc' := 142) (LI' := [some (.ref 32), some (.int m), some (.int t), some (.int v3), some (.int v4), some (.int v5), some (.int v6), some (.int c7), some (.int c8), some (.int i), some (.int r1)]) (LL' := []) (st' := [.int c8, .int c7]) (S' := (z_SH, M, L)) (fun nq hq => And.intro rfl (And.intro rfl hq)) ?_
        refine g_k 1 (pc' := 145) (LI' := [some (.ref 32), some (.int m), some (.int t), some (.int v3), some (.int v4), some (.int v5), some (.int v6), some (.int c7), some (.int c8), some (.int i), some (.int r1)]) (LL' := []) (st' := [.int (f_J6_bitCount_0f7a4 M c8), .int c7]) (S' := (z_SH, M, L)) (fun nq hq => And.intro rfl (Exists.intro _ (Exists.intro _ (And.intro (c_J6_bitCount_0f7a4 (d := d + 1) M c8) (And.intro (z_fit_same _ _ _ _ _ _ _ _) hq))))) ?_
        generalize hg4 : f_J6_bitCount_0f7a4 M c8 = r4 at *
        refine g_k 1 (pc' := 148) (LI' := [some (.ref 32), some (.int m), some (.int t), some (.int v3), some (.int v4), some (.int v5), some (.int v6), some (.int c7), some (.int c8), some (.int i), some (.int r1)]) (LL' := []) (st' := [.int (f_X7_ordersOf M r4), .int c7]) (S' := (z_SH, M, L)) (fun nq hq => And.intro rfl (Exists.intro _ (Exists.intro _ (And.intro (c_X7_ordersOf (d := d) M r4 (p2 hc2 hc3)) (And.intro (z_fit_same _ _ _ _ _ _ _ _) hq))))) ?_
        generalize hg5 : f_X7_ordersOf M r4 = r5 at *
        refine g_k 5 (pc' := 155) (LI' := [some (.ref 32), some (.int m), some (.int t), some (.int v3), some (.int v4), some (.int v5), some (.int v6), some (.int c7), some (.int c8), some (.int i), some (.int r1)]) (LL' := []) (st' := [.int (v5 &&& (c8 ^^^ ((-1 : Int32)))), .int r5, .int c7]) (S' := (z_SH, M, L)) (fun nq hq => And.intro rfl (And.intro rfl (And.intro rfl (And.intro rfl (And.intro rfl hq))))) ?_
        refine g_k 1 (pc' := 158) (LI' := [some (.ref 32), some (.int m), some (.int t), some (.int v3), some (.int v4), some (.int v5), some (.int v6), some (.int c7), some (.int c8), some (.int i), some (.int r1)]) (LL' := []) (st' := [.int (f_J6_bitCount_0f7a4 M (v5 &&& (c8 ^^^ ((-1 : Int32))))), .int r5, .int c7]) (S' := (z_SH, M, L)) (fun nq hq => And.intro rfl (Exists.intro _ (Exists.intro _ (And.intro (c_J6_bitCount_0f7a4 (d := d + 1) M (v5 &&& (c8 ^^^ ((-1 : Int32))))) (And.intro (z_fit_same _ _ _ _ _ _ _ _) hq))))) ?_
        generalize hg6 : f_J6_bitCount_0f7a4 M (v5 &&& (c8 ^^^ ((-1 : Int32)))) = r6 at *
        refine g_k 1 (pc' := 161) (LI' := [some (.ref 32), some (.int m), some (.int t), some (.int v3), some (.int v4), some (.int v5), some (.int v6), some (.int c7), some (.int c8), some (.int i), some (.int r1)]) (LL' := []) (st' := [.int (f_X7_ordersOf M r6), .int r5, .int c7]) (S' := (z_SH, M, L)) (fun nq hq => And.intro rfl (Exists.intro _ (Exists.intro _ (And.intro (c_X7_ordersOf (d := d) M r6 (p3 hc2 hc3)) (And.intro (z_fit_same _ _ _ _ _ _ _ _) hq))))) ?_
        generalize hg7 : f_X7_ordersOf M r6 = r7 at *
        refine g_k 5 (pc' := 169) (LI' := [some (.ref 32), some (.int m), some (.int t), some (.int v3), some (.int v4), some (.int v5), some (.int v6), some (.int (c7 + (r5 * r7))), some (.int c8), some (.int i), some (.int r1)]) (LL' := []) (st' := [.int v5, .int c8]) (S' := (z_SH, M, L)) (fun nq hq => And.intro rfl (And.intro rfl (And.intro rfl (And.intro rfl (And.intro rfl hq))))) ?_
        refine g_k 1 (pc' := 172) (LI' := [some (.ref 32), some (.int m), some (.int t), some (.int v3), some (.int v4), some (.int v5), some (.int v6), some (.int (c7 + (r5 * r7))), some (.int c8), some (.int i), some (.int r1)]) (LL' := []) (st' := [.int (f_X7_subsetBehind M c8 v5)]) (S' := (z_SH, M, L)) (fun nq hq => And.intro rfl (Exists.intro _ (Exists.intro _ (And.intro (c_X7_subsetBehind (d := d + 1) M c8 v5) (And.intro (z_fit_same _ _ _ _ _ _ _ _) hq))))) ?_
        generalize hg8 : f_X7_subsetBehind M c8 v5 = r8 at *
        refine g_k 3 (pc' := 98) (LI' := [some (.ref 32), some (.int m), some (.int t), some (.int v3), some (.int v4), some (.int v5), some (.int v6), some (.int (c7 + (r5 * r7))), some (.int r8), some (.int (i + 1)), some (.int r1)]) (LL' := []) (st' := []) (S' := (z_SH, M, L)) (fun nq hq => And.intro rfl (And.intro rfl (And.intro rfl hq))) ?_
        (subst hg8; subst hg7; subst hg6; subst hg5; subst hg4; subst hg1; unfold e_X7_ordersTurnedBy_32_98_c7 e_X7_ordersTurnedBy_32_98_c8 at h; (try simp only [if_neg hc2] at h); (try simp only [if_neg hc3] at h); exact h (some (.int (f_X1_votesOfSet_28 M c8))))
def s_X7_ordersTurnedBy_32_98 (M : Nat → Nat → Int32) (m : Int32) (t : Int32) (v3 : Int32) (v4 : Int32) (v5 : Int32) (v6 : Int32) (c7 : Int32) (c8 : Int32) (n : Nat) : Int32 × Int32 := Nat.rec (motive := fun _ => Int32 × Int32) (c7, c8) (fun k r => (e_X7_ordersTurnedBy_32_98_c7 M m t v3 v4 v5 v6 (nI k) r.1 r.2, e_X7_ordersTurnedBy_32_98_c8 M m t v3 v4 v5 v6 (nI k) r.1 r.2)) n
theorem l_X7_ordersTurnedBy_32_98 {d : Nat} {L : Nat → Nat → Int64} {Q : Option Value → z_St → Prop} (M : Nat → Nat → Int32) (m : Int32) (t : Int32) (v3 : Int32) (v4 : Int32) (v5 : Int32) (v6 : Int32) (c7 : Int32) (c8 : Int32) (n : Nat) : (∀ k, k < n → ¬ (v6 ≤ (nI k))) → (∀ k, k < n → qi_X7_ordersTurnedBy_32_98 M m t v3 v4 v5 v6 (nI k) ((s_X7_ordersTurnedBy_32_98 M m t v3 v4 v5 v6 c7 c8 k).1) ((s_X7_ordersTurnedBy_32_98 M m t v3 v4 v5 v6 c7 c8 k).2)) → (∀ (y10 : Option Value), z_G (d + 2) tb_X7_ordersTurnedBy 98 [some (.ref 32), some (.int m), some (.int t), some (.int v3), some (.int v4), some (.int v5), some (.int v6), some (.int ((s_X7_ordersTurnedBy_32_98 M m t v3 v4 v5 v6 c7 c8 n).1)), some (.int ((s_X7_ordersTurnedBy_32_98 M m t v3 v4 v5 v6 c7 c8 n).2)), some (.int (nI n)), y10] [] [] (z_SH, M, L) Q) → ∀ (x10 : Option Value), z_G (d + 2) tb_X7_ordersTurnedBy 98 [some (.ref 32), some (.int m), some (.int t), some (.int v3), some (.int v4), some (.int v5), some (.int v6), some (.int c7), some (.int c8), some (.int (nI 0)), x10] [] [] (z_SH, M, L) Q := by
  induction n with
  | zero =>
    intro hc p1 h
    exact h
  | succ n ih =>
    intro hc p1 h
    refine ih (fun k hk => hc k (by omega)) (fun k hk => p1 k (by omega)) ?_
    have hcn := hc n (by omega)
    have p1n := p1 n (by omega)
    clear ih hc p1
    have hs : s_X7_ordersTurnedBy_32_98 M m t v3 v4 v5 v6 c7 c8 (n + 1) = (e_X7_ordersTurnedBy_32_98_c7 M m t v3 v4 v5 v6 (nI n) ((s_X7_ordersTurnedBy_32_98 M m t v3 v4 v5 v6 c7 c8 n).1) ((s_X7_ordersTurnedBy_32_98 M m t v3 v4 v5 v6 c7 c8 n).2), e_X7_ordersTurnedBy_32_98_c8 M m t v3 v4 v5 v6 (nI n) ((s_X7_ordersTurnedBy_32_98 M m t v3 v4 v5 v6 c7 c8 n).1) ((s_X7_ordersTurnedBy_32_98 M m t v3 v4 v5 v6 c7 c8 n).2)) := rfl
    rw [hs] at h
    clear hs
    try dsimp only at h
    generalize s_X7_ordersTurnedBy_32_98 M m t v3 v4 v5 v6 c7 c8 n = sg at *
    refine it_X7_ordersTurnedBy_32_98 M m t v3 v4 v5 v6 (nI n) sg.1 sg.2 hcn p1n ?_
    rw [nI_1]
    exact h
def f_X7_ordersTurnedBy_32 (M : Nat → Nat → Int32) (m : Int32) (t : Int32) : Int32 := if (g_X1_take_28 M t) 31 ((m).toNatClampNeg) = (1 : Int32) then ((s_X7_ordersTurnedBy_32_98 (g_X1_take_28 M t) m t (f_X1_votesOfSet_28 (g_X1_take_28 M t) (f_X6_setOfMembers_19 (g_X1_take_28 M t))) ((g_X1_take_28 M t) 270 ((m).toNatClampNeg)) ((f_X1_setThatGoes_28 (g_X1_take_28 M t) ((1 : Int32))) &&& ((((1 : Int32)) <<< (m &&& 31)) ^^^ ((-1 : Int32)))) (((1 : Int32)) <<< ((f_J6_bitCount_0f7a4 (g_X1_take_28 M t) ((f_X1_setThatGoes_28 (g_X1_take_28 M t) ((1 : Int32))) &&& ((((1 : Int32)) <<< (m &&& 31)) ^^^ ((-1 : Int32))))) &&& 31)) ((0 : Int32)) ((0 : Int32)) (((((1 : Int32)) <<< ((f_J6_bitCount_0f7a4 (g_X1_take_28 M t) ((f_X1_setThatGoes_28 (g_X1_take_28 M t) ((1 : Int32))) &&& ((((1 : Int32)) <<< (m &&& 31)) ^^^ ((-1 : Int32))))) &&& 31))).toNatClampNeg)).1) else (0 : Int32)
def g_X7_ordersTurnedBy_32 (M : Nat → Nat → Int32) (m : Int32) (t : Int32) : Nat → Nat → Int32 := (g_X1_take_28 M t)
theorem fr_g_X7_ordersTurnedBy_32 (M : Nat → Nat → Int32) (m : Int32) (t : Int32) (c : Nat) (h28 : c ≠ 28) (h29 : c ≠ 29) (h30 : c ≠ 30) (h31 : c ≠ 31) (h268 : c ≠ 268) (h269 : c ≠ 269) (h270 : c ≠ 270) : g_X7_ordersTurnedBy_32 M m t c = M c := by
  unfold g_X7_ordersTurnedBy_32
  repeat' split
  all_goals simp only [z_row_ne h28, z_row_ne h29, z_row_ne h30, z_row_ne h31, z_row_ne h268, z_row_ne h269, z_row_ne h270, fr_g_X1_take_28 (c := c) (h28 := h28) (h29 := h29) (h30 := h30) (h31 := h31) (h268 := h268) (h269 := h269) (h270 := h270)]
def q_X7_ordersTurnedBy_32 (M : Nat → Nat → Int32) (m : Int32) (t : Int32) : Prop := (q_X1_take_28 M t) ∧ (z_vin m 6 = true) ∧ (((g_X1_take_28 M t) 31 ((m).toNatClampNeg) = (1 : Int32)) → (q_X1_votesOfSet_28 (g_X1_take_28 M t) (f_X6_setOfMembers_19 (g_X1_take_28 M t)))) ∧ (((g_X1_take_28 M t) 31 ((m).toNatClampNeg) = (1 : Int32)) → (q_X1_setThatGoes_28 (g_X1_take_28 M t) ((1 : Int32)))) ∧ (((g_X1_take_28 M t) 31 ((m).toNatClampNeg) = (1 : Int32)) → (∀ k41, k41 < ((((1 : Int32)) <<< ((f_J6_bitCount_0f7a4 (g_X1_take_28 M t) ((f_X1_setThatGoes_28 (g_X1_take_28 M t) ((1 : Int32))) &&& ((((1 : Int32)) <<< (m &&& 31)) ^^^ ((-1 : Int32))))) &&& 31))).toNatClampNeg → qi_X7_ordersTurnedBy_32_98 (g_X1_take_28 M t) m t (f_X1_votesOfSet_28 (g_X1_take_28 M t) (f_X6_setOfMembers_19 (g_X1_take_28 M t))) ((g_X1_take_28 M t) 270 ((m).toNatClampNeg)) ((f_X1_setThatGoes_28 (g_X1_take_28 M t) ((1 : Int32))) &&& ((((1 : Int32)) <<< (m &&& 31)) ^^^ ((-1 : Int32)))) (((1 : Int32)) <<< ((f_J6_bitCount_0f7a4 (g_X1_take_28 M t) ((f_X1_setThatGoes_28 (g_X1_take_28 M t) ((1 : Int32))) &&& ((((1 : Int32)) <<< (m &&& 31)) ^^^ ((-1 : Int32))))) &&& 31)) (nI k41) ((s_X7_ordersTurnedBy_32_98 (g_X1_take_28 M t) m t (f_X1_votesOfSet_28 (g_X1_take_28 M t) (f_X6_setOfMembers_19 (g_X1_take_28 M t))) ((g_X1_take_28 M t) 270 ((m).toNatClampNeg)) ((f_X1_setThatGoes_28 (g_X1_take_28 M t) ((1 : Int32))) &&& ((((1 : Int32)) <<< (m &&& 31)) ^^^ ((-1 : Int32)))) (((1 : Int32)) <<< ((f_J6_bitCount_0f7a4 (g_X1_take_28 M t) ((f_X1_setThatGoes_28 (g_X1_take_28 M t) ((1 : Int32))) &&& ((((1 : Int32)) <<< (m &&& 31)) ^^^ ((-1 : Int32))))) &&& 31)) ((0 : Int32)) ((0 : Int32)) k41).1) ((s_X7_ordersTurnedBy_32_98 (g_X1_take_28 M t) m t (f_X1_votesOfSet_28 (g_X1_take_28 M t) (f_X6_setOfMembers_19 (g_X1_take_28 M t))) ((g_X1_take_28 M t) 270 ((m).toNatClampNeg)) ((f_X1_setThatGoes_28 (g_X1_take_28 M t) ((1 : Int32))) &&& ((((1 : Int32)) <<< (m &&& 31)) ^^^ ((-1 : Int32)))) (((1 : Int32)) <<< ((f_J6_bitCount_0f7a4 (g_X1_take_28 M t) ((f_X1_setThatGoes_28 (g_X1_take_28 M t) ((1 : Int32))) &&& ((((1 : Int32)) <<< (m &&& 31)) ^^^ ((-1 : Int32))))) &&& 31)) ((0 : Int32)) ((0 : Int32)) k41).2))) ∧ True
theorem c_X7_ordersTurnedBy_32 {d : Nat} {L : Nat → Nat → Int64} (M : Nat → Nat → Int32) (m : Int32) (t : Int32)  (hpre : q_X7_ordersTurnedBy_32 M m t) : z_C (d + 4) 72 [.ref 32, .int m, .int t] (z_SH, M, L) (some (.int (f_X7_ordersTurnedBy_32 M m t))) (z_SH, g_X7_ordersTurnedBy_32 M m t, L) := by
  unfold q_X7_ordersTurnedBy_32 at hpre
  obtain ⟨p1, p2, p3, p4, p5, -⟩ := hpre
  refine z_mkA (tb := tb_X7_ordersTurnedBy) rfl (by decide) rfl rfl rfl ?_
  refine g_k 4 (pc' := 8) (LI' := [some (.ref 32), some (.int m), some (.int t), none, none, none, none, none, none, none, none]) (LL' := []) (st' := [.int t, .ref 28]) (S' := (z_SH, M, L)) (fun nq hq => And.intro rfl (And.intro rfl (And.intro rfl (And.intro rfl hq)))) ?_
  refine g_k 1 (pc' := 11) (LI' := [some (.ref 32), some (.int m), some (.int t), none, none, none, none, none, none, none, none]) (LL' := []) (st' := []) (S' := (z_SH, g_X1_take_28 M t, L)) (fun nq hq => And.intro rfl (Exists.intro _ (Exists.intro _ (And.intro (c_X1_take_28 (d := d) M t p1) (And.intro (z_fit_same _ _ _ _ _ _ _ _) hq))))) ?_
  generalize hg1 : g_X1_take_28 M t = m1 at *
  refine g_k 8 (pc' := (if z_cmp .eq (m1 31 ((m).toNatClampNeg)) ((1 : Int32)) = true then 29 else 27)) (LI' := [some (.ref 32), some (.int m), some (.int t), none, none, none, none, none, none, none, none]) (LL' := []) (st' := []) (S' := (z_SH, m1, L)) (fun nq hq => And.intro rfl (And.intro rfl (And.intro rfl (And.intro rfl (And.intro rfl (And.intro p2 (And.intro rfl (And.intro rfl hq)))))))) ?_
  refine g_eq (fun hc1 => ?_) (fun hc1 => ?_)
  · refine g_k 5 (pc' := 40) (LI' := [some (.ref 32), some (.int m), some (.int t), none, none, none, none, none, none, none, none]) (LL' := []) (st' := [.ref 19, .ref 28]) (S' := (z_SH, m1, L)) (fun nq hq => And.intro rfl (And.intro rfl (And.intro rfl (And.intro rfl (And.intro rfl hq))))) ?_
    refine g_k 1 (pc' := 43) (LI' := [some (.ref 32), some (.int m), some (.int t), none, none, none, none, none, none, none, none]) (LL' := []) (st' := [.int (f_X6_setOfMembers_19 m1), .ref 28]) (S' := (z_SH, m1, L)) (fun nq hq => And.intro rfl (Exists.intro _ (Exists.intro _ (And.intro (c_X6_setOfMembers_19 (d := d + 2) m1) (And.intro (z_fit_same _ _ _ _ _ _ _ _) hq))))) ?_
    generalize hg2 : f_X6_setOfMembers_19 m1 = r2 at *
    refine g_k 1 (pc' := 46) (LI' := [some (.ref 32), some (.int m), some (.int t), none, none, none, none, none, none, none, none]) (LL' := []) (st' := [.int (f_X1_votesOfSet_28 m1 r2)]) (S' := (z_SH, m1, L)) (fun nq hq => And.intro rfl (Exists.intro _ (Exists.intro _ (And.intro (c_X1_votesOfSet_28 (d := d + 1) m1 r2 (p3 hc1)) (And.intro (z_fit_same _ _ _ _ _ _ _ _) hq))))) ?_
    generalize hg3 : f_X1_votesOfSet_28 m1 r2 = r3 at *
    refine g_k 9 (pc' := 62) (LI' := [some (.ref 32), some (.int m), some (.int t), some (.int r3), some (.int (m1 270 ((m).toNatClampNeg))), none, none, none, none, none, none]) (LL' := []) (st' := [.ref 32]) (S' := (z_SH, m1, L)) (fun nq hq => And.intro rfl (And.intro rfl (And.intro rfl (And.intro rfl (And.intro rfl (And.intro rfl (And.intro p2 (And.intro rfl (And.intro rfl hq))))))))) ?_
    refine g_k 3 (pc' := 69) (LI' := [some (.ref 32), some (.int m), some (.int t), some (.int r3), some (.int (m1 270 ((m).toNatClampNeg))), none, none, none, none, none, none]) (LL' := []) (st' := [.int 1, .ref 28]) (S' := (z_SH, m1, L)) (fun nq hq => And.intro rfl (And.intro rfl (And.intro rfl hq))) ?_
    refine g_k 1 (pc' := 72) (LI' := [some (.ref 32), some (.int m), some (.int t), some (.int r3), some (.int (m1 270 ((m).toNatClampNeg))), none, none, none, none, none, none]) (LL' := []) (st' := [.int (f_X1_setThatGoes_28 m1 ((1 : Int32)))]) (S' := (z_SH, m1, L)) (fun nq hq => And.intro rfl (Exists.intro _ (Exists.intro _ (And.intro (c_X1_setThatGoes_28 (d := d + 2) m1 ((1 : Int32)) (p4 hc1)) (And.intro (z_fit_same _ _ _ _ _ _ _ _) hq))))) ?_
    generalize hg4 : f_X1_setThatGoes_28 m1 ((1 : Int32)) = r4 at *
    refine g_k 9 (pc' := 83) (LI' := [some (.ref 32), some (.int m), some (.int t), some (.int r3), some (.int (m1 270 ((m).toNatClampNeg))), some (.int (r4 &&& ((((1 : Int32)) <<< (m &&& 31)) ^^^ ((-1 : Int32))))), none, none, none, none, none]) (LL' := []) (st' := [.int (r4 &&& ((((1 : Int32)) <<< (m &&& 31)) ^^^ ((-1 : Int32)))), .int 1]) (S' := (z_SH, m1, L)) (fun nq hq => And.intro rfl (And.intro rfl (And.intro rfl (And.intro rfl (And.intro rfl (And.intro rfl (And.intro rfl (And.intro rfl (And.intro rfl hq))))))))) ?_
    refine g_k 1 (pc' := 86) (LI' := [some (.ref 32), some (.int m), some (.int t), some (.int r3), some (.int (m1 270 ((m).toNatClampNeg))), some (.int (r4 &&& ((((1 : Int32)) <<< (m &&& 31)) ^^^ ((-1 : Int32))))), none, none, none, none, none]) (LL' := []) (st' := [.int (f_J6_bitCount_0f7a4 m1 (r4 &&& ((((1 : Int32)) <<< (m &&& 31)) ^^^ ((-1 : Int32))))), .int 1]) (S' := (z_SH, m1, L)) (fun nq hq => And.intro rfl (Exists.intro _ (Exists.intro _ (And.intro (c_J6_bitCount_0f7a4 (d := d + 2) m1 (r4 &&& ((((1 : Int32)) <<< (m &&& 31)) ^^^ ((-1 : Int32))))) (And.intro (z_fit_same _ _ _ _ _ _ _ _) hq))))) ?_
    generalize hg5 : f_J6_bitCount_0f7a4 m1 (r4 &&& ((((1 : Int32)) <<< (m &&& 31)) ^^^ ((-1 : Int32)))) = r5 at *
    refine g_k 8 (pc' := 98) (LI' := [some (.ref 32), some (.int m), some (.int t), some (.int r3), some (.int (m1 270 ((m).toNatClampNeg))), some (.int (r4 &&& ((((1 : Int32)) <<< (m &&& 31)) ^^^ ((-1 : Int32))))), some (.int (((1 : Int32)) <<< (r5 &&& 31))), some (.int 0), some (.int 0), some (.int 0), none]) (LL' := []) (st' := []) (S' := (z_SH, m1, L)) (fun nq hq => And.intro rfl (And.intro rfl (And.intro rfl (And.intro rfl (And.intro rfl (And.intro rfl (And.intro rfl (And.intro rfl hq)))))))) ?_
    refine l_X7_ordersTurnedBy_32_98 (d := d + 1) m1 m t r3 (m1 270 ((m).toNatClampNeg)) (r4 &&& ((((1 : Int32)) <<< (m &&& 31)) ^^^ ((-1 : Int32)))) (((1 : Int32)) <<< (r5 &&& 31)) ((0 : Int32)) ((0 : Int32)) (((((1 : Int32)) <<< (r5 &&& 31))).toNatClampNeg) (fun k hk => z_lpc hk) (p5 hc1) (fun y1 => ?_) none
    have hx1 : (((1 : Int32)) <<< (r5 &&& 31)) ≤ nI (((((1 : Int32)) <<< (r5 &&& 31))).toNatClampNeg) := z_lpe
    generalize hg6 : (s_X7_ordersTurnedBy_32_98 m1 m t r3 (m1 270 ((m).toNatClampNeg)) (r4 &&& ((((1 : Int32)) <<< (m &&& 31)) ^^^ ((-1 : Int32)))) (((1 : Int32)) <<< (r5 &&& 31)) ((0 : Int32)) ((0 : Int32)) (((((1 : Int32)) <<< (r5 &&& 31))).toNatClampNeg)).1 = r6 at *
    generalize hg7 : (s_X7_ordersTurnedBy_32_98 m1 m t r3 (m1 270 ((m).toNatClampNeg)) (r4 &&& ((((1 : Int32)) <<< (m &&& 31)) ^^^ ((-1 : Int32)))) (((1 : Int32)) <<< (r5 &&& 31)) ((0 : Int32)) ((0 : Int32)) (((((1 : Int32)) <<< (r5 &&& 31))).toNatClampNeg)).2 = r7 at *
    generalize hg8 : nI (((((1 : Int32)) <<< (r5 &&& 31))).toNatClampNeg) = r8 at *
    refine g_k 3 (pc' := (if z_cmp .ge r8 (((1 : Int32)) <<< (r5 &&& 31)) = true then 180 else 105)) (LI' := [some (.ref 32), some (.int m), some (.int t), some (.int r3), some (.int (m1 270 ((m).toNatClampNeg))), some (.int (r4 &&& ((((1 : Int32)) <<< (m &&& 31)) ^^^ ((-1 : Int32))))), some (.int (((1 : Int32)) <<< (r5 &&& 31))), some (.int r6), some (.int r7), some (.int r8), y1]) (LL' := []) (st' := []) (S' := (z_SH, m1, L)) (fun nq hq => And.intro rfl (And.intro rfl (And.intro rfl hq))) ?_
    refine g_ge (fun hc2 => ?_) (fun hc2 => absurd (hx1) hc2)
    refine g_k 1 (pc' := 182) (LI' := [some (.ref 32), some (.int m), some (.int t), some (.int r3), some (.int (m1 270 ((m).toNatClampNeg))), some (.int (r4 &&& ((((1 : Int32)) <<< (m &&& 31)) ^^^ ((-1 : Int32))))), some (.int (((1 : Int32)) <<< (r5 &&& 31))), some (.int r6), some (.int r7), some (.int r8), y1]) (LL' := []) (st' := [.int r6]) (S' := (z_SH, m1, L)) (fun nq hq => And.intro rfl hq) ?_
    exact ⟨1, And.intro rfl (⟨(by subst hg8; subst hg7; subst hg6; subst hg5; subst hg4; subst hg3; subst hg2; subst hg1; unfold f_X7_ordersTurnedBy_32; (first | rw [if_pos hc1] | skip); try rfl), (by subst hg8; subst hg7; subst hg6; subst hg5; subst hg4; subst hg3; subst hg2; subst hg1; unfold g_X7_ordersTurnedBy_32; (first | rw [if_pos hc1] | skip); try rfl)⟩)⟩
  · refine g_k 1 (pc' := 28) (LI' := [some (.ref 32), some (.int m), some (.int t), none, none, none, none, none, none, none, none]) (LL' := []) (st' := [.int 0]) (S' := (z_SH, m1, L)) (fun nq hq => And.intro rfl hq) ?_
    exact ⟨1, And.intro rfl (⟨(by subst hg1; unfold f_X7_ordersTurnedBy_32; (first | rw [if_neg hc1] | skip); try rfl), (by subst hg1; unfold g_X7_ordersTurnedBy_32; (first | rw [if_neg hc1] | skip); try rfl)⟩)⟩
def e_X3_setThatFits_243_19_7_c2 (M : Nat → Nat → Int32)  (i : Int32) (c2 : Int32) : Int32 := c2 &&& (f_X1_setThatGoes_28 (g_X1_take_28 M (M 244 ((i).toNatClampNeg))) ((g_X1_take_28 M (M 244 ((i).toNatClampNeg))) 245 ((i).toNatClampNeg)))
def e_X3_setThatFits_243_19_7_M (M : Nat → Nat → Int32)  (i : Int32) (c2 : Int32) : Nat → Nat → Int32 := (g_X1_take_28 M (M 244 ((i).toNatClampNeg)))
def qi_X3_setThatFits_243_19_7 (M : Nat → Nat → Int32)  (i : Int32) (c2 : Int32) : Prop := (z_vin i 6 = true) ∧ (q_X1_take_28 M (M 244 ((i).toNatClampNeg))) ∧ (q_X1_setThatGoes_28 (g_X1_take_28 M (M 244 ((i).toNatClampNeg))) ((g_X1_take_28 M (M 244 ((i).toNatClampNeg))) 245 ((i).toNatClampNeg))) ∧ True
theorem it_X3_setThatFits_243_19_7 {d : Nat} {L : Nat → Nat → Int64} {Q : Option Value → z_St → Prop} (M : Nat → Nat → Int32)  (i : Int32) (c2 : Int32) (hc : ¬ (M 243 0 ≤ i)) (p1 : qi_X3_setThatFits_243_19_7 M i c2) (h : z_G (d + 3) tb_X3_setThatFits 7 [some (.ref 243), some (.ref 19), some (.int (e_X3_setThatFits_243_19_7_c2 M i c2)), some (.int (i + 1))] [] [] (z_SH, e_X3_setThatFits_243_19_7_M M i c2, L) Q) : z_G (d + 3) tb_X3_setThatFits 7 [some (.ref 243), some (.ref 19), some (.int c2), some (.int i)] [] [] (z_SH, M, L) Q := by
  unfold qi_X3_setThatFits_243_19_7 at p1
  obtain ⟨p1, p2, p3, -⟩ := p1
  refine g_k 4 (pc' := (if z_cmp .ge i (M 243 0) = true then 50 else 15)) (LI' := [some (.ref 243), some (.ref 19), some (.int c2), some (.int i)]) (LL' := []) (st' := []) (S' := (z_SH, M, L)) (fun nq hq => And.intro rfl (And.intro rfl (And.intro rfl (And.intro rfl hq)))) ?_
  refine g_ge (fun hc1 => ?_) (fun hc1 => ?_)
  · exact absurd hc1 hc
  · refine g_k 6 (pc' := 25) (LI' := [some (.ref 243), some (.ref 19), some (.int c2), some (.int i)]) (LL' := []) (st' := [.int (M 244 ((i).toNatClampNeg)), .ref 28]) (S' := (z_SH, M, L)) (fun nq hq => And.intro rfl (And.intro rfl (And.intro rfl (And.intro rfl (And.intro rfl (And.intro p1 hq)))))) ?_
    refine g_k 1 (pc' := 28) (LI' := [some (.ref 243), some (.ref 19), some (.int c2), some (.int i)]) (LL' := []) (st' := []) (S' := (z_SH, g_X1_take_28 M (M 244 ((i).toNatClampNeg)), L)) (fun nq hq => And.intro rfl (Exists.intro _ (Exists.intro _ (And.intro (c_X1_take_28 (d := d) M (M 244 ((i).toNatClampNeg)) p2) (And.intro (z_fit_same _ _ _ _ _ _ _ _) hq))))) ?_
    generalize hg1 : g_X1_take_28 M (M 244 ((i).toNatClampNeg)) = m1 at *
    refine g_k 7 (pc' := 39) (LI' := [some (.ref 243), some (.ref 19), some (.int c2), some (.int i)]) (LL' := []) (st' := [.int (m1 245 ((i).toNatClampNeg)), .ref 28, .int c2]) (S' := (z_SH, m1, L)) (fun nq hq => And.intro rfl (And.intro rfl (And.intro rfl (And.intro rfl (And.intro rfl (And.intro rfl (And.intro p1 hq))))))) ?_
    refine g_k 1 (pc' := 42) (LI' := [some (.ref 243), some (.ref 19), some (.int c2), some (.int i)]) (LL' := []) (st' := [.int (f_X1_setThatGoes_28 m1 (m1 245 ((i).toNatClampNeg))), .int c2]) (S' := (z_SH, m1, L)) (fun nq hq => And.intro rfl (Exists.intro _ (Exists.intro _ (And.intro (c_X1_setThatGoes_28 (d := d + 2) m1 (m1 245 ((i).toNatClampNeg)) p3) (And.intro (z_fit_same _ _ _ _ _ _ _ _) hq))))) ?_
    generalize hg2 : f_X1_setThatGoes_28 m1 (m1 245 ((i).toNatClampNeg)) = r2 at *
    refine g_k 4 (pc' := 7) (LI' := [some (.ref 243), some (.ref 19), some (.int (c2 &&& r2)), some (.int (i + 1))]) (LL' := []) (st' := []) (S' := (z_SH, m1, L)) (fun nq hq => And.intro rfl (And.intro rfl (And.intro rfl (And.intro rfl hq)))) ?_
    (subst hg2; subst hg1; unfold e_X3_setThatFits_243_19_7_c2 e_X3_setThatFits_243_19_7_M at h; exact h )
def s_X3_setThatFits_243_19_7 (M : Nat → Nat → Int32)  (c2 : Int32) (n : Nat) : Int32 × (Nat → Nat → Int32) := Nat.rec (motive := fun _ => Int32 × (Nat → Nat → Int32)) (c2, M) (fun k r => (e_X3_setThatFits_243_19_7_c2 r.2 (nI k) r.1, e_X3_setThatFits_243_19_7_M r.2 (nI k) r.1)) n
theorem fr_e_X3_setThatFits_243_19_7_M (M : Nat → Nat → Int32)  (i : Int32) (c2 : Int32) (c : Nat) (h28 : c ≠ 28) (h29 : c ≠ 29) (h30 : c ≠ 30) (h31 : c ≠ 31) (h268 : c ≠ 268) (h269 : c ≠ 269) (h270 : c ≠ 270) : e_X3_setThatFits_243_19_7_M M i c2 c = M c := by
  unfold e_X3_setThatFits_243_19_7_M
  repeat' split
  all_goals simp only [z_row_ne h28, z_row_ne h29, z_row_ne h30, z_row_ne h31, z_row_ne h268, z_row_ne h269, z_row_ne h270, fr_g_X1_take_28 (c := c) (h28 := h28) (h29 := h29) (h30 := h30) (h31 := h31) (h268 := h268) (h269 := h269) (h270 := h270)]
theorem fr_s_X3_setThatFits_243_19_7 (M : Nat → Nat → Int32)  (c2 : Int32) (n : Nat) (c : Nat) (h28 : c ≠ 28) (h29 : c ≠ 29) (h30 : c ≠ 30) (h31 : c ≠ 31) (h268 : c ≠ 268) (h269 : c ≠ 269) (h270 : c ≠ 270) : ((s_X3_setThatFits_243_19_7 M c2 n).2) c = M c := by
  induction n with
  | zero => rfl
  | succ n ih => exact (fr_e_X3_setThatFits_243_19_7_M _  (nI n) ((s_X3_setThatFits_243_19_7 M c2 n).1) c h28 h29 h30 h31 h268 h269 h270).trans ih
theorem l_X3_setThatFits_243_19_7 {d : Nat} {L : Nat → Nat → Int64} {Q : Option Value → z_St → Prop} (M : Nat → Nat → Int32)  (c2 : Int32) (n : Nat) : (∀ k, k < n → ¬ (((s_X3_setThatFits_243_19_7 M c2 k).2) 243 0 ≤ (nI k))) → (∀ k, k < n → qi_X3_setThatFits_243_19_7 ((s_X3_setThatFits_243_19_7 M c2 k).2) (nI k) ((s_X3_setThatFits_243_19_7 M c2 k).1)) → (z_G (d + 3) tb_X3_setThatFits 7 [some (.ref 243), some (.ref 19), some (.int ((s_X3_setThatFits_243_19_7 M c2 n).1)), some (.int (nI n))] [] [] (z_SH, (s_X3_setThatFits_243_19_7 M c2 n).2, L) Q) → z_G (d + 3) tb_X3_setThatFits 7 [some (.ref 243), some (.ref 19), some (.int c2), some (.int (nI 0))] [] [] (z_SH, M, L) Q := by
  induction n with
  | zero =>
    intro hc p1 h
    exact h
  | succ n ih =>
    intro hc p1 h
    refine ih (fun k hk => hc k (by omega)) (fun k hk => p1 k (by omega)) ?_
    have hcn := hc n (by omega)
    have p1n := p1 n (by omega)
    clear ih hc p1
    have hs : s_X3_setThatFits_243_19_7 M c2 (n + 1) = (e_X3_setThatFits_243_19_7_c2 ((s_X3_setThatFits_243_19_7 M c2 n).2) (nI n) ((s_X3_setThatFits_243_19_7 M c2 n).1), e_X3_setThatFits_243_19_7_M ((s_X3_setThatFits_243_19_7 M c2 n).2) (nI n) ((s_X3_setThatFits_243_19_7 M c2 n).1)) := rfl
    rw [hs] at h
    clear hs
    try dsimp only at h
    generalize s_X3_setThatFits_243_19_7 M c2 n = sg at *
    refine it_X3_setThatFits_243_19_7 sg.2  (nI n) sg.1 hcn p1n ?_
    rw [nI_1]
    exact h
def f_X3_setThatFits_243_19 (M : Nat → Nat → Int32)  : Int32 := ((s_X3_setThatFits_243_19_7 M (f_X6_setOfMembers_19 M) ((M 243 0).toNatClampNeg)).1)
def g_X3_setThatFits_243_19 (M : Nat → Nat → Int32)  : Nat → Nat → Int32 := ((s_X3_setThatFits_243_19_7 M (f_X6_setOfMembers_19 M) ((M 243 0).toNatClampNeg)).2)
theorem fr_g_X3_setThatFits_243_19 (M : Nat → Nat → Int32)  (c : Nat) (h28 : c ≠ 28) (h29 : c ≠ 29) (h30 : c ≠ 30) (h31 : c ≠ 31) (h268 : c ≠ 268) (h269 : c ≠ 269) (h270 : c ≠ 270) : g_X3_setThatFits_243_19 M c = M c := by
  unfold g_X3_setThatFits_243_19
  repeat' split
  all_goals simp only [z_row_ne h28, z_row_ne h29, z_row_ne h30, z_row_ne h31, z_row_ne h268, z_row_ne h269, z_row_ne h270, fr_s_X3_setThatFits_243_19_7 (c := c) (h28 := h28) (h29 := h29) (h30 := h30) (h31 := h31) (h268 := h268) (h269 := h269) (h270 := h270)]
def q_X3_setThatFits_243_19 (M : Nat → Nat → Int32)  : Prop := (∀ k42, k42 < (M 243 0).toNatClampNeg → qi_X3_setThatFits_243_19_7 ((s_X3_setThatFits_243_19_7 M (f_X6_setOfMembers_19 M) k42).2) (nI k42) ((s_X3_setThatFits_243_19_7 M (f_X6_setOfMembers_19 M) k42).1)) ∧ True
theorem c_X3_setThatFits_243_19 {d : Nat} {L : Nat → Nat → Int64} (M : Nat → Nat → Int32)   (hpre : q_X3_setThatFits_243_19 M) : z_C (d + 4) 36 [.ref 243, .ref 19] (z_SH, M, L) (some (.int (f_X3_setThatFits_243_19 M))) (z_SH, g_X3_setThatFits_243_19 M, L) := by
  unfold q_X3_setThatFits_243_19 at hpre
  obtain ⟨p1, -⟩ := hpre
  refine z_mkA (tb := tb_X3_setThatFits) rfl (by decide) rfl rfl rfl ?_
  refine g_k 1 (pc' := 1) (LI' := [some (.ref 243), some (.ref 19), none, none]) (LL' := []) (st' := [.ref 19]) (S' := (z_SH, M, L)) (fun nq hq => And.intro rfl hq) ?_
  refine g_k 1 (pc' := 4) (LI' := [some (.ref 243), some (.ref 19), none, none]) (LL' := []) (st' := [.int (f_X6_setOfMembers_19 M)]) (S' := (z_SH, M, L)) (fun nq hq => And.intro rfl (Exists.intro _ (Exists.intro _ (And.intro (c_X6_setOfMembers_19 (d := d + 2) M) (And.intro (z_fit_same _ _ _ _ _ _ _ _) hq))))) ?_
  generalize hg1 : f_X6_setOfMembers_19 M = r1 at *
  refine g_k 3 (pc' := 7) (LI' := [some (.ref 243), some (.ref 19), some (.int r1), some (.int 0)]) (LL' := []) (st' := []) (S' := (z_SH, M, L)) (fun nq hq => And.intro rfl (And.intro rfl (And.intro rfl hq))) ?_
  refine l_X3_setThatFits_243_19_7 (d := d) M r1 ((M 243 0).toNatClampNeg) (fun k hk => by rw [fr_s_X3_setThatFits_243_19_7 M r1 k 243 (by decide) (by decide) (by decide) (by decide) (by decide) (by decide) (by decide)]; exact z_lpc hk) p1 ?_ 
  have hx1 : ((s_X3_setThatFits_243_19_7 M r1 ((M 243 0).toNatClampNeg)).2) 243 0 ≤ nI ((M 243 0).toNatClampNeg) := by rw [fr_s_X3_setThatFits_243_19_7 M r1 ((M 243 0).toNatClampNeg) 243 (by decide) (by decide) (by decide) (by decide) (by decide) (by decide) (by decide)]; exact z_lpe
  generalize hg2 : (s_X3_setThatFits_243_19_7 M r1 ((M 243 0).toNatClampNeg)).1 = r2 at *
  generalize hg3 : nI ((M 243 0).toNatClampNeg) = r3 at *
  generalize hg4 : (s_X3_setThatFits_243_19_7 M r1 ((M 243 0).toNatClampNeg)).2 = m4 at *
  refine g_k 4 (pc' := (if z_cmp .ge r3 (m4 243 0) = true then 50 else 15)) (LI' := [some (.ref 243), some (.ref 19), some (.int r2), some (.int r3)]) (LL' := []) (st' := []) (S' := (z_SH, m4, L)) (fun nq hq => And.intro rfl (And.intro rfl (And.intro rfl (And.intro rfl hq)))) ?_
  refine g_ge (fun hc1 => ?_) (fun hc1 => absurd (hx1) hc1)
  refine g_k 1 (pc' := 51) (LI' := [some (.ref 243), some (.ref 19), some (.int r2), some (.int r3)]) (LL' := []) (st' := [.int r2]) (S' := (z_SH, m4, L)) (fun nq hq => And.intro rfl hq) ?_
  exact ⟨1, And.intro rfl (⟨(by subst hg4; subst hg3; subst hg2; subst hg1; rfl), (by subst hg4; subst hg3; subst hg2; subst hg1; rfl)⟩)⟩
def e_X3_greatestPart_28_4_c2 (M : Nat → Nat → Int32) (a0 : Int32) (i : Int32) (c2 : Int32) : Int32 := if c2 < (f_J6_bitCount_0f7a4 M (a0 &&& (f_X1_setThatGoes_28 M i))) then (f_J6_bitCount_0f7a4 M (a0 &&& (f_X1_setThatGoes_28 M i))) else c2
def qi_X3_greatestPart_28_4 (M : Nat → Nat → Int32) (a0 : Int32) (i : Int32) (c2 : Int32) : Prop := (q_X1_setThatGoes_28 M i) ∧ True
theorem it_X3_greatestPart_28_4 {d : Nat} {L : Nat → Nat → Int64} {Q : Option Value → z_St → Prop} (M : Nat → Nat → Int32) (a0 : Int32) (i : Int32) (c2 : Int32) (hc : ¬ ((3 : Int32) ≤ i)) (p1 : qi_X3_greatestPart_28_4 M a0 i c2) (h : z_G (d + 1) tb_X3_greatestPart 4 [some (.int a0), some (.ref 28), some (.int (e_X3_greatestPart_28_4_c2 M a0 i c2)), some (.int (i + 1))] [] [] (z_SH, M, L) Q) : z_G (d + 1) tb_X3_greatestPart 4 [some (.int a0), some (.ref 28), some (.int c2), some (.int i)] [] [] (z_SH, M, L) Q := by
  unfold qi_X3_greatestPart_28_4 at p1
  obtain ⟨p1, -⟩ := p1
  refine g_k 3 (pc' := (if z_cmp .ge i ((3 : Int32)) = true then 30 else 9)) (LI' := [some (.int a0), some (.ref 28), some (.int c2), some (.int i)]) (LL' := []) (st' := []) (S' := (z_SH, M, L)) (fun nq hq => And.intro rfl (And.intro rfl (And.intro rfl hq))) ?_
  refine g_ge (fun hc1 => ?_) (fun hc1 => ?_)
  · exact absurd hc1 hc
  · refine g_k 4 (pc' := 13) (LI' := [some (.int a0), some (.ref 28), some (.int c2), some (.int i)]) (LL' := []) (st' := [.int i, .ref 28, .int a0, .int c2]) (S' := (z_SH, M, L)) (fun nq hq => And.intro rfl (And.intro rfl (And.intro rfl (And.intro rfl hq)))) ?_
    refine g_k 1 (pc' := 16) (LI' := [some (.int a0), some (.ref 28), some (.int c2), some (.int i)]) (LL' := []) (st' := [.int (f_X1_setThatGoes_28 M i), .int a0, .int c2]) (S' := (z_SH, M, L)) (fun nq hq => And.intro rfl (Exists.intro _ (Exists.intro _ (And.intro (c_X1_setThatGoes_28 (d := d) M i p1) (And.intro (z_fit_same _ _ _ _ _ _ _ _) hq))))) ?_
    generalize hg1 : f_X1_setThatGoes_28 M i = r1 at *
    refine g_k 1 (pc' := 17) (LI' := [some (.int a0), some (.ref 28), some (.int c2), some (.int i)]) (LL' := []) (st' := [.int (a0 &&& r1), .int c2]) (S' := (z_SH, M, L)) (fun nq hq => And.intro rfl hq) ?_
    refine g_k 1 (pc' := 20) (LI' := [some (.int a0), some (.ref 28), some (.int c2), some (.int i)]) (LL' := []) (st' := [.int (f_J6_bitCount_0f7a4 M (a0 &&& r1)), .int c2]) (S' := (z_SH, M, L)) (fun nq hq => And.intro rfl (Exists.intro _ (Exists.intro _ (And.intro (c_J6_bitCount_0f7a4 (d := d) M (a0 &&& r1)) (And.intro (z_fit_same _ _ _ _ _ _ _ _) hq))))) ?_
    generalize hg2 : f_J6_bitCount_0f7a4 M (a0 &&& r1) = r2 at *
    refine g_k 4 (pc' := 4) (LI' := [some (.int a0), some (.ref 28), some (.int (if c2 < r2 then r2 else c2)), some (.int (i + 1))]) (LL' := []) (st' := []) (S' := (z_SH, M, L)) (fun nq hq => And.intro rfl (And.intro rfl (And.intro rfl (And.intro rfl hq)))) ?_
    (subst hg2; subst hg1; unfold e_X3_greatestPart_28_4_c2 at h; exact h )
def s_X3_greatestPart_28_4 (M : Nat → Nat → Int32) (a0 : Int32) (c2 : Int32) (n : Nat) : Int32 := Nat.rec (motive := fun _ => Int32) (c2) (fun k r => (e_X3_greatestPart_28_4_c2 M a0 (nI k) r)) n
theorem l_X3_greatestPart_28_4 {d : Nat} {L : Nat → Nat → Int64} {Q : Option Value → z_St → Prop} (M : Nat → Nat → Int32) (a0 : Int32) (c2 : Int32) (n : Nat) : (∀ k, k < n → ¬ ((3 : Int32) ≤ (nI k))) → (∀ k, k < n → qi_X3_greatestPart_28_4 M a0 (nI k) ((s_X3_greatestPart_28_4 M a0 c2 k))) → (z_G (d + 1) tb_X3_greatestPart 4 [some (.int a0), some (.ref 28), some (.int ((s_X3_greatestPart_28_4 M a0 c2 n))), some (.int (nI n))] [] [] (z_SH, M, L) Q) → z_G (d + 1) tb_X3_greatestPart 4 [some (.int a0), some (.ref 28), some (.int c2), some (.int (nI 0))] [] [] (z_SH, M, L) Q := by
  induction n with
  | zero =>
    intro hc p1 h
    exact h
  | succ n ih =>
    intro hc p1 h
    refine ih (fun k hk => hc k (by omega)) (fun k hk => p1 k (by omega)) ?_
    have hcn := hc n (by omega)
    have p1n := p1 n (by omega)
    clear ih hc p1
    have hs : s_X3_greatestPart_28_4 M a0 c2 (n + 1) = (e_X3_greatestPart_28_4_c2 M a0 (nI n) ((s_X3_greatestPart_28_4 M a0 c2 n))) := rfl
    rw [hs] at h
    clear hs
    generalize s_X3_greatestPart_28_4 M a0 c2 n = sg at *
    refine it_X3_greatestPart_28_4 M a0 (nI n) sg hcn p1n ?_
    rw [nI_1]
    exact h
def f_X3_greatestPart_28 (M : Nat → Nat → Int32) (a0 : Int32) : Int32 := ((s_X3_greatestPart_28_4 M a0 ((0 : Int32)) 3))
def q_X3_greatestPart_28 (M : Nat → Nat → Int32) (a0 : Int32) : Prop := (∀ k44, k44 < 3 → qi_X3_greatestPart_28_4 M a0 (nI k44) ((s_X3_greatestPart_28_4 M a0 ((0 : Int32)) k44))) ∧ True
theorem c_X3_greatestPart_28 {d : Nat} {L : Nat → Nat → Int64} (M : Nat → Nat → Int32) (a0 : Int32)  (hpre : q_X3_greatestPart_28 M a0) : z_C (d + 2) 38 [.int a0, .ref 28] (z_SH, M, L) (some (.int (f_X3_greatestPart_28 M a0))) (z_SH, M, L) := by
  unfold q_X3_greatestPart_28 at hpre
  obtain ⟨p1, -⟩ := hpre
  refine z_mkA (tb := tb_X3_greatestPart) rfl (by decide) rfl rfl rfl ?_
  refine g_k 4 (pc' := 4) (LI' := [some (.int a0), some (.ref 28), some (.int 0), some (.int 0)]) (LL' := []) (st' := []) (S' := (z_SH, M, L)) (fun nq hq => And.intro rfl (And.intro rfl (And.intro rfl (And.intro rfl hq)))) ?_
  refine l_X3_greatestPart_28_4 (d := d) M a0 ((0 : Int32)) 3 (fun k hk => z_lpc hk) p1 ?_ 
  have hx1 : (3 : Int32) ≤ nI 3 := z_lpe
  generalize hg1 : (s_X3_greatestPart_28_4 M a0 ((0 : Int32)) 3) = r1 at *
  generalize hg2 : nI 3 = r2 at *
  refine g_k 3 (pc' := (if z_cmp .ge r2 ((3 : Int32)) = true then 30 else 9)) (LI' := [some (.int a0), some (.ref 28), some (.int r1), some (.int r2)]) (LL' := []) (st' := []) (S' := (z_SH, M, L)) (fun nq hq => And.intro rfl (And.intro rfl (And.intro rfl hq))) ?_
  refine g_ge (fun hc1 => ?_) (fun hc1 => absurd (hx1) hc1)
  refine g_k 1 (pc' := 31) (LI' := [some (.int a0), some (.ref 28), some (.int r1), some (.int r2)]) (LL' := []) (st' := [.int r1]) (S' := (z_SH, M, L)) (fun nq hq => And.intro rfl hq) ?_
  exact ⟨1, And.intro rfl (⟨(by subst hg2; subst hg1; rfl), rfl⟩)⟩
def e_X3_bestToPut_243_19_17_c3 (M : Nat → Nat → Int32) (v2 : Int32) (i : Int32) (c3 : Int32) (c4 : Int32) : Int32 := if c4 ≤ (f_X3_greatestPart_28 (g_X1_take_28 M i) v2) then c3 else i
def e_X3_bestToPut_243_19_17_c4 (M : Nat → Nat → Int32) (v2 : Int32) (i : Int32) (c3 : Int32) (c4 : Int32) : Int32 := if c4 ≤ (f_X3_greatestPart_28 (g_X1_take_28 M i) v2) then c4 else (f_X3_greatestPart_28 (g_X1_take_28 M i) v2)
def e_X3_bestToPut_243_19_17_M (M : Nat → Nat → Int32) (v2 : Int32) (i : Int32) (c3 : Int32) (c4 : Int32) : Nat → Nat → Int32 := (g_X1_take_28 M i)
def qi_X3_bestToPut_243_19_17 (M : Nat → Nat → Int32) (v2 : Int32) (i : Int32) (c3 : Int32) (c4 : Int32) : Prop := (q_X1_take_28 M i) ∧ (q_X3_greatestPart_28 (g_X1_take_28 M i) v2) ∧ True
theorem it_X3_bestToPut_243_19_17 {d : Nat} {L : Nat → Nat → Int64} {Q : Option Value → z_St → Prop} (M : Nat → Nat → Int32) (v2 : Int32) (i : Int32) (c3 : Int32) (c4 : Int32) (hc : ¬ ((8 : Int32) ≤ i)) (p1 : qi_X3_bestToPut_243_19_17 M v2 i c3 c4) (h : ∀ (y6 : Option Value), z_G (d + 3) tb_X3_bestToPut 17 [some (.ref 243), some (.ref 19), some (.int v2), some (.int (e_X3_bestToPut_243_19_17_c3 M v2 i c3 c4)), some (.int (e_X3_bestToPut_243_19_17_c4 M v2 i c3 c4)), some (.int (i + 1)), y6] [] [] (z_SH, e_X3_bestToPut_243_19_17_M M v2 i c3 c4, L) Q) : ∀ (x6 : Option Value), z_G (d + 3) tb_X3_bestToPut 17 [some (.ref 243), some (.ref 19), some (.int v2), some (.int c3), some (.int c4), some (.int i), x6] [] [] (z_SH, M, L) Q := by
  intro x6
  unfold qi_X3_bestToPut_243_19_17 at p1
  obtain ⟨p1, p2, -⟩ := p1
  refine g_k 3 (pc' := (if z_cmp .ge i ((8 : Int32)) = true then 63 else 24)) (LI' := [some (.ref 243), some (.ref 19), some (.int v2), some (.int c3), some (.int c4), some (.int i), x6]) (LL' := []) (st' := []) (S' := (z_SH, M, L)) (fun nq hq => And.intro rfl (And.intro rfl (And.intro rfl hq))) ?_
  refine g_ge (fun hc1 => ?_) (fun hc1 => ?_)
  · exact absurd hc1 hc
  · refine g_k 3 (pc' := 30) (LI' := [some (.ref 243), some (.ref 19), some (.int v2), some (.int c3), some (.int c4), some (.int i), x6]) (LL' := []) (st' := [.int i, .ref 28]) (S' := (z_SH, M, L)) (fun nq hq => And.intro rfl (And.intro rfl (And.intro rfl hq))) ?_
    refine g_k 1 (pc' := 33) (LI' := [some (.ref 243), some (.ref 19), some (.int v2), some (.int c3), some (.int c4), some (.int i), x6]) (LL' := []) (st' := []) (S' := (z_SH, g_X1_take_28 M i, L)) (fun nq hq => And.intro rfl (Exists.intro _ (Exists.intro _ (And.intro (c_X1_take_28 (d := d) M i p1) (And.intro (z_fit_same _ _ _ _ _ _ _ _) hq))))) ?_
    generalize hg1 : g_X1_take_28 M i = m1 at *
    refine g_k 3 (pc' := 38) (LI' := [some (.ref 243), some (.ref 19), some (.int v2), some (.int c3), some (.int c4), some (.int i), x6]) (LL' := []) (st' := [.ref 28, .int v2]) (S' := (z_SH, m1, L)) (fun nq hq => And.intro rfl (And.intro rfl (And.intro rfl hq))) ?_
    refine g_k 1 (pc' := 41) (LI' := [some (.ref 243), some (.ref 19), some (.int v2), some (.int c3), some (.int c4), some (.int i), x6]) (LL' := []) (st' := [.int (f_X3_greatestPart_28 m1 v2)]) (S' := (z_SH, m1, L)) (fun nq hq => And.intro rfl (Exists.intro _ (Exists.intro _ (And.intro (c_X3_greatestPart_28 (d := d + 1) m1 v2 p2) (And.intro (z_fit_same _ _ _ _ _ _ _ _) hq))))) ?_
    generalize hg2 : f_X3_greatestPart_28 m1 v2 = r2 at *
    refine g_k 4 (pc' := (if z_cmp .ge r2 c4 = true then 57 else 50)) (LI' := [some (.ref 243), some (.ref 19), some (.int v2), some (.int c3), some (.int c4), some (.int i), some (.int r2)]) (LL' := []) (st' := []) (S' := (z_SH, m1, L)) (fun nq hq => And.intro rfl (And.intro rfl (And.intro rfl (And.intro rfl hq)))) ?_
    refine g_ge (fun hc2 => ?_) (fun hc2 => ?_)
    · refine g_k 2 (pc' := 17) (LI' := [some (.ref 243), some (.ref 19), some (.int v2), some (.int c3), some (.int c4), some (.int (i + 1)), some (.int r2)]) (LL' := []) (st' := []) (S' := (z_SH, m1, L)) (fun nq hq => And.intro rfl (And.intro rfl hq)) ?_
      (subst hg2; subst hg1; unfold e_X3_bestToPut_243_19_17_c3 e_X3_bestToPut_243_19_17_c4 e_X3_bestToPut_243_19_17_M at h; (try simp only [if_pos hc2] at h); exact h (some (.int (f_X3_greatestPart_28 (g_X1_take_28 M i) v2))))
    · refine g_k 6 (pc' := 17) (LI' := [some (.ref 243), some (.ref 19), some (.int v2), some (.int i), some (.int r2), some (.int (i + 1)), some (.int r2)]) (LL' := []) (st' := []) (S' := (z_SH, m1, L)) (fun nq hq => And.intro rfl (And.intro rfl (And.intro rfl (And.intro rfl (And.intro rfl (And.intro rfl hq)))))) ?_
      (subst hg2; subst hg1; unfold e_X3_bestToPut_243_19_17_c3 e_X3_bestToPut_243_19_17_c4 e_X3_bestToPut_243_19_17_M at h; (try simp only [if_neg hc2] at h); exact h (some (.int (f_X3_greatestPart_28 (g_X1_take_28 M i) v2))))
def s_X3_bestToPut_243_19_17 (M : Nat → Nat → Int32) (v2 : Int32) (c3 : Int32) (c4 : Int32) (n : Nat) : Int32 × Int32 × (Nat → Nat → Int32) := Nat.rec (motive := fun _ => Int32 × Int32 × (Nat → Nat → Int32)) (c3, c4, M) (fun k r => (e_X3_bestToPut_243_19_17_c3 r.2.2 v2 (nI k) r.1 r.2.1, e_X3_bestToPut_243_19_17_c4 r.2.2 v2 (nI k) r.1 r.2.1, e_X3_bestToPut_243_19_17_M r.2.2 v2 (nI k) r.1 r.2.1)) n
theorem fr_e_X3_bestToPut_243_19_17_M (M : Nat → Nat → Int32) (v2 : Int32) (i : Int32) (c3 : Int32) (c4 : Int32) (c : Nat) (h28 : c ≠ 28) (h29 : c ≠ 29) (h30 : c ≠ 30) (h31 : c ≠ 31) (h268 : c ≠ 268) (h269 : c ≠ 269) (h270 : c ≠ 270) : e_X3_bestToPut_243_19_17_M M v2 i c3 c4 c = M c := by
  unfold e_X3_bestToPut_243_19_17_M
  repeat' split
  all_goals simp only [z_row_ne h28, z_row_ne h29, z_row_ne h30, z_row_ne h31, z_row_ne h268, z_row_ne h269, z_row_ne h270, fr_g_X1_take_28 (c := c) (h28 := h28) (h29 := h29) (h30 := h30) (h31 := h31) (h268 := h268) (h269 := h269) (h270 := h270)]
theorem fr_s_X3_bestToPut_243_19_17 (M : Nat → Nat → Int32) (v2 : Int32) (c3 : Int32) (c4 : Int32) (n : Nat) (c : Nat) (h28 : c ≠ 28) (h29 : c ≠ 29) (h30 : c ≠ 30) (h31 : c ≠ 31) (h268 : c ≠ 268) (h269 : c ≠ 269) (h270 : c ≠ 270) : ((s_X3_bestToPut_243_19_17 M v2 c3 c4 n).2.2) c = M c := by
  induction n with
  | zero => rfl
  | succ n ih => exact (fr_e_X3_bestToPut_243_19_17_M _ v2 (nI n) ((s_X3_bestToPut_243_19_17 M v2 c3 c4 n).1) ((s_X3_bestToPut_243_19_17 M v2 c3 c4 n).2.1) c h28 h29 h30 h31 h268 h269 h270).trans ih
theorem l_X3_bestToPut_243_19_17 {d : Nat} {L : Nat → Nat → Int64} {Q : Option Value → z_St → Prop} (M : Nat → Nat → Int32) (v2 : Int32) (c3 : Int32) (c4 : Int32) (n : Nat) : (∀ k, k < n → ¬ ((8 : Int32) ≤ (nI k))) → (∀ k, k < n → qi_X3_bestToPut_243_19_17 ((s_X3_bestToPut_243_19_17 M v2 c3 c4 k).2.2) v2 (nI k) ((s_X3_bestToPut_243_19_17 M v2 c3 c4 k).1) ((s_X3_bestToPut_243_19_17 M v2 c3 c4 k).2.1)) → (∀ (y6 : Option Value), z_G (d + 3) tb_X3_bestToPut 17 [some (.ref 243), some (.ref 19), some (.int v2), some (.int ((s_X3_bestToPut_243_19_17 M v2 c3 c4 n).1)), some (.int ((s_X3_bestToPut_243_19_17 M v2 c3 c4 n).2.1)), some (.int (nI n)), y6] [] [] (z_SH, (s_X3_bestToPut_243_19_17 M v2 c3 c4 n).2.2, L) Q) → ∀ (x6 : Option Value), z_G (d + 3) tb_X3_bestToPut 17 [some (.ref 243), some (.ref 19), some (.int v2), some (.int c3), some (.int c4), some (.int (nI 0)), x6] [] [] (z_SH, M, L) Q := by
  induction n with
  | zero =>
    intro hc p1 h
    exact h
  | succ n ih =>
    intro hc p1 h
    refine ih (fun k hk => hc k (by omega)) (fun k hk => p1 k (by omega)) ?_
    have hcn := hc n (by omega)
    have p1n := p1 n (by omega)
    clear ih hc p1
    have hs : s_X3_bestToPut_243_19_17 M v2 c3 c4 (n + 1) = (e_X3_bestToPut_243_19_17_c3 ((s_X3_bestToPut_243_19_17 M v2 c3 c4 n).2.2) v2 (nI n) ((s_X3_bestToPut_243_19_17 M v2 c3 c4 n).1) ((s_X3_bestToPut_243_19_17 M v2 c3 c4 n).2.1), e_X3_bestToPut_243_19_17_c4 ((s_X3_bestToPut_243_19_17 M v2 c3 c4 n).2.2) v2 (nI n) ((s_X3_bestToPut_243_19_17 M v2 c3 c4 n).1) ((s_X3_bestToPut_243_19_17 M v2 c3 c4 n).2.1), e_X3_bestToPut_243_19_17_M ((s_X3_bestToPut_243_19_17 M v2 c3 c4 n).2.2) v2 (nI n) ((s_X3_bestToPut_243_19_17 M v2 c3 c4 n).1) ((s_X3_bestToPut_243_19_17 M v2 c3 c4 n).2.1)) := rfl
    rw [hs] at h
    clear hs
    try dsimp only at h
    generalize s_X3_bestToPut_243_19_17 M v2 c3 c4 n = sg at *
    refine it_X3_bestToPut_243_19_17 sg.2.2 v2 (nI n) sg.1 sg.2.1 hcn p1n ?_
    rw [nI_1]
    exact h
def f_X3_bestToPut_243_19 (M : Nat → Nat → Int32)  : Int32 := ((s_X3_bestToPut_243_19_17 (g_X3_setThatFits_243_19 M) (f_X3_setThatFits_243_19 M) ((-1 : Int32)) (f_J6_bitCount_0f7a4 (g_X3_setThatFits_243_19 M) (f_X3_setThatFits_243_19 M)) 8).1)
def g_X3_bestToPut_243_19 (M : Nat → Nat → Int32)  : Nat → Nat → Int32 := ((s_X3_bestToPut_243_19_17 (g_X3_setThatFits_243_19 M) (f_X3_setThatFits_243_19 M) ((-1 : Int32)) (f_J6_bitCount_0f7a4 (g_X3_setThatFits_243_19 M) (f_X3_setThatFits_243_19 M)) 8).2.2)
theorem fr_g_X3_bestToPut_243_19 (M : Nat → Nat → Int32)  (c : Nat) (h28 : c ≠ 28) (h29 : c ≠ 29) (h30 : c ≠ 30) (h31 : c ≠ 31) (h268 : c ≠ 268) (h269 : c ≠ 269) (h270 : c ≠ 270) : g_X3_bestToPut_243_19 M c = M c := by
  unfold g_X3_bestToPut_243_19
  repeat' split
  all_goals simp only [z_row_ne h28, z_row_ne h29, z_row_ne h30, z_row_ne h31, z_row_ne h268, z_row_ne h269, z_row_ne h270, fr_g_X3_setThatFits_243_19 (c := c) (h28 := h28) (h29 := h29) (h30 := h30) (h31 := h31) (h268 := h268) (h269 := h269) (h270 := h270), fr_s_X3_bestToPut_243_19_17 (c := c) (h28 := h28) (h29 := h29) (h30 := h30) (h31 := h31) (h268 := h268) (h269 := h269) (h270 := h270)]
def q_X3_bestToPut_243_19 (M : Nat → Nat → Int32)  : Prop := (q_X3_setThatFits_243_19 M) ∧ (∀ k43, k43 < 8 → qi_X3_bestToPut_243_19_17 ((s_X3_bestToPut_243_19_17 (g_X3_setThatFits_243_19 M) (f_X3_setThatFits_243_19 M) ((-1 : Int32)) (f_J6_bitCount_0f7a4 (g_X3_setThatFits_243_19 M) (f_X3_setThatFits_243_19 M)) k43).2.2) (f_X3_setThatFits_243_19 M) (nI k43) ((s_X3_bestToPut_243_19_17 (g_X3_setThatFits_243_19 M) (f_X3_setThatFits_243_19 M) ((-1 : Int32)) (f_J6_bitCount_0f7a4 (g_X3_setThatFits_243_19 M) (f_X3_setThatFits_243_19 M)) k43).1) ((s_X3_bestToPut_243_19_17 (g_X3_setThatFits_243_19 M) (f_X3_setThatFits_243_19 M) ((-1 : Int32)) (f_J6_bitCount_0f7a4 (g_X3_setThatFits_243_19 M) (f_X3_setThatFits_243_19 M)) k43).2.1)) ∧ True
theorem c_X3_bestToPut_243_19 {d : Nat} {L : Nat → Nat → Int64} (M : Nat → Nat → Int32)   (hpre : q_X3_bestToPut_243_19 M) : z_C (d + 5) 37 [.ref 243, .ref 19] (z_SH, M, L) (some (.int (f_X3_bestToPut_243_19 M))) (z_SH, g_X3_bestToPut_243_19 M, L) := by
  unfold q_X3_bestToPut_243_19 at hpre
  obtain ⟨p1, p2, -⟩ := hpre
  refine z_mkA (tb := tb_X3_bestToPut) rfl (by decide) rfl rfl rfl ?_
  refine g_k 2 (pc' := 2) (LI' := [some (.ref 243), some (.ref 19), none, none, none, none, none]) (LL' := []) (st' := [.ref 19, .ref 243]) (S' := (z_SH, M, L)) (fun nq hq => And.intro rfl (And.intro rfl hq)) ?_
  refine g_k 1 (pc' := 5) (LI' := [some (.ref 243), some (.ref 19), none, none, none, none, none]) (LL' := []) (st' := [.int (f_X3_setThatFits_243_19 M)]) (S' := (z_SH, g_X3_setThatFits_243_19 M, L)) (fun nq hq => And.intro rfl (Exists.intro _ (Exists.intro _ (And.intro (c_X3_setThatFits_243_19 (d := d) M  p1) (And.intro (z_fit_same _ _ _ _ _ _ _ _) hq))))) ?_
  generalize hg1 : f_X3_setThatFits_243_19 M = r1 at *
  generalize hg2 : g_X3_setThatFits_243_19 M = m2 at *
  refine g_k 4 (pc' := 9) (LI' := [some (.ref 243), some (.ref 19), some (.int r1), some (.int (-1)), none, none, none]) (LL' := []) (st' := [.int r1]) (S' := (z_SH, m2, L)) (fun nq hq => And.intro rfl (And.intro rfl (And.intro rfl (And.intro rfl hq)))) ?_
  refine g_k 1 (pc' := 12) (LI' := [some (.ref 243), some (.ref 19), some (.int r1), some (.int (-1)), none, none, none]) (LL' := []) (st' := [.int (f_J6_bitCount_0f7a4 m2 r1)]) (S' := (z_SH, m2, L)) (fun nq hq => And.intro rfl (Exists.intro _ (Exists.intro _ (And.intro (c_J6_bitCount_0f7a4 (d := d + 3) m2 r1) (And.intro (z_fit_same _ _ _ _ _ _ _ _) hq))))) ?_
  generalize hg3 : f_J6_bitCount_0f7a4 m2 r1 = r3 at *
  refine g_k 3 (pc' := 17) (LI' := [some (.ref 243), some (.ref 19), some (.int r1), some (.int (-1)), some (.int r3), some (.int 0), none]) (LL' := []) (st' := []) (S' := (z_SH, m2, L)) (fun nq hq => And.intro rfl (And.intro rfl (And.intro rfl hq))) ?_
  refine l_X3_bestToPut_243_19_17 (d := d + 1) m2 r1 ((-1 : Int32)) r3 8 (fun k hk => z_lpc hk) p2 (fun y1 => ?_) none
  have hx1 : (8 : Int32) ≤ nI 8 := z_lpe
  generalize hg4 : (s_X3_bestToPut_243_19_17 m2 r1 ((-1 : Int32)) r3 8).1 = r4 at *
  generalize hg5 : (s_X3_bestToPut_243_19_17 m2 r1 ((-1 : Int32)) r3 8).2.1 = r5 at *
  generalize hg6 : nI 8 = r6 at *
  generalize hg7 : (s_X3_bestToPut_243_19_17 m2 r1 ((-1 : Int32)) r3 8).2.2 = m7 at *
  refine g_k 3 (pc' := (if z_cmp .ge r6 ((8 : Int32)) = true then 63 else 24)) (LI' := [some (.ref 243), some (.ref 19), some (.int r1), some (.int r4), some (.int r5), some (.int r6), y1]) (LL' := []) (st' := []) (S' := (z_SH, m7, L)) (fun nq hq => And.intro rfl (And.intro rfl (And.intro rfl hq))) ?_
  refine g_ge (fun hc1 => ?_) (fun hc1 => absurd (hx1) hc1)
  refine g_k 1 (pc' := 64) (LI' := [some (.ref 243), some (.ref 19), some (.int r1), some (.int r4), some (.int r5), some (.int r6), y1]) (LL' := []) (st' := [.int r4]) (S' := (z_SH, m7, L)) (fun nq hq => And.intro rfl hq) ?_
  exact ⟨1, And.intro rfl (⟨(by subst hg7; subst hg6; subst hg5; subst hg4; subst hg3; subst hg2; subst hg1; rfl), (by subst hg7; subst hg6; subst hg5; subst hg4; subst hg3; subst hg2; subst hg1; rfl)⟩)⟩
def f_X8_drawOf_0 (M : Nat → Nat → Int32) (a1 : Int32) : Int32 := if a1 ≤ (0 : Int32) then (0 : Int32) else (((((M 0 3) * ((1103515245 : Int32))) + ((12345 : Int32))) &&& ((2147483647 : Int32))) / ((65536 : Int32))) - (((((M 0 3) * ((1103515245 : Int32))) + ((12345 : Int32))) &&& ((2147483647 : Int32))) / ((65536 : Int32))) / a1 * a1
def g_X8_drawOf_0 (M : Nat → Nat → Int32) (a1 : Int32) : Nat → Nat → Int32 := z_row M 0 (upd (M 0) 3 ((((M 0 3) * ((1103515245 : Int32))) + ((12345 : Int32))) &&& ((2147483647 : Int32))))
theorem fr_g_X8_drawOf_0 (M : Nat → Nat → Int32) (a1 : Int32) (c : Nat) (h0 : c ≠ 0) : g_X8_drawOf_0 M a1 c = M c := by
  unfold g_X8_drawOf_0
  repeat' split
  all_goals simp only [z_row_ne h0]
def q_X8_drawOf_0 (M : Nat → Nat → Int32) (a1 : Int32) : Prop := ((¬ (a1 ≤ (0 : Int32))) → (decide (¬ a1 = 0) = true)) ∧ True
theorem c_X8_drawOf_0 {d : Nat} {L : Nat → Nat → Int64} (M : Nat → Nat → Int32) (a1 : Int32)  (hpre : q_X8_drawOf_0 M a1) : z_C (d + 1) 104 [.ref 0, .int a1] (z_SH, M, L) (some (.int (f_X8_drawOf_0 M a1))) (z_SH, g_X8_drawOf_0 M a1, L) := by
  unfold q_X8_drawOf_0 at hpre
  obtain ⟨p1, -⟩ := hpre
  refine z_mkA (tb := tb_X8_drawOf) rfl (by decide) rfl rfl rfl ?_
  refine g_k 9 (pc' := 17) (LI' := [some (.ref 0), some (.int a1)]) (LL' := []) (st' := [.int ((((M 0 3) * ((1103515245 : Int32))) + ((12345 : Int32))) &&& ((2147483647 : Int32))), .ref 0]) (S' := (z_SH, M, L)) (fun nq hq => And.intro rfl (And.intro rfl (And.intro rfl (And.intro rfl (And.intro rfl (And.intro rfl (And.intro rfl (And.intro rfl (And.intro rfl hq))))))))) ?_
  refine g_k 3 (pc' := (if z_cmp .le a1 ((0 : Int32)) = true then 37 else 24)) (LI' := [some (.ref 0), some (.int a1)]) (LL' := []) (st' := []) (S' := (z_SH, z_row M 0 (upd (M 0) 3 ((((M 0 3) * ((1103515245 : Int32))) + ((12345 : Int32))) &&& ((2147483647 : Int32)))), L)) (fun nq hq => And.intro rfl (And.intro rfl (And.intro rfl hq))) ?_
  refine g_le (fun hc1 => ?_) (fun hc1 => ?_)
  · refine g_k 1 (pc' := 38) (LI' := [some (.ref 0), some (.int a1)]) (LL' := []) (st' := [.int 0]) (S' := (z_SH, z_row M 0 (upd (M 0) 3 ((((M 0 3) * ((1103515245 : Int32))) + ((12345 : Int32))) &&& ((2147483647 : Int32)))), L)) (fun nq hq => And.intro rfl hq) ?_
    exact ⟨1, And.intro rfl (⟨(by unfold f_X8_drawOf_0; (first | rw [if_pos hc1] | skip); try rfl), (by unfold g_X8_drawOf_0; (first | rw [if_pos hc1] | skip); try rfl)⟩)⟩
  · refine g_k 7 (pc' := 38) (LI' := [some (.ref 0), some (.int a1)]) (LL' := []) (st' := [.int ((((((M 0 3) * ((1103515245 : Int32))) + ((12345 : Int32))) &&& ((2147483647 : Int32))) / ((65536 : Int32))) - (((((M 0 3) * ((1103515245 : Int32))) + ((12345 : Int32))) &&& ((2147483647 : Int32))) / ((65536 : Int32))) / a1 * a1)]) (S' := (z_SH, z_row M 0 (upd (M 0) 3 ((((M 0 3) * ((1103515245 : Int32))) + ((12345 : Int32))) &&& ((2147483647 : Int32)))), L)) (fun nq hq => And.intro rfl (And.intro rfl (And.intro rfl (And.intro rfl (And.intro rfl (And.intro (p1 hc1) (And.intro rfl hq))))))) ?_
    exact ⟨1, And.intro rfl (⟨(by unfold f_X8_drawOf_0; (first | rw [if_neg hc1] | skip); try rfl), (by unfold g_X8_drawOf_0; (first | rw [if_neg hc1] | skip); try rfl)⟩)⟩
def g_X8_doByDraws_0 (M : Nat → Nat → Int32)  : Nat → Nat → Int32 := if (4 : Int32) < (f_X8_drawOf_0 M ((8 : Int32))) then if ¬ (f_X8_drawOf_0 M ((8 : Int32))) = (7 : Int32) then if (g_X8_drawOf_0 (g_X8_drawOf_0 M ((8 : Int32))) ((8 : Int32))) 20 1 ≤ (0 : Int32) then (g_X8_drawOf_0 (g_X8_drawOf_0 M ((8 : Int32))) ((8 : Int32))) else if (f_X0_holds_20 (g_X8_drawOf_0 (g_X8_drawOf_0 (g_X8_drawOf_0 M ((8 : Int32))) ((8 : Int32))) ((g_X8_drawOf_0 (g_X8_drawOf_0 M ((8 : Int32))) ((8 : Int32))) 20 1)) (f_X8_drawOf_0 (g_X8_drawOf_0 (g_X8_drawOf_0 M ((8 : Int32))) ((8 : Int32))) ((g_X8_drawOf_0 (g_X8_drawOf_0 M ((8 : Int32))) ((8 : Int32))) 20 1))) = (0 : Int32) then (g_X8_drawOf_0 (g_X8_drawOf_0 (g_X8_drawOf_0 M ((8 : Int32))) ((8 : Int32))) ((g_X8_drawOf_0 (g_X8_drawOf_0 M ((8 : Int32))) ((8 : Int32))) 20 1)) else (g_X0_loosen_20 (g_X8_drawOf_0 (g_X8_drawOf_0 (g_X8_drawOf_0 M ((8 : Int32))) ((8 : Int32))) ((g_X8_drawOf_0 (g_X8_drawOf_0 M ((8 : Int32))) ((8 : Int32))) 20 1)) (f_X8_drawOf_0 (g_X8_drawOf_0 (g_X8_drawOf_0 M ((8 : Int32))) ((8 : Int32))) ((g_X8_drawOf_0 (g_X8_drawOf_0 M ((8 : Int32))) ((8 : Int32))) 20 1))) else (g_X6_endSession_19 (g_X8_drawOf_0 (g_X8_drawOf_0 M ((8 : Int32))) ((8 : Int32)))) else (g_X6_putMatter_19 (g_X8_drawOf_0 (g_X8_drawOf_0 M ((8 : Int32))) ((8 : Int32))) (f_X8_drawOf_0 (g_X8_drawOf_0 M ((8 : Int32))) ((8 : Int32))))
theorem fr_g_X8_doByDraws_0 (M : Nat → Nat → Int32)  (c : Nat) (h0 : c ≠ 0) (h20 : c ≠ 20) (h21 : c ≠ 21) (h25 : c ≠ 25) (h26 : c ≠ 26) (h27 : c ≠ 27) (h28 : c ≠ 28) (h29 : c ≠ 29) (h30 : c ≠ 30) (h31 : c ≠ 31) (h268 : c ≠ 268) (h269 : c ≠ 269) (h270 : c ≠ 270) : g_X8_doByDraws_0 M c = M c := by
  unfold g_X8_doByDraws_0
  repeat' split
  all_goals simp only [z_row_ne h0, z_row_ne h20, z_row_ne h21, z_row_ne h25, z_row_ne h26, z_row_ne h27, z_row_ne h28, z_row_ne h29, z_row_ne h30, z_row_ne h31, z_row_ne h268, z_row_ne h269, z_row_ne h270, fr_g_X0_loosen_20 (c := c) (h25 := h25) (h27 := h27), fr_g_X6_endSession_19 (c := c) (h20 := h20) (h21 := h21) (h26 := h26), fr_g_X6_putMatter_19 (c := c) (h20 := h20) (h26 := h26) (h27 := h27) (h28 := h28) (h29 := h29) (h30 := h30) (h31 := h31) (h268 := h268) (h269 := h269) (h270 := h270), fr_g_X8_drawOf_0 (c := c) (h0 := h0)]
def q_X8_doByDraws_0 (M : Nat → Nat → Int32)  : Prop := (q_X8_drawOf_0 M ((8 : Int32))) ∧ (q_X8_drawOf_0 (g_X8_drawOf_0 M ((8 : Int32))) ((8 : Int32))) ∧ (((4 : Int32) < (f_X8_drawOf_0 M ((8 : Int32)))) → (¬ (f_X8_drawOf_0 M ((8 : Int32))) = (7 : Int32)) → (¬ ((g_X8_drawOf_0 (g_X8_drawOf_0 M ((8 : Int32))) ((8 : Int32))) 20 1 ≤ (0 : Int32))) → (q_X8_drawOf_0 (g_X8_drawOf_0 (g_X8_drawOf_0 M ((8 : Int32))) ((8 : Int32))) ((g_X8_drawOf_0 (g_X8_drawOf_0 M ((8 : Int32))) ((8 : Int32))) 20 1))) ∧ (((4 : Int32) < (f_X8_drawOf_0 M ((8 : Int32)))) → (¬ (f_X8_drawOf_0 M ((8 : Int32))) = (7 : Int32)) → (¬ ((g_X8_drawOf_0 (g_X8_drawOf_0 M ((8 : Int32))) ((8 : Int32))) 20 1 ≤ (0 : Int32))) → (q_X0_holds_20 (g_X8_drawOf_0 (g_X8_drawOf_0 (g_X8_drawOf_0 M ((8 : Int32))) ((8 : Int32))) ((g_X8_drawOf_0 (g_X8_drawOf_0 M ((8 : Int32))) ((8 : Int32))) 20 1)) (f_X8_drawOf_0 (g_X8_drawOf_0 (g_X8_drawOf_0 M ((8 : Int32))) ((8 : Int32))) ((g_X8_drawOf_0 (g_X8_drawOf_0 M ((8 : Int32))) ((8 : Int32))) 20 1)))) ∧ (((4 : Int32) < (f_X8_drawOf_0 M ((8 : Int32)))) → (¬ (f_X8_drawOf_0 M ((8 : Int32))) = (7 : Int32)) → (¬ ((g_X8_drawOf_0 (g_X8_drawOf_0 M ((8 : Int32))) ((8 : Int32))) 20 1 ≤ (0 : Int32))) → (¬ ((f_X0_holds_20 (g_X8_drawOf_0 (g_X8_drawOf_0 (g_X8_drawOf_0 M ((8 : Int32))) ((8 : Int32))) ((g_X8_drawOf_0 (g_X8_drawOf_0 M ((8 : Int32))) ((8 : Int32))) 20 1)) (f_X8_drawOf_0 (g_X8_drawOf_0 (g_X8_drawOf_0 M ((8 : Int32))) ((8 : Int32))) ((g_X8_drawOf_0 (g_X8_drawOf_0 M ((8 : Int32))) ((8 : Int32))) 20 1))) = (0 : Int32))) → (q_X0_loosen_20 (g_X8_drawOf_0 (g_X8_drawOf_0 (g_X8_drawOf_0 M ((8 : Int32))) ((8 : Int32))) ((g_X8_drawOf_0 (g_X8_drawOf_0 M ((8 : Int32))) ((8 : Int32))) 20 1)) (f_X8_drawOf_0 (g_X8_drawOf_0 (g_X8_drawOf_0 M ((8 : Int32))) ((8 : Int32))) ((g_X8_drawOf_0 (g_X8_drawOf_0 M ((8 : Int32))) ((8 : Int32))) 20 1)))) ∧ (((4 : Int32) < (f_X8_drawOf_0 M ((8 : Int32)))) → ((f_X8_drawOf_0 M ((8 : Int32))) = (7 : Int32)) → (q_X6_endSession_19 (g_X8_drawOf_0 (g_X8_drawOf_0 M ((8 : Int32))) ((8 : Int32))))) ∧ ((¬ ((4 : Int32) < (f_X8_drawOf_0 M ((8 : Int32))))) → (q_X6_putMatter_19 (g_X8_drawOf_0 (g_X8_drawOf_0 M ((8 : Int32))) ((8 : Int32))) (f_X8_drawOf_0 (g_X8_drawOf_0 M ((8 : Int32))) ((8 : Int32))))) ∧ True
theorem c_X8_doByDraws_0 {d : Nat} {L : Nat → Nat → Int64} (M : Nat → Nat → Int32)   (hpre : q_X8_doByDraws_0 M) : z_C (d + 5) 103 [.ref 0] (z_SH, M, L) none (z_SH, g_X8_doByDraws_0 M, L) := by
  unfold q_X8_doByDraws_0 at hpre
  obtain ⟨p1, p2, p3, p4, p5, p6, p7, -⟩ := hpre
  refine z_mkA (tb := tb_X8_doByDraws) rfl (by decide) rfl rfl rfl ?_
  refine g_k 2 (pc' := 3) (LI' := [some (.ref 0), none, none, none]) (LL' := []) (st' := [.int 8, .ref 0]) (S' := (z_SH, M, L)) (fun nq hq => And.intro rfl (And.intro rfl hq)) ?_
  refine g_k 1 (pc' := 6) (LI' := [some (.ref 0), none, none, none]) (LL' := []) (st' := [.int (f_X8_drawOf_0 M ((8 : Int32)))]) (S' := (z_SH, g_X8_drawOf_0 M ((8 : Int32)), L)) (fun nq hq => And.intro rfl (Exists.intro _ (Exists.intro _ (And.intro (c_X8_drawOf_0 (d := d + 3) M ((8 : Int32)) p1) (And.intro (z_fit_same _ _ _ _ _ _ _ _) hq))))) ?_
  generalize hg1 : f_X8_drawOf_0 M ((8 : Int32)) = r1 at *
  generalize hg2 : g_X8_drawOf_0 M ((8 : Int32)) = m2 at *
  refine g_k 3 (pc' := 10) (LI' := [some (.ref 0), some (.int r1), none, none]) (LL' := []) (st' := [.int 8, .ref 0]) (S' := (z_SH, m2, L)) (fun nq hq => And.intro rfl (And.intro rfl (And.intro rfl hq))) ?_
  refine g_k 1 (pc' := 13) (LI' := [some (.ref 0), some (.int r1), none, none]) (LL' := []) (st' := [.int (f_X8_drawOf_0 m2 ((8 : Int32)))]) (S' := (z_SH, g_X8_drawOf_0 m2 ((8 : Int32)), L)) (fun nq hq => And.intro rfl (Exists.intro _ (Exists.intro _ (And.intro (c_X8_drawOf_0 (d := d + 3) m2 ((8 : Int32)) p2) (And.intro (z_fit_same _ _ _ _ _ _ _ _) hq))))) ?_
  generalize hg3 : f_X8_drawOf_0 m2 ((8 : Int32)) = r3 at *
  generalize hg4 : g_X8_drawOf_0 m2 ((8 : Int32)) = m4 at *
  refine g_k 4 (pc' := (if z_cmp .gt r1 ((4 : Int32)) = true then 31 else 19)) (LI' := [some (.ref 0), some (.int r1), some (.int r3), none]) (LL' := []) (st' := []) (S' := (z_SH, m4, L)) (fun nq hq => And.intro rfl (And.intro rfl (And.intro rfl (And.intro rfl hq)))) ?_
  refine g_gt (fun hc1 => ?_) (fun hc1 => ?_)
  · refine g_k 3 (pc' := (if z_cmp .ne r1 ((7 : Int32)) = true then 47 else 37)) (LI' := [some (.ref 0), some (.int r1), some (.int r3), none]) (LL' := []) (st' := []) (S' := (z_SH, m4, L)) (fun nq hq => And.intro rfl (And.intro rfl (And.intro rfl hq))) ?_
    refine g_ne (fun hc2 => ?_) (fun hc2 => ?_)
    · refine g_k 5 (pc' := (if z_cmp .le (m4 20 1) ((0 : Int32)) = true then 100 else 60)) (LI' := [some (.ref 0), some (.int r1), some (.int r3), none]) (LL' := []) (st' := []) (S' := (z_SH, m4, L)) (fun nq hq => And.intro rfl (And.intro rfl (And.intro rfl (And.intro rfl (And.intro rfl hq))))) ?_
      refine g_le (fun hc3 => ?_) (fun hc3 => ?_)
      · exact ⟨1, And.intro rfl (⟨rfl, (by subst hg4; subst hg3; subst hg2; subst hg1; unfold g_X8_doByDraws_0; (first | rw [if_pos hc1] | skip); (first | rw [if_pos hc2] | skip); (first | rw [if_pos hc3] | skip); try rfl)⟩)⟩
      · refine g_k 5 (pc' := 71) (LI' := [some (.ref 0), some (.int r1), some (.int r3), none]) (LL' := []) (st' := [.int (m4 20 1), .ref 0]) (S' := (z_SH, m4, L)) (fun nq hq => And.intro rfl (And.intro rfl (And.intro rfl (And.intro rfl (And.intro rfl hq))))) ?_
        refine g_k 1 (pc' := 74) (LI' := [some (.ref 0), some (.int r1), some (.int r3), none]) (LL' := []) (st' := [.int (f_X8_drawOf_0 m4 (m4 20 1))]) (S' := (z_SH, g_X8_drawOf_0 m4 (m4 20 1), L)) (fun nq hq => And.intro rfl (Exists.intro _ (Exists.intro _ (And.intro (c_X8_drawOf_0 (d := d + 3) m4 (m4 20 1) (p3 hc1 hc2 hc3)) (And.intro (z_fit_same _ _ _ _ _ _ _ _) hq))))) ?_
        generalize hg5 : f_X8_drawOf_0 m4 (m4 20 1) = r5 at *
        generalize hg6 : g_X8_drawOf_0 m4 (m4 20 1) = m6 at *
        refine g_k 5 (pc' := 83) (LI' := [some (.ref 0), some (.int r1), some (.int r3), some (.int r5)]) (LL' := []) (st' := [.int r5, .ref 20]) (S' := (z_SH, m6, L)) (fun nq hq => And.intro rfl (And.intro rfl (And.intro rfl (And.intro rfl (And.intro rfl hq))))) ?_
        refine g_k 1 (pc' := 86) (LI' := [some (.ref 0), some (.int r1), some (.int r3), some (.int r5)]) (LL' := []) (st' := [.int (f_X0_holds_20 m6 r5)]) (S' := (z_SH, m6, L)) (fun nq hq => And.intro rfl (Exists.intro _ (Exists.intro _ (And.intro (c_X0_holds_20 (d := d + 3) m6 r5 (p4 hc1 hc2 hc3)) (And.intro (z_fit_same _ _ _ _ _ _ _ _) hq))))) ?_
        generalize hg7 : f_X0_holds_20 m6 r5 = r7 at *
        refine g_k 1 (pc' := (if z_cmp .eq r7 ((0 : Int32)) = true then 100 else 89)) (LI' := [some (.ref 0), some (.int r1), some (.int r3), some (.int r5)]) (LL' := []) (st' := []) (S' := (z_SH, m6, L)) (fun nq hq => And.intro rfl hq) ?_
        refine g_eq (fun hc4 => ?_) (fun hc4 => ?_)
        · exact ⟨1, And.intro rfl (⟨rfl, (by subst hg7; subst hg6; subst hg5; subst hg4; subst hg3; subst hg2; subst hg1; unfold g_X8_doByDraws_0; (first | rw [if_pos hc1] | skip); (first | rw [if_pos hc2] | skip); (first | rw [if_neg hc3] | skip); (first | rw [if_pos hc4] | skip); try rfl)⟩)⟩
        · refine g_k 4 (pc' := 97) (LI' := [some (.ref 0), some (.int r1), some (.int r3), some (.int r5)]) (LL' := []) (st' := [.int r5, .ref 20]) (S' := (z_SH, m6, L)) (fun nq hq => And.intro rfl (And.intro rfl (And.intro rfl (And.intro rfl hq)))) ?_
          refine g_k 1 (pc' := 100) (LI' := [some (.ref 0), some (.int r1), some (.int r3), some (.int r5)]) (LL' := []) (st' := []) (S' := (z_SH, g_X0_loosen_20 m6 r5, L)) (fun nq hq => And.intro rfl (Exists.intro _ (Exists.intro _ (And.intro (c_X0_loosen_20 (d := d + 3) m6 r5 (p5 hc1 hc2 hc3 hc4)) (And.intro (z_fit_same _ _ _ _ _ _ _ _) hq))))) ?_
          generalize hg8 : g_X0_loosen_20 m6 r5 = m8 at *
          exact ⟨1, And.intro rfl (⟨rfl, (by subst hg8; subst hg7; subst hg6; subst hg5; subst hg4; subst hg3; subst hg2; subst hg1; unfold g_X8_doByDraws_0; (first | rw [if_pos hc1] | skip); (first | rw [if_pos hc2] | skip); (first | rw [if_neg hc3] | skip); (first | rw [if_neg hc4] | skip); try rfl)⟩)⟩
    · refine g_k 2 (pc' := 41) (LI' := [some (.ref 0), some (.int r1), some (.int r3), none]) (LL' := []) (st' := [.ref 19]) (S' := (z_SH, m4, L)) (fun nq hq => And.intro rfl (And.intro rfl hq)) ?_
      refine g_k 1 (pc' := 44) (LI' := [some (.ref 0), some (.int r1), some (.int r3), none]) (LL' := []) (st' := []) (S' := (z_SH, g_X6_endSession_19 m4, L)) (fun nq hq => And.intro rfl (Exists.intro _ (Exists.intro _ (And.intro (c_X6_endSession_19 (d := d + 2) m4  (p6 hc1 hc2)) (And.intro (z_fit_same _ _ _ _ _ _ _ _) hq))))) ?_
      generalize hg9 : g_X6_endSession_19 m4 = m9 at *
      refine g_k 1 (pc' := 100) (LI' := [some (.ref 0), some (.int r1), some (.int r3), none]) (LL' := []) (st' := []) (S' := (z_SH, m9, L)) (fun nq hq => And.intro rfl hq) ?_
      exact ⟨1, And.intro rfl (⟨rfl, (by subst hg9; subst hg4; subst hg3; subst hg2; subst hg1; unfold g_X8_doByDraws_0; (first | rw [if_pos hc1] | skip); (first | rw [if_neg (not_not_intro hc2)] | skip); try rfl)⟩)⟩
  · refine g_k 3 (pc' := 24) (LI' := [some (.ref 0), some (.int r1), some (.int r3), none]) (LL' := []) (st' := [.int r3, .ref 19]) (S' := (z_SH, m4, L)) (fun nq hq => And.intro rfl (And.intro rfl (And.intro rfl hq))) ?_
    refine g_k 1 (pc' := 27) (LI' := [some (.ref 0), some (.int r1), some (.int r3), none]) (LL' := []) (st' := [.int (f_X6_putMatter_19 m4 r3)]) (S' := (z_SH, g_X6_putMatter_19 m4 r3, L)) (fun nq hq => And.intro rfl (Exists.intro _ (Exists.intro _ (And.intro (c_X6_putMatter_19 (d := d) m4 r3 (p7 hc1)) (And.intro (z_fit_same _ _ _ _ _ _ _ _) hq))))) ?_
    generalize hg10 : f_X6_putMatter_19 m4 r3 = r10 at *
    generalize hg11 : g_X6_putMatter_19 m4 r3 = m11 at *
    refine g_k 2 (pc' := 100) (LI' := [some (.ref 0), some (.int r1), some (.int r3), none]) (LL' := []) (st' := []) (S' := (z_SH, m11, L)) (fun nq hq => And.intro rfl (And.intro rfl hq)) ?_
    exact ⟨1, And.intro rfl (⟨rfl, (by subst hg11; subst hg10; subst hg4; subst hg3; subst hg2; subst hg1; unfold g_X8_doByDraws_0; (first | rw [if_neg hc1] | skip); try rfl)⟩)⟩
def f_X8_told_w0 (M : Nat → Nat → Int32)  : Int32 := M 15 0
theorem c_X8_told_w0 {d : Nat} {L : Nat → Nat → Int64} (M : Nat → Nat → Int32)   : z_C (d + 1) 79 [.ref 0, .int 0] (z_SH, M, L) (some (.int (f_X8_told_w0 M))) (z_SH, M, L) := by
  refine z_mkA (tb := tb_X8_told) rfl (by decide) rfl rfl rfl ?_
  refine g_k 5 (pc' := 83) (LI' := [some (.ref 0), some (.int 0)]) (LL' := []) (st' := [.int (M 15 0)]) (S' := (z_SH, M, L)) (fun nq hq => And.intro rfl (And.intro rfl (And.intro rfl (And.intro rfl (And.intro rfl hq))))) ?_
  exact ⟨1, And.intro rfl (⟨rfl, rfl⟩)⟩
def f_X8_told_w1 (M : Nat → Nat → Int32)  : Int32 := M 15 1
theorem c_X8_told_w1 {d : Nat} {L : Nat → Nat → Int64} (M : Nat → Nat → Int32)   : z_C (d + 1) 79 [.ref 0, .int 1] (z_SH, M, L) (some (.int (f_X8_told_w1 M))) (z_SH, M, L) := by
  refine z_mkA (tb := tb_X8_told) rfl (by decide) rfl rfl rfl ?_
  refine g_k 5 (pc' := 91) (LI' := [some (.ref 0), some (.int 1)]) (LL' := []) (st' := [.int (M 15 1)]) (S' := (z_SH, M, L)) (fun nq hq => And.intro rfl (And.intro rfl (And.intro rfl (And.intro rfl (And.intro rfl hq))))) ?_
  exact ⟨1, And.intro rfl (⟨rfl, rfl⟩)⟩
def f_X8_told_w2 (M : Nat → Nat → Int32)  : Int32 := M 20 1
theorem c_X8_told_w2 {d : Nat} {L : Nat → Nat → Int64} (M : Nat → Nat → Int32)   : z_C (d + 1) 79 [.ref 0, .int 2] (z_SH, M, L) (some (.int (f_X8_told_w2 M))) (z_SH, M, L) := by
  refine z_mkA (tb := tb_X8_told) rfl (by decide) rfl rfl rfl ?_
  refine g_k 6 (pc' := 102) (LI' := [some (.ref 0), some (.int 2)]) (LL' := []) (st' := [.int (M 20 1)]) (S' := (z_SH, M, L)) (fun nq hq => And.intro rfl (And.intro rfl (And.intro rfl (And.intro rfl (And.intro rfl (And.intro rfl hq)))))) ?_
  exact ⟨1, And.intro rfl (⟨rfl, rfl⟩)⟩
def f_X8_told_w3 (M : Nat → Nat → Int32)  : Int32 := M 0 1
theorem c_X8_told_w3 {d : Nat} {L : Nat → Nat → Int64} (M : Nat → Nat → Int32)   : z_C (d + 1) 79 [.ref 0, .int 3] (z_SH, M, L) (some (.int (f_X8_told_w3 M))) (z_SH, M, L) := by
  refine z_mkA (tb := tb_X8_told) rfl (by decide) rfl rfl rfl ?_
  refine g_k 4 (pc' := 107) (LI' := [some (.ref 0), some (.int 3)]) (LL' := []) (st' := [.int (M 0 1)]) (S' := (z_SH, M, L)) (fun nq hq => And.intro rfl (And.intro rfl (And.intro rfl (And.intro rfl hq)))) ?_
  exact ⟨1, And.intro rfl (⟨rfl, rfl⟩)⟩
def f_X8_told_w4 (M : Nat → Nat → Int32)  : Int32 := M 20 8
theorem c_X8_told_w4 {d : Nat} {L : Nat → Nat → Int64} (M : Nat → Nat → Int32)   : z_C (d + 1) 79 [.ref 0, .int 4] (z_SH, M, L) (some (.int (f_X8_told_w4 M))) (z_SH, M, L) := by
  refine z_mkA (tb := tb_X8_told) rfl (by decide) rfl rfl rfl ?_
  refine g_k 6 (pc' := 118) (LI' := [some (.ref 0), some (.int 4)]) (LL' := []) (st' := [.int (M 20 8)]) (S' := (z_SH, M, L)) (fun nq hq => And.intro rfl (And.intro rfl (And.intro rfl (And.intro rfl (And.intro rfl (And.intro rfl hq)))))) ?_
  exact ⟨1, And.intro rfl (⟨rfl, rfl⟩)⟩
def f_X8_told_w5 (M : Nat → Nat → Int32)  : Int32 := M 20 9
theorem c_X8_told_w5 {d : Nat} {L : Nat → Nat → Int64} (M : Nat → Nat → Int32)   : z_C (d + 1) 79 [.ref 0, .int 5] (z_SH, M, L) (some (.int (f_X8_told_w5 M))) (z_SH, M, L) := by
  refine z_mkA (tb := tb_X8_told) rfl (by decide) rfl rfl rfl ?_
  refine g_k 6 (pc' := 129) (LI' := [some (.ref 0), some (.int 5)]) (LL' := []) (st' := [.int (M 20 9)]) (S' := (z_SH, M, L)) (fun nq hq => And.intro rfl (And.intro rfl (And.intro rfl (And.intro rfl (And.intro rfl (And.intro rfl hq)))))) ?_
  exact ⟨1, And.intro rfl (⟨rfl, rfl⟩)⟩
def f_X8_told_w6 (M : Nat → Nat → Int32)  : Int32 := M 20 10
theorem c_X8_told_w6 {d : Nat} {L : Nat → Nat → Int64} (M : Nat → Nat → Int32)   : z_C (d + 1) 79 [.ref 0, .int 6] (z_SH, M, L) (some (.int (f_X8_told_w6 M))) (z_SH, M, L) := by
  refine z_mkA (tb := tb_X8_told) rfl (by decide) rfl rfl rfl ?_
  refine g_k 6 (pc' := 140) (LI' := [some (.ref 0), some (.int 6)]) (LL' := []) (st' := [.int (M 20 10)]) (S' := (z_SH, M, L)) (fun nq hq => And.intro rfl (And.intro rfl (And.intro rfl (And.intro rfl (And.intro rfl (And.intro rfl hq)))))) ?_
  exact ⟨1, And.intro rfl (⟨rfl, rfl⟩)⟩
def f_X8_told_w7 (M : Nat → Nat → Int32)  : Int32 := M 20 11
theorem c_X8_told_w7 {d : Nat} {L : Nat → Nat → Int64} (M : Nat → Nat → Int32)   : z_C (d + 1) 79 [.ref 0, .int 7] (z_SH, M, L) (some (.int (f_X8_told_w7 M))) (z_SH, M, L) := by
  refine z_mkA (tb := tb_X8_told) rfl (by decide) rfl rfl rfl ?_
  refine g_k 6 (pc' := 151) (LI' := [some (.ref 0), some (.int 7)]) (LL' := []) (st' := [.int (M 20 11)]) (S' := (z_SH, M, L)) (fun nq hq => And.intro rfl (And.intro rfl (And.intro rfl (And.intro rfl (And.intro rfl (And.intro rfl hq)))))) ?_
  exact ⟨1, And.intro rfl (⟨rfl, rfl⟩)⟩
def f_X8_told_w8 (M : Nat → Nat → Int32)  : Int32 := (f_X0_setOfHolding_20 M)
def q_X8_told_w8 (M : Nat → Nat → Int32)  : Prop := (q_X0_setOfHolding_20 M) ∧ True
theorem c_X8_told_w8 {d : Nat} {L : Nat → Nat → Int64} (M : Nat → Nat → Int32)   (hpre : q_X8_told_w8 M) : z_C (d + 3) 79 [.ref 0, .int 8] (z_SH, M, L) (some (.int (f_X8_told_w8 M))) (z_SH, M, L) := by
  unfold q_X8_told_w8 at hpre
  obtain ⟨p1, -⟩ := hpre
  refine z_mkA (tb := tb_X8_told) rfl (by decide) rfl rfl rfl ?_
  refine g_k 5 (pc' := 159) (LI' := [some (.ref 0), some (.int 8)]) (LL' := []) (st' := [.ref 20]) (S' := (z_SH, M, L)) (fun nq hq => And.intro rfl (And.intro rfl (And.intro rfl (And.intro rfl (And.intro rfl hq))))) ?_
  refine g_k 1 (pc' := 162) (LI' := [some (.ref 0), some (.int 8)]) (LL' := []) (st' := [.int (f_X0_setOfHolding_20 M)]) (S' := (z_SH, M, L)) (fun nq hq => And.intro rfl (Exists.intro _ (Exists.intro _ (And.intro (c_X0_setOfHolding_20 (d := d) M  p1) (And.intro (z_fit_same _ _ _ _ _ _ _ _) hq))))) ?_
  generalize hg1 : f_X0_setOfHolding_20 M = r1 at *
  exact ⟨1, And.intro rfl (⟨(by subst hg1; rfl), rfl⟩)⟩
def f_X8_told_w9 (M : Nat → Nat → Int32)  : Int32 := (f_X6_setOfHanging_19 M)
def g_X8_told_w9 (M : Nat → Nat → Int32)  : Nat → Nat → Int32 := (g_X6_setOfHanging_19 M)
theorem fr_g_X8_told_w9 (M : Nat → Nat → Int32)  (c : Nat) (h28 : c ≠ 28) (h29 : c ≠ 29) (h30 : c ≠ 30) (h31 : c ≠ 31) (h268 : c ≠ 268) (h269 : c ≠ 269) (h270 : c ≠ 270) : g_X8_told_w9 M c = M c := by
  unfold g_X8_told_w9
  repeat' split
  all_goals simp only [z_row_ne h28, z_row_ne h29, z_row_ne h30, z_row_ne h31, z_row_ne h268, z_row_ne h269, z_row_ne h270, fr_g_X6_setOfHanging_19 (c := c) (h28 := h28) (h29 := h29) (h30 := h30) (h31 := h31) (h268 := h268) (h269 := h269) (h270 := h270)]
def q_X8_told_w9 (M : Nat → Nat → Int32)  : Prop := (q_X6_setOfHanging_19 M) ∧ True
theorem c_X8_told_w9 {d : Nat} {L : Nat → Nat → Int64} (M : Nat → Nat → Int32)   (hpre : q_X8_told_w9 M) : z_C (d + 5) 79 [.ref 0, .int 9] (z_SH, M, L) (some (.int (f_X8_told_w9 M))) (z_SH, g_X8_told_w9 M, L) := by
  unfold q_X8_told_w9 at hpre
  obtain ⟨p1, -⟩ := hpre
  refine z_mkA (tb := tb_X8_told) rfl (by decide) rfl rfl rfl ?_
  refine g_k 4 (pc' := 167) (LI' := [some (.ref 0), some (.int 9)]) (LL' := []) (st' := [.ref 19]) (S' := (z_SH, M, L)) (fun nq hq => And.intro rfl (And.intro rfl (And.intro rfl (And.intro rfl hq)))) ?_
  refine g_k 1 (pc' := 170) (LI' := [some (.ref 0), some (.int 9)]) (LL' := []) (st' := [.int (f_X6_setOfHanging_19 M)]) (S' := (z_SH, g_X6_setOfHanging_19 M, L)) (fun nq hq => And.intro rfl (Exists.intro _ (Exists.intro _ (And.intro (c_X6_setOfHanging_19 (d := d) M  p1) (And.intro (z_fit_same _ _ _ _ _ _ _ _) hq))))) ?_
  generalize hg1 : f_X6_setOfHanging_19 M = r1 at *
  generalize hg2 : g_X6_setOfHanging_19 M = m2 at *
  exact ⟨1, And.intro rfl (⟨(by subst hg2; subst hg1; rfl), (by subst hg2; subst hg1; rfl)⟩)⟩
def f_X8_told_w10 (M : Nat → Nat → Int32)  : Int32 := (f_X6_sideHeldMost_19 M)
def g_X8_told_w10 (M : Nat → Nat → Int32)  : Nat → Nat → Int32 := (g_X6_sideHeldMost_19 M)
theorem fr_g_X8_told_w10 (M : Nat → Nat → Int32)  (c : Nat) (h28 : c ≠ 28) (h29 : c ≠ 29) (h30 : c ≠ 30) (h31 : c ≠ 31) (h268 : c ≠ 268) (h269 : c ≠ 269) (h270 : c ≠ 270) : g_X8_told_w10 M c = M c := by
  unfold g_X8_told_w10
  repeat' split
  all_goals simp only [z_row_ne h28, z_row_ne h29, z_row_ne h30, z_row_ne h31, z_row_ne h268, z_row_ne h269, z_row_ne h270, fr_g_X6_sideHeldMost_19 (c := c) (h28 := h28) (h29 := h29) (h30 := h30) (h31 := h31) (h268 := h268) (h269 := h269) (h270 := h270)]
def q_X8_told_w10 (M : Nat → Nat → Int32)  : Prop := (q_X6_sideHeldMost_19 M) ∧ True
theorem c_X8_told_w10 {d : Nat} {L : Nat → Nat → Int64} (M : Nat → Nat → Int32)   (hpre : q_X8_told_w10 M) : z_C (d + 5) 79 [.ref 0, .int 10] (z_SH, M, L) (some (.int (f_X8_told_w10 M))) (z_SH, g_X8_told_w10 M, L) := by
  unfold q_X8_told_w10 at hpre
  obtain ⟨p1, -⟩ := hpre
  refine z_mkA (tb := tb_X8_told) rfl (by decide) rfl rfl rfl ?_
  refine g_k 4 (pc' := 175) (LI' := [some (.ref 0), some (.int 10)]) (LL' := []) (st' := [.ref 19]) (S' := (z_SH, M, L)) (fun nq hq => And.intro rfl (And.intro rfl (And.intro rfl (And.intro rfl hq)))) ?_
  refine g_k 1 (pc' := 178) (LI' := [some (.ref 0), some (.int 10)]) (LL' := []) (st' := [.int (f_X6_sideHeldMost_19 M)]) (S' := (z_SH, g_X6_sideHeldMost_19 M, L)) (fun nq hq => And.intro rfl (Exists.intro _ (Exists.intro _ (And.intro (c_X6_sideHeldMost_19 (d := d) M  p1) (And.intro (z_fit_same _ _ _ _ _ _ _ _) hq))))) ?_
  generalize hg1 : f_X6_sideHeldMost_19 M = r1 at *
  generalize hg2 : g_X6_sideHeldMost_19 M = m2 at *
  exact ⟨1, And.intro rfl (⟨(by subst hg2; subst hg1; rfl), (by subst hg2; subst hg1; rfl)⟩)⟩
def f_X8_told_w11 (M : Nat → Nat → Int32)  : Int32 := (f_X6_setOfPassing_19 M)
def g_X8_told_w11 (M : Nat → Nat → Int32)  : Nat → Nat → Int32 := (g_X6_setOfPassing_19 M)
theorem fr_g_X8_told_w11 (M : Nat → Nat → Int32)  (c : Nat) (h28 : c ≠ 28) (h29 : c ≠ 29) (h30 : c ≠ 30) (h31 : c ≠ 31) (h268 : c ≠ 268) (h269 : c ≠ 269) (h270 : c ≠ 270) : g_X8_told_w11 M c = M c := by
  unfold g_X8_told_w11
  repeat' split
  all_goals simp only [z_row_ne h28, z_row_ne h29, z_row_ne h30, z_row_ne h31, z_row_ne h268, z_row_ne h269, z_row_ne h270, fr_g_X6_setOfPassing_19 (c := c) (h28 := h28) (h29 := h29) (h30 := h30) (h31 := h31) (h268 := h268) (h269 := h269) (h270 := h270)]
def q_X8_told_w11 (M : Nat → Nat → Int32)  : Prop := (q_X6_setOfPassing_19 M) ∧ True
theorem c_X8_told_w11 {d : Nat} {L : Nat → Nat → Int64} (M : Nat → Nat → Int32)   (hpre : q_X8_told_w11 M) : z_C (d + 6) 79 [.ref 0, .int 11] (z_SH, M, L) (some (.int (f_X8_told_w11 M))) (z_SH, g_X8_told_w11 M, L) := by
  unfold q_X8_told_w11 at hpre
  obtain ⟨p1, -⟩ := hpre
  refine z_mkA (tb := tb_X8_told) rfl (by decide) rfl rfl rfl ?_
  refine g_k 4 (pc' := 183) (LI' := [some (.ref 0), some (.int 11)]) (LL' := []) (st' := [.ref 19]) (S' := (z_SH, M, L)) (fun nq hq => And.intro rfl (And.intro rfl (And.intro rfl (And.intro rfl hq)))) ?_
  refine g_k 1 (pc' := 186) (LI' := [some (.ref 0), some (.int 11)]) (LL' := []) (st' := [.int (f_X6_setOfPassing_19 M)]) (S' := (z_SH, g_X6_setOfPassing_19 M, L)) (fun nq hq => And.intro rfl (Exists.intro _ (Exists.intro _ (And.intro (c_X6_setOfPassing_19 (d := d) M  p1) (And.intro (z_fit_same _ _ _ _ _ _ _ _) hq))))) ?_
  generalize hg1 : f_X6_setOfPassing_19 M = r1 at *
  generalize hg2 : g_X6_setOfPassing_19 M = m2 at *
  exact ⟨1, And.intro rfl (⟨(by subst hg2; subst hg1; rfl), (by subst hg2; subst hg1; rfl)⟩)⟩
def f_X8_told_w12 (M : Nat → Nat → Int32)  : Int32 := M 243 0
theorem c_X8_told_w12 {d : Nat} {L : Nat → Nat → Int64} (M : Nat → Nat → Int32)   : z_C (d + 1) 79 [.ref 0, .int 12] (z_SH, M, L) (some (.int (f_X8_told_w12 M))) (z_SH, M, L) := by
  refine z_mkA (tb := tb_X8_told) rfl (by decide) rfl rfl rfl ?_
  refine g_k 5 (pc' := 194) (LI' := [some (.ref 0), some (.int 12)]) (LL' := []) (st' := [.int (M 243 0)]) (S' := (z_SH, M, L)) (fun nq hq => And.intro rfl (And.intro rfl (And.intro rfl (And.intro rfl (And.intro rfl hq))))) ?_
  exact ⟨1, And.intro rfl (⟨rfl, rfl⟩)⟩
def f_X8_told_w13 (M : Nat → Nat → Int32)  : Int32 := M 243 3
theorem c_X8_told_w13 {d : Nat} {L : Nat → Nat → Int64} (M : Nat → Nat → Int32)   : z_C (d + 1) 79 [.ref 0, .int 13] (z_SH, M, L) (some (.int (f_X8_told_w13 M))) (z_SH, M, L) := by
  refine z_mkA (tb := tb_X8_told) rfl (by decide) rfl rfl rfl ?_
  refine g_k 5 (pc' := 202) (LI' := [some (.ref 0), some (.int 13)]) (LL' := []) (st' := [.int (M 243 3)]) (S' := (z_SH, M, L)) (fun nq hq => And.intro rfl (And.intro rfl (And.intro rfl (And.intro rfl (And.intro rfl hq))))) ?_
  exact ⟨1, And.intro rfl (⟨rfl, rfl⟩)⟩
def f_X8_told_w14 (M : Nat → Nat → Int32)  : Int32 := M 49 2
theorem c_X8_told_w14 {d : Nat} {L : Nat → Nat → Int64} (M : Nat → Nat → Int32)   : z_C (d + 1) 79 [.ref 0, .int 14] (z_SH, M, L) (some (.int (f_X8_told_w14 M))) (z_SH, M, L) := by
  refine z_mkA (tb := tb_X8_told) rfl (by decide) rfl rfl rfl ?_
  refine g_k 5 (pc' := 210) (LI' := [some (.ref 0), some (.int 14)]) (LL' := []) (st' := [.int (M 49 2)]) (S' := (z_SH, M, L)) (fun nq hq => And.intro rfl (And.intro rfl (And.intro rfl (And.intro rfl (And.intro rfl hq))))) ?_
  exact ⟨1, And.intro rfl (⟨rfl, rfl⟩)⟩
def f_X8_member_w0 (M : Nat → Nat → Int32) (m : Int32) : Int32 := if (f_X8_isOutside M m (M 15 1)) = (0 : Int32) then M 16 ((m).toNatClampNeg) else (-1000000001 : Int32)
def q_X8_member_w0 (M : Nat → Nat → Int32) (m : Int32) : Prop := (((f_X8_isOutside M m (M 15 1)) = (0 : Int32)) → (z_vin m 6 = true)) ∧ True
theorem c_X8_member_w0 {d : Nat} {L : Nat → Nat → Int64} (M : Nat → Nat → Int32) (m : Int32)  (hpre : q_X8_member_w0 M m) : z_C (d + 2) 80 [.ref 0, .int m, .int 0] (z_SH, M, L) (some (.int (f_X8_member_w0 M m))) (z_SH, M, L) := by
  unfold q_X8_member_w0 at hpre
  obtain ⟨p1, -⟩ := hpre
  refine z_mkA (tb := tb_X8_member) rfl (by decide) rfl rfl rfl ?_
  refine g_k 4 (pc' := 8) (LI' := [some (.ref 0), some (.int m), some (.int 0)]) (LL' := []) (st' := [.int (M 15 1), .int m]) (S' := (z_SH, M, L)) (fun nq hq => And.intro rfl (And.intro rfl (And.intro rfl (And.intro rfl hq)))) ?_
  refine g_k 1 (pc' := 11) (LI' := [some (.ref 0), some (.int m), some (.int 0)]) (LL' := []) (st' := [.int (f_X8_isOutside M m (M 15 1))]) (S' := (z_SH, M, L)) (fun nq hq => And.intro rfl (Exists.intro _ (Exists.intro _ (And.intro (c_X8_isOutside (d := d) M m (M 15 1)) (And.intro (z_fit_same _ _ _ _ _ _ _ _) hq))))) ?_
  generalize hg1 : f_X8_isOutside M m (M 15 1) = r1 at *
  refine g_k 1 (pc' := (if z_cmp .eq r1 ((0 : Int32)) = true then 17 else 14)) (LI' := [some (.ref 0), some (.int m), some (.int 0)]) (LL' := []) (st' := []) (S' := (z_SH, M, L)) (fun nq hq => And.intro rfl hq) ?_
  refine g_eq (fun hc1 => ?_) (fun hc1 => ?_)
  · refine g_k 7 (pc' := 73) (LI' := [some (.ref 0), some (.int m), some (.int 0)]) (LL' := []) (st' := [.int (M 16 ((m).toNatClampNeg))]) (S' := (z_SH, M, L)) (fun nq hq => And.intro rfl (And.intro rfl (And.intro rfl (And.intro rfl (And.intro rfl (And.intro rfl (And.intro (p1 hc1) hq))))))) ?_
    exact ⟨1, And.intro rfl (⟨(by subst hg1; unfold f_X8_member_w0; (first | rw [if_pos hc1] | skip); try rfl), rfl⟩)⟩
  · refine g_k 1 (pc' := 16) (LI' := [some (.ref 0), some (.int m), some (.int 0)]) (LL' := []) (st' := [.int (-1000000001)]) (S' := (z_SH, M, L)) (fun nq hq => And.intro rfl hq) ?_
    exact ⟨1, And.intro rfl (⟨(by subst hg1; unfold f_X8_member_w0; (first | rw [if_neg hc1] | skip); try rfl), rfl⟩)⟩
def f_X8_member_w1 (M : Nat → Nat → Int32) (m : Int32) : Int32 := if (f_X8_isOutside M m (M 15 1)) = (0 : Int32) then M 17 ((m).toNatClampNeg) else (-1000000001 : Int32)
def q_X8_member_w1 (M : Nat → Nat → Int32) (m : Int32) : Prop := (((f_X8_isOutside M m (M 15 1)) = (0 : Int32)) → (z_vin m 6 = true)) ∧ True
theorem c_X8_member_w1 {d : Nat} {L : Nat → Nat → Int64} (M : Nat → Nat → Int32) (m : Int32)  (hpre : q_X8_member_w1 M m) : z_C (d + 2) 80 [.ref 0, .int m, .int 1] (z_SH, M, L) (some (.int (f_X8_member_w1 M m))) (z_SH, M, L) := by
  unfold q_X8_member_w1 at hpre
  obtain ⟨p1, -⟩ := hpre
  refine z_mkA (tb := tb_X8_member) rfl (by decide) rfl rfl rfl ?_
  refine g_k 4 (pc' := 8) (LI' := [some (.ref 0), some (.int m), some (.int 1)]) (LL' := []) (st' := [.int (M 15 1), .int m]) (S' := (z_SH, M, L)) (fun nq hq => And.intro rfl (And.intro rfl (And.intro rfl (And.intro rfl hq)))) ?_
  refine g_k 1 (pc' := 11) (LI' := [some (.ref 0), some (.int m), some (.int 1)]) (LL' := []) (st' := [.int (f_X8_isOutside M m (M 15 1))]) (S' := (z_SH, M, L)) (fun nq hq => And.intro rfl (Exists.intro _ (Exists.intro _ (And.intro (c_X8_isOutside (d := d) M m (M 15 1)) (And.intro (z_fit_same _ _ _ _ _ _ _ _) hq))))) ?_
  generalize hg1 : f_X8_isOutside M m (M 15 1) = r1 at *
  refine g_k 1 (pc' := (if z_cmp .eq r1 ((0 : Int32)) = true then 17 else 14)) (LI' := [some (.ref 0), some (.int m), some (.int 1)]) (LL' := []) (st' := []) (S' := (z_SH, M, L)) (fun nq hq => And.intro rfl hq) ?_
  refine g_eq (fun hc1 => ?_) (fun hc1 => ?_)
  · refine g_k 7 (pc' := 83) (LI' := [some (.ref 0), some (.int m), some (.int 1)]) (LL' := []) (st' := [.int (M 17 ((m).toNatClampNeg))]) (S' := (z_SH, M, L)) (fun nq hq => And.intro rfl (And.intro rfl (And.intro rfl (And.intro rfl (And.intro rfl (And.intro rfl (And.intro (p1 hc1) hq))))))) ?_
    exact ⟨1, And.intro rfl (⟨(by subst hg1; unfold f_X8_member_w1; (first | rw [if_pos hc1] | skip); try rfl), rfl⟩)⟩
  · refine g_k 1 (pc' := 16) (LI' := [some (.ref 0), some (.int m), some (.int 1)]) (LL' := []) (st' := [.int (-1000000001)]) (S' := (z_SH, M, L)) (fun nq hq => And.intro rfl hq) ?_
    exact ⟨1, And.intro rfl (⟨(by subst hg1; unfold f_X8_member_w1; (first | rw [if_neg hc1] | skip); try rfl), rfl⟩)⟩
def f_X8_member_w2 (M : Nat → Nat → Int32) (m : Int32) : Int32 := if (f_X8_isOutside M m (M 15 1)) = (0 : Int32) then M 21 ((m).toNatClampNeg) else (-1000000001 : Int32)
def q_X8_member_w2 (M : Nat → Nat → Int32) (m : Int32) : Prop := (((f_X8_isOutside M m (M 15 1)) = (0 : Int32)) → (z_vin m 6 = true)) ∧ True
theorem c_X8_member_w2 {d : Nat} {L : Nat → Nat → Int64} (M : Nat → Nat → Int32) (m : Int32)  (hpre : q_X8_member_w2 M m) : z_C (d + 2) 80 [.ref 0, .int m, .int 2] (z_SH, M, L) (some (.int (f_X8_member_w2 M m))) (z_SH, M, L) := by
  unfold q_X8_member_w2 at hpre
  obtain ⟨p1, -⟩ := hpre
  refine z_mkA (tb := tb_X8_member) rfl (by decide) rfl rfl rfl ?_
  refine g_k 4 (pc' := 8) (LI' := [some (.ref 0), some (.int m), some (.int 2)]) (LL' := []) (st' := [.int (M 15 1), .int m]) (S' := (z_SH, M, L)) (fun nq hq => And.intro rfl (And.intro rfl (And.intro rfl (And.intro rfl hq)))) ?_
  refine g_k 1 (pc' := 11) (LI' := [some (.ref 0), some (.int m), some (.int 2)]) (LL' := []) (st' := [.int (f_X8_isOutside M m (M 15 1))]) (S' := (z_SH, M, L)) (fun nq hq => And.intro rfl (Exists.intro _ (Exists.intro _ (And.intro (c_X8_isOutside (d := d) M m (M 15 1)) (And.intro (z_fit_same _ _ _ _ _ _ _ _) hq))))) ?_
  generalize hg1 : f_X8_isOutside M m (M 15 1) = r1 at *
  refine g_k 1 (pc' := (if z_cmp .eq r1 ((0 : Int32)) = true then 17 else 14)) (LI' := [some (.ref 0), some (.int m), some (.int 2)]) (LL' := []) (st' := []) (S' := (z_SH, M, L)) (fun nq hq => And.intro rfl hq) ?_
  refine g_eq (fun hc1 => ?_) (fun hc1 => ?_)
  · refine g_k 8 (pc' := 96) (LI' := [some (.ref 0), some (.int m), some (.int 2)]) (LL' := []) (st' := [.int (M 21 ((m).toNatClampNeg))]) (S' := (z_SH, M, L)) (fun nq hq => And.intro rfl (And.intro rfl (And.intro rfl (And.intro rfl (And.intro rfl (And.intro rfl (And.intro rfl (And.intro (p1 hc1) hq)))))))) ?_
    exact ⟨1, And.intro rfl (⟨(by subst hg1; unfold f_X8_member_w2; (first | rw [if_pos hc1] | skip); try rfl), rfl⟩)⟩
  · refine g_k 1 (pc' := 16) (LI' := [some (.ref 0), some (.int m), some (.int 2)]) (LL' := []) (st' := [.int (-1000000001)]) (S' := (z_SH, M, L)) (fun nq hq => And.intro rfl hq) ?_
    exact ⟨1, And.intro rfl (⟨(by subst hg1; unfold f_X8_member_w2; (first | rw [if_neg hc1] | skip); try rfl), rfl⟩)⟩
def f_X8_member_w3 (M : Nat → Nat → Int32) (m : Int32) : Int32 := if (f_X8_isOutside M m (M 15 1)) = (0 : Int32) then M 18 ((m).toNatClampNeg) else (-1000000001 : Int32)
def q_X8_member_w3 (M : Nat → Nat → Int32) (m : Int32) : Prop := (((f_X8_isOutside M m (M 15 1)) = (0 : Int32)) → (z_vin m 6 = true)) ∧ True
theorem c_X8_member_w3 {d : Nat} {L : Nat → Nat → Int64} (M : Nat → Nat → Int32) (m : Int32)  (hpre : q_X8_member_w3 M m) : z_C (d + 2) 80 [.ref 0, .int m, .int 3] (z_SH, M, L) (some (.int (f_X8_member_w3 M m))) (z_SH, M, L) := by
  unfold q_X8_member_w3 at hpre
  obtain ⟨p1, -⟩ := hpre
  refine z_mkA (tb := tb_X8_member) rfl (by decide) rfl rfl rfl ?_
  refine g_k 4 (pc' := 8) (LI' := [some (.ref 0), some (.int m), some (.int 3)]) (LL' := []) (st' := [.int (M 15 1), .int m]) (S' := (z_SH, M, L)) (fun nq hq => And.intro rfl (And.intro rfl (And.intro rfl (And.intro rfl hq)))) ?_
  refine g_k 1 (pc' := 11) (LI' := [some (.ref 0), some (.int m), some (.int 3)]) (LL' := []) (st' := [.int (f_X8_isOutside M m (M 15 1))]) (S' := (z_SH, M, L)) (fun nq hq => And.intro rfl (Exists.intro _ (Exists.intro _ (And.intro (c_X8_isOutside (d := d) M m (M 15 1)) (And.intro (z_fit_same _ _ _ _ _ _ _ _) hq))))) ?_
  generalize hg1 : f_X8_isOutside M m (M 15 1) = r1 at *
  refine g_k 1 (pc' := (if z_cmp .eq r1 ((0 : Int32)) = true then 17 else 14)) (LI' := [some (.ref 0), some (.int m), some (.int 3)]) (LL' := []) (st' := []) (S' := (z_SH, M, L)) (fun nq hq => And.intro rfl hq) ?_
  refine g_eq (fun hc1 => ?_) (fun hc1 => ?_)
  · refine g_k 7 (pc' := 106) (LI' := [some (.ref 0), some (.int m), some (.int 3)]) (LL' := []) (st' := [.int (M 18 ((m).toNatClampNeg))]) (S' := (z_SH, M, L)) (fun nq hq => And.intro rfl (And.intro rfl (And.intro rfl (And.intro rfl (And.intro rfl (And.intro rfl (And.intro (p1 hc1) hq))))))) ?_
    exact ⟨1, And.intro rfl (⟨(by subst hg1; unfold f_X8_member_w3; (first | rw [if_pos hc1] | skip); try rfl), rfl⟩)⟩
  · refine g_k 1 (pc' := 16) (LI' := [some (.ref 0), some (.int m), some (.int 3)]) (LL' := []) (st' := [.int (-1000000001)]) (S' := (z_SH, M, L)) (fun nq hq => And.intro rfl hq) ?_
    exact ⟨1, And.intro rfl (⟨(by subst hg1; unfold f_X8_member_w3; (first | rw [if_neg hc1] | skip); try rfl), rfl⟩)⟩
def f_X8_member_w4 (M : Nat → Nat → Int32) (m : Int32) : Int32 := if (f_X8_isOutside M m (M 15 1)) = (0 : Int32) then (f_X0_setHoldingOf_20 M m) else (-1000000001 : Int32)
def q_X8_member_w4 (M : Nat → Nat → Int32) (m : Int32) : Prop := (((f_X8_isOutside M m (M 15 1)) = (0 : Int32)) → (q_X0_setHoldingOf_20 M m)) ∧ True
theorem c_X8_member_w4 {d : Nat} {L : Nat → Nat → Int64} (M : Nat → Nat → Int32) (m : Int32)  (hpre : q_X8_member_w4 M m) : z_C (d + 3) 80 [.ref 0, .int m, .int 4] (z_SH, M, L) (some (.int (f_X8_member_w4 M m))) (z_SH, M, L) := by
  unfold q_X8_member_w4 at hpre
  obtain ⟨p1, -⟩ := hpre
  refine z_mkA (tb := tb_X8_member) rfl (by decide) rfl rfl rfl ?_
  refine g_k 4 (pc' := 8) (LI' := [some (.ref 0), some (.int m), some (.int 4)]) (LL' := []) (st' := [.int (M 15 1), .int m]) (S' := (z_SH, M, L)) (fun nq hq => And.intro rfl (And.intro rfl (And.intro rfl (And.intro rfl hq)))) ?_
  refine g_k 1 (pc' := 11) (LI' := [some (.ref 0), some (.int m), some (.int 4)]) (LL' := []) (st' := [.int (f_X8_isOutside M m (M 15 1))]) (S' := (z_SH, M, L)) (fun nq hq => And.intro rfl (Exists.intro _ (Exists.intro _ (And.intro (c_X8_isOutside (d := d + 1) M m (M 15 1)) (And.intro (z_fit_same _ _ _ _ _ _ _ _) hq))))) ?_
  generalize hg1 : f_X8_isOutside M m (M 15 1) = r1 at *
  refine g_k 1 (pc' := (if z_cmp .eq r1 ((0 : Int32)) = true then 17 else 14)) (LI' := [some (.ref 0), some (.int m), some (.int 4)]) (LL' := []) (st' := []) (S' := (z_SH, M, L)) (fun nq hq => And.intro rfl hq) ?_
  refine g_eq (fun hc1 => ?_) (fun hc1 => ?_)
  · refine g_k 6 (pc' := 115) (LI' := [some (.ref 0), some (.int m), some (.int 4)]) (LL' := []) (st' := [.int m, .ref 20]) (S' := (z_SH, M, L)) (fun nq hq => And.intro rfl (And.intro rfl (And.intro rfl (And.intro rfl (And.intro rfl (And.intro rfl hq)))))) ?_
    refine g_k 1 (pc' := 118) (LI' := [some (.ref 0), some (.int m), some (.int 4)]) (LL' := []) (st' := [.int (f_X0_setHoldingOf_20 M m)]) (S' := (z_SH, M, L)) (fun nq hq => And.intro rfl (Exists.intro _ (Exists.intro _ (And.intro (c_X0_setHoldingOf_20 (d := d) M m (p1 hc1)) (And.intro (z_fit_same _ _ _ _ _ _ _ _) hq))))) ?_
    generalize hg2 : f_X0_setHoldingOf_20 M m = r2 at *
    exact ⟨1, And.intro rfl (⟨(by subst hg2; subst hg1; unfold f_X8_member_w4; (first | rw [if_pos hc1] | skip); try rfl), rfl⟩)⟩
  · refine g_k 1 (pc' := 16) (LI' := [some (.ref 0), some (.int m), some (.int 4)]) (LL' := []) (st' := [.int (-1000000001)]) (S' := (z_SH, M, L)) (fun nq hq => And.intro rfl hq) ?_
    exact ⟨1, And.intro rfl (⟨(by subst hg1; unfold f_X8_member_w4; (first | rw [if_neg hc1] | skip); try rfl), rfl⟩)⟩
def f_X8_member_w5 (M : Nat → Nat → Int32) (m : Int32) : Int32 := if (f_X8_isOutside M m (M 15 1)) = (0 : Int32) then (f_X6_setOfHeldOn_19 M m) else (-1000000001 : Int32)
def g_X8_member_w5 (M : Nat → Nat → Int32) (m : Int32) : Nat → Nat → Int32 := if (f_X8_isOutside M m (M 15 1)) = (0 : Int32) then (g_X6_setOfHeldOn_19 M m) else M
theorem fr_g_X8_member_w5 (M : Nat → Nat → Int32) (m : Int32) (c : Nat) (h28 : c ≠ 28) (h29 : c ≠ 29) (h30 : c ≠ 30) (h31 : c ≠ 31) (h268 : c ≠ 268) (h269 : c ≠ 269) (h270 : c ≠ 270) : g_X8_member_w5 M m c = M c := by
  unfold g_X8_member_w5
  repeat' split
  all_goals simp only [z_row_ne h28, z_row_ne h29, z_row_ne h30, z_row_ne h31, z_row_ne h268, z_row_ne h269, z_row_ne h270, fr_g_X6_setOfHeldOn_19 (c := c) (h28 := h28) (h29 := h29) (h30 := h30) (h31 := h31) (h268 := h268) (h269 := h269) (h270 := h270)]
def q_X8_member_w5 (M : Nat → Nat → Int32) (m : Int32) : Prop := (((f_X8_isOutside M m (M 15 1)) = (0 : Int32)) → (q_X6_setOfHeldOn_19 M m)) ∧ True
theorem c_X8_member_w5 {d : Nat} {L : Nat → Nat → Int64} (M : Nat → Nat → Int32) (m : Int32)  (hpre : q_X8_member_w5 M m) : z_C (d + 5) 80 [.ref 0, .int m, .int 5] (z_SH, M, L) (some (.int (f_X8_member_w5 M m))) (z_SH, g_X8_member_w5 M m, L) := by
  unfold q_X8_member_w5 at hpre
  obtain ⟨p1, -⟩ := hpre
  refine z_mkA (tb := tb_X8_member) rfl (by decide) rfl rfl rfl ?_
  refine g_k 4 (pc' := 8) (LI' := [some (.ref 0), some (.int m), some (.int 5)]) (LL' := []) (st' := [.int (M 15 1), .int m]) (S' := (z_SH, M, L)) (fun nq hq => And.intro rfl (And.intro rfl (And.intro rfl (And.intro rfl hq)))) ?_
  refine g_k 1 (pc' := 11) (LI' := [some (.ref 0), some (.int m), some (.int 5)]) (LL' := []) (st' := [.int (f_X8_isOutside M m (M 15 1))]) (S' := (z_SH, M, L)) (fun nq hq => And.intro rfl (Exists.intro _ (Exists.intro _ (And.intro (c_X8_isOutside (d := d + 3) M m (M 15 1)) (And.intro (z_fit_same _ _ _ _ _ _ _ _) hq))))) ?_
  generalize hg1 : f_X8_isOutside M m (M 15 1) = r1 at *
  refine g_k 1 (pc' := (if z_cmp .eq r1 ((0 : Int32)) = true then 17 else 14)) (LI' := [some (.ref 0), some (.int m), some (.int 5)]) (LL' := []) (st' := []) (S' := (z_SH, M, L)) (fun nq hq => And.intro rfl hq) ?_
  refine g_eq (fun hc1 => ?_) (fun hc1 => ?_)
  · refine g_k 5 (pc' := 124) (LI' := [some (.ref 0), some (.int m), some (.int 5)]) (LL' := []) (st' := [.int m, .ref 19]) (S' := (z_SH, M, L)) (fun nq hq => And.intro rfl (And.intro rfl (And.intro rfl (And.intro rfl (And.intro rfl hq))))) ?_
    refine g_k 1 (pc' := 127) (LI' := [some (.ref 0), some (.int m), some (.int 5)]) (LL' := []) (st' := [.int (f_X6_setOfHeldOn_19 M m)]) (S' := (z_SH, g_X6_setOfHeldOn_19 M m, L)) (fun nq hq => And.intro rfl (Exists.intro _ (Exists.intro _ (And.intro (c_X6_setOfHeldOn_19 (d := d) M m (p1 hc1)) (And.intro (z_fit_same _ _ _ _ _ _ _ _) hq))))) ?_
    generalize hg2 : f_X6_setOfHeldOn_19 M m = r2 at *
    generalize hg3 : g_X6_setOfHeldOn_19 M m = m3 at *
    exact ⟨1, And.intro rfl (⟨(by subst hg3; subst hg2; subst hg1; unfold f_X8_member_w5; (first | rw [if_pos hc1] | skip); try rfl), (by subst hg3; subst hg2; subst hg1; unfold g_X8_member_w5; (first | rw [if_pos hc1] | skip); try rfl)⟩)⟩
  · refine g_k 1 (pc' := 16) (LI' := [some (.ref 0), some (.int m), some (.int 5)]) (LL' := []) (st' := [.int (-1000000001)]) (S' := (z_SH, M, L)) (fun nq hq => And.intro rfl hq) ?_
    exact ⟨1, And.intro rfl (⟨(by subst hg1; unfold f_X8_member_w5; (first | rw [if_neg hc1] | skip); try rfl), (by subst hg1; unfold g_X8_member_w5; (first | rw [if_neg hc1] | skip); try rfl)⟩)⟩
def f_X8_member_w6 (M : Nat → Nat → Int32) (m : Int32) : Int32 := if (f_X8_isOutside M m (M 15 1)) = (0 : Int32) then (f_X0_clashesOf_20 M m) else (-1000000001 : Int32)
def q_X8_member_w6 (M : Nat → Nat → Int32) (m : Int32) : Prop := (((f_X8_isOutside M m (M 15 1)) = (0 : Int32)) → (q_X0_clashesOf_20 M m)) ∧ True
theorem c_X8_member_w6 {d : Nat} {L : Nat → Nat → Int64} (M : Nat → Nat → Int32) (m : Int32)  (hpre : q_X8_member_w6 M m) : z_C (d + 4) 80 [.ref 0, .int m, .int 6] (z_SH, M, L) (some (.int (f_X8_member_w6 M m))) (z_SH, M, L) := by
  unfold q_X8_member_w6 at hpre
  obtain ⟨p1, -⟩ := hpre
  refine z_mkA (tb := tb_X8_member) rfl (by decide) rfl rfl rfl ?_
  refine g_k 4 (pc' := 8) (LI' := [some (.ref 0), some (.int m), some (.int 6)]) (LL' := []) (st' := [.int (M 15 1), .int m]) (S' := (z_SH, M, L)) (fun nq hq => And.intro rfl (And.intro rfl (And.intro rfl (And.intro rfl hq)))) ?_
  refine g_k 1 (pc' := 11) (LI' := [some (.ref 0), some (.int m), some (.int 6)]) (LL' := []) (st' := [.int (f_X8_isOutside M m (M 15 1))]) (S' := (z_SH, M, L)) (fun nq hq => And.intro rfl (Exists.intro _ (Exists.intro _ (And.intro (c_X8_isOutside (d := d + 2) M m (M 15 1)) (And.intro (z_fit_same _ _ _ _ _ _ _ _) hq))))) ?_
  generalize hg1 : f_X8_isOutside M m (M 15 1) = r1 at *
  refine g_k 1 (pc' := (if z_cmp .eq r1 ((0 : Int32)) = true then 17 else 14)) (LI' := [some (.ref 0), some (.int m), some (.int 6)]) (LL' := []) (st' := []) (S' := (z_SH, M, L)) (fun nq hq => And.intro rfl hq) ?_
  refine g_eq (fun hc1 => ?_) (fun hc1 => ?_)
  · refine g_k 6 (pc' := 136) (LI' := [some (.ref 0), some (.int m), some (.int 6)]) (LL' := []) (st' := [.int m, .ref 20]) (S' := (z_SH, M, L)) (fun nq hq => And.intro rfl (And.intro rfl (And.intro rfl (And.intro rfl (And.intro rfl (And.intro rfl hq)))))) ?_
    refine g_k 1 (pc' := 139) (LI' := [some (.ref 0), some (.int m), some (.int 6)]) (LL' := []) (st' := [.int (f_X0_clashesOf_20 M m)]) (S' := (z_SH, M, L)) (fun nq hq => And.intro rfl (Exists.intro _ (Exists.intro _ (And.intro (c_X0_clashesOf_20 (d := d) M m (p1 hc1)) (And.intro (z_fit_same _ _ _ _ _ _ _ _) hq))))) ?_
    generalize hg2 : f_X0_clashesOf_20 M m = r2 at *
    exact ⟨1, And.intro rfl (⟨(by subst hg2; subst hg1; unfold f_X8_member_w6; (first | rw [if_pos hc1] | skip); try rfl), rfl⟩)⟩
  · refine g_k 1 (pc' := 16) (LI' := [some (.ref 0), some (.int m), some (.int 6)]) (LL' := []) (st' := [.int (-1000000001)]) (S' := (z_SH, M, L)) (fun nq hq => And.intro rfl hq) ?_
    exact ⟨1, And.intro rfl (⟨(by subst hg1; unfold f_X8_member_w6; (first | rw [if_neg hc1] | skip); try rfl), rfl⟩)⟩
def f_X8_member_w7 (M : Nat → Nat → Int32) (m : Int32) : Int32 := if (f_X8_isOutside M m (M 15 1)) = (0 : Int32) then (f_X0_freedOf_20 M m) else (-1000000001 : Int32)
def q_X8_member_w7 (M : Nat → Nat → Int32) (m : Int32) : Prop := (((f_X8_isOutside M m (M 15 1)) = (0 : Int32)) → (q_X0_freedOf_20 M m)) ∧ True
theorem c_X8_member_w7 {d : Nat} {L : Nat → Nat → Int64} (M : Nat → Nat → Int32) (m : Int32)  (hpre : q_X8_member_w7 M m) : z_C (d + 4) 80 [.ref 0, .int m, .int 7] (z_SH, M, L) (some (.int (f_X8_member_w7 M m))) (z_SH, M, L) := by
  unfold q_X8_member_w7 at hpre
  obtain ⟨p1, -⟩ := hpre
  refine z_mkA (tb := tb_X8_member) rfl (by decide) rfl rfl rfl ?_
  refine g_k 4 (pc' := 8) (LI' := [some (.ref 0), some (.int m), some (.int 7)]) (LL' := []) (st' := [.int (M 15 1), .int m]) (S' := (z_SH, M, L)) (fun nq hq => And.intro rfl (And.intro rfl (And.intro rfl (And.intro rfl hq)))) ?_
  refine g_k 1 (pc' := 11) (LI' := [some (.ref 0), some (.int m), some (.int 7)]) (LL' := []) (st' := [.int (f_X8_isOutside M m (M 15 1))]) (S' := (z_SH, M, L)) (fun nq hq => And.intro rfl (Exists.intro _ (Exists.intro _ (And.intro (c_X8_isOutside (d := d + 2) M m (M 15 1)) (And.intro (z_fit_same _ _ _ _ _ _ _ _) hq))))) ?_
  generalize hg1 : f_X8_isOutside M m (M 15 1) = r1 at *
  refine g_k 1 (pc' := (if z_cmp .eq r1 ((0 : Int32)) = true then 17 else 14)) (LI' := [some (.ref 0), some (.int m), some (.int 7)]) (LL' := []) (st' := []) (S' := (z_SH, M, L)) (fun nq hq => And.intro rfl hq) ?_
  refine g_eq (fun hc1 => ?_) (fun hc1 => ?_)
  · refine g_k 6 (pc' := 148) (LI' := [some (.ref 0), some (.int m), some (.int 7)]) (LL' := []) (st' := [.int m, .ref 20]) (S' := (z_SH, M, L)) (fun nq hq => And.intro rfl (And.intro rfl (And.intro rfl (And.intro rfl (And.intro rfl (And.intro rfl hq)))))) ?_
    refine g_k 1 (pc' := 151) (LI' := [some (.ref 0), some (.int m), some (.int 7)]) (LL' := []) (st' := [.int (f_X0_freedOf_20 M m)]) (S' := (z_SH, M, L)) (fun nq hq => And.intro rfl (Exists.intro _ (Exists.intro _ (And.intro (c_X0_freedOf_20 (d := d) M m (p1 hc1)) (And.intro (z_fit_same _ _ _ _ _ _ _ _) hq))))) ?_
    generalize hg2 : f_X0_freedOf_20 M m = r2 at *
    exact ⟨1, And.intro rfl (⟨(by subst hg2; subst hg1; unfold f_X8_member_w7; (first | rw [if_pos hc1] | skip); try rfl), rfl⟩)⟩
  · refine g_k 1 (pc' := 16) (LI' := [some (.ref 0), some (.int m), some (.int 7)]) (LL' := []) (st' := [.int (-1000000001)]) (S' := (z_SH, M, L)) (fun nq hq => And.intro rfl hq) ?_
    exact ⟨1, And.intro rfl (⟨(by subst hg1; unfold f_X8_member_w7; (first | rw [if_neg hc1] | skip); try rfl), rfl⟩)⟩
def f_X8_strap_w0 (M : Nat → Nat → Int32) (s : Int32) : Int32 := if (f_X8_isOutside M s (M 20 1)) = (0 : Int32) then M 22 ((s).toNatClampNeg) else (-1000000001 : Int32)
def q_X8_strap_w0 (M : Nat → Nat → Int32) (s : Int32) : Prop := (((f_X8_isOutside M s (M 20 1)) = (0 : Int32)) → (z_vin s 12 = true)) ∧ True
theorem c_X8_strap_w0 {d : Nat} {L : Nat → Nat → Int64} (M : Nat → Nat → Int32) (s : Int32)  (hpre : q_X8_strap_w0 M s) : z_C (d + 2) 81 [.ref 0, .int s, .int 0] (z_SH, M, L) (some (.int (f_X8_strap_w0 M s))) (z_SH, M, L) := by
  unfold q_X8_strap_w0 at hpre
  obtain ⟨p1, -⟩ := hpre
  refine z_mkA (tb := tb_X8_strap) rfl (by decide) rfl rfl rfl ?_
  refine g_k 5 (pc' := 11) (LI' := [some (.ref 0), some (.int s), some (.int 0)]) (LL' := []) (st' := [.int (M 20 1), .int s]) (S' := (z_SH, M, L)) (fun nq hq => And.intro rfl (And.intro rfl (And.intro rfl (And.intro rfl (And.intro rfl hq))))) ?_
  refine g_k 1 (pc' := 14) (LI' := [some (.ref 0), some (.int s), some (.int 0)]) (LL' := []) (st' := [.int (f_X8_isOutside M s (M 20 1))]) (S' := (z_SH, M, L)) (fun nq hq => And.intro rfl (Exists.intro _ (Exists.intro _ (And.intro (c_X8_isOutside (d := d) M s (M 20 1)) (And.intro (z_fit_same _ _ _ _ _ _ _ _) hq))))) ?_
  generalize hg1 : f_X8_isOutside M s (M 20 1) = r1 at *
  refine g_k 1 (pc' := (if z_cmp .eq r1 ((0 : Int32)) = true then 20 else 17)) (LI' := [some (.ref 0), some (.int s), some (.int 0)]) (LL' := []) (st' := []) (S' := (z_SH, M, L)) (fun nq hq => And.intro rfl hq) ?_
  refine g_eq (fun hc1 => ?_) (fun hc1 => ?_)
  · refine g_k 8 (pc' := 72) (LI' := [some (.ref 0), some (.int s), some (.int 0)]) (LL' := []) (st' := [.int (M 22 ((s).toNatClampNeg))]) (S' := (z_SH, M, L)) (fun nq hq => And.intro rfl (And.intro rfl (And.intro rfl (And.intro rfl (And.intro rfl (And.intro rfl (And.intro rfl (And.intro (p1 hc1) hq)))))))) ?_
    exact ⟨1, And.intro rfl (⟨(by subst hg1; unfold f_X8_strap_w0; (first | rw [if_pos hc1] | skip); try rfl), rfl⟩)⟩
  · refine g_k 1 (pc' := 19) (LI' := [some (.ref 0), some (.int s), some (.int 0)]) (LL' := []) (st' := [.int (-1000000001)]) (S' := (z_SH, M, L)) (fun nq hq => And.intro rfl hq) ?_
    exact ⟨1, And.intro rfl (⟨(by subst hg1; unfold f_X8_strap_w0; (first | rw [if_neg hc1] | skip); try rfl), rfl⟩)⟩
def f_X8_strap_w1 (M : Nat → Nat → Int32) (s : Int32) : Int32 := if (f_X8_isOutside M s (M 20 1)) = (0 : Int32) then M 23 ((s).toNatClampNeg) else (-1000000001 : Int32)
def q_X8_strap_w1 (M : Nat → Nat → Int32) (s : Int32) : Prop := (((f_X8_isOutside M s (M 20 1)) = (0 : Int32)) → (z_vin s 12 = true)) ∧ True
theorem c_X8_strap_w1 {d : Nat} {L : Nat → Nat → Int64} (M : Nat → Nat → Int32) (s : Int32)  (hpre : q_X8_strap_w1 M s) : z_C (d + 2) 81 [.ref 0, .int s, .int 1] (z_SH, M, L) (some (.int (f_X8_strap_w1 M s))) (z_SH, M, L) := by
  unfold q_X8_strap_w1 at hpre
  obtain ⟨p1, -⟩ := hpre
  refine z_mkA (tb := tb_X8_strap) rfl (by decide) rfl rfl rfl ?_
  refine g_k 5 (pc' := 11) (LI' := [some (.ref 0), some (.int s), some (.int 1)]) (LL' := []) (st' := [.int (M 20 1), .int s]) (S' := (z_SH, M, L)) (fun nq hq => And.intro rfl (And.intro rfl (And.intro rfl (And.intro rfl (And.intro rfl hq))))) ?_
  refine g_k 1 (pc' := 14) (LI' := [some (.ref 0), some (.int s), some (.int 1)]) (LL' := []) (st' := [.int (f_X8_isOutside M s (M 20 1))]) (S' := (z_SH, M, L)) (fun nq hq => And.intro rfl (Exists.intro _ (Exists.intro _ (And.intro (c_X8_isOutside (d := d) M s (M 20 1)) (And.intro (z_fit_same _ _ _ _ _ _ _ _) hq))))) ?_
  generalize hg1 : f_X8_isOutside M s (M 20 1) = r1 at *
  refine g_k 1 (pc' := (if z_cmp .eq r1 ((0 : Int32)) = true then 20 else 17)) (LI' := [some (.ref 0), some (.int s), some (.int 1)]) (LL' := []) (st' := []) (S' := (z_SH, M, L)) (fun nq hq => And.intro rfl hq) ?_
  refine g_eq (fun hc1 => ?_) (fun hc1 => ?_)
  · refine g_k 8 (pc' := 85) (LI' := [some (.ref 0), some (.int s), some (.int 1)]) (LL' := []) (st' := [.int (M 23 ((s).toNatClampNeg))]) (S' := (z_SH, M, L)) (fun nq hq => And.intro rfl (And.intro rfl (And.intro rfl (And.intro rfl (And.intro rfl (And.intro rfl (And.intro rfl (And.intro (p1 hc1) hq)))))))) ?_
    exact ⟨1, And.intro rfl (⟨(by subst hg1; unfold f_X8_strap_w1; (first | rw [if_pos hc1] | skip); try rfl), rfl⟩)⟩
  · refine g_k 1 (pc' := 19) (LI' := [some (.ref 0), some (.int s), some (.int 1)]) (LL' := []) (st' := [.int (-1000000001)]) (S' := (z_SH, M, L)) (fun nq hq => And.intro rfl hq) ?_
    exact ⟨1, And.intro rfl (⟨(by subst hg1; unfold f_X8_strap_w1; (first | rw [if_neg hc1] | skip); try rfl), rfl⟩)⟩
def f_X8_strap_w2 (M : Nat → Nat → Int32) (s : Int32) : Int32 := if (f_X8_isOutside M s (M 20 1)) = (0 : Int32) then M 24 ((s).toNatClampNeg) else (-1000000001 : Int32)
def q_X8_strap_w2 (M : Nat → Nat → Int32) (s : Int32) : Prop := (((f_X8_isOutside M s (M 20 1)) = (0 : Int32)) → (z_vin s 12 = true)) ∧ True
theorem c_X8_strap_w2 {d : Nat} {L : Nat → Nat → Int64} (M : Nat → Nat → Int32) (s : Int32)  (hpre : q_X8_strap_w2 M s) : z_C (d + 2) 81 [.ref 0, .int s, .int 2] (z_SH, M, L) (some (.int (f_X8_strap_w2 M s))) (z_SH, M, L) := by
  unfold q_X8_strap_w2 at hpre
  obtain ⟨p1, -⟩ := hpre
  refine z_mkA (tb := tb_X8_strap) rfl (by decide) rfl rfl rfl ?_
  refine g_k 5 (pc' := 11) (LI' := [some (.ref 0), some (.int s), some (.int 2)]) (LL' := []) (st' := [.int (M 20 1), .int s]) (S' := (z_SH, M, L)) (fun nq hq => And.intro rfl (And.intro rfl (And.intro rfl (And.intro rfl (And.intro rfl hq))))) ?_
  refine g_k 1 (pc' := 14) (LI' := [some (.ref 0), some (.int s), some (.int 2)]) (LL' := []) (st' := [.int (f_X8_isOutside M s (M 20 1))]) (S' := (z_SH, M, L)) (fun nq hq => And.intro rfl (Exists.intro _ (Exists.intro _ (And.intro (c_X8_isOutside (d := d) M s (M 20 1)) (And.intro (z_fit_same _ _ _ _ _ _ _ _) hq))))) ?_
  generalize hg1 : f_X8_isOutside M s (M 20 1) = r1 at *
  refine g_k 1 (pc' := (if z_cmp .eq r1 ((0 : Int32)) = true then 20 else 17)) (LI' := [some (.ref 0), some (.int s), some (.int 2)]) (LL' := []) (st' := []) (S' := (z_SH, M, L)) (fun nq hq => And.intro rfl hq) ?_
  refine g_eq (fun hc1 => ?_) (fun hc1 => ?_)
  · refine g_k 8 (pc' := 98) (LI' := [some (.ref 0), some (.int s), some (.int 2)]) (LL' := []) (st' := [.int (M 24 ((s).toNatClampNeg))]) (S' := (z_SH, M, L)) (fun nq hq => And.intro rfl (And.intro rfl (And.intro rfl (And.intro rfl (And.intro rfl (And.intro rfl (And.intro rfl (And.intro (p1 hc1) hq)))))))) ?_
    exact ⟨1, And.intro rfl (⟨(by subst hg1; unfold f_X8_strap_w2; (first | rw [if_pos hc1] | skip); try rfl), rfl⟩)⟩
  · refine g_k 1 (pc' := 19) (LI' := [some (.ref 0), some (.int s), some (.int 2)]) (LL' := []) (st' := [.int (-1000000001)]) (S' := (z_SH, M, L)) (fun nq hq => And.intro rfl hq) ?_
    exact ⟨1, And.intro rfl (⟨(by subst hg1; unfold f_X8_strap_w2; (first | rw [if_neg hc1] | skip); try rfl), rfl⟩)⟩
def f_X8_strap_w3 (M : Nat → Nat → Int32) (s : Int32) : Int32 := if (f_X8_isOutside M s (M 20 1)) = (0 : Int32) then M 25 ((s).toNatClampNeg) else (-1000000001 : Int32)
def q_X8_strap_w3 (M : Nat → Nat → Int32) (s : Int32) : Prop := (((f_X8_isOutside M s (M 20 1)) = (0 : Int32)) → (z_vin s 12 = true)) ∧ True
theorem c_X8_strap_w3 {d : Nat} {L : Nat → Nat → Int64} (M : Nat → Nat → Int32) (s : Int32)  (hpre : q_X8_strap_w3 M s) : z_C (d + 2) 81 [.ref 0, .int s, .int 3] (z_SH, M, L) (some (.int (f_X8_strap_w3 M s))) (z_SH, M, L) := by
  unfold q_X8_strap_w3 at hpre
  obtain ⟨p1, -⟩ := hpre
  refine z_mkA (tb := tb_X8_strap) rfl (by decide) rfl rfl rfl ?_
  refine g_k 5 (pc' := 11) (LI' := [some (.ref 0), some (.int s), some (.int 3)]) (LL' := []) (st' := [.int (M 20 1), .int s]) (S' := (z_SH, M, L)) (fun nq hq => And.intro rfl (And.intro rfl (And.intro rfl (And.intro rfl (And.intro rfl hq))))) ?_
  refine g_k 1 (pc' := 14) (LI' := [some (.ref 0), some (.int s), some (.int 3)]) (LL' := []) (st' := [.int (f_X8_isOutside M s (M 20 1))]) (S' := (z_SH, M, L)) (fun nq hq => And.intro rfl (Exists.intro _ (Exists.intro _ (And.intro (c_X8_isOutside (d := d) M s (M 20 1)) (And.intro (z_fit_same _ _ _ _ _ _ _ _) hq))))) ?_
  generalize hg1 : f_X8_isOutside M s (M 20 1) = r1 at *
  refine g_k 1 (pc' := (if z_cmp .eq r1 ((0 : Int32)) = true then 20 else 17)) (LI' := [some (.ref 0), some (.int s), some (.int 3)]) (LL' := []) (st' := []) (S' := (z_SH, M, L)) (fun nq hq => And.intro rfl hq) ?_
  refine g_eq (fun hc1 => ?_) (fun hc1 => ?_)
  · refine g_k 8 (pc' := 111) (LI' := [some (.ref 0), some (.int s), some (.int 3)]) (LL' := []) (st' := [.int (M 25 ((s).toNatClampNeg))]) (S' := (z_SH, M, L)) (fun nq hq => And.intro rfl (And.intro rfl (And.intro rfl (And.intro rfl (And.intro rfl (And.intro rfl (And.intro rfl (And.intro (p1 hc1) hq)))))))) ?_
    exact ⟨1, And.intro rfl (⟨(by subst hg1; unfold f_X8_strap_w3; (first | rw [if_pos hc1] | skip); try rfl), rfl⟩)⟩
  · refine g_k 1 (pc' := 19) (LI' := [some (.ref 0), some (.int s), some (.int 3)]) (LL' := []) (st' := [.int (-1000000001)]) (S' := (z_SH, M, L)) (fun nq hq => And.intro rfl hq) ?_
    exact ⟨1, And.intro rfl (⟨(by subst hg1; unfold f_X8_strap_w3; (first | rw [if_neg hc1] | skip); try rfl), rfl⟩)⟩
def f_X8_strap_w4 (M : Nat → Nat → Int32) (s : Int32) : Int32 := if (f_X8_isOutside M s (M 20 1)) = (0 : Int32) then M 26 ((s).toNatClampNeg) else (-1000000001 : Int32)
def q_X8_strap_w4 (M : Nat → Nat → Int32) (s : Int32) : Prop := (((f_X8_isOutside M s (M 20 1)) = (0 : Int32)) → (z_vin s 12 = true)) ∧ True
theorem c_X8_strap_w4 {d : Nat} {L : Nat → Nat → Int64} (M : Nat → Nat → Int32) (s : Int32)  (hpre : q_X8_strap_w4 M s) : z_C (d + 2) 81 [.ref 0, .int s, .int 4] (z_SH, M, L) (some (.int (f_X8_strap_w4 M s))) (z_SH, M, L) := by
  unfold q_X8_strap_w4 at hpre
  obtain ⟨p1, -⟩ := hpre
  refine z_mkA (tb := tb_X8_strap) rfl (by decide) rfl rfl rfl ?_
  refine g_k 5 (pc' := 11) (LI' := [some (.ref 0), some (.int s), some (.int 4)]) (LL' := []) (st' := [.int (M 20 1), .int s]) (S' := (z_SH, M, L)) (fun nq hq => And.intro rfl (And.intro rfl (And.intro rfl (And.intro rfl (And.intro rfl hq))))) ?_
  refine g_k 1 (pc' := 14) (LI' := [some (.ref 0), some (.int s), some (.int 4)]) (LL' := []) (st' := [.int (f_X8_isOutside M s (M 20 1))]) (S' := (z_SH, M, L)) (fun nq hq => And.intro rfl (Exists.intro _ (Exists.intro _ (And.intro (c_X8_isOutside (d := d) M s (M 20 1)) (And.intro (z_fit_same _ _ _ _ _ _ _ _) hq))))) ?_
  generalize hg1 : f_X8_isOutside M s (M 20 1) = r1 at *
  refine g_k 1 (pc' := (if z_cmp .eq r1 ((0 : Int32)) = true then 20 else 17)) (LI' := [some (.ref 0), some (.int s), some (.int 4)]) (LL' := []) (st' := []) (S' := (z_SH, M, L)) (fun nq hq => And.intro rfl hq) ?_
  refine g_eq (fun hc1 => ?_) (fun hc1 => ?_)
  · refine g_k 8 (pc' := 124) (LI' := [some (.ref 0), some (.int s), some (.int 4)]) (LL' := []) (st' := [.int (M 26 ((s).toNatClampNeg))]) (S' := (z_SH, M, L)) (fun nq hq => And.intro rfl (And.intro rfl (And.intro rfl (And.intro rfl (And.intro rfl (And.intro rfl (And.intro rfl (And.intro (p1 hc1) hq)))))))) ?_
    exact ⟨1, And.intro rfl (⟨(by subst hg1; unfold f_X8_strap_w4; (first | rw [if_pos hc1] | skip); try rfl), rfl⟩)⟩
  · refine g_k 1 (pc' := 19) (LI' := [some (.ref 0), some (.int s), some (.int 4)]) (LL' := []) (st' := [.int (-1000000001)]) (S' := (z_SH, M, L)) (fun nq hq => And.intro rfl hq) ?_
    exact ⟨1, And.intro rfl (⟨(by subst hg1; unfold f_X8_strap_w4; (first | rw [if_neg hc1] | skip); try rfl), rfl⟩)⟩
def f_X8_strap_w5 (M : Nat → Nat → Int32) (s : Int32) : Int32 := if (f_X8_isOutside M s (M 20 1)) = (0 : Int32) then M 27 ((s).toNatClampNeg) else (-1000000001 : Int32)
def q_X8_strap_w5 (M : Nat → Nat → Int32) (s : Int32) : Prop := (((f_X8_isOutside M s (M 20 1)) = (0 : Int32)) → (z_vin s 12 = true)) ∧ True
theorem c_X8_strap_w5 {d : Nat} {L : Nat → Nat → Int64} (M : Nat → Nat → Int32) (s : Int32)  (hpre : q_X8_strap_w5 M s) : z_C (d + 2) 81 [.ref 0, .int s, .int 5] (z_SH, M, L) (some (.int (f_X8_strap_w5 M s))) (z_SH, M, L) := by
  unfold q_X8_strap_w5 at hpre
  obtain ⟨p1, -⟩ := hpre
  refine z_mkA (tb := tb_X8_strap) rfl (by decide) rfl rfl rfl ?_
  refine g_k 5 (pc' := 11) (LI' := [some (.ref 0), some (.int s), some (.int 5)]) (LL' := []) (st' := [.int (M 20 1), .int s]) (S' := (z_SH, M, L)) (fun nq hq => And.intro rfl (And.intro rfl (And.intro rfl (And.intro rfl (And.intro rfl hq))))) ?_
  refine g_k 1 (pc' := 14) (LI' := [some (.ref 0), some (.int s), some (.int 5)]) (LL' := []) (st' := [.int (f_X8_isOutside M s (M 20 1))]) (S' := (z_SH, M, L)) (fun nq hq => And.intro rfl (Exists.intro _ (Exists.intro _ (And.intro (c_X8_isOutside (d := d) M s (M 20 1)) (And.intro (z_fit_same _ _ _ _ _ _ _ _) hq))))) ?_
  generalize hg1 : f_X8_isOutside M s (M 20 1) = r1 at *
  refine g_k 1 (pc' := (if z_cmp .eq r1 ((0 : Int32)) = true then 20 else 17)) (LI' := [some (.ref 0), some (.int s), some (.int 5)]) (LL' := []) (st' := []) (S' := (z_SH, M, L)) (fun nq hq => And.intro rfl hq) ?_
  refine g_eq (fun hc1 => ?_) (fun hc1 => ?_)
  · refine g_k 8 (pc' := 137) (LI' := [some (.ref 0), some (.int s), some (.int 5)]) (LL' := []) (st' := [.int (M 27 ((s).toNatClampNeg))]) (S' := (z_SH, M, L)) (fun nq hq => And.intro rfl (And.intro rfl (And.intro rfl (And.intro rfl (And.intro rfl (And.intro rfl (And.intro rfl (And.intro (p1 hc1) hq)))))))) ?_
    exact ⟨1, And.intro rfl (⟨(by subst hg1; unfold f_X8_strap_w5; (first | rw [if_pos hc1] | skip); try rfl), rfl⟩)⟩
  · refine g_k 1 (pc' := 19) (LI' := [some (.ref 0), some (.int s), some (.int 5)]) (LL' := []) (st' := [.int (-1000000001)]) (S' := (z_SH, M, L)) (fun nq hq => And.intro rfl hq) ?_
    exact ⟨1, And.intro rfl (⟨(by subst hg1; unfold f_X8_strap_w5; (first | rw [if_neg hc1] | skip); try rfl), rfl⟩)⟩
def f_X8_matter_w0 (M : Nat → Nat → Int32) (t : Int32) : Int32 := if (f_X8_isOutside M t ((8 : Int32))) = (0 : Int32) then if (f_X6_marginOn_19 M t) ≤ (0 : Int32) then (0 : Int32) else (1 : Int32) else (-1000000002 : Int32)
def g_X8_matter_w0 (M : Nat → Nat → Int32) (t : Int32) : Nat → Nat → Int32 := if (f_X8_isOutside M t ((8 : Int32))) = (0 : Int32) then (g_X6_marginOn_19 M t) else M
theorem fr_g_X8_matter_w0 (M : Nat → Nat → Int32) (t : Int32) (c : Nat) (h28 : c ≠ 28) (h29 : c ≠ 29) (h30 : c ≠ 30) (h31 : c ≠ 31) (h268 : c ≠ 268) (h269 : c ≠ 269) (h270 : c ≠ 270) : g_X8_matter_w0 M t c = M c := by
  unfold g_X8_matter_w0
  repeat' split
  all_goals simp only [z_row_ne h28, z_row_ne h29, z_row_ne h30, z_row_ne h31, z_row_ne h268, z_row_ne h269, z_row_ne h270, fr_g_X6_marginOn_19 (c := c) (h28 := h28) (h29 := h29) (h30 := h30) (h31 := h31) (h268 := h268) (h269 := h269) (h270 := h270)]
def q_X8_matter_w0 (M : Nat → Nat → Int32) (t : Int32) : Prop := (((f_X8_isOutside M t ((8 : Int32))) = (0 : Int32)) → (q_X6_marginOn_19 M t)) ∧ True
theorem c_X8_matter_w0 {d : Nat} {L : Nat → Nat → Int64} (M : Nat → Nat → Int32) (t : Int32)  (hpre : q_X8_matter_w0 M t) : z_C (d + 5) 90 [.ref 0, .int t, .int 0] (z_SH, M, L) (some (.int (f_X8_matter_w0 M t))) (z_SH, g_X8_matter_w0 M t, L) := by
  unfold q_X8_matter_w0 at hpre
  obtain ⟨p1, -⟩ := hpre
  refine z_mkA (tb := tb_X8_matter) rfl (by decide) rfl rfl rfl ?_
  refine g_k 2 (pc' := 3) (LI' := [some (.ref 0), some (.int t), some (.int 0)]) (LL' := []) (st' := [.int 8, .int t]) (S' := (z_SH, M, L)) (fun nq hq => And.intro rfl (And.intro rfl hq)) ?_
  refine g_k 1 (pc' := 6) (LI' := [some (.ref 0), some (.int t), some (.int 0)]) (LL' := []) (st' := [.int (f_X8_isOutside M t ((8 : Int32)))]) (S' := (z_SH, M, L)) (fun nq hq => And.intro rfl (Exists.intro _ (Exists.intro _ (And.intro (c_X8_isOutside (d := d + 3) M t ((8 : Int32))) (And.intro (z_fit_same _ _ _ _ _ _ _ _) hq))))) ?_
  generalize hg1 : f_X8_isOutside M t ((8 : Int32)) = r1 at *
  refine g_k 1 (pc' := (if z_cmp .eq r1 ((0 : Int32)) = true then 12 else 9)) (LI' := [some (.ref 0), some (.int t), some (.int 0)]) (LL' := []) (st' := []) (S' := (z_SH, M, L)) (fun nq hq => And.intro rfl hq) ?_
  refine g_eq (fun hc1 => ?_) (fun hc1 => ?_)
  · refine g_k 5 (pc' := 53) (LI' := [some (.ref 0), some (.int t), some (.int 0)]) (LL' := []) (st' := [.int t, .ref 19]) (S' := (z_SH, M, L)) (fun nq hq => And.intro rfl (And.intro rfl (And.intro rfl (And.intro rfl (And.intro rfl hq))))) ?_
    refine g_k 1 (pc' := 56) (LI' := [some (.ref 0), some (.int t), some (.int 0)]) (LL' := []) (st' := [.int (f_X6_marginOn_19 M t)]) (S' := (z_SH, g_X6_marginOn_19 M t, L)) (fun nq hq => And.intro rfl (Exists.intro _ (Exists.intro _ (And.intro (c_X6_marginOn_19 (d := d) M t (p1 hc1)) (And.intro (z_fit_same _ _ _ _ _ _ _ _) hq))))) ?_
    generalize hg2 : f_X6_marginOn_19 M t = r2 at *
    generalize hg3 : g_X6_marginOn_19 M t = m3 at *
    refine g_k 1 (pc' := (if z_cmp .le r2 ((0 : Int32)) = true then 63 else 59)) (LI' := [some (.ref 0), some (.int t), some (.int 0)]) (LL' := []) (st' := []) (S' := (z_SH, m3, L)) (fun nq hq => And.intro rfl hq) ?_
    refine g_le (fun hc2 => ?_) (fun hc2 => ?_)
    · refine g_k 1 (pc' := 64) (LI' := [some (.ref 0), some (.int t), some (.int 0)]) (LL' := []) (st' := [.int 0]) (S' := (z_SH, m3, L)) (fun nq hq => And.intro rfl hq) ?_
      exact ⟨1, And.intro rfl (⟨(by subst hg3; subst hg2; subst hg1; unfold f_X8_matter_w0; (first | rw [if_pos hc1] | skip); (first | rw [if_pos hc2] | skip); try rfl), (by subst hg3; subst hg2; subst hg1; unfold g_X8_matter_w0; (first | rw [if_pos hc1] | skip); (first | rw [if_pos hc2] | skip); try rfl)⟩)⟩
    · refine g_k 2 (pc' := 64) (LI' := [some (.ref 0), some (.int t), some (.int 0)]) (LL' := []) (st' := [.int 1]) (S' := (z_SH, m3, L)) (fun nq hq => And.intro rfl (And.intro rfl hq)) ?_
      exact ⟨1, And.intro rfl (⟨(by subst hg3; subst hg2; subst hg1; unfold f_X8_matter_w0; (first | rw [if_pos hc1] | skip); (first | rw [if_neg hc2] | skip); try rfl), (by subst hg3; subst hg2; subst hg1; unfold g_X8_matter_w0; (first | rw [if_pos hc1] | skip); (first | rw [if_neg hc2] | skip); try rfl)⟩)⟩
  · refine g_k 1 (pc' := 11) (LI' := [some (.ref 0), some (.int t), some (.int 0)]) (LL' := []) (st' := [.int (-1000000002)]) (S' := (z_SH, M, L)) (fun nq hq => And.intro rfl hq) ?_
    exact ⟨1, And.intro rfl (⟨(by subst hg1; unfold f_X8_matter_w0; (first | rw [if_neg hc1] | skip); try rfl), (by subst hg1; unfold g_X8_matter_w0; (first | rw [if_neg hc1] | skip); try rfl)⟩)⟩
def f_X8_matter_w1 (M : Nat → Nat → Int32) (t : Int32) : Int32 := if (f_X8_isOutside M t ((8 : Int32))) = (0 : Int32) then (f_X6_marginOn_19 M t) + ((1000 : Int32)) else (-1000000002 : Int32)
def g_X8_matter_w1 (M : Nat → Nat → Int32) (t : Int32) : Nat → Nat → Int32 := if (f_X8_isOutside M t ((8 : Int32))) = (0 : Int32) then (g_X6_marginOn_19 M t) else M
theorem fr_g_X8_matter_w1 (M : Nat → Nat → Int32) (t : Int32) (c : Nat) (h28 : c ≠ 28) (h29 : c ≠ 29) (h30 : c ≠ 30) (h31 : c ≠ 31) (h268 : c ≠ 268) (h269 : c ≠ 269) (h270 : c ≠ 270) : g_X8_matter_w1 M t c = M c := by
  unfold g_X8_matter_w1
  repeat' split
  all_goals simp only [z_row_ne h28, z_row_ne h29, z_row_ne h30, z_row_ne h31, z_row_ne h268, z_row_ne h269, z_row_ne h270, fr_g_X6_marginOn_19 (c := c) (h28 := h28) (h29 := h29) (h30 := h30) (h31 := h31) (h268 := h268) (h269 := h269) (h270 := h270)]
def q_X8_matter_w1 (M : Nat → Nat → Int32) (t : Int32) : Prop := (((f_X8_isOutside M t ((8 : Int32))) = (0 : Int32)) → (q_X6_marginOn_19 M t)) ∧ True
theorem c_X8_matter_w1 {d : Nat} {L : Nat → Nat → Int64} (M : Nat → Nat → Int32) (t : Int32)  (hpre : q_X8_matter_w1 M t) : z_C (d + 5) 90 [.ref 0, .int t, .int 1] (z_SH, M, L) (some (.int (f_X8_matter_w1 M t))) (z_SH, g_X8_matter_w1 M t, L) := by
  unfold q_X8_matter_w1 at hpre
  obtain ⟨p1, -⟩ := hpre
  refine z_mkA (tb := tb_X8_matter) rfl (by decide) rfl rfl rfl ?_
  refine g_k 2 (pc' := 3) (LI' := [some (.ref 0), some (.int t), some (.int 1)]) (LL' := []) (st' := [.int 8, .int t]) (S' := (z_SH, M, L)) (fun nq hq => And.intro rfl (And.intro rfl hq)) ?_
  refine g_k 1 (pc' := 6) (LI' := [some (.ref 0), some (.int t), some (.int 1)]) (LL' := []) (st' := [.int (f_X8_isOutside M t ((8 : Int32)))]) (S' := (z_SH, M, L)) (fun nq hq => And.intro rfl (Exists.intro _ (Exists.intro _ (And.intro (c_X8_isOutside (d := d + 3) M t ((8 : Int32))) (And.intro (z_fit_same _ _ _ _ _ _ _ _) hq))))) ?_
  generalize hg1 : f_X8_isOutside M t ((8 : Int32)) = r1 at *
  refine g_k 1 (pc' := (if z_cmp .eq r1 ((0 : Int32)) = true then 12 else 9)) (LI' := [some (.ref 0), some (.int t), some (.int 1)]) (LL' := []) (st' := []) (S' := (z_SH, M, L)) (fun nq hq => And.intro rfl hq) ?_
  refine g_eq (fun hc1 => ?_) (fun hc1 => ?_)
  · refine g_k 5 (pc' := 70) (LI' := [some (.ref 0), some (.int t), some (.int 1)]) (LL' := []) (st' := [.int t, .ref 19]) (S' := (z_SH, M, L)) (fun nq hq => And.intro rfl (And.intro rfl (And.intro rfl (And.intro rfl (And.intro rfl hq))))) ?_
    refine g_k 1 (pc' := 73) (LI' := [some (.ref 0), some (.int t), some (.int 1)]) (LL' := []) (st' := [.int (f_X6_marginOn_19 M t)]) (S' := (z_SH, g_X6_marginOn_19 M t, L)) (fun nq hq => And.intro rfl (Exists.intro _ (Exists.intro _ (And.intro (c_X6_marginOn_19 (d := d) M t (p1 hc1)) (And.intro (z_fit_same _ _ _ _ _ _ _ _) hq))))) ?_
    generalize hg2 : f_X6_marginOn_19 M t = r2 at *
    generalize hg3 : g_X6_marginOn_19 M t = m3 at *
    refine g_k 2 (pc' := 77) (LI' := [some (.ref 0), some (.int t), some (.int 1)]) (LL' := []) (st' := [.int (r2 + ((1000 : Int32)))]) (S' := (z_SH, m3, L)) (fun nq hq => And.intro rfl (And.intro rfl hq)) ?_
    exact ⟨1, And.intro rfl (⟨(by subst hg3; subst hg2; subst hg1; unfold f_X8_matter_w1; (first | rw [if_pos hc1] | skip); try rfl), (by subst hg3; subst hg2; subst hg1; unfold g_X8_matter_w1; (first | rw [if_pos hc1] | skip); try rfl)⟩)⟩
  · refine g_k 1 (pc' := 11) (LI' := [some (.ref 0), some (.int t), some (.int 1)]) (LL' := []) (st' := [.int (-1000000002)]) (S' := (z_SH, M, L)) (fun nq hq => And.intro rfl hq) ?_
    exact ⟨1, And.intro rfl (⟨(by subst hg1; unfold f_X8_matter_w1; (first | rw [if_neg hc1] | skip); try rfl), (by subst hg1; unfold g_X8_matter_w1; (first | rw [if_neg hc1] | skip); try rfl)⟩)⟩
def f_X8_matter_w2 (M : Nat → Nat → Int32) (t : Int32) : Int32 := if (f_X8_isOutside M t ((8 : Int32))) = (0 : Int32) then (f_X6_setOfCreaking_19 M t) else (-1000000002 : Int32)
def g_X8_matter_w2 (M : Nat → Nat → Int32) (t : Int32) : Nat → Nat → Int32 := if (f_X8_isOutside M t ((8 : Int32))) = (0 : Int32) then (g_X6_setOfCreaking_19 M t) else M
theorem fr_g_X8_matter_w2 (M : Nat → Nat → Int32) (t : Int32) (c : Nat) (h28 : c ≠ 28) (h29 : c ≠ 29) (h30 : c ≠ 30) (h31 : c ≠ 31) (h268 : c ≠ 268) (h269 : c ≠ 269) (h270 : c ≠ 270) : g_X8_matter_w2 M t c = M c := by
  unfold g_X8_matter_w2
  repeat' split
  all_goals simp only [z_row_ne h28, z_row_ne h29, z_row_ne h30, z_row_ne h31, z_row_ne h268, z_row_ne h269, z_row_ne h270, fr_g_X6_setOfCreaking_19 (c := c) (h28 := h28) (h29 := h29) (h30 := h30) (h31 := h31) (h268 := h268) (h269 := h269) (h270 := h270)]
def q_X8_matter_w2 (M : Nat → Nat → Int32) (t : Int32) : Prop := (((f_X8_isOutside M t ((8 : Int32))) = (0 : Int32)) → (q_X6_setOfCreaking_19 M t)) ∧ True
theorem c_X8_matter_w2 {d : Nat} {L : Nat → Nat → Int64} (M : Nat → Nat → Int32) (t : Int32)  (hpre : q_X8_matter_w2 M t) : z_C (d + 5) 90 [.ref 0, .int t, .int 2] (z_SH, M, L) (some (.int (f_X8_matter_w2 M t))) (z_SH, g_X8_matter_w2 M t, L) := by
  unfold q_X8_matter_w2 at hpre
  obtain ⟨p1, -⟩ := hpre
  refine z_mkA (tb := tb_X8_matter) rfl (by decide) rfl rfl rfl ?_
  refine g_k 2 (pc' := 3) (LI' := [some (.ref 0), some (.int t), some (.int 2)]) (LL' := []) (st' := [.int 8, .int t]) (S' := (z_SH, M, L)) (fun nq hq => And.intro rfl (And.intro rfl hq)) ?_
  refine g_k 1 (pc' := 6) (LI' := [some (.ref 0), some (.int t), some (.int 2)]) (LL' := []) (st' := [.int (f_X8_isOutside M t ((8 : Int32)))]) (S' := (z_SH, M, L)) (fun nq hq => And.intro rfl (Exists.intro _ (Exists.intro _ (And.intro (c_X8_isOutside (d := d + 3) M t ((8 : Int32))) (And.intro (z_fit_same _ _ _ _ _ _ _ _) hq))))) ?_
  generalize hg1 : f_X8_isOutside M t ((8 : Int32)) = r1 at *
  refine g_k 1 (pc' := (if z_cmp .eq r1 ((0 : Int32)) = true then 12 else 9)) (LI' := [some (.ref 0), some (.int t), some (.int 2)]) (LL' := []) (st' := []) (S' := (z_SH, M, L)) (fun nq hq => And.intro rfl hq) ?_
  refine g_eq (fun hc1 => ?_) (fun hc1 => ?_)
  · refine g_k 5 (pc' := 83) (LI' := [some (.ref 0), some (.int t), some (.int 2)]) (LL' := []) (st' := [.int t, .ref 19]) (S' := (z_SH, M, L)) (fun nq hq => And.intro rfl (And.intro rfl (And.intro rfl (And.intro rfl (And.intro rfl hq))))) ?_
    refine g_k 1 (pc' := 86) (LI' := [some (.ref 0), some (.int t), some (.int 2)]) (LL' := []) (st' := [.int (f_X6_setOfCreaking_19 M t)]) (S' := (z_SH, g_X6_setOfCreaking_19 M t, L)) (fun nq hq => And.intro rfl (Exists.intro _ (Exists.intro _ (And.intro (c_X6_setOfCreaking_19 (d := d) M t (p1 hc1)) (And.intro (z_fit_same _ _ _ _ _ _ _ _) hq))))) ?_
    generalize hg2 : f_X6_setOfCreaking_19 M t = r2 at *
    generalize hg3 : g_X6_setOfCreaking_19 M t = m3 at *
    exact ⟨1, And.intro rfl (⟨(by subst hg3; subst hg2; subst hg1; unfold f_X8_matter_w2; (first | rw [if_pos hc1] | skip); try rfl), (by subst hg3; subst hg2; subst hg1; unfold g_X8_matter_w2; (first | rw [if_pos hc1] | skip); try rfl)⟩)⟩
  · refine g_k 1 (pc' := 11) (LI' := [some (.ref 0), some (.int t), some (.int 2)]) (LL' := []) (st' := [.int (-1000000002)]) (S' := (z_SH, M, L)) (fun nq hq => And.intro rfl hq) ?_
    exact ⟨1, And.intro rfl (⟨(by subst hg1; unfold f_X8_matter_w2; (first | rw [if_neg hc1] | skip); try rfl), (by subst hg1; unfold g_X8_matter_w2; (first | rw [if_neg hc1] | skip); try rfl)⟩)⟩
def f_X8_goes_0 (M : Nat → Nat → Int32) (m : Int32) (t : Int32) (w : Int32) : Int32 := if (f_X8_isOutside M m (M 15 1)) = (0 : Int32) then if ¬ (f_X8_isOutside M t ((8 : Int32))) = (0 : Int32) then (-1000000002 : Int32) else if (f_X8_isOutside M w ((2 : Int32))) = (0 : Int32) then if ¬ w = (0 : Int32) then ((g_X1_take_28 M t) 29 ((m).toNatClampNeg)) + ((1000 : Int32)) else (g_X1_take_28 M t) 31 ((m).toNatClampNeg) else (-1000000002 : Int32) else (-1000000001 : Int32)
def g_X8_goes_0 (M : Nat → Nat → Int32) (m : Int32) (t : Int32) (w : Int32) : Nat → Nat → Int32 := if (f_X8_isOutside M m (M 15 1)) = (0 : Int32) then if ¬ (f_X8_isOutside M t ((8 : Int32))) = (0 : Int32) then M else if (f_X8_isOutside M w ((2 : Int32))) = (0 : Int32) then (g_X1_take_28 M t) else M else M
theorem fr_g_X8_goes_0 (M : Nat → Nat → Int32) (m : Int32) (t : Int32) (w : Int32) (c : Nat) (h28 : c ≠ 28) (h29 : c ≠ 29) (h30 : c ≠ 30) (h31 : c ≠ 31) (h268 : c ≠ 268) (h269 : c ≠ 269) (h270 : c ≠ 270) : g_X8_goes_0 M m t w c = M c := by
  unfold g_X8_goes_0
  repeat' split
  all_goals simp only [z_row_ne h28, z_row_ne h29, z_row_ne h30, z_row_ne h31, z_row_ne h268, z_row_ne h269, z_row_ne h270, fr_g_X1_take_28 (c := c) (h28 := h28) (h29 := h29) (h30 := h30) (h31 := h31) (h268 := h268) (h269 := h269) (h270 := h270)]
def q_X8_goes_0 (M : Nat → Nat → Int32) (m : Int32) (t : Int32) (w : Int32) : Prop := (((f_X8_isOutside M m (M 15 1)) = (0 : Int32)) → ((f_X8_isOutside M t ((8 : Int32))) = (0 : Int32)) → ((f_X8_isOutside M w ((2 : Int32))) = (0 : Int32)) → (q_X1_take_28 M t)) ∧ (((f_X8_isOutside M m (M 15 1)) = (0 : Int32)) → ((f_X8_isOutside M t ((8 : Int32))) = (0 : Int32)) → ((f_X8_isOutside M w ((2 : Int32))) = (0 : Int32)) → (¬ w = (0 : Int32)) → (z_vin m 6 = true)) ∧ (((f_X8_isOutside M m (M 15 1)) = (0 : Int32)) → ((f_X8_isOutside M t ((8 : Int32))) = (0 : Int32)) → ((f_X8_isOutside M w ((2 : Int32))) = (0 : Int32)) → (w = (0 : Int32)) → (z_vin m 6 = true)) ∧ True
theorem c_X8_goes_0 {d : Nat} {L : Nat → Nat → Int64} (M : Nat → Nat → Int32) (m : Int32) (t : Int32) (w : Int32)  (hpre : q_X8_goes_0 M m t w) : z_C (d + 4) 89 [.ref 0, .int m, .int t, .int w] (z_SH, M, L) (some (.int (f_X8_goes_0 M m t w))) (z_SH, g_X8_goes_0 M m t w, L) := by
  unfold q_X8_goes_0 at hpre
  obtain ⟨p1, p2, p3, -⟩ := hpre
  refine z_mkA (tb := tb_X8_goes) rfl (by decide) rfl rfl rfl ?_
  refine g_k 4 (pc' := 8) (LI' := [some (.ref 0), some (.int m), some (.int t), some (.int w)]) (LL' := []) (st' := [.int (M 15 1), .int m]) (S' := (z_SH, M, L)) (fun nq hq => And.intro rfl (And.intro rfl (And.intro rfl (And.intro rfl hq)))) ?_
  refine g_k 1 (pc' := 11) (LI' := [some (.ref 0), some (.int m), some (.int t), some (.int w)]) (LL' := []) (st' := [.int (f_X8_isOutside M m (M 15 1))]) (S' := (z_SH, M, L)) (fun nq hq => And.intro rfl (Exists.intro _ (Exists.intro _ (And.intro (c_X8_isOutside (d := d + 2) M m (M 15 1)) (And.intro (z_fit_same _ _ _ _ _ _ _ _) hq))))) ?_
  generalize hg1 : f_X8_isOutside M m (M 15 1) = r1 at *
  refine g_k 1 (pc' := (if z_cmp .eq r1 ((0 : Int32)) = true then 17 else 14)) (LI' := [some (.ref 0), some (.int m), some (.int t), some (.int w)]) (LL' := []) (st' := []) (S' := (z_SH, M, L)) (fun nq hq => And.intro rfl hq) ?_
  refine g_eq (fun hc1 => ?_) (fun hc1 => ?_)
  · refine g_k 2 (pc' := 20) (LI' := [some (.ref 0), some (.int m), some (.int t), some (.int w)]) (LL' := []) (st' := [.int 8, .int t]) (S' := (z_SH, M, L)) (fun nq hq => And.intro rfl (And.intro rfl hq)) ?_
    refine g_k 1 (pc' := 23) (LI' := [some (.ref 0), some (.int m), some (.int t), some (.int w)]) (LL' := []) (st' := [.int (f_X8_isOutside M t ((8 : Int32)))]) (S' := (z_SH, M, L)) (fun nq hq => And.intro rfl (Exists.intro _ (Exists.intro _ (And.intro (c_X8_isOutside (d := d + 2) M t ((8 : Int32))) (And.intro (z_fit_same _ _ _ _ _ _ _ _) hq))))) ?_
    generalize hg2 : f_X8_isOutside M t ((8 : Int32)) = r2 at *
    refine g_k 1 (pc' := (if z_cmp .ne r2 ((0 : Int32)) = true then 34 else 26)) (LI' := [some (.ref 0), some (.int m), some (.int t), some (.int w)]) (LL' := []) (st' := []) (S' := (z_SH, M, L)) (fun nq hq => And.intro rfl hq) ?_
    refine g_ne (fun hc2 => ?_) (fun hc2 => ?_)
    · refine g_k 1 (pc' := 36) (LI' := [some (.ref 0), some (.int m), some (.int t), some (.int w)]) (LL' := []) (st' := [.int (-1000000002)]) (S' := (z_SH, M, L)) (fun nq hq => And.intro rfl hq) ?_
      exact ⟨1, And.intro rfl (⟨(by subst hg2; subst hg1; unfold f_X8_goes_0; (first | rw [if_pos hc1] | skip); (first | rw [if_pos hc2] | skip); try rfl), (by subst hg2; subst hg1; unfold g_X8_goes_0; (first | rw [if_pos hc1] | skip); (first | rw [if_pos hc2] | skip); try rfl)⟩)⟩
    · refine g_k 2 (pc' := 28) (LI' := [some (.ref 0), some (.int m), some (.int t), some (.int w)]) (LL' := []) (st' := [.int 2, .int w]) (S' := (z_SH, M, L)) (fun nq hq => And.intro rfl (And.intro rfl hq)) ?_
      refine g_k 1 (pc' := 31) (LI' := [some (.ref 0), some (.int m), some (.int t), some (.int w)]) (LL' := []) (st' := [.int (f_X8_isOutside M w ((2 : Int32)))]) (S' := (z_SH, M, L)) (fun nq hq => And.intro rfl (Exists.intro _ (Exists.intro _ (And.intro (c_X8_isOutside (d := d + 2) M w ((2 : Int32))) (And.intro (z_fit_same _ _ _ _ _ _ _ _) hq))))) ?_
      generalize hg3 : f_X8_isOutside M w ((2 : Int32)) = r3 at *
      refine g_k 1 (pc' := (if z_cmp .eq r3 ((0 : Int32)) = true then 37 else 34)) (LI' := [some (.ref 0), some (.int m), some (.int t), some (.int w)]) (LL' := []) (st' := []) (S' := (z_SH, M, L)) (fun nq hq => And.intro rfl hq) ?_
      refine g_eq (fun hc3 => ?_) (fun hc3 => ?_)
      · refine g_k 4 (pc' := 45) (LI' := [some (.ref 0), some (.int m), some (.int t), some (.int w)]) (LL' := []) (st' := [.int t, .ref 28]) (S' := (z_SH, M, L)) (fun nq hq => And.intro rfl (And.intro rfl (And.intro rfl (And.intro rfl hq)))) ?_
        refine g_k 1 (pc' := 48) (LI' := [some (.ref 0), some (.int m), some (.int t), some (.int w)]) (LL' := []) (st' := []) (S' := (z_SH, g_X1_take_28 M t, L)) (fun nq hq => And.intro rfl (Exists.intro _ (Exists.intro _ (And.intro (c_X1_take_28 (d := d) M t (p1 hc1 hc2 hc3)) (And.intro (z_fit_same _ _ _ _ _ _ _ _) hq))))) ?_
        generalize hg4 : g_X1_take_28 M t = m4 at *
        refine g_k 2 (pc' := (if z_cmp .ne w ((0 : Int32)) = true then 67 else 52)) (LI' := [some (.ref 0), some (.int m), some (.int t), some (.int w)]) (LL' := []) (st' := []) (S' := (z_SH, m4, L)) (fun nq hq => And.intro rfl (And.intro rfl hq)) ?_
        refine g_ne (fun hc4 => ?_) (fun hc4 => ?_)
        · refine g_k 8 (pc' := 83) (LI' := [some (.ref 0), some (.int m), some (.int t), some (.int w)]) (LL' := []) (st' := [.int ((m4 29 ((m).toNatClampNeg)) + ((1000 : Int32)))]) (S' := (z_SH, m4, L)) (fun nq hq => And.intro rfl (And.intro rfl (And.intro rfl (And.intro rfl (And.intro rfl (And.intro (p2 hc1 hc2 hc3 hc4) (And.intro rfl (And.intro rfl hq)))))))) ?_
          exact ⟨1, And.intro rfl (⟨(by subst hg4; subst hg3; subst hg2; subst hg1; unfold f_X8_goes_0; (first | rw [if_pos hc1] | skip); (first | rw [if_neg (not_not_intro hc2)] | skip); (first | rw [if_pos hc3] | skip); (first | rw [if_pos hc4] | skip); try rfl), (by subst hg4; subst hg3; subst hg2; subst hg1; unfold g_X8_goes_0; (first | rw [if_pos hc1] | skip); (first | rw [if_neg (not_not_intro hc2)] | skip); (first | rw [if_pos hc3] | skip); (first | rw [if_pos hc4] | skip); try rfl)⟩)⟩
        · refine g_k 7 (pc' := 83) (LI' := [some (.ref 0), some (.int m), some (.int t), some (.int w)]) (LL' := []) (st' := [.int (m4 31 ((m).toNatClampNeg))]) (S' := (z_SH, m4, L)) (fun nq hq => And.intro rfl (And.intro rfl (And.intro rfl (And.intro rfl (And.intro rfl (And.intro (p3 hc1 hc2 hc3 hc4) (And.intro rfl hq))))))) ?_
          exact ⟨1, And.intro rfl (⟨(by subst hg4; subst hg3; subst hg2; subst hg1; unfold f_X8_goes_0; (first | rw [if_pos hc1] | skip); (first | rw [if_neg (not_not_intro hc2)] | skip); (first | rw [if_pos hc3] | skip); (first | rw [if_neg (not_not_intro hc4)] | skip); try rfl), (by subst hg4; subst hg3; subst hg2; subst hg1; unfold g_X8_goes_0; (first | rw [if_pos hc1] | skip); (first | rw [if_neg (not_not_intro hc2)] | skip); (first | rw [if_pos hc3] | skip); (first | rw [if_neg (not_not_intro hc4)] | skip); try rfl)⟩)⟩
      · refine g_k 1 (pc' := 36) (LI' := [some (.ref 0), some (.int m), some (.int t), some (.int w)]) (LL' := []) (st' := [.int (-1000000002)]) (S' := (z_SH, M, L)) (fun nq hq => And.intro rfl hq) ?_
        exact ⟨1, And.intro rfl (⟨(by subst hg3; subst hg2; subst hg1; unfold f_X8_goes_0; (first | rw [if_pos hc1] | skip); (first | rw [if_neg (not_not_intro hc2)] | skip); (first | rw [if_neg hc3] | skip); try rfl), (by subst hg3; subst hg2; subst hg1; unfold g_X8_goes_0; (first | rw [if_pos hc1] | skip); (first | rw [if_neg (not_not_intro hc2)] | skip); (first | rw [if_neg hc3] | skip); try rfl)⟩)⟩
  · refine g_k 1 (pc' := 16) (LI' := [some (.ref 0), some (.int m), some (.int t), some (.int w)]) (LL' := []) (st' := [.int (-1000000001)]) (S' := (z_SH, M, L)) (fun nq hq => And.intro rfl hq) ?_
    exact ⟨1, And.intro rfl (⟨(by subst hg1; unfold f_X8_goes_0; (first | rw [if_neg hc1] | skip); try rfl), (by subst hg1; unfold g_X8_goes_0; (first | rw [if_neg hc1] | skip); try rfl)⟩)⟩
def f_X8_power_0 (M : Nat → Nat → Int32) (m : Int32) (t : Int32) : Int32 := if (f_X8_isOutside M m (M 15 1)) = (0 : Int32) then if (f_X8_isOutside M t ((8 : Int32))) = (0 : Int32) then (f_X7_ordersTurnedBy_32 M m t) else (-1000000002 : Int32) else (-1000000001 : Int32)
def g_X8_power_0 (M : Nat → Nat → Int32) (m : Int32) (t : Int32) : Nat → Nat → Int32 := if (f_X8_isOutside M m (M 15 1)) = (0 : Int32) then if (f_X8_isOutside M t ((8 : Int32))) = (0 : Int32) then (g_X7_ordersTurnedBy_32 M m t) else M else M
theorem fr_g_X8_power_0 (M : Nat → Nat → Int32) (m : Int32) (t : Int32) (c : Nat) (h28 : c ≠ 28) (h29 : c ≠ 29) (h30 : c ≠ 30) (h31 : c ≠ 31) (h268 : c ≠ 268) (h269 : c ≠ 269) (h270 : c ≠ 270) : g_X8_power_0 M m t c = M c := by
  unfold g_X8_power_0
  repeat' split
  all_goals simp only [z_row_ne h28, z_row_ne h29, z_row_ne h30, z_row_ne h31, z_row_ne h268, z_row_ne h269, z_row_ne h270, fr_g_X7_ordersTurnedBy_32 (c := c) (h28 := h28) (h29 := h29) (h30 := h30) (h31 := h31) (h268 := h268) (h269 := h269) (h270 := h270)]
def q_X8_power_0 (M : Nat → Nat → Int32) (m : Int32) (t : Int32) : Prop := (((f_X8_isOutside M m (M 15 1)) = (0 : Int32)) → ((f_X8_isOutside M t ((8 : Int32))) = (0 : Int32)) → (q_X7_ordersTurnedBy_32 M m t)) ∧ True
theorem c_X8_power_0 {d : Nat} {L : Nat → Nat → Int64} (M : Nat → Nat → Int32) (m : Int32) (t : Int32)  (hpre : q_X8_power_0 M m t) : z_C (d + 5) 92 [.ref 0, .int m, .int t] (z_SH, M, L) (some (.int (f_X8_power_0 M m t))) (z_SH, g_X8_power_0 M m t, L) := by
  unfold q_X8_power_0 at hpre
  obtain ⟨p1, -⟩ := hpre
  refine z_mkA (tb := tb_X8_power) rfl (by decide) rfl rfl rfl ?_
  refine g_k 4 (pc' := 8) (LI' := [some (.ref 0), some (.int m), some (.int t)]) (LL' := []) (st' := [.int (M 15 1), .int m]) (S' := (z_SH, M, L)) (fun nq hq => And.intro rfl (And.intro rfl (And.intro rfl (And.intro rfl hq)))) ?_
  refine g_k 1 (pc' := 11) (LI' := [some (.ref 0), some (.int m), some (.int t)]) (LL' := []) (st' := [.int (f_X8_isOutside M m (M 15 1))]) (S' := (z_SH, M, L)) (fun nq hq => And.intro rfl (Exists.intro _ (Exists.intro _ (And.intro (c_X8_isOutside (d := d + 3) M m (M 15 1)) (And.intro (z_fit_same _ _ _ _ _ _ _ _) hq))))) ?_
  generalize hg1 : f_X8_isOutside M m (M 15 1) = r1 at *
  refine g_k 1 (pc' := (if z_cmp .eq r1 ((0 : Int32)) = true then 17 else 14)) (LI' := [some (.ref 0), some (.int m), some (.int t)]) (LL' := []) (st' := []) (S' := (z_SH, M, L)) (fun nq hq => And.intro rfl hq) ?_
  refine g_eq (fun hc1 => ?_) (fun hc1 => ?_)
  · refine g_k 2 (pc' := 20) (LI' := [some (.ref 0), some (.int m), some (.int t)]) (LL' := []) (st' := [.int 8, .int t]) (S' := (z_SH, M, L)) (fun nq hq => And.intro rfl (And.intro rfl hq)) ?_
    refine g_k 1 (pc' := 23) (LI' := [some (.ref 0), some (.int m), some (.int t)]) (LL' := []) (st' := [.int (f_X8_isOutside M t ((8 : Int32)))]) (S' := (z_SH, M, L)) (fun nq hq => And.intro rfl (Exists.intro _ (Exists.intro _ (And.intro (c_X8_isOutside (d := d + 3) M t ((8 : Int32))) (And.intro (z_fit_same _ _ _ _ _ _ _ _) hq))))) ?_
    generalize hg2 : f_X8_isOutside M t ((8 : Int32)) = r2 at *
    refine g_k 1 (pc' := (if z_cmp .eq r2 ((0 : Int32)) = true then 29 else 26)) (LI' := [some (.ref 0), some (.int m), some (.int t)]) (LL' := []) (st' := []) (S' := (z_SH, M, L)) (fun nq hq => And.intro rfl hq) ?_
    refine g_eq (fun hc2 => ?_) (fun hc2 => ?_)
    · refine g_k 4 (pc' := 35) (LI' := [some (.ref 0), some (.int m), some (.int t)]) (LL' := []) (st' := [.int t, .int m, .ref 32]) (S' := (z_SH, M, L)) (fun nq hq => And.intro rfl (And.intro rfl (And.intro rfl (And.intro rfl hq)))) ?_
      refine g_k 1 (pc' := 38) (LI' := [some (.ref 0), some (.int m), some (.int t)]) (LL' := []) (st' := [.int (f_X7_ordersTurnedBy_32 M m t)]) (S' := (z_SH, g_X7_ordersTurnedBy_32 M m t, L)) (fun nq hq => And.intro rfl (Exists.intro _ (Exists.intro _ (And.intro (c_X7_ordersTurnedBy_32 (d := d) M m t (p1 hc1 hc2)) (And.intro (z_fit_same _ _ _ _ _ _ _ _) hq))))) ?_
      generalize hg3 : f_X7_ordersTurnedBy_32 M m t = r3 at *
      generalize hg4 : g_X7_ordersTurnedBy_32 M m t = m4 at *
      exact ⟨1, And.intro rfl (⟨(by subst hg4; subst hg3; subst hg2; subst hg1; unfold f_X8_power_0; (first | rw [if_pos hc1] | skip); (first | rw [if_pos hc2] | skip); try rfl), (by subst hg4; subst hg3; subst hg2; subst hg1; unfold g_X8_power_0; (first | rw [if_pos hc1] | skip); (first | rw [if_pos hc2] | skip); try rfl)⟩)⟩
    · refine g_k 1 (pc' := 28) (LI' := [some (.ref 0), some (.int m), some (.int t)]) (LL' := []) (st' := [.int (-1000000002)]) (S' := (z_SH, M, L)) (fun nq hq => And.intro rfl hq) ?_
      exact ⟨1, And.intro rfl (⟨(by subst hg2; subst hg1; unfold f_X8_power_0; (first | rw [if_pos hc1] | skip); (first | rw [if_neg hc2] | skip); try rfl), (by subst hg2; subst hg1; unfold g_X8_power_0; (first | rw [if_pos hc1] | skip); (first | rw [if_neg hc2] | skip); try rfl)⟩)⟩
  · refine g_k 1 (pc' := 16) (LI' := [some (.ref 0), some (.int m), some (.int t)]) (LL' := []) (st' := [.int (-1000000001)]) (S' := (z_SH, M, L)) (fun nq hq => And.intro rfl hq) ?_
    exact ⟨1, And.intro rfl (⟨(by subst hg1; unfold f_X8_power_0; (first | rw [if_neg hc1] | skip); try rfl), (by subst hg1; unfold g_X8_power_0; (first | rw [if_neg hc1] | skip); try rfl)⟩)⟩
def f_X8_see_0 (M : Nat → Nat → Int32) (t : Int32) (w : Int32) : Int32 := if ¬ (f_X8_isOutside M t ((8 : Int32))) = (0 : Int32) then (-1000000002 : Int32) else if (f_X8_isOutside M w ((3 : Int32))) = (0 : Int32) then if M 243 0 < (6 : Int32) then (g_X3_addSeen_243 M t w) 243 0 else (-1000000004 : Int32) else (-1000000002 : Int32)
def g_X8_see_0 (M : Nat → Nat → Int32) (t : Int32) (w : Int32) : Nat → Nat → Int32 := if ¬ (f_X8_isOutside M t ((8 : Int32))) = (0 : Int32) then M else if (f_X8_isOutside M w ((3 : Int32))) = (0 : Int32) then if M 243 0 < (6 : Int32) then (g_X3_addSeen_243 M t w) else M else M
theorem fr_g_X8_see_0 (M : Nat → Nat → Int32) (t : Int32) (w : Int32) (c : Nat) (h243 : c ≠ 243) (h244 : c ≠ 244) (h245 : c ≠ 245) : g_X8_see_0 M t w c = M c := by
  unfold g_X8_see_0
  repeat' split
  all_goals simp only [z_row_ne h243, z_row_ne h244, z_row_ne h245, fr_g_X3_addSeen_243 (c := c) (h243 := h243) (h244 := h244) (h245 := h245)]
def q_X8_see_0 (M : Nat → Nat → Int32) (t : Int32) (w : Int32) : Prop := (((f_X8_isOutside M t ((8 : Int32))) = (0 : Int32)) → ((f_X8_isOutside M w ((3 : Int32))) = (0 : Int32)) → (M 243 0 < (6 : Int32)) → (q_X3_addSeen_243 M t w)) ∧ True
theorem c_X8_see_0 {d : Nat} {L : Nat → Nat → Int64} (M : Nat → Nat → Int32) (t : Int32) (w : Int32)  (hpre : q_X8_see_0 M t w) : z_C (d + 2) 94 [.ref 0, .int t, .int w] (z_SH, M, L) (some (.int (f_X8_see_0 M t w))) (z_SH, g_X8_see_0 M t w, L) := by
  unfold q_X8_see_0 at hpre
  obtain ⟨p1, -⟩ := hpre
  refine z_mkA (tb := tb_X8_see) rfl (by decide) rfl rfl rfl ?_
  refine g_k 2 (pc' := 3) (LI' := [some (.ref 0), some (.int t), some (.int w)]) (LL' := []) (st' := [.int 8, .int t]) (S' := (z_SH, M, L)) (fun nq hq => And.intro rfl (And.intro rfl hq)) ?_
  refine g_k 1 (pc' := 6) (LI' := [some (.ref 0), some (.int t), some (.int w)]) (LL' := []) (st' := [.int (f_X8_isOutside M t ((8 : Int32)))]) (S' := (z_SH, M, L)) (fun nq hq => And.intro rfl (Exists.intro _ (Exists.intro _ (And.intro (c_X8_isOutside (d := d) M t ((8 : Int32))) (And.intro (z_fit_same _ _ _ _ _ _ _ _) hq))))) ?_
  generalize hg1 : f_X8_isOutside M t ((8 : Int32)) = r1 at *
  refine g_k 1 (pc' := (if z_cmp .ne r1 ((0 : Int32)) = true then 17 else 9)) (LI' := [some (.ref 0), some (.int t), some (.int w)]) (LL' := []) (st' := []) (S' := (z_SH, M, L)) (fun nq hq => And.intro rfl hq) ?_
  refine g_ne (fun hc1 => ?_) (fun hc1 => ?_)
  · refine g_k 1 (pc' := 19) (LI' := [some (.ref 0), some (.int t), some (.int w)]) (LL' := []) (st' := [.int (-1000000002)]) (S' := (z_SH, M, L)) (fun nq hq => And.intro rfl hq) ?_
    exact ⟨1, And.intro rfl (⟨(by subst hg1; unfold f_X8_see_0; (first | rw [if_pos hc1] | skip); try rfl), (by subst hg1; unfold g_X8_see_0; (first | rw [if_pos hc1] | skip); try rfl)⟩)⟩
  · refine g_k 2 (pc' := 11) (LI' := [some (.ref 0), some (.int t), some (.int w)]) (LL' := []) (st' := [.int 3, .int w]) (S' := (z_SH, M, L)) (fun nq hq => And.intro rfl (And.intro rfl hq)) ?_
    refine g_k 1 (pc' := 14) (LI' := [some (.ref 0), some (.int t), some (.int w)]) (LL' := []) (st' := [.int (f_X8_isOutside M w ((3 : Int32)))]) (S' := (z_SH, M, L)) (fun nq hq => And.intro rfl (Exists.intro _ (Exists.intro _ (And.intro (c_X8_isOutside (d := d) M w ((3 : Int32))) (And.intro (z_fit_same _ _ _ _ _ _ _ _) hq))))) ?_
    generalize hg2 : f_X8_isOutside M w ((3 : Int32)) = r2 at *
    refine g_k 1 (pc' := (if z_cmp .eq r2 ((0 : Int32)) = true then 20 else 17)) (LI' := [some (.ref 0), some (.int t), some (.int w)]) (LL' := []) (st' := []) (S' := (z_SH, M, L)) (fun nq hq => And.intro rfl hq) ?_
    refine g_eq (fun hc2 => ?_) (fun hc2 => ?_)
    · refine g_k 5 (pc' := (if z_cmp .lt (M 243 0) ((6 : Int32)) = true then 35 else 32)) (LI' := [some (.ref 0), some (.int t), some (.int w)]) (LL' := []) (st' := []) (S' := (z_SH, M, L)) (fun nq hq => And.intro rfl (And.intro rfl (And.intro rfl (And.intro rfl (And.intro rfl hq))))) ?_
      refine g_lt (fun hc3 => ?_) (fun hc3 => ?_)
      · refine g_k 4 (pc' := 41) (LI' := [some (.ref 0), some (.int t), some (.int w)]) (LL' := []) (st' := [.int w, .int t, .ref 243]) (S' := (z_SH, M, L)) (fun nq hq => And.intro rfl (And.intro rfl (And.intro rfl (And.intro rfl hq)))) ?_
        refine g_k 1 (pc' := 44) (LI' := [some (.ref 0), some (.int t), some (.int w)]) (LL' := []) (st' := []) (S' := (z_SH, g_X3_addSeen_243 M t w, L)) (fun nq hq => And.intro rfl (Exists.intro _ (Exists.intro _ (And.intro (c_X3_addSeen_243 (d := d) M t w (p1 hc1 hc2 hc3)) (And.intro (z_fit_same _ _ _ _ _ _ _ _) hq))))) ?_
        generalize hg3 : g_X3_addSeen_243 M t w = m3 at *
        refine g_k 3 (pc' := 51) (LI' := [some (.ref 0), some (.int t), some (.int w)]) (LL' := []) (st' := [.int (m3 243 0)]) (S' := (z_SH, m3, L)) (fun nq hq => And.intro rfl (And.intro rfl (And.intro rfl hq))) ?_
        exact ⟨1, And.intro rfl (⟨(by subst hg3; subst hg2; subst hg1; unfold f_X8_see_0; (first | rw [if_neg (not_not_intro hc1)] | skip); (first | rw [if_pos hc2] | skip); (first | rw [if_pos hc3] | skip); try rfl), (by subst hg3; subst hg2; subst hg1; unfold g_X8_see_0; (first | rw [if_neg (not_not_intro hc1)] | skip); (first | rw [if_pos hc2] | skip); (first | rw [if_pos hc3] | skip); try rfl)⟩)⟩
      · refine g_k 1 (pc' := 34) (LI' := [some (.ref 0), some (.int t), some (.int w)]) (LL' := []) (st' := [.int (-1000000004)]) (S' := (z_SH, M, L)) (fun nq hq => And.intro rfl hq) ?_
        exact ⟨1, And.intro rfl (⟨(by subst hg2; subst hg1; unfold f_X8_see_0; (first | rw [if_neg (not_not_intro hc1)] | skip); (first | rw [if_pos hc2] | skip); (first | rw [if_neg hc3] | skip); try rfl), (by subst hg2; subst hg1; unfold g_X8_see_0; (first | rw [if_neg (not_not_intro hc1)] | skip); (first | rw [if_pos hc2] | skip); (first | rw [if_neg hc3] | skip); try rfl)⟩)⟩
    · refine g_k 1 (pc' := 19) (LI' := [some (.ref 0), some (.int t), some (.int w)]) (LL' := []) (st' := [.int (-1000000002)]) (S' := (z_SH, M, L)) (fun nq hq => And.intro rfl hq) ?_
      exact ⟨1, And.intro rfl (⟨(by subst hg2; subst hg1; unfold f_X8_see_0; (first | rw [if_neg (not_not_intro hc1)] | skip); (first | rw [if_neg hc2] | skip); try rfl), (by subst hg2; subst hg1; unfold g_X8_see_0; (first | rw [if_neg (not_not_intro hc1)] | skip); (first | rw [if_neg hc2] | skip); try rfl)⟩)⟩
def f_X8_couldBe_0 (M : Nat → Nat → Int32)  : Int32 := (f_X3_setThatFits_243_19 M)
def g_X8_couldBe_0 (M : Nat → Nat → Int32)  : Nat → Nat → Int32 := (g_X3_setThatFits_243_19 M)
theorem fr_g_X8_couldBe_0 (M : Nat → Nat → Int32)  (c : Nat) (h28 : c ≠ 28) (h29 : c ≠ 29) (h30 : c ≠ 30) (h31 : c ≠ 31) (h268 : c ≠ 268) (h269 : c ≠ 269) (h270 : c ≠ 270) : g_X8_couldBe_0 M c = M c := by
  unfold g_X8_couldBe_0
  repeat' split
  all_goals simp only [z_row_ne h28, z_row_ne h29, z_row_ne h30, z_row_ne h31, z_row_ne h268, z_row_ne h269, z_row_ne h270, fr_g_X3_setThatFits_243_19 (c := c) (h28 := h28) (h29 := h29) (h30 := h30) (h31 := h31) (h268 := h268) (h269 := h269) (h270 := h270)]
def q_X8_couldBe_0 (M : Nat → Nat → Int32)  : Prop := (q_X3_setThatFits_243_19 M) ∧ True
theorem c_X8_couldBe_0 {d : Nat} {L : Nat → Nat → Int64} (M : Nat → Nat → Int32)   (hpre : q_X8_couldBe_0 M) : z_C (d + 5) 95 [.ref 0] (z_SH, M, L) (some (.int (f_X8_couldBe_0 M))) (z_SH, g_X8_couldBe_0 M, L) := by
  unfold q_X8_couldBe_0 at hpre
  obtain ⟨p1, -⟩ := hpre
  refine z_mkA (tb := tb_X8_couldBe) rfl (by decide) rfl rfl rfl ?_
  refine g_k 4 (pc' := 8) (LI' := [some (.ref 0)]) (LL' := []) (st' := [.ref 19, .ref 243]) (S' := (z_SH, M, L)) (fun nq hq => And.intro rfl (And.intro rfl (And.intro rfl (And.intro rfl hq)))) ?_
  refine g_k 1 (pc' := 11) (LI' := [some (.ref 0)]) (LL' := []) (st' := [.int (f_X3_setThatFits_243_19 M)]) (S' := (z_SH, g_X3_setThatFits_243_19 M, L)) (fun nq hq => And.intro rfl (Exists.intro _ (Exists.intro _ (And.intro (c_X3_setThatFits_243_19 (d := d) M  p1) (And.intro (z_fit_same _ _ _ _ _ _ _ _) hq))))) ?_
  generalize hg1 : f_X3_setThatFits_243_19 M = r1 at *
  generalize hg2 : g_X3_setThatFits_243_19 M = m2 at *
  exact ⟨1, And.intro rfl (⟨(by subst hg2; subst hg1; rfl), (by subst hg2; subst hg1; rfl)⟩)⟩
def f_X8_next_0 (M : Nat → Nat → Int32)  : Int32 := (f_X3_bestToPut_243_19 M)
def g_X8_next_0 (M : Nat → Nat → Int32)  : Nat → Nat → Int32 := (g_X3_bestToPut_243_19 M)
theorem fr_g_X8_next_0 (M : Nat → Nat → Int32)  (c : Nat) (h28 : c ≠ 28) (h29 : c ≠ 29) (h30 : c ≠ 30) (h31 : c ≠ 31) (h268 : c ≠ 268) (h269 : c ≠ 269) (h270 : c ≠ 270) : g_X8_next_0 M c = M c := by
  unfold g_X8_next_0
  repeat' split
  all_goals simp only [z_row_ne h28, z_row_ne h29, z_row_ne h30, z_row_ne h31, z_row_ne h268, z_row_ne h269, z_row_ne h270, fr_g_X3_bestToPut_243_19 (c := c) (h28 := h28) (h29 := h29) (h30 := h30) (h31 := h31) (h268 := h268) (h269 := h269) (h270 := h270)]
def q_X8_next_0 (M : Nat → Nat → Int32)  : Prop := (q_X3_bestToPut_243_19 M) ∧ True
theorem c_X8_next_0 {d : Nat} {L : Nat → Nat → Int64} (M : Nat → Nat → Int32)   (hpre : q_X8_next_0 M) : z_C (d + 6) 96 [.ref 0] (z_SH, M, L) (some (.int (f_X8_next_0 M))) (z_SH, g_X8_next_0 M, L) := by
  unfold q_X8_next_0 at hpre
  obtain ⟨p1, -⟩ := hpre
  refine z_mkA (tb := tb_X8_next) rfl (by decide) rfl rfl rfl ?_
  refine g_k 4 (pc' := 8) (LI' := [some (.ref 0)]) (LL' := []) (st' := [.ref 19, .ref 243]) (S' := (z_SH, M, L)) (fun nq hq => And.intro rfl (And.intro rfl (And.intro rfl (And.intro rfl hq)))) ?_
  refine g_k 1 (pc' := 11) (LI' := [some (.ref 0)]) (LL' := []) (st' := [.int (f_X3_bestToPut_243_19 M)]) (S' := (z_SH, g_X3_bestToPut_243_19 M, L)) (fun nq hq => And.intro rfl (Exists.intro _ (Exists.intro _ (And.intro (c_X3_bestToPut_243_19 (d := d) M  p1) (And.intro (z_fit_same _ _ _ _ _ _ _ _) hq))))) ?_
  generalize hg1 : f_X3_bestToPut_243_19 M = r1 at *
  generalize hg2 : g_X3_bestToPut_243_19 M = m2 at *
  exact ⟨1, And.intro rfl (⟨(by subst hg2; subst hg1; rfl), (by subst hg2; subst hg1; rfl)⟩)⟩
def f_X8_write_0 (M : Nat → Nat → Int32) (m : Int32) (t : Int32) (w : Int32) : Int32 := if (f_X8_isOutside M m (M 15 1)) = (0 : Int32) then if ¬ (f_X8_isOutside M t ((8 : Int32))) = (0 : Int32) then (-1000000002 : Int32) else if (f_X8_isOutside M w ((3 : Int32))) = (0 : Int32) then if M 243 3 < (20 : Int32) then (g_X3_addEntry_243 M m t w) 243 3 else (-1000000004 : Int32) else (-1000000002 : Int32) else (-1000000001 : Int32)
def g_X8_write_0 (M : Nat → Nat → Int32) (m : Int32) (t : Int32) (w : Int32) : Nat → Nat → Int32 := if (f_X8_isOutside M m (M 15 1)) = (0 : Int32) then if ¬ (f_X8_isOutside M t ((8 : Int32))) = (0 : Int32) then M else if (f_X8_isOutside M w ((3 : Int32))) = (0 : Int32) then if M 243 3 < (20 : Int32) then (g_X3_addEntry_243 M m t w) else M else M else M
theorem fr_g_X8_write_0 (M : Nat → Nat → Int32) (m : Int32) (t : Int32) (w : Int32) (c : Nat) (h243 : c ≠ 243) (h246 : c ≠ 246) (h247 : c ≠ 247) (h248 : c ≠ 248) : g_X8_write_0 M m t w c = M c := by
  unfold g_X8_write_0
  repeat' split
  all_goals simp only [z_row_ne h243, z_row_ne h246, z_row_ne h247, z_row_ne h248, fr_g_X3_addEntry_243 (c := c) (h243 := h243) (h246 := h246) (h247 := h247) (h248 := h248)]
def q_X8_write_0 (M : Nat → Nat → Int32) (m : Int32) (t : Int32) (w : Int32) : Prop := (((f_X8_isOutside M m (M 15 1)) = (0 : Int32)) → ((f_X8_isOutside M t ((8 : Int32))) = (0 : Int32)) → ((f_X8_isOutside M w ((3 : Int32))) = (0 : Int32)) → (M 243 3 < (20 : Int32)) → (q_X3_addEntry_243 M m t w)) ∧ True
theorem c_X8_write_0 {d : Nat} {L : Nat → Nat → Int64} (M : Nat → Nat → Int32) (m : Int32) (t : Int32) (w : Int32)  (hpre : q_X8_write_0 M m t w) : z_C (d + 2) 97 [.ref 0, .int m, .int t, .int w] (z_SH, M, L) (some (.int (f_X8_write_0 M m t w))) (z_SH, g_X8_write_0 M m t w, L) := by
  unfold q_X8_write_0 at hpre
  obtain ⟨p1, -⟩ := hpre
  refine z_mkA (tb := tb_X8_write) rfl (by decide) rfl rfl rfl ?_
  refine g_k 4 (pc' := 8) (LI' := [some (.ref 0), some (.int m), some (.int t), some (.int w)]) (LL' := []) (st' := [.int (M 15 1), .int m]) (S' := (z_SH, M, L)) (fun nq hq => And.intro rfl (And.intro rfl (And.intro rfl (And.intro rfl hq)))) ?_
  refine g_k 1 (pc' := 11) (LI' := [some (.ref 0), some (.int m), some (.int t), some (.int w)]) (LL' := []) (st' := [.int (f_X8_isOutside M m (M 15 1))]) (S' := (z_SH, M, L)) (fun nq hq => And.intro rfl (Exists.intro _ (Exists.intro _ (And.intro (c_X8_isOutside (d := d) M m (M 15 1)) (And.intro (z_fit_same _ _ _ _ _ _ _ _) hq))))) ?_
  generalize hg1 : f_X8_isOutside M m (M 15 1) = r1 at *
  refine g_k 1 (pc' := (if z_cmp .eq r1 ((0 : Int32)) = true then 17 else 14)) (LI' := [some (.ref 0), some (.int m), some (.int t), some (.int w)]) (LL' := []) (st' := []) (S' := (z_SH, M, L)) (fun nq hq => And.intro rfl hq) ?_
  refine g_eq (fun hc1 => ?_) (fun hc1 => ?_)
  · refine g_k 2 (pc' := 20) (LI' := [some (.ref 0), some (.int m), some (.int t), some (.int w)]) (LL' := []) (st' := [.int 8, .int t]) (S' := (z_SH, M, L)) (fun nq hq => And.intro rfl (And.intro rfl hq)) ?_
    refine g_k 1 (pc' := 23) (LI' := [some (.ref 0), some (.int m), some (.int t), some (.int w)]) (LL' := []) (st' := [.int (f_X8_isOutside M t ((8 : Int32)))]) (S' := (z_SH, M, L)) (fun nq hq => And.intro rfl (Exists.intro _ (Exists.intro _ (And.intro (c_X8_isOutside (d := d) M t ((8 : Int32))) (And.intro (z_fit_same _ _ _ _ _ _ _ _) hq))))) ?_
    generalize hg2 : f_X8_isOutside M t ((8 : Int32)) = r2 at *
    refine g_k 1 (pc' := (if z_cmp .ne r2 ((0 : Int32)) = true then 34 else 26)) (LI' := [some (.ref 0), some (.int m), some (.int t), some (.int w)]) (LL' := []) (st' := []) (S' := (z_SH, M, L)) (fun nq hq => And.intro rfl hq) ?_
    refine g_ne (fun hc2 => ?_) (fun hc2 => ?_)
    · refine g_k 1 (pc' := 36) (LI' := [some (.ref 0), some (.int m), some (.int t), some (.int w)]) (LL' := []) (st' := [.int (-1000000002)]) (S' := (z_SH, M, L)) (fun nq hq => And.intro rfl hq) ?_
      exact ⟨1, And.intro rfl (⟨(by subst hg2; subst hg1; unfold f_X8_write_0; (first | rw [if_pos hc1] | skip); (first | rw [if_pos hc2] | skip); try rfl), (by subst hg2; subst hg1; unfold g_X8_write_0; (first | rw [if_pos hc1] | skip); (first | rw [if_pos hc2] | skip); try rfl)⟩)⟩
    · refine g_k 2 (pc' := 28) (LI' := [some (.ref 0), some (.int m), some (.int t), some (.int w)]) (LL' := []) (st' := [.int 3, .int w]) (S' := (z_SH, M, L)) (fun nq hq => And.intro rfl (And.intro rfl hq)) ?_
      refine g_k 1 (pc' := 31) (LI' := [some (.ref 0), some (.int m), some (.int t), some (.int w)]) (LL' := []) (st' := [.int (f_X8_isOutside M w ((3 : Int32)))]) (S' := (z_SH, M, L)) (fun nq hq => And.intro rfl (Exists.intro _ (Exists.intro _ (And.intro (c_X8_isOutside (d := d) M w ((3 : Int32))) (And.intro (z_fit_same _ _ _ _ _ _ _ _) hq))))) ?_
      generalize hg3 : f_X8_isOutside M w ((3 : Int32)) = r3 at *
      refine g_k 1 (pc' := (if z_cmp .eq r3 ((0 : Int32)) = true then 37 else 34)) (LI' := [some (.ref 0), some (.int m), some (.int t), some (.int w)]) (LL' := []) (st' := []) (S' := (z_SH, M, L)) (fun nq hq => And.intro rfl hq) ?_
      refine g_eq (fun hc3 => ?_) (fun hc3 => ?_)
      · refine g_k 5 (pc' := (if z_cmp .lt (M 243 3) ((20 : Int32)) = true then 52 else 49)) (LI' := [some (.ref 0), some (.int m), some (.int t), some (.int w)]) (LL' := []) (st' := []) (S' := (z_SH, M, L)) (fun nq hq => And.intro rfl (And.intro rfl (And.intro rfl (And.intro rfl (And.intro rfl hq))))) ?_
        refine g_lt (fun hc4 => ?_) (fun hc4 => ?_)
        · refine g_k 5 (pc' := 59) (LI' := [some (.ref 0), some (.int m), some (.int t), some (.int w)]) (LL' := []) (st' := [.int w, .int t, .int m, .ref 243]) (S' := (z_SH, M, L)) (fun nq hq => And.intro rfl (And.intro rfl (And.intro rfl (And.intro rfl (And.intro rfl hq))))) ?_
          refine g_k 1 (pc' := 62) (LI' := [some (.ref 0), some (.int m), some (.int t), some (.int w)]) (LL' := []) (st' := []) (S' := (z_SH, g_X3_addEntry_243 M m t w, L)) (fun nq hq => And.intro rfl (Exists.intro _ (Exists.intro _ (And.intro (c_X3_addEntry_243 (d := d) M m t w (p1 hc1 hc2 hc3 hc4)) (And.intro (z_fit_same _ _ _ _ _ _ _ _) hq))))) ?_
          generalize hg4 : g_X3_addEntry_243 M m t w = m4 at *
          refine g_k 3 (pc' := 69) (LI' := [some (.ref 0), some (.int m), some (.int t), some (.int w)]) (LL' := []) (st' := [.int (m4 243 3)]) (S' := (z_SH, m4, L)) (fun nq hq => And.intro rfl (And.intro rfl (And.intro rfl hq))) ?_
          exact ⟨1, And.intro rfl (⟨(by subst hg4; subst hg3; subst hg2; subst hg1; unfold f_X8_write_0; (first | rw [if_pos hc1] | skip); (first | rw [if_neg (not_not_intro hc2)] | skip); (first | rw [if_pos hc3] | skip); (first | rw [if_pos hc4] | skip); try rfl), (by subst hg4; subst hg3; subst hg2; subst hg1; unfold g_X8_write_0; (first | rw [if_pos hc1] | skip); (first | rw [if_neg (not_not_intro hc2)] | skip); (first | rw [if_pos hc3] | skip); (first | rw [if_pos hc4] | skip); try rfl)⟩)⟩
        · refine g_k 1 (pc' := 51) (LI' := [some (.ref 0), some (.int m), some (.int t), some (.int w)]) (LL' := []) (st' := [.int (-1000000004)]) (S' := (z_SH, M, L)) (fun nq hq => And.intro rfl hq) ?_
          exact ⟨1, And.intro rfl (⟨(by subst hg3; subst hg2; subst hg1; unfold f_X8_write_0; (first | rw [if_pos hc1] | skip); (first | rw [if_neg (not_not_intro hc2)] | skip); (first | rw [if_pos hc3] | skip); (first | rw [if_neg hc4] | skip); try rfl), (by subst hg3; subst hg2; subst hg1; unfold g_X8_write_0; (first | rw [if_pos hc1] | skip); (first | rw [if_neg (not_not_intro hc2)] | skip); (first | rw [if_pos hc3] | skip); (first | rw [if_neg hc4] | skip); try rfl)⟩)⟩
      · refine g_k 1 (pc' := 36) (LI' := [some (.ref 0), some (.int m), some (.int t), some (.int w)]) (LL' := []) (st' := [.int (-1000000002)]) (S' := (z_SH, M, L)) (fun nq hq => And.intro rfl hq) ?_
        exact ⟨1, And.intro rfl (⟨(by subst hg3; subst hg2; subst hg1; unfold f_X8_write_0; (first | rw [if_pos hc1] | skip); (first | rw [if_neg (not_not_intro hc2)] | skip); (first | rw [if_neg hc3] | skip); try rfl), (by subst hg3; subst hg2; subst hg1; unfold g_X8_write_0; (first | rw [if_pos hc1] | skip); (first | rw [if_neg (not_not_intro hc2)] | skip); (first | rw [if_neg hc3] | skip); try rfl)⟩)⟩
  · refine g_k 1 (pc' := 16) (LI' := [some (.ref 0), some (.int m), some (.int t), some (.int w)]) (LL' := []) (st' := [.int (-1000000001)]) (S' := (z_SH, M, L)) (fun nq hq => And.intro rfl hq) ?_
    exact ⟨1, And.intro rfl (⟨(by subst hg1; unfold f_X8_write_0; (first | rw [if_neg hc1] | skip); try rfl), (by subst hg1; unfold g_X8_write_0; (first | rw [if_neg hc1] | skip); try rfl)⟩)⟩
def f_X8_tear_0 (M : Nat → Nat → Int32)  : Int32 := (M 243 0) + (M 243 3)
def g_X8_tear_0 (M : Nat → Nat → Int32)  : Nat → Nat → Int32 := (g_X3_clear_243 M)
theorem fr_g_X8_tear_0 (M : Nat → Nat → Int32)  (c : Nat) (h243 : c ≠ 243) : g_X8_tear_0 M c = M c := by
  unfold g_X8_tear_0
  repeat' split
  all_goals simp only [z_row_ne h243, fr_g_X3_clear_243 (c := c) (h243 := h243)]
theorem c_X8_tear_0 {d : Nat} {L : Nat → Nat → Int64} (M : Nat → Nat → Int32)   : z_C (d + 2) 99 [.ref 0] (z_SH, M, L) (some (.int (f_X8_tear_0 M))) (z_SH, g_X8_tear_0 M, L) := by
  refine z_mkA (tb := tb_X8_tear) rfl (by decide) rfl rfl rfl ?_
  refine g_k 9 (pc' := 17) (LI' := [some (.ref 0), some (.int ((M 243 0) + (M 243 3)))]) (LL' := []) (st' := [.ref 0]) (S' := (z_SH, M, L)) (fun nq hq => And.intro rfl (And.intro rfl (And.intro rfl (And.intro rfl (And.intro rfl (And.intro rfl (And.intro rfl (And.intro rfl (And.intro rfl hq))))))))) ?_
  refine g_k 1 (pc' := 20) (LI' := [some (.ref 0), some (.int ((M 243 0) + (M 243 3)))]) (LL' := []) (st' := [.ref 243]) (S' := (z_SH, M, L)) (fun nq hq => And.intro rfl hq) ?_
  refine g_k 1 (pc' := 23) (LI' := [some (.ref 0), some (.int ((M 243 0) + (M 243 3)))]) (LL' := []) (st' := []) (S' := (z_SH, g_X3_clear_243 M, L)) (fun nq hq => And.intro rfl (Exists.intro _ (Exists.intro _ (And.intro (c_X3_clear_243 (d := d) M) (And.intro (z_fit_same _ _ _ _ _ _ _ _) hq))))) ?_
  generalize hg1 : g_X3_clear_243 M = m1 at *
  refine g_k 1 (pc' := 24) (LI' := [some (.ref 0), some (.int ((M 243 0) + (M 243 3)))]) (LL' := []) (st' := [.int ((M 243 0) + (M 243 3))]) (S' := (z_SH, m1, L)) (fun nq hq => And.intro rfl hq) ?_
  exact ⟨1, And.intro rfl (⟨(by subst hg1; rfl), (by subst hg1; rfl)⟩)⟩
def f_X8_seed_0 (M : Nat → Nat → Int32) (v : Int32) : Int32 := if (0 : Int32) ≤ v then M 0 3 else (-1000000002 : Int32)
def g_X8_seed_0 (M : Nat → Nat → Int32) (v : Int32) : Nat → Nat → Int32 := if (0 : Int32) ≤ v then z_row M 0 (upd (M 0) 3 v) else M
theorem fr_g_X8_seed_0 (M : Nat → Nat → Int32) (v : Int32) (c : Nat) (h0 : c ≠ 0) : g_X8_seed_0 M v c = M c := by
  unfold g_X8_seed_0
  repeat' split
  all_goals simp only [z_row_ne h0]
theorem c_X8_seed_0 {d : Nat} {L : Nat → Nat → Int64} (M : Nat → Nat → Int32) (v : Int32)  : z_C (d + 1) 100 [.ref 0, .int v] (z_SH, M, L) (some (.int (f_X8_seed_0 M v))) (z_SH, g_X8_seed_0 M v, L) := by
  refine z_mkA (tb := tb_X8_seed) rfl (by decide) rfl rfl rfl ?_
  refine g_k 2 (pc' := (if z_cmp .ge v ((0 : Int32)) = true then 7 else 4)) (LI' := [some (.ref 0), some (.int v), none]) (LL' := []) (st' := []) (S' := (z_SH, M, L)) (fun nq hq => And.intro rfl (And.intro rfl hq)) ?_
  refine g_ge (fun hc1 => ?_) (fun hc1 => ?_)
  · refine g_k 7 (pc' := 18) (LI' := [some (.ref 0), some (.int v), some (.int (M 0 3))]) (LL' := []) (st' := [.int (M 0 3)]) (S' := (z_SH, z_row M 0 (upd (M 0) 3 v), L)) (fun nq hq => And.intro rfl (And.intro rfl (And.intro rfl (And.intro rfl (And.intro rfl (And.intro rfl (And.intro rfl hq))))))) ?_
    exact ⟨1, And.intro rfl (⟨(by unfold f_X8_seed_0; (first | rw [if_pos hc1] | skip); try rfl), (by unfold g_X8_seed_0; (first | rw [if_pos hc1] | skip); try rfl)⟩)⟩
  · refine g_k 1 (pc' := 6) (LI' := [some (.ref 0), some (.int v), none]) (LL' := []) (st' := [.int (-1000000002)]) (S' := (z_SH, M, L)) (fun nq hq => And.intro rfl hq) ?_
    exact ⟨1, And.intro rfl (⟨(by unfold f_X8_seed_0; (first | rw [if_neg hc1] | skip); try rfl), (by unfold g_X8_seed_0; (first | rw [if_neg hc1] | skip); try rfl)⟩)⟩
