def e_X9_couldBe_274_17_c3 (M : Nat → Nat → Int32) (v1 : Int32) (v2 : Int32) (i : Int32) (c3 : Int32) : Int32 := if c3 = (0 : Int32) then (0 : Int32) else if ¬ (f_X9_goesOf_274_279 M v2 (M 285 ((((2 : Int32)) * i).toNatClampNeg))) = M 285 (((((2 : Int32)) * i) + ((1 : Int32))).toNatClampNeg) then (0 : Int32) else (1 : Int32)
def qi_X9_couldBe_274_17 (M : Nat → Nat → Int32) (v1 : Int32) (v2 : Int32) (i : Int32) (c3 : Int32) : Prop := ((¬ (c3 = (0 : Int32))) → (z_vin (((2 : Int32)) * i) 12 = true)) ∧ ((¬ (c3 = (0 : Int32))) → (q_X9_goesOf_274_279 M v2 (M 285 ((((2 : Int32)) * i).toNatClampNeg)))) ∧ ((¬ (c3 = (0 : Int32))) → (z_vin ((((2 : Int32)) * i) + ((1 : Int32))) 12 = true)) ∧ True
theorem it_X9_couldBe_274_17 {d : Nat} {L : Nat → Nat → Int64} {Q : Option Value → z_St → Prop} (M : Nat → Nat → Int32) (v1 : Int32) (v2 : Int32) (i : Int32) (c3 : Int32) (hc : ¬ (M 274 17 ≤ i)) (p1 : qi_X9_couldBe_274_17 M v1 v2 i c3) (h : z_G (d + 4) tb_X9_couldBe 17 [some (.ref 274), some (.int v1), some (.int v2), some (.int (e_X9_couldBe_274_17_c3 M v1 v2 i c3)), some (.int (i + 1))] [] [] (z_SH, M, L) Q) : z_G (d + 4) tb_X9_couldBe 17 [some (.ref 274), some (.int v1), some (.int v2), some (.int c3), some (.int i)] [] [] (z_SH, M, L) Q := by
  unfold qi_X9_couldBe_274_17 at p1
  obtain ⟨p1, p2, p3, -⟩ := p1
  refine g_k 4 (pc' := (if z_cmp .ge i (M 274 17) = true then 74 else 26)) (LI' := [some (.ref 274), some (.int v1), some (.int v2), some (.int c3), some (.int i)]) (LL' := []) (st' := []) (S' := (z_SH, M, L)) (fun nq hq => And.intro rfl (And.intro rfl (And.intro rfl (And.intro rfl hq)))) ?_
  refine g_ge (fun hc1 => ?_) (fun hc1 => ?_)
  · exact absurd hc1 hc
  · refine g_k 2 (pc' := (if z_cmp .eq c3 ((0 : Int32)) = true then 66 else 30)) (LI' := [some (.ref 274), some (.int v1), some (.int v2), some (.int c3), some (.int i)]) (LL' := []) (st' := []) (S' := (z_SH, M, L)) (fun nq hq => And.intro rfl (And.intro rfl hq)) ?_
    refine g_eq (fun hc2 => ?_) (fun hc2 => ?_)
    · refine g_k 4 (pc' := 17) (LI' := [some (.ref 274), some (.int v1), some (.int v2), some (.int 0), some (.int (i + 1))]) (LL' := []) (st' := []) (S' := (z_SH, M, L)) (fun nq hq => And.intro rfl (And.intro rfl (And.intro rfl (And.intro rfl hq)))) ?_
      (unfold e_X9_couldBe_274_17_c3 at h; (try simp only [if_pos hc2] at h); exact h )
    · refine g_k 9 (pc' := 44) (LI' := [some (.ref 274), some (.int v1), some (.int v2), some (.int c3), some (.int i)]) (LL' := []) (st' := [.int (((2 : Int32)) * i), .ref 285, .int v2, .ref 279, .ref 274]) (S' := (z_SH, M, L)) (fun nq hq => And.intro rfl (And.intro rfl (And.intro rfl (And.intro rfl (And.intro rfl (And.intro rfl (And.intro rfl (And.intro rfl (And.intro rfl hq))))))))) ?_
      refine g_k 1 (pc' := 45) (LI' := [some (.ref 274), some (.int v1), some (.int v2), some (.int c3), some (.int i)]) (LL' := []) (st' := [.int (M 285 ((((2 : Int32)) * i).toNatClampNeg)), .int v2, .ref 279, .ref 274]) (S' := (z_SH, M, L)) (fun nq hq => And.intro (p1 hc2) hq) ?_
      refine g_k 1 (pc' := 48) (LI' := [some (.ref 274), some (.int v1), some (.int v2), some (.int c3), some (.int i)]) (LL' := []) (st' := [.int (f_X9_goesOf_274_279 M v2 (M 285 ((((2 : Int32)) * i).toNatClampNeg)))]) (S' := (z_SH, M, L)) (fun nq hq => And.intro rfl (Exists.intro _ (Exists.intro _ (And.intro (c_X9_goesOf_274_279 (d := d) M v2 (M 285 ((((2 : Int32)) * i).toNatClampNeg)) (p2 hc2)) (And.intro (z_fit_same _ _ _ _ _ _ _ _) hq))))) ?_
      generalize hg1 : f_X9_goesOf_274_279 M v2 (M 285 ((((2 : Int32)) * i).toNatClampNeg)) = r1 at *
      refine g_k 9 (pc' := (if z_cmp .ne r1 (M 285 (((((2 : Int32)) * i) + ((1 : Int32))).toNatClampNeg)) = true then 66 else 62)) (LI' := [some (.ref 274), some (.int v1), some (.int v2), some (.int c3), some (.int i)]) (LL' := []) (st' := []) (S' := (z_SH, M, L)) (fun nq hq => And.intro rfl (And.intro rfl (And.intro rfl (And.intro rfl (And.intro rfl (And.intro rfl (And.intro rfl (And.intro (p3 hc2) (And.intro rfl hq))))))))) ?_
      refine g_ne (fun hc3 => ?_) (fun hc3 => ?_)
      · refine g_k 4 (pc' := 17) (LI' := [some (.ref 274), some (.int v1), some (.int v2), some (.int 0), some (.int (i + 1))]) (LL' := []) (st' := []) (S' := (z_SH, M, L)) (fun nq hq => And.intro rfl (And.intro rfl (And.intro rfl (And.intro rfl hq)))) ?_
        (subst hg1; unfold e_X9_couldBe_274_17_c3 at h; (try simp only [if_neg hc2] at h); (try simp only [if_pos hc3] at h); exact h )
      · refine g_k 5 (pc' := 17) (LI' := [some (.ref 274), some (.int v1), some (.int v2), some (.int 1), some (.int (i + 1))]) (LL' := []) (st' := []) (S' := (z_SH, M, L)) (fun nq hq => And.intro rfl (And.intro rfl (And.intro rfl (And.intro rfl (And.intro rfl hq))))) ?_
        (subst hg1; unfold e_X9_couldBe_274_17_c3 at h; (try simp only [if_neg hc2] at h); (try simp only [if_neg (not_not_intro hc3)] at h); exact h )
def s_X9_couldBe_274_17 (M : Nat → Nat → Int32) (v1 : Int32) (v2 : Int32) (c3 : Int32) (n : Nat) : Int32 := Nat.rec (motive := fun _ => Int32) (c3) (fun k r => (e_X9_couldBe_274_17_c3 M v1 v2 (nI k) r)) n
theorem l_X9_couldBe_274_17 {d : Nat} {L : Nat → Nat → Int64} {Q : Option Value → z_St → Prop} (M : Nat → Nat → Int32) (v1 : Int32) (v2 : Int32) (c3 : Int32) (n : Nat) : (∀ k, k < n → ¬ (M 274 17 ≤ (nI k))) → (∀ k, k < n → qi_X9_couldBe_274_17 M v1 v2 (nI k) ((s_X9_couldBe_274_17 M v1 v2 c3 k))) → (z_G (d + 4) tb_X9_couldBe 17 [some (.ref 274), some (.int v1), some (.int v2), some (.int ((s_X9_couldBe_274_17 M v1 v2 c3 n))), some (.int (nI n))] [] [] (z_SH, M, L) Q) → z_G (d + 4) tb_X9_couldBe 17 [some (.ref 274), some (.int v1), some (.int v2), some (.int c3), some (.int (nI 0))] [] [] (z_SH, M, L) Q := by
  induction n with
  | zero =>
    intro hc p1 h
    exact h
  | succ n ih =>
    intro hc p1 h
    refine ih (fun k hk => hc k (by omega)) (fun k hk => p1 k (by omega)) ?_
    have hcn := hc n (by omega)
    have p1n := p1 n (by omega)
    clear ih hc p1
    have hs : s_X9_couldBe_274_17 M v1 v2 c3 (n + 1) = (e_X9_couldBe_274_17_c3 M v1 v2 (nI n) ((s_X9_couldBe_274_17 M v1 v2 c3 n))) := rfl
    rw [hs] at h
    clear hs
    generalize s_X9_couldBe_274_17 M v1 v2 c3 n = sg at *
    refine it_X9_couldBe_274_17 M v1 v2 (nI n) sg hcn p1n ?_
    rw [nI_1]
    exact h
def e_X9_couldBe_274_4_c1 (M : Nat → Nat → Int32)  (i : Int32) (c1 : Int32) : Int32 := if ((s_X9_couldBe_274_17 M c1 i ((1 : Int32)) ((M 274 17).toNatClampNeg))) = (0 : Int32) then c1 ||| ((0 : Int32)) else c1 ||| (((1 : Int32)) <<< (i &&& 31))
def qi_X9_couldBe_274_4 (M : Nat → Nat → Int32)  (i : Int32) (c1 : Int32) : Prop := (∀ k65, k65 < (M 274 17).toNatClampNeg → qi_X9_couldBe_274_17 M c1 i (nI k65) ((s_X9_couldBe_274_17 M c1 i ((1 : Int32)) k65))) ∧ True
theorem it_X9_couldBe_274_4 {d : Nat} {L : Nat → Nat → Int64} {Q : Option Value → z_St → Prop} (M : Nat → Nat → Int32)  (i : Int32) (c1 : Int32) (hc : ¬ (M 274 4 ≤ i)) (p1 : qi_X9_couldBe_274_4 M i c1) (h : ∀ (y3 y4 : Option Value), z_G (d + 4) tb_X9_couldBe 4 [some (.ref 274), some (.int (e_X9_couldBe_274_4_c1 M i c1)), some (.int (i + 1)), y3, y4] [] [] (z_SH, M, L) Q) : ∀ (x3 x4 : Option Value), z_G (d + 4) tb_X9_couldBe 4 [some (.ref 274), some (.int c1), some (.int i), x3, x4] [] [] (z_SH, M, L) Q := by
  intro x3 x4
  unfold qi_X9_couldBe_274_4 at p1
  obtain ⟨p1, -⟩ := p1
  refine g_k 4 (pc' := (if z_cmp .ge i (M 274 4) = true then 94 else 12)) (LI' := [some (.ref 274), some (.int c1), some (.int i), x3, x4]) (LL' := []) (st' := []) (S' := (z_SH, M, L)) (fun nq hq => And.intro rfl (And.intro rfl (And.intro rfl (And.intro rfl hq)))) ?_
  refine g_ge (fun hc1 => ?_) (fun hc1 => ?_)
  · exact absurd hc1 hc
  · refine g_k 4 (pc' := 17) (LI' := [some (.ref 274), some (.int c1), some (.int i), some (.int 1), some (.int 0)]) (LL' := []) (st' := []) (S' := (z_SH, M, L)) (fun nq hq => And.intro rfl (And.intro rfl (And.intro rfl (And.intro rfl hq)))) ?_
    refine l_X9_couldBe_274_17 (d := d) M c1 i ((1 : Int32)) ((M 274 17).toNatClampNeg) (fun k hk => z_lpc hk) p1 ?_ 
    have hx1 : M 274 17 ≤ nI ((M 274 17).toNatClampNeg) := z_lpe
    generalize hg1 : (s_X9_couldBe_274_17 M c1 i ((1 : Int32)) ((M 274 17).toNatClampNeg)) = r1 at *
    generalize hg2 : nI ((M 274 17).toNatClampNeg) = r2 at *
    refine g_k 4 (pc' := (if z_cmp .ge r2 (M 274 17) = true then 74 else 26)) (LI' := [some (.ref 274), some (.int c1), some (.int i), some (.int r1), some (.int r2)]) (LL' := []) (st' := []) (S' := (z_SH, M, L)) (fun nq hq => And.intro rfl (And.intro rfl (And.intro rfl (And.intro rfl hq)))) ?_
    refine g_ge (fun hc2 => ?_) (fun hc2 => absurd (hx1) hc2)
    refine g_k 3 (pc' := (if z_cmp .eq r1 ((0 : Int32)) = true then 85 else 79)) (LI' := [some (.ref 274), some (.int c1), some (.int i), some (.int r1), some (.int r2)]) (LL' := []) (st' := [.int c1]) (S' := (z_SH, M, L)) (fun nq hq => And.intro rfl (And.intro rfl (And.intro rfl hq))) ?_
    refine g_eq (fun hc3 => ?_) (fun hc3 => ?_)
    · refine g_k 5 (pc' := 4) (LI' := [some (.ref 274), some (.int (c1 ||| ((0 : Int32)))), some (.int (i + 1)), some (.int r1), some (.int r2)]) (LL' := []) (st' := []) (S' := (z_SH, M, L)) (fun nq hq => And.intro rfl (And.intro rfl (And.intro rfl (And.intro rfl (And.intro rfl hq))))) ?_
      (subst hg2; subst hg1; unfold e_X9_couldBe_274_4_c1 at h; (try simp only [if_pos hc3] at h); exact h (some (.int ((s_X9_couldBe_274_17 M c1 i ((1 : Int32)) ((M 274 17).toNatClampNeg))))) (some (.int (nI ((M 274 17).toNatClampNeg)))))
    · refine g_k 8 (pc' := 4) (LI' := [some (.ref 274), some (.int (c1 ||| (((1 : Int32)) <<< (i &&& 31)))), some (.int (i + 1)), some (.int r1), some (.int r2)]) (LL' := []) (st' := []) (S' := (z_SH, M, L)) (fun nq hq => And.intro rfl (And.intro rfl (And.intro rfl (And.intro rfl (And.intro rfl (And.intro rfl (And.intro rfl (And.intro rfl hq)))))))) ?_
      (subst hg2; subst hg1; unfold e_X9_couldBe_274_4_c1 at h; (try simp only [if_neg hc3] at h); exact h (some (.int ((s_X9_couldBe_274_17 M c1 i ((1 : Int32)) ((M 274 17).toNatClampNeg))))) (some (.int (nI ((M 274 17).toNatClampNeg)))))
def s_X9_couldBe_274_4 (M : Nat → Nat → Int32)  (c1 : Int32) (n : Nat) : Int32 := Nat.rec (motive := fun _ => Int32) (c1) (fun k r => (e_X9_couldBe_274_4_c1 M (nI k) r)) n
theorem l_X9_couldBe_274_4 {d : Nat} {L : Nat → Nat → Int64} {Q : Option Value → z_St → Prop} (M : Nat → Nat → Int32)  (c1 : Int32) (n : Nat) : (∀ k, k < n → ¬ (M 274 4 ≤ (nI k))) → (∀ k, k < n → qi_X9_couldBe_274_4 M (nI k) ((s_X9_couldBe_274_4 M c1 k))) → (∀ (y3 y4 : Option Value), z_G (d + 4) tb_X9_couldBe 4 [some (.ref 274), some (.int ((s_X9_couldBe_274_4 M c1 n))), some (.int (nI n)), y3, y4] [] [] (z_SH, M, L) Q) → ∀ (x3 x4 : Option Value), z_G (d + 4) tb_X9_couldBe 4 [some (.ref 274), some (.int c1), some (.int (nI 0)), x3, x4] [] [] (z_SH, M, L) Q := by
  induction n with
  | zero =>
    intro hc p1 h
    exact h
  | succ n ih =>
    intro hc p1 h
    refine ih (fun k hk => hc k (by omega)) (fun k hk => p1 k (by omega)) ?_
    have hcn := hc n (by omega)
    have p1n := p1 n (by omega)
    clear ih hc p1
    have hs : s_X9_couldBe_274_4 M c1 (n + 1) = (e_X9_couldBe_274_4_c1 M (nI n) ((s_X9_couldBe_274_4 M c1 n))) := rfl
    rw [hs] at h
    clear hs
    generalize s_X9_couldBe_274_4 M c1 n = sg at *
    refine it_X9_couldBe_274_4 M  (nI n) sg hcn p1n ?_
    rw [nI_1]
    exact h
def f_X9_couldBe_274 (M : Nat → Nat → Int32)  : Int32 := ((s_X9_couldBe_274_4 M ((0 : Int32)) ((M 274 4).toNatClampNeg)))
def q_X9_couldBe_274 (M : Nat → Nat → Int32)  : Prop := (∀ k66, k66 < (M 274 4).toNatClampNeg → qi_X9_couldBe_274_4 M (nI k66) ((s_X9_couldBe_274_4 M ((0 : Int32)) k66))) ∧ True
theorem c_X9_couldBe_274 {d : Nat} {L : Nat → Nat → Int64} (M : Nat → Nat → Int32)   (hpre : q_X9_couldBe_274 M) : z_C (d + 5) 172 [.ref 274] (z_SH, M, L) (some (.int (f_X9_couldBe_274 M))) (z_SH, M, L) := by
  unfold q_X9_couldBe_274 at hpre
  obtain ⟨p1, -⟩ := hpre
  refine z_mkA (tb := tb_X9_couldBe) rfl (by decide) rfl rfl rfl ?_
  refine g_k 4 (pc' := 4) (LI' := [some (.ref 274), some (.int 0), some (.int 0), none, none]) (LL' := []) (st' := []) (S' := (z_SH, M, L)) (fun nq hq => And.intro rfl (And.intro rfl (And.intro rfl (And.intro rfl hq)))) ?_
  refine l_X9_couldBe_274_4 (d := d) M ((0 : Int32)) ((M 274 4).toNatClampNeg) (fun k hk => z_lpc hk) p1 (fun y1 y2 => ?_) none none
  have hx1 : M 274 4 ≤ nI ((M 274 4).toNatClampNeg) := z_lpe
  generalize hg1 : (s_X9_couldBe_274_4 M ((0 : Int32)) ((M 274 4).toNatClampNeg)) = r1 at *
  generalize hg2 : nI ((M 274 4).toNatClampNeg) = r2 at *
  refine g_k 4 (pc' := (if z_cmp .ge r2 (M 274 4) = true then 94 else 12)) (LI' := [some (.ref 274), some (.int r1), some (.int r2), y1, y2]) (LL' := []) (st' := []) (S' := (z_SH, M, L)) (fun nq hq => And.intro rfl (And.intro rfl (And.intro rfl (And.intro rfl hq)))) ?_
  refine g_ge (fun hc1 => ?_) (fun hc1 => absurd (hx1) hc1)
  refine g_k 1 (pc' := 95) (LI' := [some (.ref 274), some (.int r1), some (.int r2), y1, y2]) (LL' := []) (st' := [.int r1]) (S' := (z_SH, M, L)) (fun nq hq => And.intro rfl hq) ?_
  exact ⟨1, And.intro rfl (⟨(by subst hg2; subst hg1; rfl), rfl⟩)⟩
