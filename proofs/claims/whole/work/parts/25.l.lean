def f_X9_told_w0 (M : Nat → Nat → Int32)  : Int32 := M 274 3
theorem c_X9_told_w0 {d : Nat} {L : Nat → Nat → Int64} (M : Nat → Nat → Int32)   : z_C (d + 1) 144 [.ref 274, .int 0] (z_SH, M, L) (some (.int (f_X9_told_w0 M))) (z_SH, M, L) := by
  refine z_mkA (tb := tb_X9_told) rfl (by decide) rfl rfl rfl ?_
  refine g_k 4 (pc' := 80) (LI' := [some (.ref 274), some (.int 0)]) (LL' := []) (st' := [.int (M 274 3)]) (S' := (z_SH, M, L)) (fun nq hq => And.intro rfl (And.intro rfl (And.intro rfl (And.intro rfl hq)))) ?_
  exact ⟨1, And.intro rfl (⟨rfl, rfl⟩)⟩
def f_X9_told_w1 (M : Nat → Nat → Int32)  : Int32 := M 274 4
theorem c_X9_told_w1 {d : Nat} {L : Nat → Nat → Int64} (M : Nat → Nat → Int32)   : z_C (d + 1) 144 [.ref 274, .int 1] (z_SH, M, L) (some (.int (f_X9_told_w1 M))) (z_SH, M, L) := by
  refine z_mkA (tb := tb_X9_told) rfl (by decide) rfl rfl rfl ?_
  refine g_k 4 (pc' := 85) (LI' := [some (.ref 274), some (.int 1)]) (LL' := []) (st' := [.int (M 274 4)]) (S' := (z_SH, M, L)) (fun nq hq => And.intro rfl (And.intro rfl (And.intro rfl (And.intro rfl hq)))) ?_
  exact ⟨1, And.intro rfl (⟨rfl, rfl⟩)⟩
def f_X9_told_w2 (M : Nat → Nat → Int32)  : Int32 := M 279 10
theorem c_X9_told_w2 {d : Nat} {L : Nat → Nat → Int64} (M : Nat → Nat → Int32)   : z_C (d + 1) 144 [.ref 274, .int 2] (z_SH, M, L) (some (.int (f_X9_told_w2 M))) (z_SH, M, L) := by
  refine z_mkA (tb := tb_X9_told) rfl (by decide) rfl rfl rfl ?_
  refine g_k 6 (pc' := 93) (LI' := [some (.ref 274), some (.int 2)]) (LL' := []) (st' := [.int (M 279 10)]) (S' := (z_SH, M, L)) (fun nq hq => And.intro rfl (And.intro rfl (And.intro rfl (And.intro rfl (And.intro rfl (And.intro rfl hq)))))) ?_
  exact ⟨1, And.intro rfl (⟨rfl, rfl⟩)⟩
def f_X9_told_w3 (M : Nat → Nat → Int32)  : Int32 := M 274 1
theorem c_X9_told_w3 {d : Nat} {L : Nat → Nat → Int64} (M : Nat → Nat → Int32)   : z_C (d + 1) 144 [.ref 274, .int 3] (z_SH, M, L) (some (.int (f_X9_told_w3 M))) (z_SH, M, L) := by
  refine z_mkA (tb := tb_X9_told) rfl (by decide) rfl rfl rfl ?_
  refine g_k 4 (pc' := 98) (LI' := [some (.ref 274), some (.int 3)]) (LL' := []) (st' := [.int (M 274 1)]) (S' := (z_SH, M, L)) (fun nq hq => And.intro rfl (And.intro rfl (And.intro rfl (And.intro rfl hq)))) ?_
  exact ⟨1, And.intro rfl (⟨rfl, rfl⟩)⟩
def f_X9_told_w4 (M : Nat → Nat → Int32)  : Int32 := M 279 0
theorem c_X9_told_w4 {d : Nat} {L : Nat → Nat → Int64} (M : Nat → Nat → Int32)   : z_C (d + 1) 144 [.ref 274, .int 4] (z_SH, M, L) (some (.int (f_X9_told_w4 M))) (z_SH, M, L) := by
  refine z_mkA (tb := tb_X9_told) rfl (by decide) rfl rfl rfl ?_
  refine g_k 9 (pc' := 108) (LI' := [some (.ref 274), some (.int 4)]) (LL' := []) (st' := [.int 0, .ref 279]) (S' := (z_SH, M, L)) (fun nq hq => And.intro rfl (And.intro rfl (And.intro rfl (And.intro rfl (And.intro rfl (And.intro rfl (And.intro rfl (And.intro rfl (And.intro rfl hq))))))))) ?_
  refine g_k 1 (pc' := 109) (LI' := [some (.ref 274), some (.int 4)]) (LL' := []) (st' := [.int (M 279 0)]) (S' := (z_SH, M, L)) (fun nq hq => And.intro rfl hq) ?_
  exact ⟨1, And.intro rfl (⟨rfl, rfl⟩)⟩
def f_X9_told_w5 (M : Nat → Nat → Int32)  : Int32 := M 279 1
theorem c_X9_told_w5 {d : Nat} {L : Nat → Nat → Int64} (M : Nat → Nat → Int32)   : z_C (d + 1) 144 [.ref 274, .int 5] (z_SH, M, L) (some (.int (f_X9_told_w5 M))) (z_SH, M, L) := by
  refine z_mkA (tb := tb_X9_told) rfl (by decide) rfl rfl rfl ?_
  refine g_k 9 (pc' := 108) (LI' := [some (.ref 274), some (.int 5)]) (LL' := []) (st' := [.int 1, .ref 279]) (S' := (z_SH, M, L)) (fun nq hq => And.intro rfl (And.intro rfl (And.intro rfl (And.intro rfl (And.intro rfl (And.intro rfl (And.intro rfl (And.intro rfl (And.intro rfl hq))))))))) ?_
  refine g_k 1 (pc' := 109) (LI' := [some (.ref 274), some (.int 5)]) (LL' := []) (st' := [.int (M 279 1)]) (S' := (z_SH, M, L)) (fun nq hq => And.intro rfl hq) ?_
  exact ⟨1, And.intro rfl (⟨rfl, rfl⟩)⟩
def f_X9_told_w6 (M : Nat → Nat → Int32)  : Int32 := M 279 2
theorem c_X9_told_w6 {d : Nat} {L : Nat → Nat → Int64} (M : Nat → Nat → Int32)   : z_C (d + 1) 144 [.ref 274, .int 6] (z_SH, M, L) (some (.int (f_X9_told_w6 M))) (z_SH, M, L) := by
  refine z_mkA (tb := tb_X9_told) rfl (by decide) rfl rfl rfl ?_
  refine g_k 9 (pc' := 108) (LI' := [some (.ref 274), some (.int 6)]) (LL' := []) (st' := [.int 2, .ref 279]) (S' := (z_SH, M, L)) (fun nq hq => And.intro rfl (And.intro rfl (And.intro rfl (And.intro rfl (And.intro rfl (And.intro rfl (And.intro rfl (And.intro rfl (And.intro rfl hq))))))))) ?_
  refine g_k 1 (pc' := 109) (LI' := [some (.ref 274), some (.int 6)]) (LL' := []) (st' := [.int (M 279 2)]) (S' := (z_SH, M, L)) (fun nq hq => And.intro rfl hq) ?_
  exact ⟨1, And.intro rfl (⟨rfl, rfl⟩)⟩
def f_X9_told_w7 (M : Nat → Nat → Int32)  : Int32 := M 279 3
theorem c_X9_told_w7 {d : Nat} {L : Nat → Nat → Int64} (M : Nat → Nat → Int32)   : z_C (d + 1) 144 [.ref 274, .int 7] (z_SH, M, L) (some (.int (f_X9_told_w7 M))) (z_SH, M, L) := by
  refine z_mkA (tb := tb_X9_told) rfl (by decide) rfl rfl rfl ?_
  refine g_k 9 (pc' := 108) (LI' := [some (.ref 274), some (.int 7)]) (LL' := []) (st' := [.int 3, .ref 279]) (S' := (z_SH, M, L)) (fun nq hq => And.intro rfl (And.intro rfl (And.intro rfl (And.intro rfl (And.intro rfl (And.intro rfl (And.intro rfl (And.intro rfl (And.intro rfl hq))))))))) ?_
  refine g_k 1 (pc' := 109) (LI' := [some (.ref 274), some (.int 7)]) (LL' := []) (st' := [.int (M 279 3)]) (S' := (z_SH, M, L)) (fun nq hq => And.intro rfl hq) ?_
  exact ⟨1, And.intro rfl (⟨rfl, rfl⟩)⟩
def e_X9_strapsThat_279_4_c2 (M : Nat → Nat → Int32) (a1 : Int32) (i : Int32) (c2 : Int32) : Int32 := if (f_X9_holds_279 M i) = (0 : Int32) then c2 ||| ((0 : Int32)) else if a1 < (0 : Int32) then c2 ||| (((1 : Int32)) <<< (i &&& 31)) else if ¬ M 279 ((((11 : Int32)) + i).toNatClampNeg) = a1 then c2 ||| ((0 : Int32)) else c2 ||| (((1 : Int32)) <<< (i &&& 31))
def qi_X9_strapsThat_279_4 (M : Nat → Nat → Int32) (a1 : Int32) (i : Int32) (c2 : Int32) : Prop := (q_X9_holds_279 M i) ∧ ((¬ ((f_X9_holds_279 M i) = (0 : Int32))) → (¬ (a1 < (0 : Int32))) → (z_vin (((11 : Int32)) + i) 83 = true)) ∧ True
theorem it_X9_strapsThat_279_4 {d : Nat} {L : Nat → Nat → Int64} {Q : Option Value → z_St → Prop} (M : Nat → Nat → Int32) (a1 : Int32) (i : Int32) (c2 : Int32) (hc : ¬ (M 279 10 ≤ i)) (p1 : qi_X9_strapsThat_279_4 M a1 i c2) (h : z_G (d + 1) tb_X9_strapsThat 4 [some (.ref 279), some (.int a1), some (.int (e_X9_strapsThat_279_4_c2 M a1 i c2)), some (.int (i + 1))] [] [] (z_SH, M, L) Q) : z_G (d + 1) tb_X9_strapsThat 4 [some (.ref 279), some (.int a1), some (.int c2), some (.int i)] [] [] (z_SH, M, L) Q := by
  unfold qi_X9_strapsThat_279_4 at p1
  obtain ⟨p1, p2, -⟩ := p1
  refine g_k 5 (pc' := (if z_cmp .ge i (M 279 10) = true then 50 else 12)) (LI' := [some (.ref 279), some (.int a1), some (.int c2), some (.int i)]) (LL' := []) (st' := []) (S' := (z_SH, M, L)) (fun nq hq => And.intro rfl (And.intro rfl (And.intro rfl (And.intro rfl (And.intro rfl hq))))) ?_
  refine g_ge (fun hc1 => ?_) (fun hc1 => ?_)
  · exact absurd hc1 hc
  · refine g_k 3 (pc' := 15) (LI' := [some (.ref 279), some (.int a1), some (.int c2), some (.int i)]) (LL' := []) (st' := [.int i, .ref 279, .int c2]) (S' := (z_SH, M, L)) (fun nq hq => And.intro rfl (And.intro rfl (And.intro rfl hq))) ?_
    refine g_k 1 (pc' := 18) (LI' := [some (.ref 279), some (.int a1), some (.int c2), some (.int i)]) (LL' := []) (st' := [.int (f_X9_holds_279 M i), .int c2]) (S' := (z_SH, M, L)) (fun nq hq => And.intro rfl (Exists.intro _ (Exists.intro _ (And.intro (c_X9_holds_279 (d := d) M i p1) (And.intro (z_fit_same _ _ _ _ _ _ _ _) hq))))) ?_
    generalize hg1 : f_X9_holds_279 M i = r1 at *
    refine g_k 1 (pc' := (if z_cmp .eq r1 ((0 : Int32)) = true then 41 else 21)) (LI' := [some (.ref 279), some (.int a1), some (.int c2), some (.int i)]) (LL' := []) (st' := [.int c2]) (S' := (z_SH, M, L)) (fun nq hq => And.intro rfl hq) ?_
    refine g_eq (fun hc2 => ?_) (fun hc2 => ?_)
    · refine g_k 5 (pc' := 4) (LI' := [some (.ref 279), some (.int a1), some (.int (c2 ||| ((0 : Int32)))), some (.int (i + 1))]) (LL' := []) (st' := []) (S' := (z_SH, M, L)) (fun nq hq => And.intro rfl (And.intro rfl (And.intro rfl (And.intro rfl (And.intro rfl hq))))) ?_
      (subst hg1; unfold e_X9_strapsThat_279_4_c2 at h; (try simp only [if_pos hc2] at h); exact h )
    · refine g_k 2 (pc' := (if z_cmp .lt a1 ((0 : Int32)) = true then 35 else 25)) (LI' := [some (.ref 279), some (.int a1), some (.int c2), some (.int i)]) (LL' := []) (st' := [.int c2]) (S' := (z_SH, M, L)) (fun nq hq => And.intro rfl (And.intro rfl hq)) ?_
      refine g_lt (fun hc3 => ?_) (fun hc3 => ?_)
      · refine g_k 8 (pc' := 4) (LI' := [some (.ref 279), some (.int a1), some (.int (c2 ||| (((1 : Int32)) <<< (i &&& 31)))), some (.int (i + 1))]) (LL' := []) (st' := []) (S' := (z_SH, M, L)) (fun nq hq => And.intro rfl (And.intro rfl (And.intro rfl (And.intro rfl (And.intro rfl (And.intro rfl (And.intro rfl (And.intro rfl hq)))))))) ?_
        (subst hg1; unfold e_X9_strapsThat_279_4_c2 at h; (try simp only [if_neg hc2] at h); (try simp only [if_pos hc3] at h); exact h )
      · refine g_k 7 (pc' := (if z_cmp .ne (M 279 ((((11 : Int32)) + i).toNatClampNeg)) a1 = true then 41 else 35)) (LI' := [some (.ref 279), some (.int a1), some (.int c2), some (.int i)]) (LL' := []) (st' := [.int c2]) (S' := (z_SH, M, L)) (fun nq hq => And.intro rfl (And.intro rfl (And.intro rfl (And.intro rfl (And.intro (p2 hc2 hc3) (And.intro rfl (And.intro rfl hq))))))) ?_
        refine g_ne (fun hc4 => ?_) (fun hc4 => ?_)
        · refine g_k 5 (pc' := 4) (LI' := [some (.ref 279), some (.int a1), some (.int (c2 ||| ((0 : Int32)))), some (.int (i + 1))]) (LL' := []) (st' := []) (S' := (z_SH, M, L)) (fun nq hq => And.intro rfl (And.intro rfl (And.intro rfl (And.intro rfl (And.intro rfl hq))))) ?_
          (subst hg1; unfold e_X9_strapsThat_279_4_c2 at h; (try simp only [if_neg hc2] at h); (try simp only [if_neg hc3] at h); (try simp only [if_pos hc4] at h); exact h )
        · refine g_k 8 (pc' := 4) (LI' := [some (.ref 279), some (.int a1), some (.int (c2 ||| (((1 : Int32)) <<< (i &&& 31)))), some (.int (i + 1))]) (LL' := []) (st' := []) (S' := (z_SH, M, L)) (fun nq hq => And.intro rfl (And.intro rfl (And.intro rfl (And.intro rfl (And.intro rfl (And.intro rfl (And.intro rfl (And.intro rfl hq)))))))) ?_
          (subst hg1; unfold e_X9_strapsThat_279_4_c2 at h; (try simp only [if_neg hc2] at h); (try simp only [if_neg hc3] at h); (try simp only [if_neg (not_not_intro hc4)] at h); exact h )
def s_X9_strapsThat_279_4 (M : Nat → Nat → Int32) (a1 : Int32) (c2 : Int32) (n : Nat) : Int32 := Nat.rec (motive := fun _ => Int32) (c2) (fun k r => (e_X9_strapsThat_279_4_c2 M a1 (nI k) r)) n
theorem l_X9_strapsThat_279_4 {d : Nat} {L : Nat → Nat → Int64} {Q : Option Value → z_St → Prop} (M : Nat → Nat → Int32) (a1 : Int32) (c2 : Int32) (n : Nat) : (∀ k, k < n → ¬ (M 279 10 ≤ (nI k))) → (∀ k, k < n → qi_X9_strapsThat_279_4 M a1 (nI k) ((s_X9_strapsThat_279_4 M a1 c2 k))) → (z_G (d + 1) tb_X9_strapsThat 4 [some (.ref 279), some (.int a1), some (.int ((s_X9_strapsThat_279_4 M a1 c2 n))), some (.int (nI n))] [] [] (z_SH, M, L) Q) → z_G (d + 1) tb_X9_strapsThat 4 [some (.ref 279), some (.int a1), some (.int c2), some (.int (nI 0))] [] [] (z_SH, M, L) Q := by
  induction n with
  | zero =>
    intro hc p1 h
    exact h
  | succ n ih =>
    intro hc p1 h
    refine ih (fun k hk => hc k (by omega)) (fun k hk => p1 k (by omega)) ?_
    have hcn := hc n (by omega)
    have p1n := p1 n (by omega)
    clear ih hc p1
    have hs : s_X9_strapsThat_279_4 M a1 c2 (n + 1) = (e_X9_strapsThat_279_4_c2 M a1 (nI n) ((s_X9_strapsThat_279_4 M a1 c2 n))) := rfl
    rw [hs] at h
    clear hs
    generalize s_X9_strapsThat_279_4 M a1 c2 n = sg at *
    refine it_X9_strapsThat_279_4 M a1 (nI n) sg hcn p1n ?_
    rw [nI_1]
    exact h
def f_X9_strapsThat_279 (M : Nat → Nat → Int32) (a1 : Int32) : Int32 := ((s_X9_strapsThat_279_4 M a1 ((0 : Int32)) ((M 279 10).toNatClampNeg)))
def q_X9_strapsThat_279 (M : Nat → Nat → Int32) (a1 : Int32) : Prop := (∀ k70, k70 < (M 279 10).toNatClampNeg → qi_X9_strapsThat_279_4 M a1 (nI k70) ((s_X9_strapsThat_279_4 M a1 ((0 : Int32)) k70))) ∧ True
theorem c_X9_strapsThat_279 {d : Nat} {L : Nat → Nat → Int64} (M : Nat → Nat → Int32) (a1 : Int32)  (hpre : q_X9_strapsThat_279 M a1) : z_C (d + 2) 140 [.ref 279, .int a1] (z_SH, M, L) (some (.int (f_X9_strapsThat_279 M a1))) (z_SH, M, L) := by
  unfold q_X9_strapsThat_279 at hpre
  obtain ⟨p1, -⟩ := hpre
  refine z_mkA (tb := tb_X9_strapsThat) rfl (by decide) rfl rfl rfl ?_
  refine g_k 4 (pc' := 4) (LI' := [some (.ref 279), some (.int a1), some (.int 0), some (.int 0)]) (LL' := []) (st' := []) (S' := (z_SH, M, L)) (fun nq hq => And.intro rfl (And.intro rfl (And.intro rfl (And.intro rfl hq)))) ?_
  refine l_X9_strapsThat_279_4 (d := d) M a1 ((0 : Int32)) ((M 279 10).toNatClampNeg) (fun k hk => z_lpc hk) p1 ?_ 
  have hx1 : M 279 10 ≤ nI ((M 279 10).toNatClampNeg) := z_lpe
  generalize hg1 : (s_X9_strapsThat_279_4 M a1 ((0 : Int32)) ((M 279 10).toNatClampNeg)) = r1 at *
  generalize hg2 : nI ((M 279 10).toNatClampNeg) = r2 at *
  refine g_k 5 (pc' := (if z_cmp .ge r2 (M 279 10) = true then 50 else 12)) (LI' := [some (.ref 279), some (.int a1), some (.int r1), some (.int r2)]) (LL' := []) (st' := []) (S' := (z_SH, M, L)) (fun nq hq => And.intro rfl (And.intro rfl (And.intro rfl (And.intro rfl (And.intro rfl hq))))) ?_
  refine g_ge (fun hc1 => ?_) (fun hc1 => absurd (hx1) hc1)
  refine g_k 1 (pc' := 51) (LI' := [some (.ref 279), some (.int a1), some (.int r1), some (.int r2)]) (LL' := []) (st' := [.int r1]) (S' := (z_SH, M, L)) (fun nq hq => And.intro rfl hq) ?_
  exact ⟨1, And.intro rfl (⟨(by subst hg2; subst hg1; rfl), rfl⟩)⟩
def f_X9_told_w8 (M : Nat → Nat → Int32)  : Int32 := (f_X9_strapsThat_279 M ((-1 : Int32)))
def q_X9_told_w8 (M : Nat → Nat → Int32)  : Prop := (q_X9_strapsThat_279 M ((-1 : Int32))) ∧ True
theorem c_X9_told_w8 {d : Nat} {L : Nat → Nat → Int64} (M : Nat → Nat → Int32)   (hpre : q_X9_told_w8 M) : z_C (d + 3) 144 [.ref 274, .int 8] (z_SH, M, L) (some (.int (f_X9_told_w8 M))) (z_SH, M, L) := by
  unfold q_X9_told_w8 at hpre
  obtain ⟨p1, -⟩ := hpre
  refine z_mkA (tb := tb_X9_told) rfl (by decide) rfl rfl rfl ?_
  refine g_k 5 (pc' := 115) (LI' := [some (.ref 274), some (.int 8)]) (LL' := []) (st' := [.int (-1), .ref 279]) (S' := (z_SH, M, L)) (fun nq hq => And.intro rfl (And.intro rfl (And.intro rfl (And.intro rfl (And.intro rfl hq))))) ?_
  refine g_k 1 (pc' := 118) (LI' := [some (.ref 274), some (.int 8)]) (LL' := []) (st' := [.int (f_X9_strapsThat_279 M ((-1 : Int32)))]) (S' := (z_SH, M, L)) (fun nq hq => And.intro rfl (Exists.intro _ (Exists.intro _ (And.intro (c_X9_strapsThat_279 (d := d) M ((-1 : Int32)) p1) (And.intro (z_fit_same _ _ _ _ _ _ _ _) hq))))) ?_
  generalize hg1 : f_X9_strapsThat_279 M ((-1 : Int32)) = r1 at *
  exact ⟨1, And.intro rfl (⟨(by subst hg1; rfl), rfl⟩)⟩
def e_X9_whoHangs_274_4_c1 (M : Nat → Nat → Int32)  (i : Int32) (c1 : Int32) : Int32 := if (f_X9_hangs_279 M i) = (0 : Int32) then c1 ||| ((0 : Int32)) else c1 ||| (((1 : Int32)) <<< (i &&& 31))
def qi_X9_whoHangs_274_4 (M : Nat → Nat → Int32)  (i : Int32) (c1 : Int32) : Prop := (q_X9_hangs_279 M i) ∧ True
theorem it_X9_whoHangs_274_4 {d : Nat} {L : Nat → Nat → Int64} {Q : Option Value → z_St → Prop} (M : Nat → Nat → Int32)  (i : Int32) (c1 : Int32) (hc : ¬ (M 274 4 ≤ i)) (p1 : qi_X9_whoHangs_274_4 M i c1) (h : z_G (d + 3) tb_X9_whoHangs 4 [some (.ref 274), some (.int (e_X9_whoHangs_274_4_c1 M i c1)), some (.int (i + 1))] [] [] (z_SH, M, L) Q) : z_G (d + 3) tb_X9_whoHangs 4 [some (.ref 274), some (.int c1), some (.int i)] [] [] (z_SH, M, L) Q := by
  unfold qi_X9_whoHangs_274_4 at p1
  obtain ⟨p1, -⟩ := p1
  refine g_k 4 (pc' := (if z_cmp .ge i (M 274 4) = true then 39 else 12)) (LI' := [some (.ref 274), some (.int c1), some (.int i)]) (LL' := []) (st' := []) (S' := (z_SH, M, L)) (fun nq hq => And.intro rfl (And.intro rfl (And.intro rfl (And.intro rfl hq)))) ?_
  refine g_ge (fun hc1 => ?_) (fun hc1 => ?_)
  · exact absurd hc1 hc
  · refine g_k 4 (pc' := 18) (LI' := [some (.ref 274), some (.int c1), some (.int i)]) (LL' := []) (st' := [.int i, .ref 279, .int c1]) (S' := (z_SH, M, L)) (fun nq hq => And.intro rfl (And.intro rfl (And.intro rfl (And.intro rfl hq)))) ?_
    refine g_k 1 (pc' := 21) (LI' := [some (.ref 274), some (.int c1), some (.int i)]) (LL' := []) (st' := [.int (f_X9_hangs_279 M i), .int c1]) (S' := (z_SH, M, L)) (fun nq hq => And.intro rfl (Exists.intro _ (Exists.intro _ (And.intro (c_X9_hangs_279 (d := d) M i p1) (And.intro (z_fit_same _ _ _ _ _ _ _ _) hq))))) ?_
    generalize hg1 : f_X9_hangs_279 M i = r1 at *
    refine g_k 1 (pc' := (if z_cmp .eq r1 ((0 : Int32)) = true then 30 else 24)) (LI' := [some (.ref 274), some (.int c1), some (.int i)]) (LL' := []) (st' := [.int c1]) (S' := (z_SH, M, L)) (fun nq hq => And.intro rfl hq) ?_
    refine g_eq (fun hc2 => ?_) (fun hc2 => ?_)
    · refine g_k 5 (pc' := 4) (LI' := [some (.ref 274), some (.int (c1 ||| ((0 : Int32)))), some (.int (i + 1))]) (LL' := []) (st' := []) (S' := (z_SH, M, L)) (fun nq hq => And.intro rfl (And.intro rfl (And.intro rfl (And.intro rfl (And.intro rfl hq))))) ?_
      (subst hg1; unfold e_X9_whoHangs_274_4_c1 at h; (try simp only [if_pos hc2] at h); exact h )
    · refine g_k 8 (pc' := 4) (LI' := [some (.ref 274), some (.int (c1 ||| (((1 : Int32)) <<< (i &&& 31)))), some (.int (i + 1))]) (LL' := []) (st' := []) (S' := (z_SH, M, L)) (fun nq hq => And.intro rfl (And.intro rfl (And.intro rfl (And.intro rfl (And.intro rfl (And.intro rfl (And.intro rfl (And.intro rfl hq)))))))) ?_
      (subst hg1; unfold e_X9_whoHangs_274_4_c1 at h; (try simp only [if_neg hc2] at h); exact h )
def s_X9_whoHangs_274_4 (M : Nat → Nat → Int32)  (c1 : Int32) (n : Nat) : Int32 := Nat.rec (motive := fun _ => Int32) (c1) (fun k r => (e_X9_whoHangs_274_4_c1 M (nI k) r)) n
theorem l_X9_whoHangs_274_4 {d : Nat} {L : Nat → Nat → Int64} {Q : Option Value → z_St → Prop} (M : Nat → Nat → Int32)  (c1 : Int32) (n : Nat) : (∀ k, k < n → ¬ (M 274 4 ≤ (nI k))) → (∀ k, k < n → qi_X9_whoHangs_274_4 M (nI k) ((s_X9_whoHangs_274_4 M c1 k))) → (z_G (d + 3) tb_X9_whoHangs 4 [some (.ref 274), some (.int ((s_X9_whoHangs_274_4 M c1 n))), some (.int (nI n))] [] [] (z_SH, M, L) Q) → z_G (d + 3) tb_X9_whoHangs 4 [some (.ref 274), some (.int c1), some (.int (nI 0))] [] [] (z_SH, M, L) Q := by
  induction n with
  | zero =>
    intro hc p1 h
    exact h
  | succ n ih =>
    intro hc p1 h
    refine ih (fun k hk => hc k (by omega)) (fun k hk => p1 k (by omega)) ?_
    have hcn := hc n (by omega)
    have p1n := p1 n (by omega)
    clear ih hc p1
    have hs : s_X9_whoHangs_274_4 M c1 (n + 1) = (e_X9_whoHangs_274_4_c1 M (nI n) ((s_X9_whoHangs_274_4 M c1 n))) := rfl
    rw [hs] at h
    clear hs
    generalize s_X9_whoHangs_274_4 M c1 n = sg at *
    refine it_X9_whoHangs_274_4 M  (nI n) sg hcn p1n ?_
    rw [nI_1]
    exact h
def f_X9_whoHangs_274 (M : Nat → Nat → Int32)  : Int32 := ((s_X9_whoHangs_274_4 M ((0 : Int32)) ((M 274 4).toNatClampNeg)))
def q_X9_whoHangs_274 (M : Nat → Nat → Int32)  : Prop := (∀ k71, k71 < (M 274 4).toNatClampNeg → qi_X9_whoHangs_274_4 M (nI k71) ((s_X9_whoHangs_274_4 M ((0 : Int32)) k71))) ∧ True
theorem c_X9_whoHangs_274 {d : Nat} {L : Nat → Nat → Int64} (M : Nat → Nat → Int32)   (hpre : q_X9_whoHangs_274 M) : z_C (d + 4) 141 [.ref 274] (z_SH, M, L) (some (.int (f_X9_whoHangs_274 M))) (z_SH, M, L) := by
  unfold q_X9_whoHangs_274 at hpre
  obtain ⟨p1, -⟩ := hpre
  refine z_mkA (tb := tb_X9_whoHangs) rfl (by decide) rfl rfl rfl ?_
  refine g_k 4 (pc' := 4) (LI' := [some (.ref 274), some (.int 0), some (.int 0)]) (LL' := []) (st' := []) (S' := (z_SH, M, L)) (fun nq hq => And.intro rfl (And.intro rfl (And.intro rfl (And.intro rfl hq)))) ?_
  refine l_X9_whoHangs_274_4 (d := d) M ((0 : Int32)) ((M 274 4).toNatClampNeg) (fun k hk => z_lpc hk) p1 ?_ 
  have hx1 : M 274 4 ≤ nI ((M 274 4).toNatClampNeg) := z_lpe
  generalize hg1 : (s_X9_whoHangs_274_4 M ((0 : Int32)) ((M 274 4).toNatClampNeg)) = r1 at *
  generalize hg2 : nI ((M 274 4).toNatClampNeg) = r2 at *
  refine g_k 4 (pc' := (if z_cmp .ge r2 (M 274 4) = true then 39 else 12)) (LI' := [some (.ref 274), some (.int r1), some (.int r2)]) (LL' := []) (st' := []) (S' := (z_SH, M, L)) (fun nq hq => And.intro rfl (And.intro rfl (And.intro rfl (And.intro rfl hq)))) ?_
  refine g_ge (fun hc1 => ?_) (fun hc1 => absurd (hx1) hc1)
  refine g_k 1 (pc' := 40) (LI' := [some (.ref 274), some (.int r1), some (.int r2)]) (LL' := []) (st' := [.int r1]) (S' := (z_SH, M, L)) (fun nq hq => And.intro rfl hq) ?_
  exact ⟨1, And.intro rfl (⟨(by subst hg2; subst hg1; rfl), rfl⟩)⟩
def f_X9_told_w9 (M : Nat → Nat → Int32)  : Int32 := (f_X9_whoHangs_274 M)
def q_X9_told_w9 (M : Nat → Nat → Int32)  : Prop := (q_X9_whoHangs_274 M) ∧ True
theorem c_X9_told_w9 {d : Nat} {L : Nat → Nat → Int64} (M : Nat → Nat → Int32)   (hpre : q_X9_told_w9 M) : z_C (d + 5) 144 [.ref 274, .int 9] (z_SH, M, L) (some (.int (f_X9_told_w9 M))) (z_SH, M, L) := by
  unfold q_X9_told_w9 at hpre
  obtain ⟨p1, -⟩ := hpre
  refine z_mkA (tb := tb_X9_told) rfl (by decide) rfl rfl rfl ?_
  refine g_k 3 (pc' := 120) (LI' := [some (.ref 274), some (.int 9)]) (LL' := []) (st' := [.ref 274]) (S' := (z_SH, M, L)) (fun nq hq => And.intro rfl (And.intro rfl (And.intro rfl hq))) ?_
  refine g_k 1 (pc' := 123) (LI' := [some (.ref 274), some (.int 9)]) (LL' := []) (st' := [.int (f_X9_whoHangs_274 M)]) (S' := (z_SH, M, L)) (fun nq hq => And.intro rfl (Exists.intro _ (Exists.intro _ (And.intro (c_X9_whoHangs_274 (d := d) M  p1) (And.intro (z_fit_same _ _ _ _ _ _ _ _) hq))))) ?_
  generalize hg1 : f_X9_whoHangs_274 M = r1 at *
  exact ⟨1, And.intro rfl (⟨(by subst hg1; rfl), rfl⟩)⟩
def e_X9_holdsMost_274_4_c1 (M : Nat → Nat → Int32)  (i : Int32) (c1 : Int32) : Int32 := if ¬ M 277 ((i).toNatClampNeg) = (1 : Int32) then c1 + (-(f_X9_notchesOf_279 M i)) else c1 + (f_X9_notchesOf_279 M i)
def qi_X9_holdsMost_274_4 (M : Nat → Nat → Int32)  (i : Int32) (c1 : Int32) : Prop := (z_vin i 6 = true) ∧ ((¬ M 277 ((i).toNatClampNeg) = (1 : Int32)) → (q_X9_notchesOf_279 M i)) ∧ ((M 277 ((i).toNatClampNeg) = (1 : Int32)) → (q_X9_notchesOf_279 M i)) ∧ True
theorem it_X9_holdsMost_274_4 {d : Nat} {L : Nat → Nat → Int64} {Q : Option Value → z_St → Prop} (M : Nat → Nat → Int32)  (i : Int32) (c1 : Int32) (hc : ¬ (M 274 4 ≤ i)) (p1 : qi_X9_holdsMost_274_4 M i c1) (h : z_G (d + 2) tb_X9_holdsMost 4 [some (.ref 274), some (.int (e_X9_holdsMost_274_4_c1 M i c1)), some (.int (i + 1))] [] [] (z_SH, M, L) Q) : z_G (d + 2) tb_X9_holdsMost 4 [some (.ref 274), some (.int c1), some (.int i)] [] [] (z_SH, M, L) Q := by
  unfold qi_X9_holdsMost_274_4 at p1
  obtain ⟨p1, p2, p3, -⟩ := p1
  refine g_k 4 (pc' := (if z_cmp .ge i (M 274 4) = true then 51 else 12)) (LI' := [some (.ref 274), some (.int c1), some (.int i)]) (LL' := []) (st' := []) (S' := (z_SH, M, L)) (fun nq hq => And.intro rfl (And.intro rfl (And.intro rfl (And.intro rfl hq)))) ?_
  refine g_ge (fun hc1 => ?_) (fun hc1 => ?_)
  · exact absurd hc1 hc
  · refine g_k 7 (pc' := (if z_cmp .ne (M 277 ((i).toNatClampNeg)) ((1 : Int32)) = true then 34 else 23)) (LI' := [some (.ref 274), some (.int c1), some (.int i)]) (LL' := []) (st' := [.int c1]) (S' := (z_SH, M, L)) (fun nq hq => And.intro rfl (And.intro rfl (And.intro rfl (And.intro rfl (And.intro p1 (And.intro rfl (And.intro rfl hq))))))) ?_
    refine g_ne (fun hc2 => ?_) (fun hc2 => ?_)
    · refine g_k 3 (pc' := 39) (LI' := [some (.ref 274), some (.int c1), some (.int i)]) (LL' := []) (st' := [.int i, .ref 279, .int c1]) (S' := (z_SH, M, L)) (fun nq hq => And.intro rfl (And.intro rfl (And.intro rfl hq))) ?_
      refine g_k 1 (pc' := 42) (LI' := [some (.ref 274), some (.int c1), some (.int i)]) (LL' := []) (st' := [.int (f_X9_notchesOf_279 M i), .int c1]) (S' := (z_SH, M, L)) (fun nq hq => And.intro rfl (Exists.intro _ (Exists.intro _ (And.intro (c_X9_notchesOf_279 (d := d) M i (p2 hc2)) (And.intro (z_fit_same _ _ _ _ _ _ _ _) hq))))) ?_
      generalize hg1 : f_X9_notchesOf_279 M i = r1 at *
      refine g_k 5 (pc' := 4) (LI' := [some (.ref 274), some (.int (c1 + (-r1))), some (.int (i + 1))]) (LL' := []) (st' := []) (S' := (z_SH, M, L)) (fun nq hq => And.intro rfl (And.intro rfl (And.intro rfl (And.intro rfl (And.intro rfl hq))))) ?_
      (subst hg1; unfold e_X9_holdsMost_274_4_c1 at h; (try simp only [if_pos hc2] at h); exact h )
    · refine g_k 3 (pc' := 28) (LI' := [some (.ref 274), some (.int c1), some (.int i)]) (LL' := []) (st' := [.int i, .ref 279, .int c1]) (S' := (z_SH, M, L)) (fun nq hq => And.intro rfl (And.intro rfl (And.intro rfl hq))) ?_
      refine g_k 1 (pc' := 31) (LI' := [some (.ref 274), some (.int c1), some (.int i)]) (LL' := []) (st' := [.int (f_X9_notchesOf_279 M i), .int c1]) (S' := (z_SH, M, L)) (fun nq hq => And.intro rfl (Exists.intro _ (Exists.intro _ (And.intro (c_X9_notchesOf_279 (d := d) M i (p3 hc2)) (And.intro (z_fit_same _ _ _ _ _ _ _ _) hq))))) ?_
      generalize hg2 : f_X9_notchesOf_279 M i = r2 at *
      refine g_k 5 (pc' := 4) (LI' := [some (.ref 274), some (.int (c1 + r2)), some (.int (i + 1))]) (LL' := []) (st' := []) (S' := (z_SH, M, L)) (fun nq hq => And.intro rfl (And.intro rfl (And.intro rfl (And.intro rfl (And.intro rfl hq))))) ?_
      (subst hg2; unfold e_X9_holdsMost_274_4_c1 at h; (try simp only [if_neg (not_not_intro hc2)] at h); exact h )
def s_X9_holdsMost_274_4 (M : Nat → Nat → Int32)  (c1 : Int32) (n : Nat) : Int32 := Nat.rec (motive := fun _ => Int32) (c1) (fun k r => (e_X9_holdsMost_274_4_c1 M (nI k) r)) n
theorem l_X9_holdsMost_274_4 {d : Nat} {L : Nat → Nat → Int64} {Q : Option Value → z_St → Prop} (M : Nat → Nat → Int32)  (c1 : Int32) (n : Nat) : (∀ k, k < n → ¬ (M 274 4 ≤ (nI k))) → (∀ k, k < n → qi_X9_holdsMost_274_4 M (nI k) ((s_X9_holdsMost_274_4 M c1 k))) → (z_G (d + 2) tb_X9_holdsMost 4 [some (.ref 274), some (.int ((s_X9_holdsMost_274_4 M c1 n))), some (.int (nI n))] [] [] (z_SH, M, L) Q) → z_G (d + 2) tb_X9_holdsMost 4 [some (.ref 274), some (.int c1), some (.int (nI 0))] [] [] (z_SH, M, L) Q := by
  induction n with
  | zero =>
    intro hc p1 h
    exact h
  | succ n ih =>
    intro hc p1 h
    refine ih (fun k hk => hc k (by omega)) (fun k hk => p1 k (by omega)) ?_
    have hcn := hc n (by omega)
    have p1n := p1 n (by omega)
    clear ih hc p1
    have hs : s_X9_holdsMost_274_4 M c1 (n + 1) = (e_X9_holdsMost_274_4_c1 M (nI n) ((s_X9_holdsMost_274_4 M c1 n))) := rfl
    rw [hs] at h
    clear hs
    generalize s_X9_holdsMost_274_4 M c1 n = sg at *
    refine it_X9_holdsMost_274_4 M  (nI n) sg hcn p1n ?_
    rw [nI_1]
    exact h
def f_X9_holdsMost_274 (M : Nat → Nat → Int32)  : Int32 := if ((s_X9_holdsMost_274_4 M ((0 : Int32)) ((M 274 4).toNatClampNeg))) ≤ (0 : Int32) then (0 : Int32) else (1 : Int32)
def q_X9_holdsMost_274 (M : Nat → Nat → Int32)  : Prop := (∀ k72, k72 < (M 274 4).toNatClampNeg → qi_X9_holdsMost_274_4 M (nI k72) ((s_X9_holdsMost_274_4 M ((0 : Int32)) k72))) ∧ True
theorem c_X9_holdsMost_274 {d : Nat} {L : Nat → Nat → Int64} (M : Nat → Nat → Int32)   (hpre : q_X9_holdsMost_274 M) : z_C (d + 3) 142 [.ref 274] (z_SH, M, L) (some (.int (f_X9_holdsMost_274 M))) (z_SH, M, L) := by
  unfold q_X9_holdsMost_274 at hpre
  obtain ⟨p1, -⟩ := hpre
  refine z_mkA (tb := tb_X9_holdsMost) rfl (by decide) rfl rfl rfl ?_
  refine g_k 4 (pc' := 4) (LI' := [some (.ref 274), some (.int 0), some (.int 0)]) (LL' := []) (st' := []) (S' := (z_SH, M, L)) (fun nq hq => And.intro rfl (And.intro rfl (And.intro rfl (And.intro rfl hq)))) ?_
  refine l_X9_holdsMost_274_4 (d := d) M ((0 : Int32)) ((M 274 4).toNatClampNeg) (fun k hk => z_lpc hk) p1 ?_ 
  have hx1 : M 274 4 ≤ nI ((M 274 4).toNatClampNeg) := z_lpe
  generalize hg1 : (s_X9_holdsMost_274_4 M ((0 : Int32)) ((M 274 4).toNatClampNeg)) = r1 at *
  generalize hg2 : nI ((M 274 4).toNatClampNeg) = r2 at *
  refine g_k 4 (pc' := (if z_cmp .ge r2 (M 274 4) = true then 51 else 12)) (LI' := [some (.ref 274), some (.int r1), some (.int r2)]) (LL' := []) (st' := []) (S' := (z_SH, M, L)) (fun nq hq => And.intro rfl (And.intro rfl (And.intro rfl (And.intro rfl hq)))) ?_
  refine g_ge (fun hc1 => ?_) (fun hc1 => absurd (hx1) hc1)
  refine g_k 2 (pc' := (if z_cmp .le r1 ((0 : Int32)) = true then 59 else 55)) (LI' := [some (.ref 274), some (.int r1), some (.int r2)]) (LL' := []) (st' := []) (S' := (z_SH, M, L)) (fun nq hq => And.intro rfl (And.intro rfl hq)) ?_
  refine g_le (fun hc2 => ?_) (fun hc2 => ?_)
  · refine g_k 1 (pc' := 60) (LI' := [some (.ref 274), some (.int r1), some (.int r2)]) (LL' := []) (st' := [.int 0]) (S' := (z_SH, M, L)) (fun nq hq => And.intro rfl hq) ?_
    exact ⟨1, And.intro rfl (⟨(by subst hg2; subst hg1; unfold f_X9_holdsMost_274; (first | rw [if_pos hc2] | skip); try rfl), rfl⟩)⟩
  · refine g_k 2 (pc' := 60) (LI' := [some (.ref 274), some (.int r1), some (.int r2)]) (LL' := []) (st' := [.int 1]) (S' := (z_SH, M, L)) (fun nq hq => And.intro rfl (And.intro rfl hq)) ?_
    exact ⟨1, And.intro rfl (⟨(by subst hg2; subst hg1; unfold f_X9_holdsMost_274; (first | rw [if_neg hc2] | skip); try rfl), rfl⟩)⟩
def f_X9_told_w10 (M : Nat → Nat → Int32)  : Int32 := (f_X9_holdsMost_274 M)
def q_X9_told_w10 (M : Nat → Nat → Int32)  : Prop := (q_X9_holdsMost_274 M) ∧ True
theorem c_X9_told_w10 {d : Nat} {L : Nat → Nat → Int64} (M : Nat → Nat → Int32)   (hpre : q_X9_told_w10 M) : z_C (d + 4) 144 [.ref 274, .int 10] (z_SH, M, L) (some (.int (f_X9_told_w10 M))) (z_SH, M, L) := by
  unfold q_X9_told_w10 at hpre
  obtain ⟨p1, -⟩ := hpre
  refine z_mkA (tb := tb_X9_told) rfl (by decide) rfl rfl rfl ?_
  refine g_k 3 (pc' := 125) (LI' := [some (.ref 274), some (.int 10)]) (LL' := []) (st' := [.ref 274]) (S' := (z_SH, M, L)) (fun nq hq => And.intro rfl (And.intro rfl (And.intro rfl hq))) ?_
  refine g_k 1 (pc' := 128) (LI' := [some (.ref 274), some (.int 10)]) (LL' := []) (st' := [.int (f_X9_holdsMost_274 M)]) (S' := (z_SH, M, L)) (fun nq hq => And.intro rfl (Exists.intro _ (Exists.intro _ (And.intro (c_X9_holdsMost_274 (d := d) M  p1) (And.intro (z_fit_same _ _ _ _ _ _ _ _) hq))))) ?_
  generalize hg1 : f_X9_holdsMost_274 M = r1 at *
  exact ⟨1, And.intro rfl (⟨(by subst hg1; rfl), rfl⟩)⟩
def e_X9_wouldPass_274_4_c1 (M : Nat → Nat → Int32)  (i : Int32) (c1 : Int32) : Int32 := if (f_X9_marginOf_274_279 M i) ≤ (0 : Int32) then c1 ||| ((0 : Int32)) else c1 ||| (((1 : Int32)) <<< (i &&& 31))
def qi_X9_wouldPass_274_4 (M : Nat → Nat → Int32)  (i : Int32) (c1 : Int32) : Prop := (q_X9_marginOf_274_279 M i) ∧ True
theorem it_X9_wouldPass_274_4 {d : Nat} {L : Nat → Nat → Int64} {Q : Option Value → z_St → Prop} (M : Nat → Nat → Int32)  (i : Int32) (c1 : Int32) (hc : ¬ ((8 : Int32) ≤ i)) (p1 : qi_X9_wouldPass_274_4 M i c1) (h : z_G (d + 5) tb_X9_wouldPass 4 [some (.ref 274), some (.int (e_X9_wouldPass_274_4_c1 M i c1)), some (.int (i + 1))] [] [] (z_SH, M, L) Q) : z_G (d + 5) tb_X9_wouldPass 4 [some (.ref 274), some (.int c1), some (.int i)] [] [] (z_SH, M, L) Q := by
  unfold qi_X9_wouldPass_274_4 at p1
  obtain ⟨p1, -⟩ := p1
  refine g_k 3 (pc' := (if z_cmp .ge i ((8 : Int32)) = true then 38 else 10)) (LI' := [some (.ref 274), some (.int c1), some (.int i)]) (LL' := []) (st' := []) (S' := (z_SH, M, L)) (fun nq hq => And.intro rfl (And.intro rfl (And.intro rfl hq))) ?_
  refine g_ge (fun hc1 => ?_) (fun hc1 => ?_)
  · exact absurd hc1 hc
  · refine g_k 5 (pc' := 17) (LI' := [some (.ref 274), some (.int c1), some (.int i)]) (LL' := []) (st' := [.int i, .ref 279, .ref 274, .int c1]) (S' := (z_SH, M, L)) (fun nq hq => And.intro rfl (And.intro rfl (And.intro rfl (And.intro rfl (And.intro rfl hq))))) ?_
    refine g_k 1 (pc' := 20) (LI' := [some (.ref 274), some (.int c1), some (.int i)]) (LL' := []) (st' := [.int (f_X9_marginOf_274_279 M i), .int c1]) (S' := (z_SH, M, L)) (fun nq hq => And.intro rfl (Exists.intro _ (Exists.intro _ (And.intro (c_X9_marginOf_274_279 (d := d) M i p1) (And.intro (z_fit_same _ _ _ _ _ _ _ _) hq))))) ?_
    generalize hg1 : f_X9_marginOf_274_279 M i = r1 at *
    refine g_k 1 (pc' := (if z_cmp .le r1 ((0 : Int32)) = true then 29 else 23)) (LI' := [some (.ref 274), some (.int c1), some (.int i)]) (LL' := []) (st' := [.int c1]) (S' := (z_SH, M, L)) (fun nq hq => And.intro rfl hq) ?_
    refine g_le (fun hc2 => ?_) (fun hc2 => ?_)
    · refine g_k 5 (pc' := 4) (LI' := [some (.ref 274), some (.int (c1 ||| ((0 : Int32)))), some (.int (i + 1))]) (LL' := []) (st' := []) (S' := (z_SH, M, L)) (fun nq hq => And.intro rfl (And.intro rfl (And.intro rfl (And.intro rfl (And.intro rfl hq))))) ?_
      (subst hg1; unfold e_X9_wouldPass_274_4_c1 at h; (try simp only [if_pos hc2] at h); exact h )
    · refine g_k 8 (pc' := 4) (LI' := [some (.ref 274), some (.int (c1 ||| (((1 : Int32)) <<< (i &&& 31)))), some (.int (i + 1))]) (LL' := []) (st' := []) (S' := (z_SH, M, L)) (fun nq hq => And.intro rfl (And.intro rfl (And.intro rfl (And.intro rfl (And.intro rfl (And.intro rfl (And.intro rfl (And.intro rfl hq)))))))) ?_
      (subst hg1; unfold e_X9_wouldPass_274_4_c1 at h; (try simp only [if_neg hc2] at h); exact h )
def s_X9_wouldPass_274_4 (M : Nat → Nat → Int32)  (c1 : Int32) (n : Nat) : Int32 := Nat.rec (motive := fun _ => Int32) (c1) (fun k r => (e_X9_wouldPass_274_4_c1 M (nI k) r)) n
theorem l_X9_wouldPass_274_4 {d : Nat} {L : Nat → Nat → Int64} {Q : Option Value → z_St → Prop} (M : Nat → Nat → Int32)  (c1 : Int32) (n : Nat) : (∀ k, k < n → ¬ ((8 : Int32) ≤ (nI k))) → (∀ k, k < n → qi_X9_wouldPass_274_4 M (nI k) ((s_X9_wouldPass_274_4 M c1 k))) → (z_G (d + 5) tb_X9_wouldPass 4 [some (.ref 274), some (.int ((s_X9_wouldPass_274_4 M c1 n))), some (.int (nI n))] [] [] (z_SH, M, L) Q) → z_G (d + 5) tb_X9_wouldPass 4 [some (.ref 274), some (.int c1), some (.int (nI 0))] [] [] (z_SH, M, L) Q := by
  induction n with
  | zero =>
    intro hc p1 h
    exact h
  | succ n ih =>
    intro hc p1 h
    refine ih (fun k hk => hc k (by omega)) (fun k hk => p1 k (by omega)) ?_
    have hcn := hc n (by omega)
    have p1n := p1 n (by omega)
    clear ih hc p1
    have hs : s_X9_wouldPass_274_4 M c1 (n + 1) = (e_X9_wouldPass_274_4_c1 M (nI n) ((s_X9_wouldPass_274_4 M c1 n))) := rfl
    rw [hs] at h
    clear hs
    generalize s_X9_wouldPass_274_4 M c1 n = sg at *
    refine it_X9_wouldPass_274_4 M  (nI n) sg hcn p1n ?_
    rw [nI_1]
    exact h
def f_X9_wouldPass_274 (M : Nat → Nat → Int32)  : Int32 := ((s_X9_wouldPass_274_4 M ((0 : Int32)) 8))
def q_X9_wouldPass_274 (M : Nat → Nat → Int32)  : Prop := (∀ k73, k73 < 8 → qi_X9_wouldPass_274_4 M (nI k73) ((s_X9_wouldPass_274_4 M ((0 : Int32)) k73))) ∧ True
theorem c_X9_wouldPass_274 {d : Nat} {L : Nat → Nat → Int64} (M : Nat → Nat → Int32)   (hpre : q_X9_wouldPass_274 M) : z_C (d + 6) 143 [.ref 274] (z_SH, M, L) (some (.int (f_X9_wouldPass_274 M))) (z_SH, M, L) := by
  unfold q_X9_wouldPass_274 at hpre
  obtain ⟨p1, -⟩ := hpre
  refine z_mkA (tb := tb_X9_wouldPass) rfl (by decide) rfl rfl rfl ?_
  refine g_k 4 (pc' := 4) (LI' := [some (.ref 274), some (.int 0), some (.int 0)]) (LL' := []) (st' := []) (S' := (z_SH, M, L)) (fun nq hq => And.intro rfl (And.intro rfl (And.intro rfl (And.intro rfl hq)))) ?_
  refine l_X9_wouldPass_274_4 (d := d) M ((0 : Int32)) 8 (fun k hk => z_lpc hk) p1 ?_ 
  have hx1 : (8 : Int32) ≤ nI 8 := z_lpe
  generalize hg1 : (s_X9_wouldPass_274_4 M ((0 : Int32)) 8) = r1 at *
  generalize hg2 : nI 8 = r2 at *
  refine g_k 3 (pc' := (if z_cmp .ge r2 ((8 : Int32)) = true then 38 else 10)) (LI' := [some (.ref 274), some (.int r1), some (.int r2)]) (LL' := []) (st' := []) (S' := (z_SH, M, L)) (fun nq hq => And.intro rfl (And.intro rfl (And.intro rfl hq))) ?_
  refine g_ge (fun hc1 => ?_) (fun hc1 => absurd (hx1) hc1)
  refine g_k 1 (pc' := 39) (LI' := [some (.ref 274), some (.int r1), some (.int r2)]) (LL' := []) (st' := [.int r1]) (S' := (z_SH, M, L)) (fun nq hq => And.intro rfl hq) ?_
  exact ⟨1, And.intro rfl (⟨(by subst hg2; subst hg1; rfl), rfl⟩)⟩
def f_X9_told_w11 (M : Nat → Nat → Int32)  : Int32 := (f_X9_wouldPass_274 M)
def q_X9_told_w11 (M : Nat → Nat → Int32)  : Prop := (q_X9_wouldPass_274 M) ∧ True
theorem c_X9_told_w11 {d : Nat} {L : Nat → Nat → Int64} (M : Nat → Nat → Int32)   (hpre : q_X9_told_w11 M) : z_C (d + 7) 144 [.ref 274, .int 11] (z_SH, M, L) (some (.int (f_X9_told_w11 M))) (z_SH, M, L) := by
  unfold q_X9_told_w11 at hpre
  obtain ⟨p1, -⟩ := hpre
  refine z_mkA (tb := tb_X9_told) rfl (by decide) rfl rfl rfl ?_
  refine g_k 3 (pc' := 130) (LI' := [some (.ref 274), some (.int 11)]) (LL' := []) (st' := [.ref 274]) (S' := (z_SH, M, L)) (fun nq hq => And.intro rfl (And.intro rfl (And.intro rfl hq))) ?_
  refine g_k 1 (pc' := 133) (LI' := [some (.ref 274), some (.int 11)]) (LL' := []) (st' := [.int (f_X9_wouldPass_274 M)]) (S' := (z_SH, M, L)) (fun nq hq => And.intro rfl (Exists.intro _ (Exists.intro _ (And.intro (c_X9_wouldPass_274 (d := d) M  p1) (And.intro (z_fit_same _ _ _ _ _ _ _ _) hq))))) ?_
  generalize hg1 : f_X9_wouldPass_274 M = r1 at *
  exact ⟨1, And.intro rfl (⟨(by subst hg1; rfl), rfl⟩)⟩
def f_X9_told_w12 (M : Nat → Nat → Int32)  : Int32 := M 274 17
theorem c_X9_told_w12 {d : Nat} {L : Nat → Nat → Int64} (M : Nat → Nat → Int32)   : z_C (d + 1) 144 [.ref 274, .int 12] (z_SH, M, L) (some (.int (f_X9_told_w12 M))) (z_SH, M, L) := by
  refine z_mkA (tb := tb_X9_told) rfl (by decide) rfl rfl rfl ?_
  refine g_k 4 (pc' := 138) (LI' := [some (.ref 274), some (.int 12)]) (LL' := []) (st' := [.int (M 274 17)]) (S' := (z_SH, M, L)) (fun nq hq => And.intro rfl (And.intro rfl (And.intro rfl (And.intro rfl hq)))) ?_
  exact ⟨1, And.intro rfl (⟨rfl, rfl⟩)⟩
def f_X9_told_w13 (M : Nat → Nat → Int32)  : Int32 := M 274 19
theorem c_X9_told_w13 {d : Nat} {L : Nat → Nat → Int64} (M : Nat → Nat → Int32)   : z_C (d + 1) 144 [.ref 274, .int 13] (z_SH, M, L) (some (.int (f_X9_told_w13 M))) (z_SH, M, L) := by
  refine z_mkA (tb := tb_X9_told) rfl (by decide) rfl rfl rfl ?_
  refine g_k 4 (pc' := 143) (LI' := [some (.ref 274), some (.int 13)]) (LL' := []) (st' := [.int (M 274 19)]) (S' := (z_SH, M, L)) (fun nq hq => And.intro rfl (And.intro rfl (And.intro rfl (And.intro rfl hq)))) ?_
  exact ⟨1, And.intro rfl (⟨rfl, rfl⟩)⟩
def f_X9_told_w14 (M : Nat → Nat → Int32)  : Int32 := M 274 11
theorem c_X9_told_w14 {d : Nat} {L : Nat → Nat → Int64} (M : Nat → Nat → Int32)   : z_C (d + 1) 144 [.ref 274, .int 14] (z_SH, M, L) (some (.int (f_X9_told_w14 M))) (z_SH, M, L) := by
  refine z_mkA (tb := tb_X9_told) rfl (by decide) rfl rfl rfl ?_
  refine g_k 4 (pc' := 148) (LI' := [some (.ref 274), some (.int 14)]) (LL' := []) (st' := [.int (M 274 11)]) (S' := (z_SH, M, L)) (fun nq hq => And.intro rfl (And.intro rfl (And.intro rfl (And.intro rfl hq)))) ?_
  exact ⟨1, And.intro rfl (⟨rfl, rfl⟩)⟩
