def f_X9_votesOf_268_274 (M : Nat → Nat → Int32) (a2 : Int32) : Int32 := if ¬ M 270 ((a2).toNatClampNeg) = (3 : Int32) then (1 : Int32) else if (f_X9_hangs_274 M a2) = (0 : Int32) then (1 : Int32) else (2 : Int32)
theorem c_X9_votesOf_268_274 {d : Nat} {L : Nat → Nat → Int64} (M : Nat → Nat → Int32) (a2 : Int32) (p1 : z_vin a2 6 = true) (p2 : ∀ k51, k51 < (M 274 10).toNatClampNeg → z_vin (((71 : Int32)) + (nI k51)) 83 = true) (p3 : ∀ k51, k51 < (M 274 10).toNatClampNeg → z_vin (((11 : Int32)) + (nI k51)) 83 = true) (p4 : ∀ k51, k51 < (M 274 10).toNatClampNeg → z_vin (((47 : Int32)) + (nI k51)) 83 = true) (p5 : z_vin (((4 : Int32)) + a2) 83 = true) : z_C (d + 4) 134 [.ref 268, .ref 274, .int a2] (z_SH, M, L) (some (.int (f_X9_votesOf_268_274 M a2))) (z_SH, M, L) := by
  refine z_mkA (tb := tb_X9_votesOf) rfl (by decide) rfl rfl rfl ?_
  refine g_k 6 (pc' := (if z_cmp .ne (M 270 ((a2).toNatClampNeg)) ((3 : Int32)) = true then 22 else 10)) (LI' := [some (.ref 268), some (.ref 274), some (.int a2)]) (LL' := []) (st' := []) (S' := (z_SH, M, L)) (fun nq hq => And.intro rfl (And.intro rfl (And.intro rfl (And.intro p1 (And.intro rfl (And.intro rfl hq)))))) ?_
  refine g_ne (fun hc1 => ?_) (fun hc1 => ?_)
  · refine g_k 1 (pc' := 23) (LI' := [some (.ref 268), some (.ref 274), some (.int a2)]) (LL' := []) (st' := [.int 1]) (S' := (z_SH, M, L)) (fun nq hq => And.intro rfl hq) ?_
    exact ⟨1, And.intro rfl (⟨(by unfold f_X9_votesOf_268_274; (first | rw [if_pos hc1] | skip); try rfl), rfl⟩)⟩
  · refine g_k 2 (pc' := 12) (LI' := [some (.ref 268), some (.ref 274), some (.int a2)]) (LL' := []) (st' := [.int a2, .ref 274]) (S' := (z_SH, M, L)) (fun nq hq => And.intro rfl (And.intro rfl hq)) ?_
    refine g_k 1 (pc' := 15) (LI' := [some (.ref 268), some (.ref 274), some (.int a2)]) (LL' := []) (st' := [.int (f_X9_hangs_274 M a2)]) (S' := (z_SH, M, L)) (fun nq hq => And.intro rfl (Exists.intro _ (Exists.intro _ (And.intro (c_X9_hangs_274 (d := d) M a2 p2 p3 p4 p5) (And.intro (z_fit_same _ _ _ _ _ _ _ _) hq))))) ?_
    generalize hg1 : f_X9_hangs_274 M a2 = r1 at *
    refine g_k 1 (pc' := (if z_cmp .eq r1 ((0 : Int32)) = true then 22 else 18)) (LI' := [some (.ref 268), some (.ref 274), some (.int a2)]) (LL' := []) (st' := []) (S' := (z_SH, M, L)) (fun nq hq => And.intro rfl hq) ?_
    refine g_eq (fun hc2 => ?_) (fun hc2 => ?_)
    · refine g_k 1 (pc' := 23) (LI' := [some (.ref 268), some (.ref 274), some (.int a2)]) (LL' := []) (st' := [.int 1]) (S' := (z_SH, M, L)) (fun nq hq => And.intro rfl hq) ?_
      exact ⟨1, And.intro rfl (⟨(by subst hg1; unfold f_X9_votesOf_268_274; (first | rw [if_neg (not_not_intro hc1)] | skip); (first | rw [if_pos hc2] | skip); try rfl), rfl⟩)⟩
    · refine g_k 2 (pc' := 23) (LI' := [some (.ref 268), some (.ref 274), some (.int a2)]) (LL' := []) (st' := [.int 2]) (S' := (z_SH, M, L)) (fun nq hq => And.intro rfl (And.intro rfl hq)) ?_
      exact ⟨1, And.intro rfl (⟨(by subst hg1; unfold f_X9_votesOf_268_274; (first | rw [if_neg (not_not_intro hc1)] | skip); (first | rw [if_neg hc2] | skip); try rfl), rfl⟩)⟩
def e_X9_marginOf_268_274_5_c3 (M : Nat → Nat → Int32) (t : Int32) (i : Int32) (c3 : Int32) : Int32 := if ¬ (f_X9_goesOf_268_274 M i t) = (2 : Int32) then if ¬ (f_X9_goesOf_268_274 M i t) = (1 : Int32) then c3 + (-(f_X9_votesOf_268_274 M i)) else c3 + (f_X9_votesOf_268_274 M i) else c3 + ((0 : Int32))
theorem it_X9_marginOf_268_274_5 {d : Nat} {L : Nat → Nat → Int64} {Q : Option Value → z_St → Prop} (M : Nat → Nat → Int32) (t : Int32) (i : Int32) (c3 : Int32) (hc : ¬ (M 268 4 ≤ i)) (p1 : ∀ k50, k50 < (M 274 10).toNatClampNeg → z_vin (((71 : Int32)) + (nI k50)) 83 = true) (p2 : ∀ k50, k50 < (M 274 10).toNatClampNeg → z_vin (((11 : Int32)) + (nI k50)) 83 = true) (p3 : ∀ k50, k50 < (M 274 10).toNatClampNeg → z_vin (((23 : Int32)) + (nI k50)) 83 = true) (p4 : ∀ k50, k50 < (M 274 10).toNatClampNeg → z_vin (((35 : Int32)) + (nI k50)) 83 = true) (p5 : ∀ k50, k50 < (M 274 10).toNatClampNeg → z_vin (((47 : Int32)) + (nI k50)) 83 = true) (p6 : ∀ k51, k51 < (M 274 10).toNatClampNeg → z_vin (((71 : Int32)) + (nI k51)) 83 = true) (p7 : ∀ k51, k51 < (M 274 10).toNatClampNeg → z_vin (((11 : Int32)) + (nI k51)) 83 = true) (p8 : ∀ k51, k51 < (M 274 10).toNatClampNeg → z_vin (((47 : Int32)) + (nI k51)) 83 = true) (p9 : z_vin (((4 : Int32)) + i) 83 = true) (p10 : z_vin i 6 = true) (h : ∀ (y5 : Option Value), z_G (d + 4) tb_X9_marginOf 5 [some (.ref 268), some (.ref 274), some (.int t), some (.int (e_X9_marginOf_268_274_5_c3 M t i c3)), some (.int (i + 1)), y5] [] [] (z_SH, M, L) Q) : ∀ (x5 : Option Value), z_G (d + 4) tb_X9_marginOf 5 [some (.ref 268), some (.ref 274), some (.int t), some (.int c3), some (.int i), x5] [] [] (z_SH, M, L) Q := by
  intro x5
  refine g_k 4 (pc' := (if z_cmp .ge i (M 268 4) = true then 67 else 14)) (LI' := [some (.ref 268), some (.ref 274), some (.int t), some (.int c3), some (.int i), x5]) (LL' := []) (st' := []) (S' := (z_SH, M, L)) (fun nq hq => And.intro rfl (And.intro rfl (And.intro rfl (And.intro rfl hq)))) ?_
  refine g_ge (fun hc1 => ?_) (fun hc1 => ?_)
  · exact absurd hc1 hc
  · refine g_k 4 (pc' := 19) (LI' := [some (.ref 268), some (.ref 274), some (.int t), some (.int c3), some (.int i), x5]) (LL' := []) (st' := [.int t, .int i, .ref 274, .ref 268]) (S' := (z_SH, M, L)) (fun nq hq => And.intro rfl (And.intro rfl (And.intro rfl (And.intro rfl hq)))) ?_
    refine g_k 1 (pc' := 22) (LI' := [some (.ref 268), some (.ref 274), some (.int t), some (.int c3), some (.int i), x5]) (LL' := []) (st' := [.int (f_X9_goesOf_268_274 M i t)]) (S' := (z_SH, M, L)) (fun nq hq => And.intro rfl (Exists.intro _ (Exists.intro _ (And.intro (c_X9_goesOf_268_274 (d := d) M i t p1 p2 p3 p4 p5 p6 p7 p8 p9 p10) (And.intro (z_fit_same _ _ _ _ _ _ _ _) hq))))) ?_
    generalize hg1 : f_X9_goesOf_268_274 M i t = r1 at *
    refine g_k 5 (pc' := (if z_cmp .ne r1 ((2 : Int32)) = true then 35 else 31)) (LI' := [some (.ref 268), some (.ref 274), some (.int t), some (.int c3), some (.int i), some (.int r1)]) (LL' := []) (st' := [.int c3]) (S' := (z_SH, M, L)) (fun nq hq => And.intro rfl (And.intro rfl (And.intro rfl (And.intro rfl (And.intro rfl hq))))) ?_
    refine g_ne (fun hc2 => ?_) (fun hc2 => ?_)
    · refine g_k 3 (pc' := (if z_cmp .ne r1 ((1 : Int32)) = true then 51 else 41)) (LI' := [some (.ref 268), some (.ref 274), some (.int t), some (.int c3), some (.int i), some (.int r1)]) (LL' := []) (st' := [.int c3]) (S' := (z_SH, M, L)) (fun nq hq => And.intro rfl (And.intro rfl (And.intro rfl hq))) ?_
      refine g_ne (fun hc3 => ?_) (fun hc3 => ?_)
      · refine g_k 3 (pc' := 55) (LI' := [some (.ref 268), some (.ref 274), some (.int t), some (.int c3), some (.int i), some (.int r1)]) (LL' := []) (st' := [.int i, .ref 274, .ref 268, .int c3]) (S' := (z_SH, M, L)) (fun nq hq => And.intro rfl (And.intro rfl (And.intro rfl hq))) ?_
        refine g_k 1 (pc' := 58) (LI' := [some (.ref 268), some (.ref 274), some (.int t), some (.int c3), some (.int i), some (.int r1)]) (LL' := []) (st' := [.int (f_X9_votesOf_268_274 M i), .int c3]) (S' := (z_SH, M, L)) (fun nq hq => And.intro rfl (Exists.intro _ (Exists.intro _ (And.intro (c_X9_votesOf_268_274 (d := d) M i p10 p6 p7 p8 p9) (And.intro (z_fit_same _ _ _ _ _ _ _ _) hq))))) ?_
        generalize hg2 : f_X9_votesOf_268_274 M i = r2 at *
        refine g_k 5 (pc' := 5) (LI' := [some (.ref 268), some (.ref 274), some (.int t), some (.int (c3 + (-r2))), some (.int (i + 1)), some (.int r1)]) (LL' := []) (st' := []) (S' := (z_SH, M, L)) (fun nq hq => And.intro rfl (And.intro rfl (And.intro rfl (And.intro rfl (And.intro rfl hq))))) ?_
        (subst hg2; subst hg1; unfold e_X9_marginOf_268_274_5_c3 at h; (try simp only [if_pos hc2] at h); (try simp only [if_pos hc3] at h); exact h (some (.int (f_X9_goesOf_268_274 M i t))))
      · refine g_k 3 (pc' := 45) (LI' := [some (.ref 268), some (.ref 274), some (.int t), some (.int c3), some (.int i), some (.int r1)]) (LL' := []) (st' := [.int i, .ref 274, .ref 268, .int c3]) (S' := (z_SH, M, L)) (fun nq hq => And.intro rfl (And.intro rfl (And.intro rfl hq))) ?_
        refine g_k 1 (pc' := 48) (LI' := [some (.ref 268), some (.ref 274), some (.int t), some (.int c3), some (.int i), some (.int r1)]) (LL' := []) (st' := [.int (f_X9_votesOf_268_274 M i), .int c3]) (S' := (z_SH, M, L)) (fun nq hq => And.intro rfl (Exists.intro _ (Exists.intro _ (And.intro (c_X9_votesOf_268_274 (d := d) M i p10 p6 p7 p8 p9) (And.intro (z_fit_same _ _ _ _ _ _ _ _) hq))))) ?_
        generalize hg3 : f_X9_votesOf_268_274 M i = r3 at *
        refine g_k 5 (pc' := 5) (LI' := [some (.ref 268), some (.ref 274), some (.int t), some (.int (c3 + r3)), some (.int (i + 1)), some (.int r1)]) (LL' := []) (st' := []) (S' := (z_SH, M, L)) (fun nq hq => And.intro rfl (And.intro rfl (And.intro rfl (And.intro rfl (And.intro rfl hq))))) ?_
        (subst hg3; subst hg1; unfold e_X9_marginOf_268_274_5_c3 at h; (try simp only [if_pos hc2] at h); (try simp only [if_neg (not_not_intro hc3)] at h); exact h (some (.int (f_X9_goesOf_268_274 M i t))))
    · refine g_k 6 (pc' := 5) (LI' := [some (.ref 268), some (.ref 274), some (.int t), some (.int (c3 + ((0 : Int32)))), some (.int (i + 1)), some (.int r1)]) (LL' := []) (st' := []) (S' := (z_SH, M, L)) (fun nq hq => And.intro rfl (And.intro rfl (And.intro rfl (And.intro rfl (And.intro rfl (And.intro rfl hq)))))) ?_
      (subst hg1; unfold e_X9_marginOf_268_274_5_c3 at h; (try simp only [if_neg (not_not_intro hc2)] at h); exact h (some (.int (f_X9_goesOf_268_274 M i t))))
def s_X9_marginOf_268_274_5 (M : Nat → Nat → Int32) (t : Int32) (c3 : Int32) (n : Nat) : Int32 := Nat.rec (motive := fun _ => Int32) (c3) (fun k r => (e_X9_marginOf_268_274_5_c3 M t (nI k) r)) n
theorem l_X9_marginOf_268_274_5 {d : Nat} {L : Nat → Nat → Int64} {Q : Option Value → z_St → Prop} (M : Nat → Nat → Int32) (t : Int32) (c3 : Int32) (n : Nat) : (∀ k, k < n → ¬ (M 268 4 ≤ (nI k))) → (∀ k, k < n → ∀ k50, k50 < (M 274 10).toNatClampNeg → z_vin (((71 : Int32)) + (nI k50)) 83 = true) → (∀ k, k < n → ∀ k50, k50 < (M 274 10).toNatClampNeg → z_vin (((11 : Int32)) + (nI k50)) 83 = true) → (∀ k, k < n → ∀ k50, k50 < (M 274 10).toNatClampNeg → z_vin (((23 : Int32)) + (nI k50)) 83 = true) → (∀ k, k < n → ∀ k50, k50 < (M 274 10).toNatClampNeg → z_vin (((35 : Int32)) + (nI k50)) 83 = true) → (∀ k, k < n → ∀ k50, k50 < (M 274 10).toNatClampNeg → z_vin (((47 : Int32)) + (nI k50)) 83 = true) → (∀ k, k < n → ∀ k51, k51 < (M 274 10).toNatClampNeg → z_vin (((71 : Int32)) + (nI k51)) 83 = true) → (∀ k, k < n → ∀ k51, k51 < (M 274 10).toNatClampNeg → z_vin (((11 : Int32)) + (nI k51)) 83 = true) → (∀ k, k < n → ∀ k51, k51 < (M 274 10).toNatClampNeg → z_vin (((47 : Int32)) + (nI k51)) 83 = true) → (∀ k, k < n → z_vin (((4 : Int32)) + (nI k)) 83 = true) → (∀ k, k < n → z_vin (nI k) 6 = true) → (∀ (y5 : Option Value), z_G (d + 4) tb_X9_marginOf 5 [some (.ref 268), some (.ref 274), some (.int t), some (.int ((s_X9_marginOf_268_274_5 M t c3 n))), some (.int (nI n)), y5] [] [] (z_SH, M, L) Q) → ∀ (x5 : Option Value), z_G (d + 4) tb_X9_marginOf 5 [some (.ref 268), some (.ref 274), some (.int t), some (.int c3), some (.int (nI 0)), x5] [] [] (z_SH, M, L) Q := by
  induction n with
  | zero =>
    intro hc p1 p2 p3 p4 p5 p6 p7 p8 p9 p10 h
    exact h
  | succ n ih =>
    intro hc p1 p2 p3 p4 p5 p6 p7 p8 p9 p10 h
    refine ih (fun k hk => hc k (by omega)) (fun k hk => p1 k (by omega)) (fun k hk => p2 k (by omega)) (fun k hk => p3 k (by omega)) (fun k hk => p4 k (by omega)) (fun k hk => p5 k (by omega)) (fun k hk => p6 k (by omega)) (fun k hk => p7 k (by omega)) (fun k hk => p8 k (by omega)) (fun k hk => p9 k (by omega)) (fun k hk => p10 k (by omega)) ?_
    have hcn := hc n (by omega)
    have p1n := p1 n (by omega)
    have p2n := p2 n (by omega)
    have p3n := p3 n (by omega)
    have p4n := p4 n (by omega)
    have p5n := p5 n (by omega)
    have p6n := p6 n (by omega)
    have p7n := p7 n (by omega)
    have p8n := p8 n (by omega)
    have p9n := p9 n (by omega)
    have p10n := p10 n (by omega)
    clear ih hc p1 p2 p3 p4 p5 p6 p7 p8 p9 p10
    have hs : s_X9_marginOf_268_274_5 M t c3 (n + 1) = (e_X9_marginOf_268_274_5_c3 M t (nI n) ((s_X9_marginOf_268_274_5 M t c3 n))) := rfl
    rw [hs] at h
    clear hs
    generalize s_X9_marginOf_268_274_5 M t c3 n = sg at *
    refine it_X9_marginOf_268_274_5 M t (nI n) sg hcn p1n p2n p3n p4n p5n p6n p7n p8n p9n p10n ?_
    rw [nI_1]
    exact h
def f_X9_marginOf_268_274 (M : Nat → Nat → Int32) (t : Int32) : Int32 := ((s_X9_marginOf_268_274_5 M t ((0 : Int32)) ((M 268 4).toNatClampNeg)))
theorem c_X9_marginOf_268_274 {d : Nat} {L : Nat → Nat → Int64} (M : Nat → Nat → Int32) (t : Int32) (p1 : ∀ k53, k53 < (M 268 4).toNatClampNeg → ∀ k50, k50 < (M 274 10).toNatClampNeg → z_vin (((71 : Int32)) + (nI k50)) 83 = true) (p2 : ∀ k53, k53 < (M 268 4).toNatClampNeg → ∀ k50, k50 < (M 274 10).toNatClampNeg → z_vin (((11 : Int32)) + (nI k50)) 83 = true) (p3 : ∀ k53, k53 < (M 268 4).toNatClampNeg → ∀ k50, k50 < (M 274 10).toNatClampNeg → z_vin (((23 : Int32)) + (nI k50)) 83 = true) (p4 : ∀ k53, k53 < (M 268 4).toNatClampNeg → ∀ k50, k50 < (M 274 10).toNatClampNeg → z_vin (((35 : Int32)) + (nI k50)) 83 = true) (p5 : ∀ k53, k53 < (M 268 4).toNatClampNeg → ∀ k50, k50 < (M 274 10).toNatClampNeg → z_vin (((47 : Int32)) + (nI k50)) 83 = true) (p6 : ∀ k53, k53 < (M 268 4).toNatClampNeg → ∀ k51, k51 < (M 274 10).toNatClampNeg → z_vin (((71 : Int32)) + (nI k51)) 83 = true) (p7 : ∀ k53, k53 < (M 268 4).toNatClampNeg → ∀ k51, k51 < (M 274 10).toNatClampNeg → z_vin (((11 : Int32)) + (nI k51)) 83 = true) (p8 : ∀ k53, k53 < (M 268 4).toNatClampNeg → ∀ k51, k51 < (M 274 10).toNatClampNeg → z_vin (((47 : Int32)) + (nI k51)) 83 = true) (p9 : ∀ k53, k53 < (M 268 4).toNatClampNeg → z_vin (((4 : Int32)) + (nI k53)) 83 = true) (p10 : ∀ k53, k53 < (M 268 4).toNatClampNeg → z_vin (nI k53) 6 = true) : z_C (d + 5) 135 [.ref 268, .ref 274, .int t] (z_SH, M, L) (some (.int (f_X9_marginOf_268_274 M t))) (z_SH, M, L) := by
  refine z_mkA (tb := tb_X9_marginOf) rfl (by decide) rfl rfl rfl ?_
  refine g_k 4 (pc' := 5) (LI' := [some (.ref 268), some (.ref 274), some (.int t), some (.int 0), some (.int 0), none]) (LL' := []) (st' := []) (S' := (z_SH, M, L)) (fun nq hq => And.intro rfl (And.intro rfl (And.intro rfl (And.intro rfl hq)))) ?_
  refine l_X9_marginOf_268_274_5 (d := d) M t ((0 : Int32)) ((M 268 4).toNatClampNeg) (fun k hk => z_lpc hk) p1 p2 p3 p4 p5 p6 p7 p8 p9 p10 (fun y1 => ?_) none
  have hx1 : M 268 4 ≤ nI ((M 268 4).toNatClampNeg) := z_lpe
  generalize hg1 : (s_X9_marginOf_268_274_5 M t ((0 : Int32)) ((M 268 4).toNatClampNeg)) = r1 at *
  generalize hg2 : nI ((M 268 4).toNatClampNeg) = r2 at *
  refine g_k 4 (pc' := (if z_cmp .ge r2 (M 268 4) = true then 67 else 14)) (LI' := [some (.ref 268), some (.ref 274), some (.int t), some (.int r1), some (.int r2), y1]) (LL' := []) (st' := []) (S' := (z_SH, M, L)) (fun nq hq => And.intro rfl (And.intro rfl (And.intro rfl (And.intro rfl hq)))) ?_
  refine g_ge (fun hc1 => ?_) (fun hc1 => absurd (hx1) hc1)
  refine g_k 1 (pc' := 68) (LI' := [some (.ref 268), some (.ref 274), some (.int t), some (.int r1), some (.int r2), y1]) (LL' := []) (st' := [.int r1]) (S' := (z_SH, M, L)) (fun nq hq => And.intro rfl hq) ?_
  exact ⟨1, And.intro rfl (⟨(by subst hg2; subst hg1; rfl), rfl⟩)⟩
