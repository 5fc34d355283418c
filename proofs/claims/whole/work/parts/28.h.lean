def s_drift9 (M : Nat → Nat → Int32) (L : Nat → Nat → Int64) (n : Nat) : (Nat → Nat → Int32) × (Nat → Nat → Int64) := Nat.rec (motive := fun _ => (Nat → Nat → Int32) × (Nat → Nat → Int64)) (M, L) (fun _ r => (g_X9_drawn_274 r.1 r.2, h_X9_drawn_274 r.1 r.2)) n
theorem l_drift9 {d : Nat} {Q : Option Value → z_St → Prop} (M : Nat → Nat → Int32) (L : Nat → Nat → Int64) (z : Int32) (n : Nat) : (∀ k, k < n → ¬ (z ≤ nI k)) → (∀ k, k < n → q_X9_drawn_274 (s_drift9 M L k).1 (s_drift9 M L k).2) → z_G (d + 8) tb_X9_drift 50 [some (.ref 274), some (.int z), some (.int (nI n))] [] [] (z_SH, (s_drift9 M L n).1, (s_drift9 M L n).2) Q → z_G (d + 8) tb_X9_drift 50 [some (.ref 274), some (.int z), some (.int (nI 0))] [] [] (z_SH, M, L) Q := by
  induction n with
  | zero =>
    intro hc p1 h
    exact h
  | succ n ih =>
    intro hc p1 h
    refine ih (fun k hk => hc k (by omega)) (fun k hk => p1 k (by omega)) ?_
    have hcn := hc n (by omega)
    have p1n := p1 n (by omega)
    clear ih hc p1
    have hs : s_drift9 M L (n + 1) = (g_X9_drawn_274 (s_drift9 M L n).1 (s_drift9 M L n).2, h_X9_drawn_274 (s_drift9 M L n).1 (s_drift9 M L n).2) := rfl
    rw [hs] at h
    clear hs
    dsimp only at h
    generalize s_drift9 M L n = sg at *
    refine g_k 3 (pc' := (if z_cmp .ge (nI n) z = true then 65 else 55)) (LI' := [some (.ref 274), some (.int z), some (.int (nI n))]) (LL' := []) (st' := []) (S' := (z_SH, sg.1, sg.2)) (fun nq hq => And.intro rfl (And.intro rfl (And.intro rfl hq))) ?_
    refine g_ge (fun hc1 => absurd hc1 hcn) (fun hc1 => ?_)
    refine g_k 1 (pc' := 56) (LI' := [some (.ref 274), some (.int z), some (.int (nI n))]) (LL' := []) (st' := [.ref 274]) (S' := (z_SH, sg.1, sg.2)) (fun nq hq => And.intro rfl hq) ?_
    refine g_k 1 (pc' := 59) (LI' := [some (.ref 274), some (.int z), some (.int (nI n))]) (LL' := []) (st' := []) (S' := (z_SH, g_X9_drawn_274 sg.1 sg.2, h_X9_drawn_274 sg.1 sg.2)) (fun nq hq => And.intro rfl (Exists.intro _ (Exists.intro _ (And.intro (c_X9_drawn_274 (d := d) sg.1 sg.2 p1n) (And.intro (z_fit_same _ _ _ _ _ _ _ _) hq))))) ?_
    refine g_k 2 (pc' := 50) (LI' := [some (.ref 274), some (.int z), some (.int (nI n + 1))]) (LL' := []) (st' := []) (S' := (z_SH, g_X9_drawn_274 sg.1 sg.2, h_X9_drawn_274 sg.1 sg.2)) (fun nq hq => And.intro rfl (And.intro rfl hq)) ?_
    rw [nI_1]
    exact h
def f_X9_drift_274 (M : Nat → Nat → Int32) (L : Nat → Nat → Int64) (z : Int32) : Int32 := if ¬ (f_X9_in M z ((1 : Int32)) ((20 : Int32))) = (0 : Int32) then if ¬ M 274 3 = (0 : Int32) then if (90000 : Int32) ≤ M 279 0 then (-1000000004 : Int32) else if M 279 3 < (90000 : Int32) then ((s_drift9 M L (z.toNatClampNeg)).1) 279 2 else (-1000000004 : Int32) else (-1000000003 : Int32) else (-1000000002 : Int32)
def g_X9_drift_274 (M : Nat → Nat → Int32) (L : Nat → Nat → Int64) (z : Int32) : Nat → Nat → Int32 := if ¬ (f_X9_in M z ((1 : Int32)) ((20 : Int32))) = (0 : Int32) then if ¬ M 274 3 = (0 : Int32) then if (90000 : Int32) ≤ M 279 0 then M else if M 279 3 < (90000 : Int32) then ((s_drift9 M L (z.toNatClampNeg)).1) else M else M else M
def h_X9_drift_274 (M : Nat → Nat → Int32) (L : Nat → Nat → Int64) (z : Int32) : Nat → Nat → Int64 := if ¬ (f_X9_in M z ((1 : Int32)) ((20 : Int32))) = (0 : Int32) then if ¬ M 274 3 = (0 : Int32) then if (90000 : Int32) ≤ M 279 0 then L else if M 279 3 < (90000 : Int32) then ((s_drift9 M L (z.toNatClampNeg)).2) else L else L else L
def q_X9_drift_274 (M : Nat → Nat → Int32) (L : Nat → Nat → Int64) (z : Int32) : Prop := ((¬ (f_X9_in M z ((1 : Int32)) ((20 : Int32))) = (0 : Int32)) → (¬ M 274 3 = (0 : Int32)) → (¬ ((90000 : Int32) ≤ M 279 0)) → (M 279 3 < (90000 : Int32)) → (∀ k9, k9 < z.toNatClampNeg → q_X9_drawn_274 (s_drift9 M L k9).1 (s_drift9 M L k9).2)) ∧ True
theorem c_X9_drift_274 {d : Nat} (M : Nat → Nat → Int32) (L : Nat → Nat → Int64) (z : Int32)  (hpre : q_X9_drift_274 M L z) : z_C (d + 9) 158 [.ref 274, .int z] (z_SH, M, L) (some (.int (f_X9_drift_274 M L z))) (z_SH, g_X9_drift_274 M L z, h_X9_drift_274 M L z) := by
  unfold q_X9_drift_274 at hpre
  obtain ⟨p1, -⟩ := hpre
  refine z_mkA (tb := tb_X9_drift) rfl (by decide) rfl rfl rfl ?_
  refine g_k 3 (pc' := 4) (LI' := [some (.ref 274), some (.int z), none]) (LL' := []) (st' := [.int 20, .int 1, .int z]) (S' := (z_SH, M, L)) (fun nq hq => And.intro rfl (And.intro rfl (And.intro rfl hq))) ?_
  refine g_k 1 (pc' := 7) (LI' := [some (.ref 274), some (.int z), none]) (LL' := []) (st' := [.int (f_X9_in M z ((1 : Int32)) ((20 : Int32)))]) (S' := (z_SH, M, L)) (fun nq hq => And.intro rfl (Exists.intro _ (Exists.intro _ (And.intro (c_X9_in (d := d + 7) M z ((1 : Int32)) ((20 : Int32))) (And.intro (z_fit_same _ _ _ _ _ _ _ _) hq))))) ?_
  generalize hg1 : f_X9_in M z ((1 : Int32)) ((20 : Int32)) = r1 at *
  refine g_k 1 (pc' := (if z_cmp .ne r1 ((0 : Int32)) = true then 13 else 10)) (LI' := [some (.ref 274), some (.int z), none]) (LL' := []) (st' := []) (S' := (z_SH, M, L)) (fun nq hq => And.intro rfl hq) ?_
  refine g_ne (fun hc1 => ?_) (fun hc1 => ?_)
  · refine g_k 3 (pc' := (if z_cmp .ne (M 274 3) ((0 : Int32)) = true then 23 else 20)) (LI' := [some (.ref 274), some (.int z), none]) (LL' := []) (st' := []) (S' := (z_SH, M, L)) (fun nq hq => And.intro rfl (And.intro rfl (And.intro rfl hq))) ?_
    refine g_ne (fun hc2 => ?_) (fun hc2 => ?_)
    · refine g_k 6 (pc' := (if z_cmp .ge (M 279 0) ((90000 : Int32)) = true then 45 else 34)) (LI' := [some (.ref 274), some (.int z), none]) (LL' := []) (st' := []) (S' := (z_SH, M, L)) (fun nq hq => And.intro rfl (And.intro rfl (And.intro rfl (And.intro rfl (And.intro rfl (And.intro rfl hq)))))) ?_
      refine g_ge (fun hc3 => ?_) (fun hc3 => ?_)
      · refine g_k 1 (pc' := 47) (LI' := [some (.ref 274), some (.int z), none]) (LL' := []) (st' := [.int (-1000000004)]) (S' := (z_SH, M, L)) (fun nq hq => And.intro rfl hq) ?_
        exact ⟨1, And.intro rfl (⟨(by subst hg1; unfold f_X9_drift_274; (first | rw [if_pos hc1] | skip); (first | rw [if_pos hc2] | skip); (first | rw [if_pos hc3] | skip); try rfl), (by subst hg1; unfold h_X9_drift_274 g_X9_drift_274; (try simp only [if_pos hc1]); (try simp only [if_pos hc2]); (try simp only [if_pos hc3]); try rfl)⟩)⟩
      · refine g_k 6 (pc' := (if z_cmp .lt (M 279 3) ((90000 : Int32)) = true then 48 else 45)) (LI' := [some (.ref 274), some (.int z), none]) (LL' := []) (st' := []) (S' := (z_SH, M, L)) (fun nq hq => And.intro rfl (And.intro rfl (And.intro rfl (And.intro rfl (And.intro rfl (And.intro rfl hq)))))) ?_
        refine g_lt (fun hc4 => ?_) (fun hc4 => ?_)
        · refine g_k 2 (pc' := 50) (LI' := [some (.ref 274), some (.int z), some (.int 0)]) (LL' := []) (st' := []) (S' := (z_SH, M, L)) (fun nq hq => And.intro rfl (And.intro rfl hq)) ?_
          refine l_drift9 (d := d) M L z (z.toNatClampNeg) (fun k hk => z_lpc hk) (p1 hc1 hc2 hc3 hc4) ?_
          have hx1 : z ≤ nI (z.toNatClampNeg) := z_lpe
          generalize hg2 : nI (z.toNatClampNeg) = r2 at *
          generalize hg3 : (s_drift9 M L (z.toNatClampNeg)).1 = m3 at *
          generalize hg4 : (s_drift9 M L (z.toNatClampNeg)).2 = w4 at *
          refine g_k 3 (pc' := (if z_cmp .ge r2 z = true then 65 else 55)) (LI' := [some (.ref 274), some (.int z), some (.int r2)]) (LL' := []) (st' := []) (S' := (z_SH, m3, w4)) (fun nq hq => And.intro rfl (And.intro rfl (And.intro rfl hq))) ?_
          refine g_ge (fun hc5 => ?_) (fun hc5 => absurd (hx1) hc5)
          refine g_k 4 (pc' := 71) (LI' := [some (.ref 274), some (.int z), some (.int r2)]) (LL' := []) (st' := [.int (m3 279 2)]) (S' := (z_SH, m3, w4)) (fun nq hq => And.intro rfl (And.intro rfl (And.intro rfl (And.intro rfl hq)))) ?_
          exact ⟨1, And.intro rfl (⟨(by subst hg4; subst hg3; subst hg2; subst hg1; unfold f_X9_drift_274; (first | rw [if_pos hc1] | skip); (first | rw [if_pos hc2] | skip); (first | rw [if_neg hc3] | skip); (first | rw [if_pos hc4] | skip); try rfl), (by subst hg4; subst hg3; subst hg2; subst hg1; unfold h_X9_drift_274 g_X9_drift_274; (try simp only [if_pos hc1]); (try simp only [if_pos hc2]); (try simp only [if_neg hc3]); (try simp only [if_pos hc4]); try rfl)⟩)⟩
        · refine g_k 1 (pc' := 47) (LI' := [some (.ref 274), some (.int z), none]) (LL' := []) (st' := [.int (-1000000004)]) (S' := (z_SH, M, L)) (fun nq hq => And.intro rfl hq) ?_
          exact ⟨1, And.intro rfl (⟨(by subst hg1; unfold f_X9_drift_274; (first | rw [if_pos hc1] | skip); (first | rw [if_pos hc2] | skip); (first | rw [if_neg hc3] | skip); (first | rw [if_neg hc4] | skip); try rfl), (by subst hg1; unfold h_X9_drift_274 g_X9_drift_274; (try simp only [if_pos hc1]); (try simp only [if_pos hc2]); (try simp only [if_neg hc3]); (try simp only [if_neg hc4]); try rfl)⟩)⟩
    · refine g_k 1 (pc' := 22) (LI' := [some (.ref 274), some (.int z), none]) (LL' := []) (st' := [.int (-1000000003)]) (S' := (z_SH, M, L)) (fun nq hq => And.intro rfl hq) ?_
      exact ⟨1, And.intro rfl (⟨(by subst hg1; unfold f_X9_drift_274; (first | rw [if_pos hc1] | skip); (first | rw [if_neg (not_not_intro hc2)] | skip); try rfl), (by subst hg1; unfold h_X9_drift_274 g_X9_drift_274; (try simp only [if_pos hc1]); (try simp only [if_neg (not_not_intro hc2)]); try rfl)⟩)⟩
  · refine g_k 1 (pc' := 12) (LI' := [some (.ref 274), some (.int z), none]) (LL' := []) (st' := [.int (-1000000002)]) (S' := (z_SH, M, L)) (fun nq hq => And.intro rfl hq) ?_
    exact ⟨1, And.intro rfl (⟨(by subst hg1; unfold f_X9_drift_274; (first | rw [if_neg (not_not_intro hc1)] | skip); try rfl), (by subst hg1; unfold h_X9_drift_274 g_X9_drift_274; (try simp only [if_neg (not_not_intro hc1)]); try rfl)⟩)⟩
def s_quiet (b : Int32) (n : Nat) : Int64 := Nat.rec (motive := fun _ => Int64) 1000000000 (fun _ r => r * b.toInt64 / 100) n
theorem l_quiet8 {d : Nat} {L : Nat → Nat → Int64} {Q : Option Value → z_St → Prop} (M : Nat → Nat → Int32) (a b : Int32) (n : Nat) : (∀ k, k < n → ¬ (a ≤ nI k)) → z_G d tb_X8_quiet 28 [some (.ref 0), some (.int a), some (.int b), none, none, some (.int (nI n))] [none, none, none, some (s_quiet b n), none, none] [] (z_SH, M, L) Q → z_G d tb_X8_quiet 28 [some (.ref 0), some (.int a), some (.int b), none, none, some (.int (nI 0))] [none, none, none, some (1000000000), none, none] [] (z_SH, M, L) Q := by
  induction n with
  | zero =>
    intro hc h
    exact h
  | succ n ih =>
    intro hc h
    refine ih (fun k hk => hc k (by omega)) ?_
    have hcn := hc n (by omega)
    clear ih hc
    have hs : s_quiet b (n + 1) = s_quiet b n * b.toInt64 / 100 := rfl
    rw [hs] at h
    clear hs
    generalize s_quiet b n = sg at *
    refine g_k 3 (pc' := (if z_cmp .ge (nI n) a = true then 49 else 34)) (LI' := [some (.ref 0), some (.int a), some (.int b), none, none, some (.int (nI n))]) (LL' := [none, none, none, some (sg), none, none]) (st' := []) (S' := (z_SH, M, L)) (fun nq hq => And.intro rfl (And.intro rfl (And.intro rfl hq))) ?_
    refine g_ge (fun hc1 => absurd hc1 hcn) (fun hc1 => ?_)
    refine g_k 9 (pc' := 28) (LI' := [some (.ref 0), some (.int a), some (.int b), none, none, some (.int (nI n + 1))]) (LL' := [none, none, none, some (sg * b.toInt64 / 100), none, none]) (st' := []) (S' := (z_SH, M, L)) (fun nq hq => And.intro rfl (And.intro rfl (And.intro rfl (And.intro rfl (And.intro rfl (And.intro rfl (And.intro rfl (And.intro rfl (And.intro rfl hq))))))))) ?_
    rw [nI_1]
    exact h
theorem l_quiet9 {d : Nat} {L : Nat → Nat → Int64} {Q : Option Value → z_St → Prop} (M : Nat → Nat → Int32) (a b : Int32) (n : Nat) : (∀ k, k < n → ¬ (a ≤ nI k)) → z_G d tb_X9_quiet 30 [some (.ref 274), some (.int a), some (.int b), none, none, some (.int (nI n))] [none, none, none, some (s_quiet b n), none, none] [] (z_SH, M, L) Q → z_G d tb_X9_quiet 30 [some (.ref 274), some (.int a), some (.int b), none, none, some (.int (nI 0))] [none, none, none, some (1000000000), none, none] [] (z_SH, M, L) Q := by
  induction n with
  | zero =>
    intro hc h
    exact h
  | succ n ih =>
    intro hc h
    refine ih (fun k hk => hc k (by omega)) ?_
    have hcn := hc n (by omega)
    clear ih hc
    have hs : s_quiet b (n + 1) = s_quiet b n * b.toInt64 / 100 := rfl
    rw [hs] at h
    clear hs
    generalize s_quiet b n = sg at *
    refine g_k 3 (pc' := (if z_cmp .ge (nI n) a = true then 51 else 36)) (LI' := [some (.ref 274), some (.int a), some (.int b), none, none, some (.int (nI n))]) (LL' := [none, none, none, some (sg), none, none]) (st' := []) (S' := (z_SH, M, L)) (fun nq hq => And.intro rfl (And.intro rfl (And.intro rfl hq))) ?_
    refine g_ge (fun hc1 => absurd hc1 hcn) (fun hc1 => ?_)
    refine g_k 9 (pc' := 30) (LI' := [some (.ref 274), some (.int a), some (.int b), none, none, some (.int (nI n + 1))]) (LL' := [none, none, none, some (sg * b.toInt64 / 100), none, none]) (st' := []) (S' := (z_SH, M, L)) (fun nq hq => And.intro rfl (And.intro rfl (And.intro rfl (And.intro rfl (And.intro rfl (And.intro rfl (And.intro rfl (And.intro rfl (And.intro rfl hq))))))))) ?_
    rw [nI_1]
    exact h
def f_X8_quiet_0 (M : Nat → Nat → Int32) (a : Int32) (b : Int32) : Int32 := if ¬ (f_X8_isOutside M a ((61 : Int32))) = (0 : Int32) then (-1000000002 : Int32) else if (f_X8_isOutside M b ((101 : Int32))) = (0 : Int32) then (s_quiet b (a.toNatClampNeg)).toInt32 else (-1000000002 : Int32)
theorem c_X8_quiet_0 {d : Nat} {L : Nat → Nat → Int64} (M : Nat → Nat → Int32) (a : Int32) (b : Int32)  : z_C (d + 2) 93 [.ref 0, .int a, .int b] (z_SH, M, L) (some (.int (f_X8_quiet_0 M a b))) (z_SH, M, L) := by
  refine z_mkA (tb := tb_X8_quiet) rfl (by decide) rfl rfl rfl ?_
  refine g_k 2 (pc' := 3) (LI' := [some (.ref 0), some (.int a), some (.int b), none, none, none]) (LL' := [none, none, none, none, none, none]) (st' := [.int 61, .int a]) (S' := (z_SH, M, L)) (fun nq hq => And.intro rfl (And.intro rfl hq)) ?_
  refine g_k 1 (pc' := 6) (LI' := [some (.ref 0), some (.int a), some (.int b), none, none, none]) (LL' := [none, none, none, none, none, none]) (st' := [.int (f_X8_isOutside M a ((61 : Int32)))]) (S' := (z_SH, M, L)) (fun nq hq => And.intro rfl (Exists.intro _ (Exists.intro _ (And.intro (c_X8_isOutside (d := d) M a ((61 : Int32))) (And.intro (z_fit_same _ _ _ _ _ _ _ _) hq))))) ?_
  generalize hg1 : f_X8_isOutside M a ((61 : Int32)) = r1 at *
  refine g_k 1 (pc' := (if z_cmp .ne r1 ((0 : Int32)) = true then 18 else 9)) (LI' := [some (.ref 0), some (.int a), some (.int b), none, none, none]) (LL' := [none, none, none, none, none, none]) (st' := []) (S' := (z_SH, M, L)) (fun nq hq => And.intro rfl hq) ?_
  refine g_ne (fun hc1 => ?_) (fun hc1 => ?_)
  · refine g_k 1 (pc' := 20) (LI' := [some (.ref 0), some (.int a), some (.int b), none, none, none]) (LL' := [none, none, none, none, none, none]) (st' := [.int (-1000000002)]) (S' := (z_SH, M, L)) (fun nq hq => And.intro rfl hq) ?_
    exact ⟨1, And.intro rfl (⟨(by subst hg1; unfold f_X8_quiet_0; (first | rw [if_pos hc1] | skip); try rfl), rfl⟩)⟩
  · refine g_k 2 (pc' := 12) (LI' := [some (.ref 0), some (.int a), some (.int b), none, none, none]) (LL' := [none, none, none, none, none, none]) (st' := [.int 101, .int b]) (S' := (z_SH, M, L)) (fun nq hq => And.intro rfl (And.intro rfl hq)) ?_
    refine g_k 1 (pc' := 15) (LI' := [some (.ref 0), some (.int a), some (.int b), none, none, none]) (LL' := [none, none, none, none, none, none]) (st' := [.int (f_X8_isOutside M b ((101 : Int32)))]) (S' := (z_SH, M, L)) (fun nq hq => And.intro rfl (Exists.intro _ (Exists.intro _ (And.intro (c_X8_isOutside (d := d) M b ((101 : Int32))) (And.intro (z_fit_same _ _ _ _ _ _ _ _) hq))))) ?_
    generalize hg2 : f_X8_isOutside M b ((101 : Int32)) = r2 at *
    refine g_k 1 (pc' := (if z_cmp .eq r2 ((0 : Int32)) = true then 21 else 18)) (LI' := [some (.ref 0), some (.int a), some (.int b), none, none, none]) (LL' := [none, none, none, none, none, none]) (st' := []) (S' := (z_SH, M, L)) (fun nq hq => And.intro rfl hq) ?_
    refine g_eq (fun hc2 => ?_) (fun hc2 => ?_)
    · refine g_k 4 (pc' := 28) (LI' := [some (.ref 0), some (.int a), some (.int b), none, none, some (.int 0)]) (LL' := [none, none, none, some (1000000000), none, none]) (st' := []) (S' := (z_SH, M, L)) (fun nq hq => And.intro rfl (And.intro rfl (And.intro rfl (And.intro rfl hq)))) ?_
      refine l_quiet8 (d := d + 1) M a b (a.toNatClampNeg) (fun k hk => z_lpc hk) ?_
      have hx1 : a ≤ nI (a.toNatClampNeg) := z_lpe
      generalize hg3 : nI (a.toNatClampNeg) = r3 at *
      refine g_k 3 (pc' := (if z_cmp .ge r3 a = true then 49 else 34)) (LI' := [some (.ref 0), some (.int a), some (.int b), none, none, some (.int r3)]) (LL' := [none, none, none, some (s_quiet b (a.toNatClampNeg)), none, none]) (st' := []) (S' := (z_SH, M, L)) (fun nq hq => And.intro rfl (And.intro rfl (And.intro rfl hq))) ?_
      refine g_ge (fun hc3 => ?_) (fun hc3 => absurd (hx1) hc3)
      refine g_k 2 (pc' := 51) (LI' := [some (.ref 0), some (.int a), some (.int b), none, none, some (.int r3)]) (LL' := [none, none, none, some (s_quiet b (a.toNatClampNeg)), none, none]) (st' := [.int ((s_quiet b (a.toNatClampNeg)).toInt32)]) (S' := (z_SH, M, L)) (fun nq hq => And.intro rfl (And.intro rfl hq)) ?_
      exact ⟨1, And.intro rfl (⟨(by subst hg3; subst hg2; subst hg1; unfold f_X8_quiet_0; (first | rw [if_neg (not_not_intro hc1)] | skip); (first | rw [if_pos hc2] | skip); try rfl), rfl⟩)⟩
    · refine g_k 1 (pc' := 20) (LI' := [some (.ref 0), some (.int a), some (.int b), none, none, none]) (LL' := [none, none, none, none, none, none]) (st' := [.int (-1000000002)]) (S' := (z_SH, M, L)) (fun nq hq => And.intro rfl hq) ?_
      exact ⟨1, And.intro rfl (⟨(by subst hg2; subst hg1; unfold f_X8_quiet_0; (first | rw [if_neg (not_not_intro hc1)] | skip); (first | rw [if_neg hc2] | skip); try rfl), rfl⟩)⟩
def f_X9_quiet_274 (M : Nat → Nat → Int32) (a : Int32) (b : Int32) : Int32 := if (f_X9_in M a ((0 : Int32)) ((60 : Int32))) = (0 : Int32) then (-1000000002 : Int32) else if ¬ (f_X9_in M b ((0 : Int32)) ((100 : Int32))) = (0 : Int32) then (s_quiet b (a.toNatClampNeg)).toInt32 else (-1000000002 : Int32)
theorem c_X9_quiet_274 {d : Nat} {L : Nat → Nat → Int64} (M : Nat → Nat → Int32) (a : Int32) (b : Int32)  : z_C (d + 2) 170 [.ref 274, .int a, .int b] (z_SH, M, L) (some (.int (f_X9_quiet_274 M a b))) (z_SH, M, L) := by
  refine z_mkA (tb := tb_X9_quiet) rfl (by decide) rfl rfl rfl ?_
  refine g_k 3 (pc' := 4) (LI' := [some (.ref 274), some (.int a), some (.int b), none, none, none]) (LL' := [none, none, none, none, none, none]) (st' := [.int 60, .int 0, .int a]) (S' := (z_SH, M, L)) (fun nq hq => And.intro rfl (And.intro rfl (And.intro rfl hq))) ?_
  refine g_k 1 (pc' := 7) (LI' := [some (.ref 274), some (.int a), some (.int b), none, none, none]) (LL' := [none, none, none, none, none, none]) (st' := [.int (f_X9_in M a ((0 : Int32)) ((60 : Int32)))]) (S' := (z_SH, M, L)) (fun nq hq => And.intro rfl (Exists.intro _ (Exists.intro _ (And.intro (c_X9_in (d := d) M a ((0 : Int32)) ((60 : Int32))) (And.intro (z_fit_same _ _ _ _ _ _ _ _) hq))))) ?_
  generalize hg1 : f_X9_in M a ((0 : Int32)) ((60 : Int32)) = r1 at *
  refine g_k 1 (pc' := (if z_cmp .eq r1 ((0 : Int32)) = true then 20 else 10)) (LI' := [some (.ref 274), some (.int a), some (.int b), none, none, none]) (LL' := [none, none, none, none, none, none]) (st' := []) (S' := (z_SH, M, L)) (fun nq hq => And.intro rfl hq) ?_
  refine g_eq (fun hc1 => ?_) (fun hc1 => ?_)
  · refine g_k 1 (pc' := 22) (LI' := [some (.ref 274), some (.int a), some (.int b), none, none, none]) (LL' := [none, none, none, none, none, none]) (st' := [.int (-1000000002)]) (S' := (z_SH, M, L)) (fun nq hq => And.intro rfl hq) ?_
    exact ⟨1, And.intro rfl (⟨(by subst hg1; unfold f_X9_quiet_274; (first | rw [if_pos hc1] | skip); try rfl), rfl⟩)⟩
  · refine g_k 3 (pc' := 14) (LI' := [some (.ref 274), some (.int a), some (.int b), none, none, none]) (LL' := [none, none, none, none, none, none]) (st' := [.int 100, .int 0, .int b]) (S' := (z_SH, M, L)) (fun nq hq => And.intro rfl (And.intro rfl (And.intro rfl hq))) ?_
    refine g_k 1 (pc' := 17) (LI' := [some (.ref 274), some (.int a), some (.int b), none, none, none]) (LL' := [none, none, none, none, none, none]) (st' := [.int (f_X9_in M b ((0 : Int32)) ((100 : Int32)))]) (S' := (z_SH, M, L)) (fun nq hq => And.intro rfl (Exists.intro _ (Exists.intro _ (And.intro (c_X9_in (d := d) M b ((0 : Int32)) ((100 : Int32))) (And.intro (z_fit_same _ _ _ _ _ _ _ _) hq))))) ?_
    generalize hg2 : f_X9_in M b ((0 : Int32)) ((100 : Int32)) = r2 at *
    refine g_k 1 (pc' := (if z_cmp .ne r2 ((0 : Int32)) = true then 23 else 20)) (LI' := [some (.ref 274), some (.int a), some (.int b), none, none, none]) (LL' := [none, none, none, none, none, none]) (st' := []) (S' := (z_SH, M, L)) (fun nq hq => And.intro rfl hq) ?_
    refine g_ne (fun hc2 => ?_) (fun hc2 => ?_)
    · refine g_k 4 (pc' := 30) (LI' := [some (.ref 274), some (.int a), some (.int b), none, none, some (.int 0)]) (LL' := [none, none, none, some (1000000000), none, none]) (st' := []) (S' := (z_SH, M, L)) (fun nq hq => And.intro rfl (And.intro rfl (And.intro rfl (And.intro rfl hq)))) ?_
      refine l_quiet9 (d := d + 1) M a b (a.toNatClampNeg) (fun k hk => z_lpc hk) ?_
      have hx1 : a ≤ nI (a.toNatClampNeg) := z_lpe
      generalize hg3 : nI (a.toNatClampNeg) = r3 at *
      refine g_k 3 (pc' := (if z_cmp .ge r3 a = true then 51 else 36)) (LI' := [some (.ref 274), some (.int a), some (.int b), none, none, some (.int r3)]) (LL' := [none, none, none, some (s_quiet b (a.toNatClampNeg)), none, none]) (st' := []) (S' := (z_SH, M, L)) (fun nq hq => And.intro rfl (And.intro rfl (And.intro rfl hq))) ?_
      refine g_ge (fun hc3 => ?_) (fun hc3 => absurd (hx1) hc3)
      refine g_k 2 (pc' := 53) (LI' := [some (.ref 274), some (.int a), some (.int b), none, none, some (.int r3)]) (LL' := [none, none, none, some (s_quiet b (a.toNatClampNeg)), none, none]) (st' := [.int ((s_quiet b (a.toNatClampNeg)).toInt32)]) (S' := (z_SH, M, L)) (fun nq hq => And.intro rfl (And.intro rfl hq)) ?_
      exact ⟨1, And.intro rfl (⟨(by subst hg3; subst hg2; subst hg1; unfold f_X9_quiet_274; (first | rw [if_neg hc1] | skip); (first | rw [if_pos hc2] | skip); try rfl), rfl⟩)⟩
    · refine g_k 1 (pc' := 22) (LI' := [some (.ref 274), some (.int a), some (.int b), none, none, none]) (LL' := [none, none, none, none, none, none]) (st' := [.int (-1000000002)]) (S' := (z_SH, M, L)) (fun nq hq => And.intro rfl hq) ?_
      exact ⟨1, And.intro rfl (⟨(by subst hg2; subst hg1; unfold f_X9_quiet_274; (first | rw [if_neg hc1] | skip); (first | rw [if_neg (not_not_intro hc2)] | skip); try rfl), rfl⟩)⟩
