def e_X9_sessionOn_274_279_50_M (M : Nat → Nat → Int32)  (i : Int32)  : Nat → Nat → Int32 := z_row M 279 (upd (M 279) ((((59 : Int32)) + i).toNatClampNeg) ((M 279 ((((59 : Int32)) + i).toNatClampNeg)) / ((2 : Int32))))
def qi_X9_sessionOn_274_279_50 (M : Nat → Nat → Int32)  (i : Int32)  : Prop := (z_vin (((59 : Int32)) + i) 83 = true) ∧ True
theorem it_X9_sessionOn_274_279_50 {d : Nat} {L : Nat → Nat → Int64} {Q : Option Value → z_St → Prop} (M : Nat → Nat → Int32)  (i : Int32)  (hc : ¬ (M 279 10 ≤ i)) (p1 : qi_X9_sessionOn_274_279_50 M i) (h : z_G (d + 0) tb_X9_sessionOn 50 [some (.ref 274), some (.ref 279), some (.int (i + 1))] [] [] (z_SH, e_X9_sessionOn_274_279_50_M M i, L) Q) : z_G (d + 0) tb_X9_sessionOn 50 [some (.ref 274), some (.ref 279), some (.int i)] [] [] (z_SH, M, L) Q := by
  unfold qi_X9_sessionOn_274_279_50 at p1
  obtain ⟨p1, -⟩ := p1
  refine g_k 5 (pc' := (if z_cmp .ge i (M 279 10) = true then 74 else 58)) (LI' := [some (.ref 274), some (.ref 279), some (.int i)]) (LL' := []) (st' := []) (S' := (z_SH, M, L)) (fun nq hq => And.intro rfl (And.intro rfl (And.intro rfl (And.intro rfl (And.intro rfl hq))))) ?_
  refine g_ge (fun hc1 => ?_) (fun hc1 => ?_)
  · exact absurd hc1 hc
  · refine g_k 9 (pc' := 68) (LI' := [some (.ref 274), some (.ref 279), some (.int i)]) (LL' := []) (st' := []) (S' := (z_SH, z_row M 279 (upd (M 279) ((((59 : Int32)) + i).toNatClampNeg) ((M 279 ((((59 : Int32)) + i).toNatClampNeg)) / ((2 : Int32)))), L)) (fun nq hq => And.intro rfl (And.intro rfl (And.intro rfl (And.intro rfl (And.intro rfl (And.intro p1 (And.intro rfl (And.intro rfl (And.intro p1 hq))))))))) ?_
    refine g_k 2 (pc' := 50) (LI' := [some (.ref 274), some (.ref 279), some (.int (i + 1))]) (LL' := []) (st' := []) (S' := (z_SH, z_row M 279 (upd (M 279) ((((59 : Int32)) + i).toNatClampNeg) ((M 279 ((((59 : Int32)) + i).toNatClampNeg)) / ((2 : Int32)))), L)) (fun nq hq => And.intro rfl (And.intro rfl hq)) ?_
    (unfold e_X9_sessionOn_274_279_50_M at h; exact h )
def s_X9_sessionOn_274_279_50 (M : Nat → Nat → Int32)   (n : Nat) : (Nat → Nat → Int32) := Nat.rec (motive := fun _ => (Nat → Nat → Int32)) (M) (fun k r => (e_X9_sessionOn_274_279_50_M r (nI k))) n
theorem fr_e_X9_sessionOn_274_279_50_M (M : Nat → Nat → Int32)  (i : Int32)  (c : Nat) (h279 : c ≠ 279) : e_X9_sessionOn_274_279_50_M M i c = M c := by
  unfold e_X9_sessionOn_274_279_50_M
  repeat' split
  all_goals simp only [z_row_ne h279]
theorem fr_s_X9_sessionOn_274_279_50 (M : Nat → Nat → Int32)   (n : Nat) (c : Nat) (h279 : c ≠ 279) : ((s_X9_sessionOn_274_279_50 M n)) c = M c := by
  induction n with
  | zero => rfl
  | succ n ih => exact (fr_e_X9_sessionOn_274_279_50_M _  (nI n)  c h279).trans ih
theorem l_X9_sessionOn_274_279_50 {d : Nat} {L : Nat → Nat → Int64} {Q : Option Value → z_St → Prop} (M : Nat → Nat → Int32)   (n : Nat) : (∀ k, k < n → ¬ (((s_X9_sessionOn_274_279_50 M k)) 279 10 ≤ (nI k))) → (∀ k, k < n → qi_X9_sessionOn_274_279_50 ((s_X9_sessionOn_274_279_50 M k)) (nI k)) → (z_G (d + 0) tb_X9_sessionOn 50 [some (.ref 274), some (.ref 279), some (.int (nI n))] [] [] (z_SH, (s_X9_sessionOn_274_279_50 M n), L) Q) → z_G (d + 0) tb_X9_sessionOn 50 [some (.ref 274), some (.ref 279), some (.int (nI 0))] [] [] (z_SH, M, L) Q := by
  induction n with
  | zero =>
    intro hc p1 h
    exact h
  | succ n ih =>
    intro hc p1 h
    refine ih (fun k hk => hc k (by omega)) (fun k hk => p1 k (by omega)) ?_
    have hcn := hc n (by omega)
    have p1n := p1 n (by omega)
    clear ih hc p1
    have hs : s_X9_sessionOn_274_279_50 M (n + 1) = (e_X9_sessionOn_274_279_50_M ((s_X9_sessionOn_274_279_50 M n)) (nI n)) := rfl
    rw [hs] at h
    clear hs
    generalize s_X9_sessionOn_274_279_50 M n = sg at *
    refine it_X9_sessionOn_274_279_50 sg  (nI n)  hcn p1n ?_
    rw [nI_1]
    exact h
def e_X9_sessionOn_274_279_2_M (M : Nat → Nat → Int32)  (i : Int32)  : Nat → Nat → Int32 := if ¬ M 276 ((i).toNatClampNeg) = (1 : Int32) then z_row M 279 (upd (M 279) ((((4 : Int32)) + i).toNatClampNeg) ((M 279 ((((4 : Int32)) + i).toNatClampNeg)) - ((0 : Int32)))) else if M 279 ((((4 : Int32)) + i).toNatClampNeg) ≤ (1 : Int32) then z_row M 279 (upd (M 279) ((((4 : Int32)) + i).toNatClampNeg) ((M 279 ((((4 : Int32)) + i).toNatClampNeg)) - ((0 : Int32)))) else z_row M 279 (upd (M 279) ((((4 : Int32)) + i).toNatClampNeg) ((M 279 ((((4 : Int32)) + i).toNatClampNeg)) - ((1 : Int32))))
def qi_X9_sessionOn_274_279_2 (M : Nat → Nat → Int32)  (i : Int32)  : Prop := (z_vin (((4 : Int32)) + i) 83 = true) ∧ (z_vin i 6 = true) ∧ True
theorem it_X9_sessionOn_274_279_2 {d : Nat} {L : Nat → Nat → Int64} {Q : Option Value → z_St → Prop} (M : Nat → Nat → Int32)  (i : Int32)  (hc : ¬ (M 274 4 ≤ i)) (p1 : qi_X9_sessionOn_274_279_2 M i) (h : z_G (d + 0) tb_X9_sessionOn 2 [some (.ref 274), some (.ref 279), some (.int (i + 1))] [] [] (z_SH, e_X9_sessionOn_274_279_2_M M i, L) Q) : z_G (d + 0) tb_X9_sessionOn 2 [some (.ref 274), some (.ref 279), some (.int i)] [] [] (z_SH, M, L) Q := by
  unfold qi_X9_sessionOn_274_279_2 at p1
  obtain ⟨p1, p2, -⟩ := p1
  refine g_k 4 (pc' := (if z_cmp .ge i (M 274 4) = true then 48 else 10)) (LI' := [some (.ref 274), some (.ref 279), some (.int i)]) (LL' := []) (st' := []) (S' := (z_SH, M, L)) (fun nq hq => And.intro rfl (And.intro rfl (And.intro rfl (And.intro rfl hq)))) ?_
  refine g_ge (fun hc1 => ?_) (fun hc1 => ?_)
  · exact absurd hc1 hc
  · refine g_k 9 (pc' := 21) (LI' := [some (.ref 274), some (.ref 279), some (.int i)]) (LL' := []) (st' := [.int i, .ref 276, .int (M 279 ((((4 : Int32)) + i).toNatClampNeg)), .int (((4 : Int32)) + i), .ref 279]) (S' := (z_SH, M, L)) (fun nq hq => And.intro rfl (And.intro rfl (And.intro rfl (And.intro rfl (And.intro rfl (And.intro p1 (And.intro rfl (And.intro rfl (And.intro rfl hq))))))))) ?_
    refine g_k 3 (pc' := (if z_cmp .ne (M 276 ((i).toNatClampNeg)) ((1 : Int32)) = true then 39 else 26)) (LI' := [some (.ref 274), some (.ref 279), some (.int i)]) (LL' := []) (st' := [.int (M 279 ((((4 : Int32)) + i).toNatClampNeg)), .int (((4 : Int32)) + i), .ref 279]) (S' := (z_SH, M, L)) (fun nq hq => And.intro p2 (And.intro rfl (And.intro rfl hq))) ?_
    refine g_ne (fun hc2 => ?_) (fun hc2 => ?_)
    · refine g_k 5 (pc' := 2) (LI' := [some (.ref 274), some (.ref 279), some (.int (i + 1))]) (LL' := []) (st' := []) (S' := (z_SH, z_row M 279 (upd (M 279) ((((4 : Int32)) + i).toNatClampNeg) ((M 279 ((((4 : Int32)) + i).toNatClampNeg)) - ((0 : Int32)))), L)) (fun nq hq => And.intro rfl (And.intro rfl (And.intro p1 (And.intro rfl (And.intro rfl hq))))) ?_
      (unfold e_X9_sessionOn_274_279_2_M at h; (try simp only [if_pos hc2] at h); exact h )
    · refine g_k 7 (pc' := (if z_cmp .le (M 279 ((((4 : Int32)) + i).toNatClampNeg)) ((1 : Int32)) = true then 39 else 35)) (LI' := [some (.ref 274), some (.ref 279), some (.int i)]) (LL' := []) (st' := [.int (M 279 ((((4 : Int32)) + i).toNatClampNeg)), .int (((4 : Int32)) + i), .ref 279]) (S' := (z_SH, M, L)) (fun nq hq => And.intro rfl (And.intro rfl (And.intro rfl (And.intro rfl (And.intro p1 (And.intro rfl (And.intro rfl hq))))))) ?_
      refine g_le (fun hc3 => ?_) (fun hc3 => ?_)
      · refine g_k 5 (pc' := 2) (LI' := [some (.ref 274), some (.ref 279), some (.int (i + 1))]) (LL' := []) (st' := []) (S' := (z_SH, z_row M 279 (upd (M 279) ((((4 : Int32)) + i).toNatClampNeg) ((M 279 ((((4 : Int32)) + i).toNatClampNeg)) - ((0 : Int32)))), L)) (fun nq hq => And.intro rfl (And.intro rfl (And.intro p1 (And.intro rfl (And.intro rfl hq))))) ?_
        (unfold e_X9_sessionOn_274_279_2_M at h; (try simp only [if_neg (not_not_intro hc2)] at h); (try simp only [if_pos hc3] at h); exact h )
      · refine g_k 6 (pc' := 2) (LI' := [some (.ref 274), some (.ref 279), some (.int (i + 1))]) (LL' := []) (st' := []) (S' := (z_SH, z_row M 279 (upd (M 279) ((((4 : Int32)) + i).toNatClampNeg) ((M 279 ((((4 : Int32)) + i).toNatClampNeg)) - ((1 : Int32)))), L)) (fun nq hq => And.intro rfl (And.intro rfl (And.intro rfl (And.intro p1 (And.intro rfl (And.intro rfl hq)))))) ?_
        (unfold e_X9_sessionOn_274_279_2_M at h; (try simp only [if_neg (not_not_intro hc2)] at h); (try simp only [if_neg hc3] at h); exact h )
def s_X9_sessionOn_274_279_2 (M : Nat → Nat → Int32)   (n : Nat) : (Nat → Nat → Int32) := Nat.rec (motive := fun _ => (Nat → Nat → Int32)) (M) (fun k r => (e_X9_sessionOn_274_279_2_M r (nI k))) n
theorem fr_e_X9_sessionOn_274_279_2_M (M : Nat → Nat → Int32)  (i : Int32)  (c : Nat) (h279 : c ≠ 279) : e_X9_sessionOn_274_279_2_M M i c = M c := by
  unfold e_X9_sessionOn_274_279_2_M
  repeat' split
  all_goals simp only [z_row_ne h279]
theorem fr_s_X9_sessionOn_274_279_2 (M : Nat → Nat → Int32)   (n : Nat) (c : Nat) (h279 : c ≠ 279) : ((s_X9_sessionOn_274_279_2 M n)) c = M c := by
  induction n with
  | zero => rfl
  | succ n ih => exact (fr_e_X9_sessionOn_274_279_2_M _  (nI n)  c h279).trans ih
theorem l_X9_sessionOn_274_279_2 {d : Nat} {L : Nat → Nat → Int64} {Q : Option Value → z_St → Prop} (M : Nat → Nat → Int32)   (n : Nat) : (∀ k, k < n → ¬ (((s_X9_sessionOn_274_279_2 M k)) 274 4 ≤ (nI k))) → (∀ k, k < n → qi_X9_sessionOn_274_279_2 ((s_X9_sessionOn_274_279_2 M k)) (nI k)) → (z_G (d + 0) tb_X9_sessionOn 2 [some (.ref 274), some (.ref 279), some (.int (nI n))] [] [] (z_SH, (s_X9_sessionOn_274_279_2 M n), L) Q) → z_G (d + 0) tb_X9_sessionOn 2 [some (.ref 274), some (.ref 279), some (.int (nI 0))] [] [] (z_SH, M, L) Q := by
  induction n with
  | zero =>
    intro hc p1 h
    exact h
  | succ n ih =>
    intro hc p1 h
    refine ih (fun k hk => hc k (by omega)) (fun k hk => p1 k (by omega)) ?_
    have hcn := hc n (by omega)
    have p1n := p1 n (by omega)
    clear ih hc p1
    have hs : s_X9_sessionOn_274_279_2 M (n + 1) = (e_X9_sessionOn_274_279_2_M ((s_X9_sessionOn_274_279_2 M n)) (nI n)) := rfl
    rw [hs] at h
    clear hs
    generalize s_X9_sessionOn_274_279_2 M n = sg at *
    refine it_X9_sessionOn_274_279_2 sg  (nI n)  hcn p1n ?_
    rw [nI_1]
    exact h
def g_X9_sessionOn_274_279 (M : Nat → Nat → Int32)  : Nat → Nat → Int32 := z_row ((s_X9_sessionOn_274_279_50 ((s_X9_sessionOn_274_279_2 M ((M 274 4).toNatClampNeg))) ((((s_X9_sessionOn_274_279_2 M ((M 274 4).toNatClampNeg))) 279 10).toNatClampNeg))) 279 (upd (((s_X9_sessionOn_274_279_50 ((s_X9_sessionOn_274_279_2 M ((M 274 4).toNatClampNeg))) ((((s_X9_sessionOn_274_279_2 M ((M 274 4).toNatClampNeg))) 279 10).toNatClampNeg))) 279) 3 ((((s_X9_sessionOn_274_279_50 ((s_X9_sessionOn_274_279_2 M ((M 274 4).toNatClampNeg))) ((((s_X9_sessionOn_274_279_2 M ((M 274 4).toNatClampNeg))) 279 10).toNatClampNeg))) 279 3) + ((1 : Int32))))
theorem fr_g_X9_sessionOn_274_279 (M : Nat → Nat → Int32)  (c : Nat) (h279 : c ≠ 279) : g_X9_sessionOn_274_279 M c = M c := by
  unfold g_X9_sessionOn_274_279
  repeat' split
  all_goals simp only [z_row_ne h279, fr_s_X9_sessionOn_274_279_2 (c := c) (h279 := h279), fr_s_X9_sessionOn_274_279_50 (c := c) (h279 := h279)]
def q_X9_sessionOn_274_279 (M : Nat → Nat → Int32)  : Prop := (∀ k64, k64 < (M 274 4).toNatClampNeg → qi_X9_sessionOn_274_279_2 ((s_X9_sessionOn_274_279_2 M k64)) (nI k64)) ∧ (∀ k63, k63 < (((s_X9_sessionOn_274_279_2 M ((M 274 4).toNatClampNeg))) 279 10).toNatClampNeg → qi_X9_sessionOn_274_279_50 ((s_X9_sessionOn_274_279_50 ((s_X9_sessionOn_274_279_2 M ((M 274 4).toNatClampNeg))) k63)) (nI k63)) ∧ (∀ k63, k63 < (((s_X9_sessionOn_274_279_2 M ((M 274 4).toNatClampNeg))) 279 10).toNatClampNeg → ¬ (((s_X9_sessionOn_274_279_50 ((s_X9_sessionOn_274_279_2 M ((M 274 4).toNatClampNeg))) k63)) 279 10 ≤ nI k63)) ∧ (((s_X9_sessionOn_274_279_50 ((s_X9_sessionOn_274_279_2 M ((M 274 4).toNatClampNeg))) (((((s_X9_sessionOn_274_279_2 M ((M 274 4).toNatClampNeg))) 279 10).toNatClampNeg)))) 279 10 ≤ nI ((((s_X9_sessionOn_274_279_2 M ((M 274 4).toNatClampNeg))) 279 10).toNatClampNeg)) ∧ True
theorem c_X9_sessionOn_274_279 {d : Nat} {L : Nat → Nat → Int64} (M : Nat → Nat → Int32)   (hpre : q_X9_sessionOn_274_279 M) : z_C (d + 1) 138 [.ref 274, .ref 279] (z_SH, M, L) none (z_SH, g_X9_sessionOn_274_279 M, L) := by
  unfold q_X9_sessionOn_274_279 at hpre
  obtain ⟨p1, p2, p3, p4, -⟩ := hpre
  refine z_mkA (tb := tb_X9_sessionOn) rfl (by decide) rfl rfl rfl ?_
  refine g_k 2 (pc' := 2) (LI' := [some (.ref 274), some (.ref 279), some (.int 0)]) (LL' := []) (st' := []) (S' := (z_SH, M, L)) (fun nq hq => And.intro rfl (And.intro rfl hq)) ?_
  refine l_X9_sessionOn_274_279_2 (d := d) M ((M 274 4).toNatClampNeg) (fun k hk => by rw [fr_s_X9_sessionOn_274_279_2 M k 274 (by decide)]; exact z_lpc hk) p1 ?_ 
  have hx1 : ((s_X9_sessionOn_274_279_2 M ((M 274 4).toNatClampNeg))) 274 4 ≤ nI ((M 274 4).toNatClampNeg) := by rw [fr_s_X9_sessionOn_274_279_2 M ((M 274 4).toNatClampNeg) 274 (by decide)]; exact z_lpe
  generalize hg1 : nI ((M 274 4).toNatClampNeg) = r1 at *
  generalize hg2 : (s_X9_sessionOn_274_279_2 M ((M 274 4).toNatClampNeg)) = m2 at *
  refine g_k 4 (pc' := (if z_cmp .ge r1 (m2 274 4) = true then 48 else 10)) (LI' := [some (.ref 274), some (.ref 279), some (.int r1)]) (LL' := []) (st' := []) (S' := (z_SH, m2, L)) (fun nq hq => And.intro rfl (And.intro rfl (And.intro rfl (And.intro rfl hq)))) ?_
  refine g_ge (fun hc1 => ?_) (fun hc1 => absurd (hx1) hc1)
  refine g_k 2 (pc' := 50) (LI' := [some (.ref 274), some (.ref 279), some (.int 0)]) (LL' := []) (st' := []) (S' := (z_SH, m2, L)) (fun nq hq => And.intro rfl (And.intro rfl hq)) ?_
  refine l_X9_sessionOn_274_279_50 (d := d) m2 ((m2 279 10).toNatClampNeg) (fun k hk => p3 k hk) p2 ?_ 
  have hx2 : ((s_X9_sessionOn_274_279_50 m2 ((m2 279 10).toNatClampNeg))) 279 10 ≤ nI ((m2 279 10).toNatClampNeg) := p4
  generalize hg3 : nI ((m2 279 10).toNatClampNeg) = r3 at *
  generalize hg4 : (s_X9_sessionOn_274_279_50 m2 ((m2 279 10).toNatClampNeg)) = m4 at *
  refine g_k 5 (pc' := (if z_cmp .ge r3 (m4 279 10) = true then 74 else 58)) (LI' := [some (.ref 274), some (.ref 279), some (.int r3)]) (LL' := []) (st' := []) (S' := (z_SH, m4, L)) (fun nq hq => And.intro rfl (And.intro rfl (And.intro rfl (And.intro rfl (And.intro rfl hq))))) ?_
  refine g_ge (fun hc2 => ?_) (fun hc2 => absurd (hx2) hc2)
  refine g_k 7 (pc' := 81) (LI' := [some (.ref 274), some (.ref 279), some (.int r3)]) (LL' := []) (st' := []) (S' := (z_SH, z_row m4 279 (upd (m4 279) 3 ((m4 279 3) + ((1 : Int32)))), L)) (fun nq hq => And.intro rfl (And.intro rfl (And.intro rfl (And.intro rfl (And.intro rfl (And.intro rfl (And.intro rfl hq))))))) ?_
  exact ⟨1, And.intro rfl (⟨rfl, (by subst hg4; subst hg3; subst hg2; subst hg1; rfl)⟩)⟩
