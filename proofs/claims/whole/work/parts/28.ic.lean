def e_X9_bring_287_276_3_M (M : Nat → Nat → Int32) (a1 : Int32) (a3 : Int32) (a4 : Int32) (i : Int32)  : Nat → Nat → Int32 := z_row M 276 (upd (M 276) ((a3 + i).toNatClampNeg) (M 287 ((a1 + i).toNatClampNeg)))
def qi_X9_bring_287_276_3 (M : Nat → Nat → Int32) (a1 : Int32) (a3 : Int32) (a4 : Int32) (i : Int32)  : Prop := (z_vin (a1 + i) 6 = true) ∧ (z_vin (a3 + i) 6 = true) ∧ True
set_option maxRecDepth 20000 in
theorem it_X9_bring_287_276_3 {d : Nat} {L : Nat → Nat → Int64} {Q : Option Value → z_St → Prop} (M : Nat → Nat → Int32) (a1 : Int32) (a3 : Int32) (a4 : Int32) (i : Int32)  (hc : ¬ (a4 ≤ i)) (p1 : qi_X9_bring_287_276_3 M a1 a3 a4 i) (h : z_G (d + 0) tb_X9_bring 3 [some (.ref 287), some (.int a1), some (.ref 276), some (.int a3), some (.int a4), some (.int (i + 1))] [] [] (z_SH, e_X9_bring_287_276_3_M M a1 a3 a4 i, L) Q) : z_G (d + 0) tb_X9_bring 3 [some (.ref 287), some (.int a1), some (.ref 276), some (.int a3), some (.int a4), some (.int i)] [] [] (z_SH, M, L) Q := by
  unfold qi_X9_bring_287_276_3 at p1
  obtain ⟨p1, p2, -⟩ := p1
  refine g_k 3 (pc' := (if z_cmp .ge i a4 = true then 28 else 10)) (LI' := [some (.ref 287), some (.int a1), some (.ref 276), some (.int a3), some (.int a4), some (.int i)]) (LL' := []) (st' := []) (S' := (z_SH, M, L)) (fun nq hq => And.intro rfl (And.intro rfl (And.intro rfl hq))) ?_
  refine g_ge (fun hc1 => ?_) (fun hc1 => ?_)
  · exact absurd hc1 hc
  · refine g_k 9 (pc' := 21) (LI' := [some (.ref 287), some (.int a1), some (.ref 276), some (.int a3), some (.int a4), some (.int i)]) (LL' := []) (st' := [.int (M 287 ((a1 + i).toNatClampNeg)), .int (a3 + i), .ref 276]) (S' := (z_SH, M, L)) (fun nq hq => And.intro rfl (And.intro rfl (And.intro rfl (And.intro rfl (And.intro rfl (And.intro rfl (And.intro rfl (And.intro rfl (And.intro p1 hq))))))))) ?_
    refine g_k 3 (pc' := 3) (LI' := [some (.ref 287), some (.int a1), some (.ref 276), some (.int a3), some (.int a4), some (.int (i + 1))]) (LL' := []) (st' := []) (S' := (z_SH, z_row M 276 (upd (M 276) ((a3 + i).toNatClampNeg) (M 287 ((a1 + i).toNatClampNeg))), L)) (fun nq hq => And.intro p2 (And.intro rfl (And.intro rfl hq))) ?_
    (unfold e_X9_bring_287_276_3_M at h; exact h )
def s_X9_bring_287_276_3 (M : Nat → Nat → Int32) (a1 : Int32) (a3 : Int32) (a4 : Int32)  (n : Nat) : (Nat → Nat → Int32) := Nat.rec (motive := fun _ => (Nat → Nat → Int32)) (M) (fun k r => (e_X9_bring_287_276_3_M r a1 a3 a4 (nI k))) n
theorem fr_e_X9_bring_287_276_3_M (M : Nat → Nat → Int32) (a1 : Int32) (a3 : Int32) (a4 : Int32) (i : Int32)  (c : Nat) (h276 : c ≠ 276) : e_X9_bring_287_276_3_M M a1 a3 a4 i c = M c := by
  unfold e_X9_bring_287_276_3_M
  repeat' split
  all_goals simp only [z_row_ne h276]
theorem fr_s_X9_bring_287_276_3 (M : Nat → Nat → Int32) (a1 : Int32) (a3 : Int32) (a4 : Int32)  (n : Nat) (c : Nat) (h276 : c ≠ 276) : ((s_X9_bring_287_276_3 M a1 a3 a4 n)) c = M c := by
  induction n with
  | zero => rfl
  | succ n ih => exact (fr_e_X9_bring_287_276_3_M _ a1 a3 a4 (nI n)  c h276).trans ih
theorem l_X9_bring_287_276_3 {d : Nat} {L : Nat → Nat → Int64} {Q : Option Value → z_St → Prop} (M : Nat → Nat → Int32) (a1 : Int32) (a3 : Int32) (a4 : Int32)  (n : Nat) : (∀ k, k < n → ¬ (a4 ≤ (nI k))) → (∀ k, k < n → qi_X9_bring_287_276_3 ((s_X9_bring_287_276_3 M a1 a3 a4 k)) a1 a3 a4 (nI k)) → (z_G (d + 0) tb_X9_bring 3 [some (.ref 287), some (.int a1), some (.ref 276), some (.int a3), some (.int a4), some (.int (nI n))] [] [] (z_SH, (s_X9_bring_287_276_3 M a1 a3 a4 n), L) Q) → z_G (d + 0) tb_X9_bring 3 [some (.ref 287), some (.int a1), some (.ref 276), some (.int a3), some (.int a4), some (.int (nI 0))] [] [] (z_SH, M, L) Q := by
  induction n with
  | zero =>
    intro hc p1 h
    exact h
  | succ n ih =>
    intro hc p1 h
    refine ih (fun k hk => hc k (by omega)) (fun k hk => p1 k (by omega)) ?_
    have hcn := hc n (by omega)
    have p1n := p1 n (by omega)
    clear ih hc p1
    have hs : s_X9_bring_287_276_3 M a1 a3 a4 (n + 1) = (e_X9_bring_287_276_3_M ((s_X9_bring_287_276_3 M a1 a3 a4 n)) a1 a3 a4 (nI n)) := rfl
    rw [hs] at h
    clear hs
    generalize s_X9_bring_287_276_3 M a1 a3 a4 n = sg at *
    refine it_X9_bring_287_276_3 sg a1 a3 a4 (nI n)  hcn p1n ?_
    rw [nI_1]
    exact h
def g_X9_bring_287_276 (M : Nat → Nat → Int32) (a1 : Int32) (a3 : Int32) (a4 : Int32) : Nat → Nat → Int32 := ((s_X9_bring_287_276_3 M a1 a3 a4 ((a4).toNatClampNeg)))
theorem fr_g_X9_bring_287_276 (M : Nat → Nat → Int32) (a1 : Int32) (a3 : Int32) (a4 : Int32) (c : Nat) (h276 : c ≠ 276) : g_X9_bring_287_276 M a1 a3 a4 c = M c := by
  unfold g_X9_bring_287_276
  repeat' split
  all_goals simp only [z_row_ne h276, fr_s_X9_bring_287_276_3 (c := c) (h276 := h276)]
def q_X9_bring_287_276 (M : Nat → Nat → Int32) (a1 : Int32) (a3 : Int32) (a4 : Int32) : Prop := (∀ k110, k110 < (a4).toNatClampNeg → qi_X9_bring_287_276_3 ((s_X9_bring_287_276_3 M a1 a3 a4 k110)) a1 a3 a4 (nI k110)) ∧ True
set_option maxRecDepth 20000 in
theorem c_X9_bring_287_276 {d : Nat} {L : Nat → Nat → Int64} (M : Nat → Nat → Int32) (a1 : Int32) (a3 : Int32) (a4 : Int32)  (hpre : q_X9_bring_287_276 M a1 a3 a4) : z_C (d + 1) 111 [.ref 287, .int a1, .ref 276, .int a3, .int a4] (z_SH, M, L) none (z_SH, g_X9_bring_287_276 M a1 a3 a4, L) := by
  unfold q_X9_bring_287_276 at hpre
  obtain ⟨p1, -⟩ := hpre
  refine z_mkA (tb := tb_X9_bring) rfl (by decide) rfl rfl rfl ?_
  refine g_k 2 (pc' := 3) (LI' := [some (.ref 287), some (.int a1), some (.ref 276), some (.int a3), some (.int a4), some (.int 0)]) (LL' := []) (st' := []) (S' := (z_SH, M, L)) (fun nq hq => And.intro rfl (And.intro rfl hq)) ?_
  refine l_X9_bring_287_276_3 (d := d) M a1 a3 a4 ((a4).toNatClampNeg) (fun k hk => z_lpc hk) p1 ?_ 
  have hx1 : a4 ≤ nI ((a4).toNatClampNeg) := z_lpe
  generalize hg1 : nI ((a4).toNatClampNeg) = r1 at *
  generalize hg2 : (s_X9_bring_287_276_3 M a1 a3 a4 ((a4).toNatClampNeg)) = m2 at *
  refine g_k 3 (pc' := (if z_cmp .ge r1 a4 = true then 28 else 10)) (LI' := [some (.ref 287), some (.int a1), some (.ref 276), some (.int a3), some (.int a4), some (.int r1)]) (LL' := []) (st' := []) (S' := (z_SH, m2, L)) (fun nq hq => And.intro rfl (And.intro rfl (And.intro rfl hq))) ?_
  refine g_ge (fun hc1 => ?_) (fun hc1 => absurd (hx1) hc1)
  exact ⟨1, And.intro rfl (⟨rfl, (by subst hg2; subst hg1; rfl)⟩)⟩
def e_X9_bring_288_277_3_M (M : Nat → Nat → Int32) (a1 : Int32) (a3 : Int32) (a4 : Int32) (i : Int32)  : Nat → Nat → Int32 := z_row M 277 (upd (M 277) ((a3 + i).toNatClampNeg) (M 288 ((a1 + i).toNatClampNeg)))
def qi_X9_bring_288_277_3 (M : Nat → Nat → Int32) (a1 : Int32) (a3 : Int32) (a4 : Int32) (i : Int32)  : Prop := (z_vin (a1 + i) 6 = true) ∧ (z_vin (a3 + i) 6 = true) ∧ True
set_option maxRecDepth 20000 in
theorem it_X9_bring_288_277_3 {d : Nat} {L : Nat → Nat → Int64} {Q : Option Value → z_St → Prop} (M : Nat → Nat → Int32) (a1 : Int32) (a3 : Int32) (a4 : Int32) (i : Int32)  (hc : ¬ (a4 ≤ i)) (p1 : qi_X9_bring_288_277_3 M a1 a3 a4 i) (h : z_G (d + 0) tb_X9_bring 3 [some (.ref 288), some (.int a1), some (.ref 277), some (.int a3), some (.int a4), some (.int (i + 1))] [] [] (z_SH, e_X9_bring_288_277_3_M M a1 a3 a4 i, L) Q) : z_G (d + 0) tb_X9_bring 3 [some (.ref 288), some (.int a1), some (.ref 277), some (.int a3), some (.int a4), some (.int i)] [] [] (z_SH, M, L) Q := by
  unfold qi_X9_bring_288_277_3 at p1
  obtain ⟨p1, p2, -⟩ := p1
  refine g_k 3 (pc' := (if z_cmp .ge i a4 = true then 28 else 10)) (LI' := [some (.ref 288), some (.int a1), some (.ref 277), some (.int a3), some (.int a4), some (.int i)]) (LL' := []) (st' := []) (S' := (z_SH, M, L)) (fun nq hq => And.intro rfl (And.intro rfl (And.intro rfl hq))) ?_
  refine g_ge (fun hc1 => ?_) (fun hc1 => ?_)
  · exact absurd hc1 hc
  · refine g_k 9 (pc' := 21) (LI' := [some (.ref 288), some (.int a1), some (.ref 277), some (.int a3), some (.int a4), some (.int i)]) (LL' := []) (st' := [.int (M 288 ((a1 + i).toNatClampNeg)), .int (a3 + i), .ref 277]) (S' := (z_SH, M, L)) (fun nq hq => And.intro rfl (And.intro rfl (And.intro rfl (And.intro rfl (And.intro rfl (And.intro rfl (And.intro rfl (And.intro rfl (And.intro p1 hq))))))))) ?_
    refine g_k 3 (pc' := 3) (LI' := [some (.ref 288), some (.int a1), some (.ref 277), some (.int a3), some (.int a4), some (.int (i + 1))]) (LL' := []) (st' := []) (S' := (z_SH, z_row M 277 (upd (M 277) ((a3 + i).toNatClampNeg) (M 288 ((a1 + i).toNatClampNeg))), L)) (fun nq hq => And.intro p2 (And.intro rfl (And.intro rfl hq))) ?_
    (unfold e_X9_bring_288_277_3_M at h; exact h )
def s_X9_bring_288_277_3 (M : Nat → Nat → Int32) (a1 : Int32) (a3 : Int32) (a4 : Int32)  (n : Nat) : (Nat → Nat → Int32) := Nat.rec (motive := fun _ => (Nat → Nat → Int32)) (M) (fun k r => (e_X9_bring_288_277_3_M r a1 a3 a4 (nI k))) n
theorem fr_e_X9_bring_288_277_3_M (M : Nat → Nat → Int32) (a1 : Int32) (a3 : Int32) (a4 : Int32) (i : Int32)  (c : Nat) (h277 : c ≠ 277) : e_X9_bring_288_277_3_M M a1 a3 a4 i c = M c := by
  unfold e_X9_bring_288_277_3_M
  repeat' split
  all_goals simp only [z_row_ne h277]
theorem fr_s_X9_bring_288_277_3 (M : Nat → Nat → Int32) (a1 : Int32) (a3 : Int32) (a4 : Int32)  (n : Nat) (c : Nat) (h277 : c ≠ 277) : ((s_X9_bring_288_277_3 M a1 a3 a4 n)) c = M c := by
  induction n with
  | zero => rfl
  | succ n ih => exact (fr_e_X9_bring_288_277_3_M _ a1 a3 a4 (nI n)  c h277).trans ih
theorem l_X9_bring_288_277_3 {d : Nat} {L : Nat → Nat → Int64} {Q : Option Value → z_St → Prop} (M : Nat → Nat → Int32) (a1 : Int32) (a3 : Int32) (a4 : Int32)  (n : Nat) : (∀ k, k < n → ¬ (a4 ≤ (nI k))) → (∀ k, k < n → qi_X9_bring_288_277_3 ((s_X9_bring_288_277_3 M a1 a3 a4 k)) a1 a3 a4 (nI k)) → (z_G (d + 0) tb_X9_bring 3 [some (.ref 288), some (.int a1), some (.ref 277), some (.int a3), some (.int a4), some (.int (nI n))] [] [] (z_SH, (s_X9_bring_288_277_3 M a1 a3 a4 n), L) Q) → z_G (d + 0) tb_X9_bring 3 [some (.ref 288), some (.int a1), some (.ref 277), some (.int a3), some (.int a4), some (.int (nI 0))] [] [] (z_SH, M, L) Q := by
  induction n with
  | zero =>
    intro hc p1 h
    exact h
  | succ n ih =>
    intro hc p1 h
    refine ih (fun k hk => hc k (by omega)) (fun k hk => p1 k (by omega)) ?_
    have hcn := hc n (by omega)
    have p1n := p1 n (by omega)
    clear ih hc p1
    have hs : s_X9_bring_288_277_3 M a1 a3 a4 (n + 1) = (e_X9_bring_288_277_3_M ((s_X9_bring_288_277_3 M a1 a3 a4 n)) a1 a3 a4 (nI n)) := rfl
    rw [hs] at h
    clear hs
    generalize s_X9_bring_288_277_3 M a1 a3 a4 n = sg at *
    refine it_X9_bring_288_277_3 sg a1 a3 a4 (nI n)  hcn p1n ?_
    rw [nI_1]
    exact h
def g_X9_bring_288_277 (M : Nat → Nat → Int32) (a1 : Int32) (a3 : Int32) (a4 : Int32) : Nat → Nat → Int32 := ((s_X9_bring_288_277_3 M a1 a3 a4 ((a4).toNatClampNeg)))
theorem fr_g_X9_bring_288_277 (M : Nat → Nat → Int32) (a1 : Int32) (a3 : Int32) (a4 : Int32) (c : Nat) (h277 : c ≠ 277) : g_X9_bring_288_277 M a1 a3 a4 c = M c := by
  unfold g_X9_bring_288_277
  repeat' split
  all_goals simp only [z_row_ne h277, fr_s_X9_bring_288_277_3 (c := c) (h277 := h277)]
def q_X9_bring_288_277 (M : Nat → Nat → Int32) (a1 : Int32) (a3 : Int32) (a4 : Int32) : Prop := (∀ k111, k111 < (a4).toNatClampNeg → qi_X9_bring_288_277_3 ((s_X9_bring_288_277_3 M a1 a3 a4 k111)) a1 a3 a4 (nI k111)) ∧ True
set_option maxRecDepth 20000 in
theorem c_X9_bring_288_277 {d : Nat} {L : Nat → Nat → Int64} (M : Nat → Nat → Int32) (a1 : Int32) (a3 : Int32) (a4 : Int32)  (hpre : q_X9_bring_288_277 M a1 a3 a4) : z_C (d + 1) 111 [.ref 288, .int a1, .ref 277, .int a3, .int a4] (z_SH, M, L) none (z_SH, g_X9_bring_288_277 M a1 a3 a4, L) := by
  unfold q_X9_bring_288_277 at hpre
  obtain ⟨p1, -⟩ := hpre
  refine z_mkA (tb := tb_X9_bring) rfl (by decide) rfl rfl rfl ?_
  refine g_k 2 (pc' := 3) (LI' := [some (.ref 288), some (.int a1), some (.ref 277), some (.int a3), some (.int a4), some (.int 0)]) (LL' := []) (st' := []) (S' := (z_SH, M, L)) (fun nq hq => And.intro rfl (And.intro rfl hq)) ?_
  refine l_X9_bring_288_277_3 (d := d) M a1 a3 a4 ((a4).toNatClampNeg) (fun k hk => z_lpc hk) p1 ?_ 
  have hx1 : a4 ≤ nI ((a4).toNatClampNeg) := z_lpe
  generalize hg1 : nI ((a4).toNatClampNeg) = r1 at *
  generalize hg2 : (s_X9_bring_288_277_3 M a1 a3 a4 ((a4).toNatClampNeg)) = m2 at *
  refine g_k 3 (pc' := (if z_cmp .ge r1 a4 = true then 28 else 10)) (LI' := [some (.ref 288), some (.int a1), some (.ref 277), some (.int a3), some (.int a4), some (.int r1)]) (LL' := []) (st' := []) (S' := (z_SH, m2, L)) (fun nq hq => And.intro rfl (And.intro rfl (And.intro rfl hq))) ?_
  refine g_ge (fun hc1 => ?_) (fun hc1 => absurd (hx1) hc1)
  exact ⟨1, And.intro rfl (⟨rfl, (by subst hg2; subst hg1; rfl)⟩)⟩
def e_X9_bring_289_278_3_M (M : Nat → Nat → Int32) (a1 : Int32) (a3 : Int32) (a4 : Int32) (i : Int32)  : Nat → Nat → Int32 := z_row M 278 (upd (M 278) ((a3 + i).toNatClampNeg) (M 289 ((a1 + i).toNatClampNeg)))
def qi_X9_bring_289_278_3 (M : Nat → Nat → Int32) (a1 : Int32) (a3 : Int32) (a4 : Int32) (i : Int32)  : Prop := (z_vin (a1 + i) 6 = true) ∧ (z_vin (a3 + i) 6 = true) ∧ True
set_option maxRecDepth 20000 in
theorem it_X9_bring_289_278_3 {d : Nat} {L : Nat → Nat → Int64} {Q : Option Value → z_St → Prop} (M : Nat → Nat → Int32) (a1 : Int32) (a3 : Int32) (a4 : Int32) (i : Int32)  (hc : ¬ (a4 ≤ i)) (p1 : qi_X9_bring_289_278_3 M a1 a3 a4 i) (h : z_G (d + 0) tb_X9_bring 3 [some (.ref 289), some (.int a1), some (.ref 278), some (.int a3), some (.int a4), some (.int (i + 1))] [] [] (z_SH, e_X9_bring_289_278_3_M M a1 a3 a4 i, L) Q) : z_G (d + 0) tb_X9_bring 3 [some (.ref 289), some (.int a1), some (.ref 278), some (.int a3), some (.int a4), some (.int i)] [] [] (z_SH, M, L) Q := by
  unfold qi_X9_bring_289_278_3 at p1
  obtain ⟨p1, p2, -⟩ := p1
  refine g_k 3 (pc' := (if z_cmp .ge i a4 = true then 28 else 10)) (LI' := [some (.ref 289), some (.int a1), some (.ref 278), some (.int a3), some (.int a4), some (.int i)]) (LL' := []) (st' := []) (S' := (z_SH, M, L)) (fun nq hq => And.intro rfl (And.intro rfl (And.intro rfl hq))) ?_
  refine g_ge (fun hc1 => ?_) (fun hc1 => ?_)
  · exact absurd hc1 hc
  · refine g_k 9 (pc' := 21) (LI' := [some (.ref 289), some (.int a1), some (.ref 278), some (.int a3), some (.int a4), some (.int i)]) (LL' := []) (st' := [.int (M 289 ((a1 + i).toNatClampNeg)), .int (a3 + i), .ref 278]) (S' := (z_SH, M, L)) (fun nq hq => And.intro rfl (And.intro rfl (And.intro rfl (And.intro rfl (And.intro rfl (And.intro rfl (And.intro rfl (And.intro rfl (And.intro p1 hq))))))))) ?_
    refine g_k 3 (pc' := 3) (LI' := [some (.ref 289), some (.int a1), some (.ref 278), some (.int a3), some (.int a4), some (.int (i + 1))]) (LL' := []) (st' := []) (S' := (z_SH, z_row M 278 (upd (M 278) ((a3 + i).toNatClampNeg) (M 289 ((a1 + i).toNatClampNeg))), L)) (fun nq hq => And.intro p2 (And.intro rfl (And.intro rfl hq))) ?_
    (unfold e_X9_bring_289_278_3_M at h; exact h )
def s_X9_bring_289_278_3 (M : Nat → Nat → Int32) (a1 : Int32) (a3 : Int32) (a4 : Int32)  (n : Nat) : (Nat → Nat → Int32) := Nat.rec (motive := fun _ => (Nat → Nat → Int32)) (M) (fun k r => (e_X9_bring_289_278_3_M r a1 a3 a4 (nI k))) n
theorem fr_e_X9_bring_289_278_3_M (M : Nat → Nat → Int32) (a1 : Int32) (a3 : Int32) (a4 : Int32) (i : Int32)  (c : Nat) (h278 : c ≠ 278) : e_X9_bring_289_278_3_M M a1 a3 a4 i c = M c := by
  unfold e_X9_bring_289_278_3_M
  repeat' split
  all_goals simp only [z_row_ne h278]
theorem fr_s_X9_bring_289_278_3 (M : Nat → Nat → Int32) (a1 : Int32) (a3 : Int32) (a4 : Int32)  (n : Nat) (c : Nat) (h278 : c ≠ 278) : ((s_X9_bring_289_278_3 M a1 a3 a4 n)) c = M c := by
  induction n with
  | zero => rfl
  | succ n ih => exact (fr_e_X9_bring_289_278_3_M _ a1 a3 a4 (nI n)  c h278).trans ih
theorem l_X9_bring_289_278_3 {d : Nat} {L : Nat → Nat → Int64} {Q : Option Value → z_St → Prop} (M : Nat → Nat → Int32) (a1 : Int32) (a3 : Int32) (a4 : Int32)  (n : Nat) : (∀ k, k < n → ¬ (a4 ≤ (nI k))) → (∀ k, k < n → qi_X9_bring_289_278_3 ((s_X9_bring_289_278_3 M a1 a3 a4 k)) a1 a3 a4 (nI k)) → (z_G (d + 0) tb_X9_bring 3 [some (.ref 289), some (.int a1), some (.ref 278), some (.int a3), some (.int a4), some (.int (nI n))] [] [] (z_SH, (s_X9_bring_289_278_3 M a1 a3 a4 n), L) Q) → z_G (d + 0) tb_X9_bring 3 [some (.ref 289), some (.int a1), some (.ref 278), some (.int a3), some (.int a4), some (.int (nI 0))] [] [] (z_SH, M, L) Q := by
  induction n with
  | zero =>
    intro hc p1 h
    exact h
  | succ n ih =>
    intro hc p1 h
    refine ih (fun k hk => hc k (by omega)) (fun k hk => p1 k (by omega)) ?_
    have hcn := hc n (by omega)
    have p1n := p1 n (by omega)
    clear ih hc p1
    have hs : s_X9_bring_289_278_3 M a1 a3 a4 (n + 1) = (e_X9_bring_289_278_3_M ((s_X9_bring_289_278_3 M a1 a3 a4 n)) a1 a3 a4 (nI n)) := rfl
    rw [hs] at h
    clear hs
    generalize s_X9_bring_289_278_3 M a1 a3 a4 n = sg at *
    refine it_X9_bring_289_278_3 sg a1 a3 a4 (nI n)  hcn p1n ?_
    rw [nI_1]
    exact h
def g_X9_bring_289_278 (M : Nat → Nat → Int32) (a1 : Int32) (a3 : Int32) (a4 : Int32) : Nat → Nat → Int32 := ((s_X9_bring_289_278_3 M a1 a3 a4 ((a4).toNatClampNeg)))
theorem fr_g_X9_bring_289_278 (M : Nat → Nat → Int32) (a1 : Int32) (a3 : Int32) (a4 : Int32) (c : Nat) (h278 : c ≠ 278) : g_X9_bring_289_278 M a1 a3 a4 c = M c := by
  unfold g_X9_bring_289_278
  repeat' split
  all_goals simp only [z_row_ne h278, fr_s_X9_bring_289_278_3 (c := c) (h278 := h278)]
def q_X9_bring_289_278 (M : Nat → Nat → Int32) (a1 : Int32) (a3 : Int32) (a4 : Int32) : Prop := (∀ k112, k112 < (a4).toNatClampNeg → qi_X9_bring_289_278_3 ((s_X9_bring_289_278_3 M a1 a3 a4 k112)) a1 a3 a4 (nI k112)) ∧ True
set_option maxRecDepth 20000 in
theorem c_X9_bring_289_278 {d : Nat} {L : Nat → Nat → Int64} (M : Nat → Nat → Int32) (a1 : Int32) (a3 : Int32) (a4 : Int32)  (hpre : q_X9_bring_289_278 M a1 a3 a4) : z_C (d + 1) 111 [.ref 289, .int a1, .ref 278, .int a3, .int a4] (z_SH, M, L) none (z_SH, g_X9_bring_289_278 M a1 a3 a4, L) := by
  unfold q_X9_bring_289_278 at hpre
  obtain ⟨p1, -⟩ := hpre
  refine z_mkA (tb := tb_X9_bring) rfl (by decide) rfl rfl rfl ?_
  refine g_k 2 (pc' := 3) (LI' := [some (.ref 289), some (.int a1), some (.ref 278), some (.int a3), some (.int a4), some (.int 0)]) (LL' := []) (st' := []) (S' := (z_SH, M, L)) (fun nq hq => And.intro rfl (And.intro rfl hq)) ?_
  refine l_X9_bring_289_278_3 (d := d) M a1 a3 a4 ((a4).toNatClampNeg) (fun k hk => z_lpc hk) p1 ?_ 
  have hx1 : a4 ≤ nI ((a4).toNatClampNeg) := z_lpe
  generalize hg1 : nI ((a4).toNatClampNeg) = r1 at *
  generalize hg2 : (s_X9_bring_289_278_3 M a1 a3 a4 ((a4).toNatClampNeg)) = m2 at *
  refine g_k 3 (pc' := (if z_cmp .ge r1 a4 = true then 28 else 10)) (LI' := [some (.ref 289), some (.int a1), some (.ref 278), some (.int a3), some (.int a4), some (.int r1)]) (LL' := []) (st' := []) (S' := (z_SH, m2, L)) (fun nq hq => And.intro rfl (And.intro rfl (And.intro rfl hq))) ?_
  refine g_ge (fun hc1 => ?_) (fun hc1 => absurd (hx1) hc1)
  exact ⟨1, And.intro rfl (⟨rfl, (by subst hg2; subst hg1; rfl)⟩)⟩
def e_X9_bring_290_279_3_M (M : Nat → Nat → Int32) (a1 : Int32) (a3 : Int32) (a4 : Int32) (i : Int32)  : Nat → Nat → Int32 := z_row M 279 (upd (M 279) ((a3 + i).toNatClampNeg) (M 290 ((a1 + i).toNatClampNeg)))
def qi_X9_bring_290_279_3 (M : Nat → Nat → Int32) (a1 : Int32) (a3 : Int32) (a4 : Int32) (i : Int32)  : Prop := (z_vin (a1 + i) 83 = true) ∧ (z_vin (a3 + i) 83 = true) ∧ True
set_option maxRecDepth 20000 in
theorem it_X9_bring_290_279_3 {d : Nat} {L : Nat → Nat → Int64} {Q : Option Value → z_St → Prop} (M : Nat → Nat → Int32) (a1 : Int32) (a3 : Int32) (a4 : Int32) (i : Int32)  (hc : ¬ (a4 ≤ i)) (p1 : qi_X9_bring_290_279_3 M a1 a3 a4 i) (h : z_G (d + 0) tb_X9_bring 3 [some (.ref 290), some (.int a1), some (.ref 279), some (.int a3), some (.int a4), some (.int (i + 1))] [] [] (z_SH, e_X9_bring_290_279_3_M M a1 a3 a4 i, L) Q) : z_G (d + 0) tb_X9_bring 3 [some (.ref 290), some (.int a1), some (.ref 279), some (.int a3), some (.int a4), some (.int i)] [] [] (z_SH, M, L) Q := by
  unfold qi_X9_bring_290_279_3 at p1
  obtain ⟨p1, p2, -⟩ := p1
  refine g_k 3 (pc' := (if z_cmp .ge i a4 = true then 28 else 10)) (LI' := [some (.ref 290), some (.int a1), some (.ref 279), some (.int a3), some (.int a4), some (.int i)]) (LL' := []) (st' := []) (S' := (z_SH, M, L)) (fun nq hq => And.intro rfl (And.intro rfl (And.intro rfl hq))) ?_
  refine g_ge (fun hc1 => ?_) (fun hc1 => ?_)
  · exact absurd hc1 hc
  · refine g_k 9 (pc' := 21) (LI' := [some (.ref 290), some (.int a1), some (.ref 279), some (.int a3), some (.int a4), some (.int i)]) (LL' := []) (st' := [.int (M 290 ((a1 + i).toNatClampNeg)), .int (a3 + i), .ref 279]) (S' := (z_SH, M, L)) (fun nq hq => And.intro rfl (And.intro rfl (And.intro rfl (And.intro rfl (And.intro rfl (And.intro rfl (And.intro rfl (And.intro rfl (And.intro p1 hq))))))))) ?_
    refine g_k 3 (pc' := 3) (LI' := [some (.ref 290), some (.int a1), some (.ref 279), some (.int a3), some (.int a4), some (.int (i + 1))]) (LL' := []) (st' := []) (S' := (z_SH, z_row M 279 (upd (M 279) ((a3 + i).toNatClampNeg) (M 290 ((a1 + i).toNatClampNeg))), L)) (fun nq hq => And.intro p2 (And.intro rfl (And.intro rfl hq))) ?_
    (unfold e_X9_bring_290_279_3_M at h; exact h )
def s_X9_bring_290_279_3 (M : Nat → Nat → Int32) (a1 : Int32) (a3 : Int32) (a4 : Int32)  (n : Nat) : (Nat → Nat → Int32) := Nat.rec (motive := fun _ => (Nat → Nat → Int32)) (M) (fun k r => (e_X9_bring_290_279_3_M r a1 a3 a4 (nI k))) n
theorem fr_e_X9_bring_290_279_3_M (M : Nat → Nat → Int32) (a1 : Int32) (a3 : Int32) (a4 : Int32) (i : Int32)  (c : Nat) (h279 : c ≠ 279) : e_X9_bring_290_279_3_M M a1 a3 a4 i c = M c := by
  unfold e_X9_bring_290_279_3_M
  repeat' split
  all_goals simp only [z_row_ne h279]
theorem fr_s_X9_bring_290_279_3 (M : Nat → Nat → Int32) (a1 : Int32) (a3 : Int32) (a4 : Int32)  (n : Nat) (c : Nat) (h279 : c ≠ 279) : ((s_X9_bring_290_279_3 M a1 a3 a4 n)) c = M c := by
  induction n with
  | zero => rfl
  | succ n ih => exact (fr_e_X9_bring_290_279_3_M _ a1 a3 a4 (nI n)  c h279).trans ih
theorem l_X9_bring_290_279_3 {d : Nat} {L : Nat → Nat → Int64} {Q : Option Value → z_St → Prop} (M : Nat → Nat → Int32) (a1 : Int32) (a3 : Int32) (a4 : Int32)  (n : Nat) : (∀ k, k < n → ¬ (a4 ≤ (nI k))) → (∀ k, k < n → qi_X9_bring_290_279_3 ((s_X9_bring_290_279_3 M a1 a3 a4 k)) a1 a3 a4 (nI k)) → (z_G (d + 0) tb_X9_bring 3 [some (.ref 290), some (.int a1), some (.ref 279), some (.int a3), some (.int a4), some (.int (nI n))] [] [] (z_SH, (s_X9_bring_290_279_3 M a1 a3 a4 n), L) Q) → z_G (d + 0) tb_X9_bring 3 [some (.ref 290), some (.int a1), some (.ref 279), some (.int a3), some (.int a4), some (.int (nI 0))] [] [] (z_SH, M, L) Q := by
  induction n with
  | zero =>
    intro hc p1 h
    exact h
  | succ n ih =>
    intro hc p1 h
    refine ih (fun k hk => hc k (by omega)) (fun k hk => p1 k (by omega)) ?_
    have hcn := hc n (by omega)
    have p1n := p1 n (by omega)
    clear ih hc p1
    have hs : s_X9_bring_290_279_3 M a1 a3 a4 (n + 1) = (e_X9_bring_290_279_3_M ((s_X9_bring_290_279_3 M a1 a3 a4 n)) a1 a3 a4 (nI n)) := rfl
    rw [hs] at h
    clear hs
    generalize s_X9_bring_290_279_3 M a1 a3 a4 n = sg at *
    refine it_X9_bring_290_279_3 sg a1 a3 a4 (nI n)  hcn p1n ?_
    rw [nI_1]
    exact h
def g_X9_bring_290_279 (M : Nat → Nat → Int32) (a1 : Int32) (a3 : Int32) (a4 : Int32) : Nat → Nat → Int32 := ((s_X9_bring_290_279_3 M a1 a3 a4 ((a4).toNatClampNeg)))
theorem fr_g_X9_bring_290_279 (M : Nat → Nat → Int32) (a1 : Int32) (a3 : Int32) (a4 : Int32) (c : Nat) (h279 : c ≠ 279) : g_X9_bring_290_279 M a1 a3 a4 c = M c := by
  unfold g_X9_bring_290_279
  repeat' split
  all_goals simp only [z_row_ne h279, fr_s_X9_bring_290_279_3 (c := c) (h279 := h279)]
def q_X9_bring_290_279 (M : Nat → Nat → Int32) (a1 : Int32) (a3 : Int32) (a4 : Int32) : Prop := (∀ k113, k113 < (a4).toNatClampNeg → qi_X9_bring_290_279_3 ((s_X9_bring_290_279_3 M a1 a3 a4 k113)) a1 a3 a4 (nI k113)) ∧ True
set_option maxRecDepth 20000 in
theorem c_X9_bring_290_279 {d : Nat} {L : Nat → Nat → Int64} (M : Nat → Nat → Int32) (a1 : Int32) (a3 : Int32) (a4 : Int32)  (hpre : q_X9_bring_290_279 M a1 a3 a4) : z_C (d + 1) 111 [.ref 290, .int a1, .ref 279, .int a3, .int a4] (z_SH, M, L) none (z_SH, g_X9_bring_290_279 M a1 a3 a4, L) := by
  unfold q_X9_bring_290_279 at hpre
  obtain ⟨p1, -⟩ := hpre
  refine z_mkA (tb := tb_X9_bring) rfl (by decide) rfl rfl rfl ?_
  refine g_k 2 (pc' := 3) (LI' := [some (.ref 290), some (.int a1), some (.ref 279), some (.int a3), some (.int a4), some (.int 0)]) (LL' := []) (st' := []) (S' := (z_SH, M, L)) (fun nq hq => And.intro rfl (And.intro rfl hq)) ?_
  refine l_X9_bring_290_279_3 (d := d) M a1 a3 a4 ((a4).toNatClampNeg) (fun k hk => z_lpc hk) p1 ?_ 
  have hx1 : a4 ≤ nI ((a4).toNatClampNeg) := z_lpe
  generalize hg1 : nI ((a4).toNatClampNeg) = r1 at *
  generalize hg2 : (s_X9_bring_290_279_3 M a1 a3 a4 ((a4).toNatClampNeg)) = m2 at *
  refine g_k 3 (pc' := (if z_cmp .ge r1 a4 = true then 28 else 10)) (LI' := [some (.ref 290), some (.int a1), some (.ref 279), some (.int a3), some (.int a4), some (.int r1)]) (LL' := []) (st' := []) (S' := (z_SH, m2, L)) (fun nq hq => And.intro rfl (And.intro rfl (And.intro rfl hq))) ?_
  refine g_ge (fun hc1 => ?_) (fun hc1 => absurd (hx1) hc1)
  exact ⟨1, And.intro rfl (⟨rfl, (by subst hg2; subst hg1; rfl)⟩)⟩
