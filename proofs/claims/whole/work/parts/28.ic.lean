def e_X9_bring_281_270_3_M (M : Nat → Nat → Int32) (a1 : Int32) (a3 : Int32) (a4 : Int32) (i : Int32)  : Nat → Nat → Int32 := z_row M 270 (upd (M 270) ((a3 + i).toNatClampNeg) (M 281 ((a1 + i).toNatClampNeg)))
def qi_X9_bring_281_270_3 (M : Nat → Nat → Int32) (a1 : Int32) (a3 : Int32) (a4 : Int32) (i : Int32)  : Prop := (z_vin (a1 + i) 6 = true) ∧ (z_vin (a3 + i) 6 = true) ∧ True
set_option maxRecDepth 20000 in
theorem it_X9_bring_281_270_3 {d : Nat} {L : Nat → Nat → Int64} {Q : Option Value → z_St → Prop} (M : Nat → Nat → Int32) (a1 : Int32) (a3 : Int32) (a4 : Int32) (i : Int32)  (hc : ¬ (a4 ≤ i)) (p1 : qi_X9_bring_281_270_3 M a1 a3 a4 i) (h : z_G (d + 0) tb_X9_bring 3 [some (.ref 281), some (.int a1), some (.ref 270), some (.int a3), some (.int a4), some (.int (i + 1))] [] [] (z_SH, e_X9_bring_281_270_3_M M a1 a3 a4 i, L) Q) : z_G (d + 0) tb_X9_bring 3 [some (.ref 281), some (.int a1), some (.ref 270), some (.int a3), some (.int a4), some (.int i)] [] [] (z_SH, M, L) Q := by
  unfold qi_X9_bring_281_270_3 at p1
  obtain ⟨p1, p2, -⟩ := p1
  refine g_k 3 (pc' := (if z_cmp .ge i a4 = true then 28 else 10)) (LI' := [some (.ref 281), some (.int a1), some (.ref 270), some (.int a3), some (.int a4), some (.int i)]) (LL' := []) (st' := []) (S' := (z_SH, M, L)) (fun nq hq => And.intro rfl (And.intro rfl (And.intro rfl hq))) ?_
  refine g_ge (fun hc1 => ?_) (fun hc1 => ?_)
  · exact absurd hc1 hc
  · refine g_k 9 (pc' := 21) (LI' := [some (.ref 281), some (.int a1), some (.ref 270), some (.int a3), some (.int a4), some (.int i)]) (LL' := []) (st' := [.int (M 281 ((a1 + i).toNatClampNeg)), .int (a3 + i), .ref 270]) (S' := (z_SH, M, L)) (fun nq hq => And.intro rfl (And.intro rfl (And.intro rfl (And.intro rfl (And.intro rfl (And.intro rfl (And.intro rfl (And.intro rfl (And.intro p1 hq))))))))) ?_
    refine g_k 3 (pc' := 3) (LI' := [some (.ref 281), some (.int a1), some (.ref 270), some (.int a3), some (.int a4), some (.int (i + 1))]) (LL' := []) (st' := []) (S' := (z_SH, z_row M 270 (upd (M 270) ((a3 + i).toNatClampNeg) (M 281 ((a1 + i).toNatClampNeg))), L)) (fun nq hq => And.intro p2 (And.intro rfl (And.intro rfl hq))) ?_
    (unfold e_X9_bring_281_270_3_M at h; exact h )
def s_X9_bring_281_270_3 (M : Nat → Nat → Int32) (a1 : Int32) (a3 : Int32) (a4 : Int32)  (n : Nat) : (Nat → Nat → Int32) := Nat.rec (motive := fun _ => (Nat → Nat → Int32)) (M) (fun k r => (e_X9_bring_281_270_3_M r a1 a3 a4 (nI k))) n
theorem fr_e_X9_bring_281_270_3_M (M : Nat → Nat → Int32) (a1 : Int32) (a3 : Int32) (a4 : Int32) (i : Int32)  (c : Nat) (h270 : c ≠ 270) : e_X9_bring_281_270_3_M M a1 a3 a4 i c = M c := by
  unfold e_X9_bring_281_270_3_M
  repeat' split
  all_goals simp only [z_row_ne h270]
theorem fr_s_X9_bring_281_270_3 (M : Nat → Nat → Int32) (a1 : Int32) (a3 : Int32) (a4 : Int32)  (n : Nat) (c : Nat) (h270 : c ≠ 270) : ((s_X9_bring_281_270_3 M a1 a3 a4 n)) c = M c := by
  induction n with
  | zero => rfl
  | succ n ih => exact (fr_e_X9_bring_281_270_3_M _ a1 a3 a4 (nI n)  c h270).trans ih
theorem l_X9_bring_281_270_3 {d : Nat} {L : Nat → Nat → Int64} {Q : Option Value → z_St → Prop} (M : Nat → Nat → Int32) (a1 : Int32) (a3 : Int32) (a4 : Int32)  (n : Nat) : (∀ k, k < n → ¬ (a4 ≤ (nI k))) → (∀ k, k < n → qi_X9_bring_281_270_3 ((s_X9_bring_281_270_3 M a1 a3 a4 k)) a1 a3 a4 (nI k)) → (z_G (d + 0) tb_X9_bring 3 [some (.ref 281), some (.int a1), some (.ref 270), some (.int a3), some (.int a4), some (.int (nI n))] [] [] (z_SH, (s_X9_bring_281_270_3 M a1 a3 a4 n), L) Q) → z_G (d + 0) tb_X9_bring 3 [some (.ref 281), some (.int a1), some (.ref 270), some (.int a3), some (.int a4), some (.int (nI 0))] [] [] (z_SH, M, L) Q := by
  induction n with
  | zero =>
    intro hc p1 h
    exact h
  | succ n ih =>
    intro hc p1 h
    refine ih (fun k hk => hc k (by omega)) (fun k hk => p1 k (by omega)) ?_
    have hcn := hc n (by omega)
    have p1n := p1 n (by omega)
    clear ih hc p1
    have hs : s_X9_bring_281_270_3 M a1 a3 a4 (n + 1) = (e_X9_bring_281_270_3_M ((s_X9_bring_281_270_3 M a1 a3 a4 n)) a1 a3 a4 (nI n)) := rfl
    rw [hs] at h
    clear hs
    generalize s_X9_bring_281_270_3 M a1 a3 a4 n = sg at *
    refine it_X9_bring_281_270_3 sg a1 a3 a4 (nI n)  hcn p1n ?_
    rw [nI_1]
    exact h
def g_X9_bring_281_270 (M : Nat → Nat → Int32) (a1 : Int32) (a3 : Int32) (a4 : Int32) : Nat → Nat → Int32 := ((s_X9_bring_281_270_3 M a1 a3 a4 ((a4).toNatClampNeg)))
theorem fr_g_X9_bring_281_270 (M : Nat → Nat → Int32) (a1 : Int32) (a3 : Int32) (a4 : Int32) (c : Nat) (h270 : c ≠ 270) : g_X9_bring_281_270 M a1 a3 a4 c = M c := by
  unfold g_X9_bring_281_270
  repeat' split
  all_goals simp only [z_row_ne h270, fr_s_X9_bring_281_270_3 (c := c) (h270 := h270)]
def q_X9_bring_281_270 (M : Nat → Nat → Int32) (a1 : Int32) (a3 : Int32) (a4 : Int32) : Prop := (∀ k110, k110 < (a4).toNatClampNeg → qi_X9_bring_281_270_3 ((s_X9_bring_281_270_3 M a1 a3 a4 k110)) a1 a3 a4 (nI k110)) ∧ True
set_option maxRecDepth 20000 in
theorem c_X9_bring_281_270 {d : Nat} {L : Nat → Nat → Int64} (M : Nat → Nat → Int32) (a1 : Int32) (a3 : Int32) (a4 : Int32)  (hpre : q_X9_bring_281_270 M a1 a3 a4) : z_C (d + 1) 111 [.ref 281, .int a1, .ref 270, .int a3, .int a4] (z_SH, M, L) none (z_SH, g_X9_bring_281_270 M a1 a3 a4, L) := by
  unfold q_X9_bring_281_270 at hpre
  obtain ⟨p1, -⟩ := hpre
  refine z_mkA (tb := tb_X9_bring) rfl (by decide) rfl rfl rfl ?_
  refine g_k 2 (pc' := 3) (LI' := [some (.ref 281), some (.int a1), some (.ref 270), some (.int a3), some (.int a4), some (.int 0)]) (LL' := []) (st' := []) (S' := (z_SH, M, L)) (fun nq hq => And.intro rfl (And.intro rfl hq)) ?_
  refine l_X9_bring_281_270_3 (d := d) M a1 a3 a4 ((a4).toNatClampNeg) (fun k hk => z_lpc hk) p1 ?_ 
  have hx1 : a4 ≤ nI ((a4).toNatClampNeg) := z_lpe
  generalize hg1 : nI ((a4).toNatClampNeg) = r1 at *
  generalize hg2 : (s_X9_bring_281_270_3 M a1 a3 a4 ((a4).toNatClampNeg)) = m2 at *
  refine g_k 3 (pc' := (if z_cmp .ge r1 a4 = true then 28 else 10)) (LI' := [some (.ref 281), some (.int a1), some (.ref 270), some (.int a3), some (.int a4), some (.int r1)]) (LL' := []) (st' := []) (S' := (z_SH, m2, L)) (fun nq hq => And.intro rfl (And.intro rfl (And.intro rfl hq))) ?_
  refine g_ge (fun hc1 => ?_) (fun hc1 => absurd (hx1) hc1)
  exact ⟨1, And.intro rfl (⟨rfl, (by subst hg2; subst hg1; rfl)⟩)⟩
def e_X9_bring_282_271_3_M (M : Nat → Nat → Int32) (a1 : Int32) (a3 : Int32) (a4 : Int32) (i : Int32)  : Nat → Nat → Int32 := z_row M 271 (upd (M 271) ((a3 + i).toNatClampNeg) (M 282 ((a1 + i).toNatClampNeg)))
def qi_X9_bring_282_271_3 (M : Nat → Nat → Int32) (a1 : Int32) (a3 : Int32) (a4 : Int32) (i : Int32)  : Prop := (z_vin (a1 + i) 6 = true) ∧ (z_vin (a3 + i) 6 = true) ∧ True
set_option maxRecDepth 20000 in
theorem it_X9_bring_282_271_3 {d : Nat} {L : Nat → Nat → Int64} {Q : Option Value → z_St → Prop} (M : Nat → Nat → Int32) (a1 : Int32) (a3 : Int32) (a4 : Int32) (i : Int32)  (hc : ¬ (a4 ≤ i)) (p1 : qi_X9_bring_282_271_3 M a1 a3 a4 i) (h : z_G (d + 0) tb_X9_bring 3 [some (.ref 282), some (.int a1), some (.ref 271), some (.int a3), some (.int a4), some (.int (i + 1))] [] [] (z_SH, e_X9_bring_282_271_3_M M a1 a3 a4 i, L) Q) : z_G (d + 0) tb_X9_bring 3 [some (.ref 282), some (.int a1), some (.ref 271), some (.int a3), some (.int a4), some (.int i)] [] [] (z_SH, M, L) Q := by
  unfold qi_X9_bring_282_271_3 at p1
  obtain ⟨p1, p2, -⟩ := p1
  refine g_k 3 (pc' := (if z_cmp .ge i a4 = true then 28 else 10)) (LI' := [some (.ref 282), some (.int a1), some (.ref 271), some (.int a3), some (.int a4), some (.int i)]) (LL' := []) (st' := []) (S' := (z_SH, M, L)) (fun nq hq => And.intro rfl (And.intro rfl (And.intro rfl hq))) ?_
  refine g_ge (fun hc1 => ?_) (fun hc1 => ?_)
  · exact absurd hc1 hc
  · refine g_k 9 (pc' := 21) (LI' := [some (.ref 282), some (.int a1), some (.ref 271), some (.int a3), some (.int a4), some (.int i)]) (LL' := []) (st' := [.int (M 282 ((a1 + i).toNatClampNeg)), .int (a3 + i), .ref 271]) (S' := (z_SH, M, L)) (fun nq hq => And.intro rfl (And.intro rfl (And.intro rfl (And.intro rfl (And.intro rfl (And.intro rfl (And.intro rfl (And.intro rfl (And.intro p1 hq))))))))) ?_
    refine g_k 3 (pc' := 3) (LI' := [some (.ref 282), some (.int a1), some (.ref 271), some (.int a3), some (.int a4), some (.int (i + 1))]) (LL' := []) (st' := []) (S' := (z_SH, z_row M 271 (upd (M 271) ((a3 + i).toNatClampNeg) (M 282 ((a1 + i).toNatClampNeg))), L)) (fun nq hq => And.intro p2 (And.intro rfl (And.intro rfl hq))) ?_
    (unfold e_X9_bring_282_271_3_M at h; exact h )
def s_X9_bring_282_271_3 (M : Nat → Nat → Int32) (a1 : Int32) (a3 : Int32) (a4 : Int32)  (n : Nat) : (Nat → Nat → Int32) := Nat.rec (motive := fun _ => (Nat → Nat → Int32)) (M) (fun k r => (e_X9_bring_282_271_3_M r a1 a3 a4 (nI k))) n
theorem fr_e_X9_bring_282_271_3_M (M : Nat → Nat → Int32) (a1 : Int32) (a3 : Int32) (a4 : Int32) (i : Int32)  (c : Nat) (h271 : c ≠ 271) : e_X9_bring_282_271_3_M M a1 a3 a4 i c = M c := by
  unfold e_X9_bring_282_271_3_M
  repeat' split
  all_goals simp only [z_row_ne h271]
theorem fr_s_X9_bring_282_271_3 (M : Nat → Nat → Int32) (a1 : Int32) (a3 : Int32) (a4 : Int32)  (n : Nat) (c : Nat) (h271 : c ≠ 271) : ((s_X9_bring_282_271_3 M a1 a3 a4 n)) c = M c := by
  induction n with
  | zero => rfl
  | succ n ih => exact (fr_e_X9_bring_282_271_3_M _ a1 a3 a4 (nI n)  c h271).trans ih
theorem l_X9_bring_282_271_3 {d : Nat} {L : Nat → Nat → Int64} {Q : Option Value → z_St → Prop} (M : Nat → Nat → Int32) (a1 : Int32) (a3 : Int32) (a4 : Int32)  (n : Nat) : (∀ k, k < n → ¬ (a4 ≤ (nI k))) → (∀ k, k < n → qi_X9_bring_282_271_3 ((s_X9_bring_282_271_3 M a1 a3 a4 k)) a1 a3 a4 (nI k)) → (z_G (d + 0) tb_X9_bring 3 [some (.ref 282), some (.int a1), some (.ref 271), some (.int a3), some (.int a4), some (.int (nI n))] [] [] (z_SH, (s_X9_bring_282_271_3 M a1 a3 a4 n), L) Q) → z_G (d + 0) tb_X9_bring 3 [some (.ref 282), some (.int a1), some (.ref 271), some (.int a3), some (.int a4), some (.int (nI 0))] [] [] (z_SH, M, L) Q := by
  induction n with
  | zero =>
    intro hc p1 h
    exact h
  | succ n ih =>
    intro hc p1 h
    refine ih (fun k hk => hc k (by omega)) (fun k hk => p1 k (by omega)) ?_
    have hcn := hc n (by omega)
    have p1n := p1 n (by omega)
    clear ih hc p1
    have hs : s_X9_bring_282_271_3 M a1 a3 a4 (n + 1) = (e_X9_bring_282_271_3_M ((s_X9_bring_282_271_3 M a1 a3 a4 n)) a1 a3 a4 (nI n)) := rfl
    rw [hs] at h
    clear hs
    generalize s_X9_bring_282_271_3 M a1 a3 a4 n = sg at *
    refine it_X9_bring_282_271_3 sg a1 a3 a4 (nI n)  hcn p1n ?_
    rw [nI_1]
    exact h
def g_X9_bring_282_271 (M : Nat → Nat → Int32) (a1 : Int32) (a3 : Int32) (a4 : Int32) : Nat → Nat → Int32 := ((s_X9_bring_282_271_3 M a1 a3 a4 ((a4).toNatClampNeg)))
theorem fr_g_X9_bring_282_271 (M : Nat → Nat → Int32) (a1 : Int32) (a3 : Int32) (a4 : Int32) (c : Nat) (h271 : c ≠ 271) : g_X9_bring_282_271 M a1 a3 a4 c = M c := by
  unfold g_X9_bring_282_271
  repeat' split
  all_goals simp only [z_row_ne h271, fr_s_X9_bring_282_271_3 (c := c) (h271 := h271)]
def q_X9_bring_282_271 (M : Nat → Nat → Int32) (a1 : Int32) (a3 : Int32) (a4 : Int32) : Prop := (∀ k111, k111 < (a4).toNatClampNeg → qi_X9_bring_282_271_3 ((s_X9_bring_282_271_3 M a1 a3 a4 k111)) a1 a3 a4 (nI k111)) ∧ True
set_option maxRecDepth 20000 in
theorem c_X9_bring_282_271 {d : Nat} {L : Nat → Nat → Int64} (M : Nat → Nat → Int32) (a1 : Int32) (a3 : Int32) (a4 : Int32)  (hpre : q_X9_bring_282_271 M a1 a3 a4) : z_C (d + 1) 111 [.ref 282, .int a1, .ref 271, .int a3, .int a4] (z_SH, M, L) none (z_SH, g_X9_bring_282_271 M a1 a3 a4, L) := by
  unfold q_X9_bring_282_271 at hpre
  obtain ⟨p1, -⟩ := hpre
  refine z_mkA (tb := tb_X9_bring) rfl (by decide) rfl rfl rfl ?_
  refine g_k 2 (pc' := 3) (LI' := [some (.ref 282), some (.int a1), some (.ref 271), some (.int a3), some (.int a4), some (.int 0)]) (LL' := []) (st' := []) (S' := (z_SH, M, L)) (fun nq hq => And.intro rfl (And.intro rfl hq)) ?_
  refine l_X9_bring_282_271_3 (d := d) M a1 a3 a4 ((a4).toNatClampNeg) (fun k hk => z_lpc hk) p1 ?_ 
  have hx1 : a4 ≤ nI ((a4).toNatClampNeg) := z_lpe
  generalize hg1 : nI ((a4).toNatClampNeg) = r1 at *
  generalize hg2 : (s_X9_bring_282_271_3 M a1 a3 a4 ((a4).toNatClampNeg)) = m2 at *
  refine g_k 3 (pc' := (if z_cmp .ge r1 a4 = true then 28 else 10)) (LI' := [some (.ref 282), some (.int a1), some (.ref 271), some (.int a3), some (.int a4), some (.int r1)]) (LL' := []) (st' := []) (S' := (z_SH, m2, L)) (fun nq hq => And.intro rfl (And.intro rfl (And.intro rfl hq))) ?_
  refine g_ge (fun hc1 => ?_) (fun hc1 => absurd (hx1) hc1)
  exact ⟨1, And.intro rfl (⟨rfl, (by subst hg2; subst hg1; rfl)⟩)⟩
def e_X9_bring_283_272_3_M (M : Nat → Nat → Int32) (a1 : Int32) (a3 : Int32) (a4 : Int32) (i : Int32)  : Nat → Nat → Int32 := z_row M 272 (upd (M 272) ((a3 + i).toNatClampNeg) (M 283 ((a1 + i).toNatClampNeg)))
def qi_X9_bring_283_272_3 (M : Nat → Nat → Int32) (a1 : Int32) (a3 : Int32) (a4 : Int32) (i : Int32)  : Prop := (z_vin (a1 + i) 6 = true) ∧ (z_vin (a3 + i) 6 = true) ∧ True
set_option maxRecDepth 20000 in
theorem it_X9_bring_283_272_3 {d : Nat} {L : Nat → Nat → Int64} {Q : Option Value → z_St → Prop} (M : Nat → Nat → Int32) (a1 : Int32) (a3 : Int32) (a4 : Int32) (i : Int32)  (hc : ¬ (a4 ≤ i)) (p1 : qi_X9_bring_283_272_3 M a1 a3 a4 i) (h : z_G (d + 0) tb_X9_bring 3 [some (.ref 283), some (.int a1), some (.ref 272), some (.int a3), some (.int a4), some (.int (i + 1))] [] [] (z_SH, e_X9_bring_283_272_3_M M a1 a3 a4 i, L) Q) : z_G (d + 0) tb_X9_bring 3 [some (.ref 283), some (.int a1), some (.ref 272), some (.int a3), some (.int a4), some (.int i)] [] [] (z_SH, M, L) Q := by
  unfold qi_X9_bring_283_272_3 at p1
  obtain ⟨p1, p2, -⟩ := p1
  refine g_k 3 (pc' := (if z_cmp .ge i a4 = true then 28 else 10)) (LI' := [some (.ref 283), some (.int a1), some (.ref 272), some (.int a3), some (.int a4), some (.int i)]) (LL' := []) (st' := []) (S' := (z_SH, M, L)) (fun nq hq => And.intro rfl (And.intro rfl (And.intro rfl hq))) ?_
  refine g_ge (fun hc1 => ?_) (fun hc1 => ?_)
  · exact absurd hc1 hc
  · refine g_k 9 (pc' := 21) (LI' := [some (.ref 283), some (.int a1), some (.ref 272), some (.int a3), some (.int a4), some (.int i)]) (LL' := []) (st' := [.int (M 283 ((a1 + i).toNatClampNeg)), .int (a3 + i), .ref 272]) (S' := (z_SH, M, L)) (fun nq hq => And.intro rfl (And.intro rfl (And.intro rfl (And.intro rfl (And.intro rfl (And.intro rfl (And.intro rfl (And.intro rfl (And.intro p1 hq))))))))) ?_
    refine g_k 3 (pc' := 3) (LI' := [some (.ref 283), some (.int a1), some (.ref 272), some (.int a3), some (.int a4), some (.int (i + 1))]) (LL' := []) (st' := []) (S' := (z_SH, z_row M 272 (upd (M 272) ((a3 + i).toNatClampNeg) (M 283 ((a1 + i).toNatClampNeg))), L)) (fun nq hq => And.intro p2 (And.intro rfl (And.intro rfl hq))) ?_
    (unfold e_X9_bring_283_272_3_M at h; exact h )
def s_X9_bring_283_272_3 (M : Nat → Nat → Int32) (a1 : Int32) (a3 : Int32) (a4 : Int32)  (n : Nat) : (Nat → Nat → Int32) := Nat.rec (motive := fun _ => (Nat → Nat → Int32)) (M) (fun k r => (e_X9_bring_283_272_3_M r a1 a3 a4 (nI k))) n
theorem fr_e_X9_bring_283_272_3_M (M : Nat → Nat → Int32) (a1 : Int32) (a3 : Int32) (a4 : Int32) (i : Int32)  (c : Nat) (h272 : c ≠ 272) : e_X9_bring_283_272_3_M M a1 a3 a4 i c = M c := by
  unfold e_X9_bring_283_272_3_M
  repeat' split
  all_goals simp only [z_row_ne h272]
theorem fr_s_X9_bring_283_272_3 (M : Nat → Nat → Int32) (a1 : Int32) (a3 : Int32) (a4 : Int32)  (n : Nat) (c : Nat) (h272 : c ≠ 272) : ((s_X9_bring_283_272_3 M a1 a3 a4 n)) c = M c := by
  induction n with
  | zero => rfl
  | succ n ih => exact (fr_e_X9_bring_283_272_3_M _ a1 a3 a4 (nI n)  c h272).trans ih
theorem l_X9_bring_283_272_3 {d : Nat} {L : Nat → Nat → Int64} {Q : Option Value → z_St → Prop} (M : Nat → Nat → Int32) (a1 : Int32) (a3 : Int32) (a4 : Int32)  (n : Nat) : (∀ k, k < n → ¬ (a4 ≤ (nI k))) → (∀ k, k < n → qi_X9_bring_283_272_3 ((s_X9_bring_283_272_3 M a1 a3 a4 k)) a1 a3 a4 (nI k)) → (z_G (d + 0) tb_X9_bring 3 [some (.ref 283), some (.int a1), some (.ref 272), some (.int a3), some (.int a4), some (.int (nI n))] [] [] (z_SH, (s_X9_bring_283_272_3 M a1 a3 a4 n), L) Q) → z_G (d + 0) tb_X9_bring 3 [some (.ref 283), some (.int a1), some (.ref 272), some (.int a3), some (.int a4), some (.int (nI 0))] [] [] (z_SH, M, L) Q := by
  induction n with
  | zero =>
    intro hc p1 h
    exact h
  | succ n ih =>
    intro hc p1 h
    refine ih (fun k hk => hc k (by omega)) (fun k hk => p1 k (by omega)) ?_
    have hcn := hc n (by omega)
    have p1n := p1 n (by omega)
    clear ih hc p1
    have hs : s_X9_bring_283_272_3 M a1 a3 a4 (n + 1) = (e_X9_bring_283_272_3_M ((s_X9_bring_283_272_3 M a1 a3 a4 n)) a1 a3 a4 (nI n)) := rfl
    rw [hs] at h
    clear hs
    generalize s_X9_bring_283_272_3 M a1 a3 a4 n = sg at *
    refine it_X9_bring_283_272_3 sg a1 a3 a4 (nI n)  hcn p1n ?_
    rw [nI_1]
    exact h
def g_X9_bring_283_272 (M : Nat → Nat → Int32) (a1 : Int32) (a3 : Int32) (a4 : Int32) : Nat → Nat → Int32 := ((s_X9_bring_283_272_3 M a1 a3 a4 ((a4).toNatClampNeg)))
theorem fr_g_X9_bring_283_272 (M : Nat → Nat → Int32) (a1 : Int32) (a3 : Int32) (a4 : Int32) (c : Nat) (h272 : c ≠ 272) : g_X9_bring_283_272 M a1 a3 a4 c = M c := by
  unfold g_X9_bring_283_272
  repeat' split
  all_goals simp only [z_row_ne h272, fr_s_X9_bring_283_272_3 (c := c) (h272 := h272)]
def q_X9_bring_283_272 (M : Nat → Nat → Int32) (a1 : Int32) (a3 : Int32) (a4 : Int32) : Prop := (∀ k112, k112 < (a4).toNatClampNeg → qi_X9_bring_283_272_3 ((s_X9_bring_283_272_3 M a1 a3 a4 k112)) a1 a3 a4 (nI k112)) ∧ True
set_option maxRecDepth 20000 in
theorem c_X9_bring_283_272 {d : Nat} {L : Nat → Nat → Int64} (M : Nat → Nat → Int32) (a1 : Int32) (a3 : Int32) (a4 : Int32)  (hpre : q_X9_bring_283_272 M a1 a3 a4) : z_C (d + 1) 111 [.ref 283, .int a1, .ref 272, .int a3, .int a4] (z_SH, M, L) none (z_SH, g_X9_bring_283_272 M a1 a3 a4, L) := by
  unfold q_X9_bring_283_272 at hpre
  obtain ⟨p1, -⟩ := hpre
  refine z_mkA (tb := tb_X9_bring) rfl (by decide) rfl rfl rfl ?_
  refine g_k 2 (pc' := 3) (LI' := [some (.ref 283), some (.int a1), some (.ref 272), some (.int a3), some (.int a4), some (.int 0)]) (LL' := []) (st' := []) (S' := (z_SH, M, L)) (fun nq hq => And.intro rfl (And.intro rfl hq)) ?_
  refine l_X9_bring_283_272_3 (d := d) M a1 a3 a4 ((a4).toNatClampNeg) (fun k hk => z_lpc hk) p1 ?_ 
  have hx1 : a4 ≤ nI ((a4).toNatClampNeg) := z_lpe
  generalize hg1 : nI ((a4).toNatClampNeg) = r1 at *
  generalize hg2 : (s_X9_bring_283_272_3 M a1 a3 a4 ((a4).toNatClampNeg)) = m2 at *
  refine g_k 3 (pc' := (if z_cmp .ge r1 a4 = true then 28 else 10)) (LI' := [some (.ref 283), some (.int a1), some (.ref 272), some (.int a3), some (.int a4), some (.int r1)]) (LL' := []) (st' := []) (S' := (z_SH, m2, L)) (fun nq hq => And.intro rfl (And.intro rfl (And.intro rfl hq))) ?_
  refine g_ge (fun hc1 => ?_) (fun hc1 => absurd (hx1) hc1)
  exact ⟨1, And.intro rfl (⟨rfl, (by subst hg2; subst hg1; rfl)⟩)⟩
def e_X9_bring_284_273_3_M (M : Nat → Nat → Int32) (a1 : Int32) (a3 : Int32) (a4 : Int32) (i : Int32)  : Nat → Nat → Int32 := z_row M 273 (upd (M 273) ((a3 + i).toNatClampNeg) (M 284 ((a1 + i).toNatClampNeg)))
def qi_X9_bring_284_273_3 (M : Nat → Nat → Int32) (a1 : Int32) (a3 : Int32) (a4 : Int32) (i : Int32)  : Prop := (z_vin (a1 + i) 83 = true) ∧ (z_vin (a3 + i) 83 = true) ∧ True
set_option maxRecDepth 20000 in
theorem it_X9_bring_284_273_3 {d : Nat} {L : Nat → Nat → Int64} {Q : Option Value → z_St → Prop} (M : Nat → Nat → Int32) (a1 : Int32) (a3 : Int32) (a4 : Int32) (i : Int32)  (hc : ¬ (a4 ≤ i)) (p1 : qi_X9_bring_284_273_3 M a1 a3 a4 i) (h : z_G (d + 0) tb_X9_bring 3 [some (.ref 284), some (.int a1), some (.ref 273), some (.int a3), some (.int a4), some (.int (i + 1))] [] [] (z_SH, e_X9_bring_284_273_3_M M a1 a3 a4 i, L) Q) : z_G (d + 0) tb_X9_bring 3 [some (.ref 284), some (.int a1), some (.ref 273), some (.int a3), some (.int a4), some (.int i)] [] [] (z_SH, M, L) Q := by
  unfold qi_X9_bring_284_273_3 at p1
  obtain ⟨p1, p2, -⟩ := p1
  refine g_k 3 (pc' := (if z_cmp .ge i a4 = true then 28 else 10)) (LI' := [some (.ref 284), some (.int a1), some (.ref 273), some (.int a3), some (.int a4), some (.int i)]) (LL' := []) (st' := []) (S' := (z_SH, M, L)) (fun nq hq => And.intro rfl (And.intro rfl (And.intro rfl hq))) ?_
  refine g_ge (fun hc1 => ?_) (fun hc1 => ?_)
  · exact absurd hc1 hc
  · refine g_k 9 (pc' := 21) (LI' := [some (.ref 284), some (.int a1), some (.ref 273), some (.int a3), some (.int a4), some (.int i)]) (LL' := []) (st' := [.int (M 284 ((a1 + i).toNatClampNeg)), .int (a3 + i), .ref 273]) (S' := (z_SH, M, L)) (fun nq hq => And.intro rfl (And.intro rfl (And.intro rfl (And.intro rfl (And.intro rfl (And.intro rfl (And.intro rfl (And.intro rfl (And.intro p1 hq))))))))) ?_
    refine g_k 3 (pc' := 3) (LI' := [some (.ref 284), some (.int a1), some (.ref 273), some (.int a3), some (.int a4), some (.int (i + 1))]) (LL' := []) (st' := []) (S' := (z_SH, z_row M 273 (upd (M 273) ((a3 + i).toNatClampNeg) (M 284 ((a1 + i).toNatClampNeg))), L)) (fun nq hq => And.intro p2 (And.intro rfl (And.intro rfl hq))) ?_
    (unfold e_X9_bring_284_273_3_M at h; exact h )
def s_X9_bring_284_273_3 (M : Nat → Nat → Int32) (a1 : Int32) (a3 : Int32) (a4 : Int32)  (n : Nat) : (Nat → Nat → Int32) := Nat.rec (motive := fun _ => (Nat → Nat → Int32)) (M) (fun k r => (e_X9_bring_284_273_3_M r a1 a3 a4 (nI k))) n
theorem fr_e_X9_bring_284_273_3_M (M : Nat → Nat → Int32) (a1 : Int32) (a3 : Int32) (a4 : Int32) (i : Int32)  (c : Nat) (h273 : c ≠ 273) : e_X9_bring_284_273_3_M M a1 a3 a4 i c = M c := by
  unfold e_X9_bring_284_273_3_M
  repeat' split
  all_goals simp only [z_row_ne h273]
theorem fr_s_X9_bring_284_273_3 (M : Nat → Nat → Int32) (a1 : Int32) (a3 : Int32) (a4 : Int32)  (n : Nat) (c : Nat) (h273 : c ≠ 273) : ((s_X9_bring_284_273_3 M a1 a3 a4 n)) c = M c := by
  induction n with
  | zero => rfl
  | succ n ih => exact (fr_e_X9_bring_284_273_3_M _ a1 a3 a4 (nI n)  c h273).trans ih
theorem l_X9_bring_284_273_3 {d : Nat} {L : Nat → Nat → Int64} {Q : Option Value → z_St → Prop} (M : Nat → Nat → Int32) (a1 : Int32) (a3 : Int32) (a4 : Int32)  (n : Nat) : (∀ k, k < n → ¬ (a4 ≤ (nI k))) → (∀ k, k < n → qi_X9_bring_284_273_3 ((s_X9_bring_284_273_3 M a1 a3 a4 k)) a1 a3 a4 (nI k)) → (z_G (d + 0) tb_X9_bring 3 [some (.ref 284), some (.int a1), some (.ref 273), some (.int a3), some (.int a4), some (.int (nI n))] [] [] (z_SH, (s_X9_bring_284_273_3 M a1 a3 a4 n), L) Q) → z_G (d + 0) tb_X9_bring 3 [some (.ref 284), some (.int a1), some (.ref 273), some (.int a3), some (.int a4), some (.int (nI 0))] [] [] (z_SH, M, L) Q := by
  induction n with
  | zero =>
    intro hc p1 h
    exact h
  | succ n ih =>
    intro hc p1 h
    refine ih (fun k hk => hc k (by omega)) (fun k hk => p1 k (by omega)) ?_
    have hcn := hc n (by omega)
    have p1n := p1 n (by omega)
    clear ih hc p1
    have hs : s_X9_bring_284_273_3 M a1 a3 a4 (n + 1) = (e_X9_bring_284_273_3_M ((s_X9_bring_284_273_3 M a1 a3 a4 n)) a1 a3 a4 (nI n)) := rfl
    rw [hs] at h
    clear hs
    generalize s_X9_bring_284_273_3 M a1 a3 a4 n = sg at *
    refine it_X9_bring_284_273_3 sg a1 a3 a4 (nI n)  hcn p1n ?_
    rw [nI_1]
    exact h
def g_X9_bring_284_273 (M : Nat → Nat → Int32) (a1 : Int32) (a3 : Int32) (a4 : Int32) : Nat → Nat → Int32 := ((s_X9_bring_284_273_3 M a1 a3 a4 ((a4).toNatClampNeg)))
theorem fr_g_X9_bring_284_273 (M : Nat → Nat → Int32) (a1 : Int32) (a3 : Int32) (a4 : Int32) (c : Nat) (h273 : c ≠ 273) : g_X9_bring_284_273 M a1 a3 a4 c = M c := by
  unfold g_X9_bring_284_273
  repeat' split
  all_goals simp only [z_row_ne h273, fr_s_X9_bring_284_273_3 (c := c) (h273 := h273)]
def q_X9_bring_284_273 (M : Nat → Nat → Int32) (a1 : Int32) (a3 : Int32) (a4 : Int32) : Prop := (∀ k113, k113 < (a4).toNatClampNeg → qi_X9_bring_284_273_3 ((s_X9_bring_284_273_3 M a1 a3 a4 k113)) a1 a3 a4 (nI k113)) ∧ True
set_option maxRecDepth 20000 in
theorem c_X9_bring_284_273 {d : Nat} {L : Nat → Nat → Int64} (M : Nat → Nat → Int32) (a1 : Int32) (a3 : Int32) (a4 : Int32)  (hpre : q_X9_bring_284_273 M a1 a3 a4) : z_C (d + 1) 111 [.ref 284, .int a1, .ref 273, .int a3, .int a4] (z_SH, M, L) none (z_SH, g_X9_bring_284_273 M a1 a3 a4, L) := by
  unfold q_X9_bring_284_273 at hpre
  obtain ⟨p1, -⟩ := hpre
  refine z_mkA (tb := tb_X9_bring) rfl (by decide) rfl rfl rfl ?_
  refine g_k 2 (pc' := 3) (LI' := [some (.ref 284), some (.int a1), some (.ref 273), some (.int a3), some (.int a4), some (.int 0)]) (LL' := []) (st' := []) (S' := (z_SH, M, L)) (fun nq hq => And.intro rfl (And.intro rfl hq)) ?_
  refine l_X9_bring_284_273_3 (d := d) M a1 a3 a4 ((a4).toNatClampNeg) (fun k hk => z_lpc hk) p1 ?_ 
  have hx1 : a4 ≤ nI ((a4).toNatClampNeg) := z_lpe
  generalize hg1 : nI ((a4).toNatClampNeg) = r1 at *
  generalize hg2 : (s_X9_bring_284_273_3 M a1 a3 a4 ((a4).toNatClampNeg)) = m2 at *
  refine g_k 3 (pc' := (if z_cmp .ge r1 a4 = true then 28 else 10)) (LI' := [some (.ref 284), some (.int a1), some (.ref 273), some (.int a3), some (.int a4), some (.int r1)]) (LL' := []) (st' := []) (S' := (z_SH, m2, L)) (fun nq hq => And.intro rfl (And.intro rfl (And.intro rfl hq))) ?_
  refine g_ge (fun hc1 => ?_) (fun hc1 => absurd (hx1) hc1)
  exact ⟨1, And.intro rfl (⟨rfl, (by subst hg2; subst hg1; rfl)⟩)⟩
