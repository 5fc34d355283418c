def f_X9_member_w0 (M : Nat → Nat → Int32) (m : Int32) : Int32 := if ¬ (f_X9_isMember_274 M m) = (0 : Int32) then M 276 ((m).toNatClampNeg) else (-1000000001 : Int32)
def q_X9_member_w0 (M : Nat → Nat → Int32) (m : Int32) : Prop := ((¬ (f_X9_isMember_274 M m) = (0 : Int32)) → (z_vin m 6 = true)) ∧ True
theorem c_X9_member_w0 {d : Nat} {L : Nat → Nat → Int64} (M : Nat → Nat → Int32) (m : Int32)  (hpre : q_X9_member_w0 M m) : z_C (d + 3) 148 [.ref 274, .int m, .int 0] (z_SH, M, L) (some (.int (f_X9_member_w0 M m))) (z_SH, M, L) := by
  unfold q_X9_member_w0 at hpre
  obtain ⟨p1, -⟩ := hpre
  refine z_mkA (tb := tb_X9_member) rfl (by decide) rfl rfl rfl ?_
  refine g_k 2 (pc' := 2) (LI' := [some (.ref 274), some (.int m), some (.int 0)]) (LL' := []) (st' := [.int m, .ref 274]) (S' := (z_SH, M, L)) (fun nq hq => And.intro rfl (And.intro rfl hq)) ?_
  refine g_k 1 (pc' := 5) (LI' := [some (.ref 274), some (.int m), some (.int 0)]) (LL' := []) (st' := [.int (f_X9_isMember_274 M m)]) (S' := (z_SH, M, L)) (fun nq hq => And.intro rfl (Exists.intro _ (Exists.intro _ (And.intro (c_X9_isMember_274 (d := d) M m) (And.intro (z_fit_same _ _ _ _ _ _ _ _) hq))))) ?_
  generalize hg1 : f_X9_isMember_274 M m = r1 at *
  refine g_k 1 (pc' := (if z_cmp .ne r1 ((0 : Int32)) = true then 11 else 8)) (LI' := [some (.ref 274), some (.int m), some (.int 0)]) (LL' := []) (st' := []) (S' := (z_SH, M, L)) (fun nq hq => And.intro rfl hq) ?_
  refine g_ne (fun hc1 => ?_) (fun hc1 => ?_)
  · refine g_k 6 (pc' := 66) (LI' := [some (.ref 274), some (.int m), some (.int 0)]) (LL' := []) (st' := [.int (M 276 ((m).toNatClampNeg))]) (S' := (z_SH, M, L)) (fun nq hq => And.intro rfl (And.intro rfl (And.intro rfl (And.intro rfl (And.intro rfl (And.intro (p1 hc1) hq)))))) ?_
    exact ⟨1, And.intro rfl (⟨(by subst hg1; unfold f_X9_member_w0; (first | rw [if_pos hc1] | skip); try rfl), rfl⟩)⟩
  · refine g_k 1 (pc' := 10) (LI' := [some (.ref 274), some (.int m), some (.int 0)]) (LL' := []) (st' := [.int (-1000000001)]) (S' := (z_SH, M, L)) (fun nq hq => And.intro rfl hq) ?_
    exact ⟨1, And.intro rfl (⟨(by subst hg1; unfold f_X9_member_w0; (first | rw [if_neg (not_not_intro hc1)] | skip); try rfl), rfl⟩)⟩
def f_X9_member_w1 (M : Nat → Nat → Int32) (m : Int32) : Int32 := if ¬ (f_X9_isMember_274 M m) = (0 : Int32) then M 277 ((m).toNatClampNeg) else (-1000000001 : Int32)
def q_X9_member_w1 (M : Nat → Nat → Int32) (m : Int32) : Prop := ((¬ (f_X9_isMember_274 M m) = (0 : Int32)) → (z_vin m 6 = true)) ∧ True
theorem c_X9_member_w1 {d : Nat} {L : Nat → Nat → Int64} (M : Nat → Nat → Int32) (m : Int32)  (hpre : q_X9_member_w1 M m) : z_C (d + 3) 148 [.ref 274, .int m, .int 1] (z_SH, M, L) (some (.int (f_X9_member_w1 M m))) (z_SH, M, L) := by
  unfold q_X9_member_w1 at hpre
  obtain ⟨p1, -⟩ := hpre
  refine z_mkA (tb := tb_X9_member) rfl (by decide) rfl rfl rfl ?_
  refine g_k 2 (pc' := 2) (LI' := [some (.ref 274), some (.int m), some (.int 1)]) (LL' := []) (st' := [.int m, .ref 274]) (S' := (z_SH, M, L)) (fun nq hq => And.intro rfl (And.intro rfl hq)) ?_
  refine g_k 1 (pc' := 5) (LI' := [some (.ref 274), some (.int m), some (.int 1)]) (LL' := []) (st' := [.int (f_X9_isMember_274 M m)]) (S' := (z_SH, M, L)) (fun nq hq => And.intro rfl (Exists.intro _ (Exists.intro _ (And.intro (c_X9_isMember_274 (d := d) M m) (And.intro (z_fit_same _ _ _ _ _ _ _ _) hq))))) ?_
  generalize hg1 : f_X9_isMember_274 M m = r1 at *
  refine g_k 1 (pc' := (if z_cmp .ne r1 ((0 : Int32)) = true then 11 else 8)) (LI' := [some (.ref 274), some (.int m), some (.int 1)]) (LL' := []) (st' := []) (S' := (z_SH, M, L)) (fun nq hq => And.intro rfl hq) ?_
  refine g_ne (fun hc1 => ?_) (fun hc1 => ?_)
  · refine g_k 6 (pc' := 73) (LI' := [some (.ref 274), some (.int m), some (.int 1)]) (LL' := []) (st' := [.int (M 277 ((m).toNatClampNeg))]) (S' := (z_SH, M, L)) (fun nq hq => And.intro rfl (And.intro rfl (And.intro rfl (And.intro rfl (And.intro rfl (And.intro (p1 hc1) hq)))))) ?_
    exact ⟨1, And.intro rfl (⟨(by subst hg1; unfold f_X9_member_w1; (first | rw [if_pos hc1] | skip); try rfl), rfl⟩)⟩
  · refine g_k 1 (pc' := 10) (LI' := [some (.ref 274), some (.int m), some (.int 1)]) (LL' := []) (st' := [.int (-1000000001)]) (S' := (z_SH, M, L)) (fun nq hq => And.intro rfl hq) ?_
    exact ⟨1, And.intro rfl (⟨(by subst hg1; unfold f_X9_member_w1; (first | rw [if_neg (not_not_intro hc1)] | skip); try rfl), rfl⟩)⟩
def f_X9_member_w2 (M : Nat → Nat → Int32) (m : Int32) : Int32 := if ¬ (f_X9_isMember_274 M m) = (0 : Int32) then M 279 ((((4 : Int32)) + m).toNatClampNeg) else (-1000000001 : Int32)
def q_X9_member_w2 (M : Nat → Nat → Int32) (m : Int32) : Prop := ((¬ (f_X9_isMember_274 M m) = (0 : Int32)) → (z_vin (((4 : Int32)) + m) 83 = true)) ∧ True
theorem c_X9_member_w2 {d : Nat} {L : Nat → Nat → Int64} (M : Nat → Nat → Int32) (m : Int32)  (hpre : q_X9_member_w2 M m) : z_C (d + 3) 148 [.ref 274, .int m, .int 2] (z_SH, M, L) (some (.int (f_X9_member_w2 M m))) (z_SH, M, L) := by
  unfold q_X9_member_w2 at hpre
  obtain ⟨p1, -⟩ := hpre
  refine z_mkA (tb := tb_X9_member) rfl (by decide) rfl rfl rfl ?_
  refine g_k 2 (pc' := 2) (LI' := [some (.ref 274), some (.int m), some (.int 2)]) (LL' := []) (st' := [.int m, .ref 274]) (S' := (z_SH, M, L)) (fun nq hq => And.intro rfl (And.intro rfl hq)) ?_
  refine g_k 1 (pc' := 5) (LI' := [some (.ref 274), some (.int m), some (.int 2)]) (LL' := []) (st' := [.int (f_X9_isMember_274 M m)]) (S' := (z_SH, M, L)) (fun nq hq => And.intro rfl (Exists.intro _ (Exists.intro _ (And.intro (c_X9_isMember_274 (d := d) M m) (And.intro (z_fit_same _ _ _ _ _ _ _ _) hq))))) ?_
  generalize hg1 : f_X9_isMember_274 M m = r1 at *
  refine g_k 1 (pc' := (if z_cmp .ne r1 ((0 : Int32)) = true then 11 else 8)) (LI' := [some (.ref 274), some (.int m), some (.int 2)]) (LL' := []) (st' := []) (S' := (z_SH, M, L)) (fun nq hq => And.intro rfl hq) ?_
  refine g_ne (fun hc1 => ?_) (fun hc1 => ?_)
  · refine g_k 8 (pc' := 82) (LI' := [some (.ref 274), some (.int m), some (.int 2)]) (LL' := []) (st' := [.int (M 279 ((((4 : Int32)) + m).toNatClampNeg))]) (S' := (z_SH, M, L)) (fun nq hq => And.intro rfl (And.intro rfl (And.intro rfl (And.intro rfl (And.intro rfl (And.intro rfl (And.intro rfl (And.intro (p1 hc1) hq)))))))) ?_
    exact ⟨1, And.intro rfl (⟨(by subst hg1; unfold f_X9_member_w2; (first | rw [if_pos hc1] | skip); try rfl), rfl⟩)⟩
  · refine g_k 1 (pc' := 10) (LI' := [some (.ref 274), some (.int m), some (.int 2)]) (LL' := []) (st' := [.int (-1000000001)]) (S' := (z_SH, M, L)) (fun nq hq => And.intro rfl hq) ?_
    exact ⟨1, And.intro rfl (⟨(by subst hg1; unfold f_X9_member_w2; (first | rw [if_neg (not_not_intro hc1)] | skip); try rfl), rfl⟩)⟩
def f_X9_member_w3 (M : Nat → Nat → Int32) (m : Int32) : Int32 := if ¬ (f_X9_isMember_274 M m) = (0 : Int32) then M 278 ((m).toNatClampNeg) else (-1000000001 : Int32)
def q_X9_member_w3 (M : Nat → Nat → Int32) (m : Int32) : Prop := ((¬ (f_X9_isMember_274 M m) = (0 : Int32)) → (z_vin m 6 = true)) ∧ True
theorem c_X9_member_w3 {d : Nat} {L : Nat → Nat → Int64} (M : Nat → Nat → Int32) (m : Int32)  (hpre : q_X9_member_w3 M m) : z_C (d + 3) 148 [.ref 274, .int m, .int 3] (z_SH, M, L) (some (.int (f_X9_member_w3 M m))) (z_SH, M, L) := by
  unfold q_X9_member_w3 at hpre
  obtain ⟨p1, -⟩ := hpre
  refine z_mkA (tb := tb_X9_member) rfl (by decide) rfl rfl rfl ?_
  refine g_k 2 (pc' := 2) (LI' := [some (.ref 274), some (.int m), some (.int 3)]) (LL' := []) (st' := [.int m, .ref 274]) (S' := (z_SH, M, L)) (fun nq hq => And.intro rfl (And.intro rfl hq)) ?_
  refine g_k 1 (pc' := 5) (LI' := [some (.ref 274), some (.int m), some (.int 3)]) (LL' := []) (st' := [.int (f_X9_isMember_274 M m)]) (S' := (z_SH, M, L)) (fun nq hq => And.intro rfl (Exists.intro _ (Exists.intro _ (And.intro (c_X9_isMember_274 (d := d) M m) (And.intro (z_fit_same _ _ _ _ _ _ _ _) hq))))) ?_
  generalize hg1 : f_X9_isMember_274 M m = r1 at *
  refine g_k 1 (pc' := (if z_cmp .ne r1 ((0 : Int32)) = true then 11 else 8)) (LI' := [some (.ref 274), some (.int m), some (.int 3)]) (LL' := []) (st' := []) (S' := (z_SH, M, L)) (fun nq hq => And.intro rfl hq) ?_
  refine g_ne (fun hc1 => ?_) (fun hc1 => ?_)
  · refine g_k 6 (pc' := 89) (LI' := [some (.ref 274), some (.int m), some (.int 3)]) (LL' := []) (st' := [.int (M 278 ((m).toNatClampNeg))]) (S' := (z_SH, M, L)) (fun nq hq => And.intro rfl (And.intro rfl (And.intro rfl (And.intro rfl (And.intro rfl (And.intro (p1 hc1) hq)))))) ?_
    exact ⟨1, And.intro rfl (⟨(by subst hg1; unfold f_X9_member_w3; (first | rw [if_pos hc1] | skip); try rfl), rfl⟩)⟩
  · refine g_k 1 (pc' := 10) (LI' := [some (.ref 274), some (.int m), some (.int 3)]) (LL' := []) (st' := [.int (-1000000001)]) (S' := (z_SH, M, L)) (fun nq hq => And.intro rfl hq) ?_
    exact ⟨1, And.intro rfl (⟨(by subst hg1; unfold f_X9_member_w3; (first | rw [if_neg (not_not_intro hc1)] | skip); try rfl), rfl⟩)⟩
def f_X9_member_w4 (M : Nat → Nat → Int32) (m : Int32) : Int32 := if ¬ (f_X9_isMember_274 M m) = (0 : Int32) then (f_X9_strapsThat_279 M m) else (-1000000001 : Int32)
def q_X9_member_w4 (M : Nat → Nat → Int32) (m : Int32) : Prop := ((¬ (f_X9_isMember_274 M m) = (0 : Int32)) → (q_X9_strapsThat_279 M m)) ∧ True
theorem c_X9_member_w4 {d : Nat} {L : Nat → Nat → Int64} (M : Nat → Nat → Int32) (m : Int32)  (hpre : q_X9_member_w4 M m) : z_C (d + 3) 148 [.ref 274, .int m, .int 4] (z_SH, M, L) (some (.int (f_X9_member_w4 M m))) (z_SH, M, L) := by
  unfold q_X9_member_w4 at hpre
  obtain ⟨p1, -⟩ := hpre
  refine z_mkA (tb := tb_X9_member) rfl (by decide) rfl rfl rfl ?_
  refine g_k 2 (pc' := 2) (LI' := [some (.ref 274), some (.int m), some (.int 4)]) (LL' := []) (st' := [.int m, .ref 274]) (S' := (z_SH, M, L)) (fun nq hq => And.intro rfl (And.intro rfl hq)) ?_
  refine g_k 1 (pc' := 5) (LI' := [some (.ref 274), some (.int m), some (.int 4)]) (LL' := []) (st' := [.int (f_X9_isMember_274 M m)]) (S' := (z_SH, M, L)) (fun nq hq => And.intro rfl (Exists.intro _ (Exists.intro _ (And.intro (c_X9_isMember_274 (d := d) M m) (And.intro (z_fit_same _ _ _ _ _ _ _ _) hq))))) ?_
  generalize hg1 : f_X9_isMember_274 M m = r1 at *
  refine g_k 1 (pc' := (if z_cmp .ne r1 ((0 : Int32)) = true then 11 else 8)) (LI' := [some (.ref 274), some (.int m), some (.int 4)]) (LL' := []) (st' := []) (S' := (z_SH, M, L)) (fun nq hq => And.intro rfl hq) ?_
  refine g_ne (fun hc1 => ?_) (fun hc1 => ?_)
  · refine g_k 5 (pc' := 95) (LI' := [some (.ref 274), some (.int m), some (.int 4)]) (LL' := []) (st' := [.int m, .ref 279]) (S' := (z_SH, M, L)) (fun nq hq => And.intro rfl (And.intro rfl (And.intro rfl (And.intro rfl (And.intro rfl hq))))) ?_
    refine g_k 1 (pc' := 98) (LI' := [some (.ref 274), some (.int m), some (.int 4)]) (LL' := []) (st' := [.int (f_X9_strapsThat_279 M m)]) (S' := (z_SH, M, L)) (fun nq hq => And.intro rfl (Exists.intro _ (Exists.intro _ (And.intro (c_X9_strapsThat_279 (d := d) M m (p1 hc1)) (And.intro (z_fit_same _ _ _ _ _ _ _ _) hq))))) ?_
    generalize hg2 : f_X9_strapsThat_279 M m = r2 at *
    exact ⟨1, And.intro rfl (⟨(by subst hg2; subst hg1; unfold f_X9_member_w4; (first | rw [if_pos hc1] | skip); try rfl), rfl⟩)⟩
  · refine g_k 1 (pc' := 10) (LI' := [some (.ref 274), some (.int m), some (.int 4)]) (LL' := []) (st' := [.int (-1000000001)]) (S' := (z_SH, M, L)) (fun nq hq => And.intro rfl hq) ?_
    exact ⟨1, And.intro rfl (⟨(by subst hg1; unfold f_X9_member_w4; (first | rw [if_neg (not_not_intro hc1)] | skip); try rfl), rfl⟩)⟩
def e_X9_heldOn_274_4_c2 (M : Nat → Nat → Int32) (a1 : Int32) (i : Int32) (c2 : Int32) : Int32 := if (f_X9_isHeld_274_279 M a1 i) = (0 : Int32) then c2 ||| ((0 : Int32)) else c2 ||| (((1 : Int32)) <<< (i &&& 31))
def qi_X9_heldOn_274_4 (M : Nat → Nat → Int32) (a1 : Int32) (i : Int32) (c2 : Int32) : Prop := (q_X9_isHeld_274_279 M a1 i) ∧ True
theorem it_X9_heldOn_274_4 {d : Nat} {L : Nat → Nat → Int64} {Q : Option Value → z_St → Prop} (M : Nat → Nat → Int32) (a1 : Int32) (i : Int32) (c2 : Int32) (hc : ¬ ((8 : Int32) ≤ i)) (p1 : qi_X9_heldOn_274_4 M a1 i c2) (h : z_G (d + 5) tb_X9_heldOn 4 [some (.ref 274), some (.int a1), some (.int (e_X9_heldOn_274_4_c2 M a1 i c2)), some (.int (i + 1))] [] [] (z_SH, M, L) Q) : z_G (d + 5) tb_X9_heldOn 4 [some (.ref 274), some (.int a1), some (.int c2), some (.int i)] [] [] (z_SH, M, L) Q := by
  unfold qi_X9_heldOn_274_4 at p1
  obtain ⟨p1, -⟩ := p1
  refine g_k 3 (pc' := (if z_cmp .ge i ((8 : Int32)) = true then 39 else 10)) (LI' := [some (.ref 274), some (.int a1), some (.int c2), some (.int i)]) (LL' := []) (st' := []) (S' := (z_SH, M, L)) (fun nq hq => And.intro rfl (And.intro rfl (And.intro rfl hq))) ?_
  refine g_ge (fun hc1 => ?_) (fun hc1 => ?_)
  · exact absurd hc1 hc
  · refine g_k 6 (pc' := 18) (LI' := [some (.ref 274), some (.int a1), some (.int c2), some (.int i)]) (LL' := []) (st' := [.int i, .int a1, .ref 279, .ref 274, .int c2]) (S' := (z_SH, M, L)) (fun nq hq => And.intro rfl (And.intro rfl (And.intro rfl (And.intro rfl (And.intro rfl (And.intro rfl hq)))))) ?_
    refine g_k 1 (pc' := 21) (LI' := [some (.ref 274), some (.int a1), some (.int c2), some (.int i)]) (LL' := []) (st' := [.int (f_X9_isHeld_274_279 M a1 i), .int c2]) (S' := (z_SH, M, L)) (fun nq hq => And.intro rfl (Exists.intro _ (Exists.intro _ (And.intro (c_X9_isHeld_274_279 (d := d) M a1 i p1) (And.intro (z_fit_same _ _ _ _ _ _ _ _) hq))))) ?_
    generalize hg1 : f_X9_isHeld_274_279 M a1 i = r1 at *
    refine g_k 1 (pc' := (if z_cmp .eq r1 ((0 : Int32)) = true then 30 else 24)) (LI' := [some (.ref 274), some (.int a1), some (.int c2), some (.int i)]) (LL' := []) (st' := [.int c2]) (S' := (z_SH, M, L)) (fun nq hq => And.intro rfl hq) ?_
    refine g_eq (fun hc2 => ?_) (fun hc2 => ?_)
    · refine g_k 5 (pc' := 4) (LI' := [some (.ref 274), some (.int a1), some (.int (c2 ||| ((0 : Int32)))), some (.int (i + 1))]) (LL' := []) (st' := []) (S' := (z_SH, M, L)) (fun nq hq => And.intro rfl (And.intro rfl (And.intro rfl (And.intro rfl (And.intro rfl hq))))) ?_
      (subst hg1; unfold e_X9_heldOn_274_4_c2 at h; (try simp only [if_pos hc2] at h); exact h )
    · refine g_k 8 (pc' := 4) (LI' := [some (.ref 274), some (.int a1), some (.int (c2 ||| (((1 : Int32)) <<< (i &&& 31)))), some (.int (i + 1))]) (LL' := []) (st' := []) (S' := (z_SH, M, L)) (fun nq hq => And.intro rfl (And.intro rfl (And.intro rfl (And.intro rfl (And.intro rfl (And.intro rfl (And.intro rfl (And.intro rfl hq)))))))) ?_
      (subst hg1; unfold e_X9_heldOn_274_4_c2 at h; (try simp only [if_neg hc2] at h); exact h )
def s_X9_heldOn_274_4 (M : Nat → Nat → Int32) (a1 : Int32) (c2 : Int32) (n : Nat) : Int32 := Nat.rec (motive := fun _ => Int32) (c2) (fun k r => (e_X9_heldOn_274_4_c2 M a1 (nI k) r)) n
theorem l_X9_heldOn_274_4 {d : Nat} {L : Nat → Nat → Int64} {Q : Option Value → z_St → Prop} (M : Nat → Nat → Int32) (a1 : Int32) (c2 : Int32) (n : Nat) : (∀ k, k < n → ¬ ((8 : Int32) ≤ (nI k))) → (∀ k, k < n → qi_X9_heldOn_274_4 M a1 (nI k) ((s_X9_heldOn_274_4 M a1 c2 k))) → (z_G (d + 5) tb_X9_heldOn 4 [some (.ref 274), some (.int a1), some (.int ((s_X9_heldOn_274_4 M a1 c2 n))), some (.int (nI n))] [] [] (z_SH, M, L) Q) → z_G (d + 5) tb_X9_heldOn 4 [some (.ref 274), some (.int a1), some (.int c2), some (.int (nI 0))] [] [] (z_SH, M, L) Q := by
  induction n with
  | zero =>
    intro hc p1 h
    exact h
  | succ n ih =>
    intro hc p1 h
    refine ih (fun k hk => hc k (by omega)) (fun k hk => p1 k (by omega)) ?_
    have hcn := hc n (by omega)
    have p1n := p1 n (by omega)
    clear ih hc p1
    have hs : s_X9_heldOn_274_4 M a1 c2 (n + 1) = (e_X9_heldOn_274_4_c2 M a1 (nI n) ((s_X9_heldOn_274_4 M a1 c2 n))) := rfl
    rw [hs] at h
    clear hs
    generalize s_X9_heldOn_274_4 M a1 c2 n = sg at *
    refine it_X9_heldOn_274_4 M a1 (nI n) sg hcn p1n ?_
    rw [nI_1]
    exact h
def f_X9_heldOn_274 (M : Nat → Nat → Int32) (a1 : Int32) : Int32 := ((s_X9_heldOn_274_4 M a1 ((0 : Int32)) 8))
def q_X9_heldOn_274 (M : Nat → Nat → Int32) (a1 : Int32) : Prop := (∀ k74, k74 < 8 → qi_X9_heldOn_274_4 M a1 (nI k74) ((s_X9_heldOn_274_4 M a1 ((0 : Int32)) k74))) ∧ True
theorem c_X9_heldOn_274 {d : Nat} {L : Nat → Nat → Int64} (M : Nat → Nat → Int32) (a1 : Int32)  (hpre : q_X9_heldOn_274 M a1) : z_C (d + 6) 145 [.ref 274, .int a1] (z_SH, M, L) (some (.int (f_X9_heldOn_274 M a1))) (z_SH, M, L) := by
  unfold q_X9_heldOn_274 at hpre
  obtain ⟨p1, -⟩ := hpre
  refine z_mkA (tb := tb_X9_heldOn) rfl (by decide) rfl rfl rfl ?_
  refine g_k 4 (pc' := 4) (LI' := [some (.ref 274), some (.int a1), some (.int 0), some (.int 0)]) (LL' := []) (st' := []) (S' := (z_SH, M, L)) (fun nq hq => And.intro rfl (And.intro rfl (And.intro rfl (And.intro rfl hq)))) ?_
  refine l_X9_heldOn_274_4 (d := d) M a1 ((0 : Int32)) 8 (fun k hk => z_lpc hk) p1 ?_ 
  have hx1 : (8 : Int32) ≤ nI 8 := z_lpe
  generalize hg1 : (s_X9_heldOn_274_4 M a1 ((0 : Int32)) 8) = r1 at *
  generalize hg2 : nI 8 = r2 at *
  refine g_k 3 (pc' := (if z_cmp .ge r2 ((8 : Int32)) = true then 39 else 10)) (LI' := [some (.ref 274), some (.int a1), some (.int r1), some (.int r2)]) (LL' := []) (st' := []) (S' := (z_SH, M, L)) (fun nq hq => And.intro rfl (And.intro rfl (And.intro rfl hq))) ?_
  refine g_ge (fun hc1 => ?_) (fun hc1 => absurd (hx1) hc1)
  refine g_k 1 (pc' := 40) (LI' := [some (.ref 274), some (.int a1), some (.int r1), some (.int r2)]) (LL' := []) (st' := [.int r1]) (S' := (z_SH, M, L)) (fun nq hq => And.intro rfl hq) ?_
  exact ⟨1, And.intro rfl (⟨(by subst hg2; subst hg1; rfl), rfl⟩)⟩
def f_X9_member_w5 (M : Nat → Nat → Int32) (m : Int32) : Int32 := if ¬ (f_X9_isMember_274 M m) = (0 : Int32) then (f_X9_heldOn_274 M m) else (-1000000001 : Int32)
def q_X9_member_w5 (M : Nat → Nat → Int32) (m : Int32) : Prop := ((¬ (f_X9_isMember_274 M m) = (0 : Int32)) → (q_X9_heldOn_274 M m)) ∧ True
theorem c_X9_member_w5 {d : Nat} {L : Nat → Nat → Int64} (M : Nat → Nat → Int32) (m : Int32)  (hpre : q_X9_member_w5 M m) : z_C (d + 7) 148 [.ref 274, .int m, .int 5] (z_SH, M, L) (some (.int (f_X9_member_w5 M m))) (z_SH, M, L) := by
  unfold q_X9_member_w5 at hpre
  obtain ⟨p1, -⟩ := hpre
  refine z_mkA (tb := tb_X9_member) rfl (by decide) rfl rfl rfl ?_
  refine g_k 2 (pc' := 2) (LI' := [some (.ref 274), some (.int m), some (.int 5)]) (LL' := []) (st' := [.int m, .ref 274]) (S' := (z_SH, M, L)) (fun nq hq => And.intro rfl (And.intro rfl hq)) ?_
  refine g_k 1 (pc' := 5) (LI' := [some (.ref 274), some (.int m), some (.int 5)]) (LL' := []) (st' := [.int (f_X9_isMember_274 M m)]) (S' := (z_SH, M, L)) (fun nq hq => And.intro rfl (Exists.intro _ (Exists.intro _ (And.intro (c_X9_isMember_274 (d := d + 4) M m) (And.intro (z_fit_same _ _ _ _ _ _ _ _) hq))))) ?_
  generalize hg1 : f_X9_isMember_274 M m = r1 at *
  refine g_k 1 (pc' := (if z_cmp .ne r1 ((0 : Int32)) = true then 11 else 8)) (LI' := [some (.ref 274), some (.int m), some (.int 5)]) (LL' := []) (st' := []) (S' := (z_SH, M, L)) (fun nq hq => And.intro rfl hq) ?_
  refine g_ne (fun hc1 => ?_) (fun hc1 => ?_)
  · refine g_k 4 (pc' := 101) (LI' := [some (.ref 274), some (.int m), some (.int 5)]) (LL' := []) (st' := [.int m, .ref 274]) (S' := (z_SH, M, L)) (fun nq hq => And.intro rfl (And.intro rfl (And.intro rfl (And.intro rfl hq)))) ?_
    refine g_k 1 (pc' := 104) (LI' := [some (.ref 274), some (.int m), some (.int 5)]) (LL' := []) (st' := [.int (f_X9_heldOn_274 M m)]) (S' := (z_SH, M, L)) (fun nq hq => And.intro rfl (Exists.intro _ (Exists.intro _ (And.intro (c_X9_heldOn_274 (d := d) M m (p1 hc1)) (And.intro (z_fit_same _ _ _ _ _ _ _ _) hq))))) ?_
    generalize hg2 : f_X9_heldOn_274 M m = r2 at *
    exact ⟨1, And.intro rfl (⟨(by subst hg2; subst hg1; unfold f_X9_member_w5; (first | rw [if_pos hc1] | skip); try rfl), rfl⟩)⟩
  · refine g_k 1 (pc' := 10) (LI' := [some (.ref 274), some (.int m), some (.int 5)]) (LL' := []) (st' := [.int (-1000000001)]) (S' := (z_SH, M, L)) (fun nq hq => And.intro rfl hq) ?_
    exact ⟨1, And.intro rfl (⟨(by subst hg1; unfold f_X9_member_w5; (first | rw [if_neg (not_not_intro hc1)] | skip); try rfl), rfl⟩)⟩
def e_X9_clashesOf_274_18_c2 (M : Nat → Nat → Int32) (a1 : Int32) (v3 : Int32) (i : Int32) (c2 : Int32) : Int32 := if (f_X9_has M a1 v3) = (0 : Int32) then c2 + ((0 : Int32)) else if (f_X9_has M a1 i) = (0 : Int32) then c2 + ((0 : Int32)) else if ¬ M 279 ((((23 : Int32)) + v3).toNatClampNeg) = M 279 ((((23 : Int32)) + i).toNatClampNeg) then c2 + ((0 : Int32)) else if M 279 ((((35 : Int32)) + v3).toNatClampNeg) = M 279 ((((35 : Int32)) + i).toNatClampNeg) then c2 + ((0 : Int32)) else c2 + ((1 : Int32))
def qi_X9_clashesOf_274_18 (M : Nat → Nat → Int32) (a1 : Int32) (v3 : Int32) (i : Int32) (c2 : Int32) : Prop := ((¬ ((f_X9_has M a1 v3) = (0 : Int32))) → (¬ ((f_X9_has M a1 i) = (0 : Int32))) → (z_vin (((23 : Int32)) + v3) 83 = true)) ∧ ((¬ ((f_X9_has M a1 v3) = (0 : Int32))) → (¬ ((f_X9_has M a1 i) = (0 : Int32))) → (z_vin (((23 : Int32)) + i) 83 = true)) ∧ ((¬ ((f_X9_has M a1 v3) = (0 : Int32))) → (¬ ((f_X9_has M a1 i) = (0 : Int32))) → (M 279 ((((23 : Int32)) + v3).toNatClampNeg) = M 279 ((((23 : Int32)) + i).toNatClampNeg)) → (z_vin (((35 : Int32)) + v3) 83 = true)) ∧ ((¬ ((f_X9_has M a1 v3) = (0 : Int32))) → (¬ ((f_X9_has M a1 i) = (0 : Int32))) → (M 279 ((((23 : Int32)) + v3).toNatClampNeg) = M 279 ((((23 : Int32)) + i).toNatClampNeg)) → (z_vin (((35 : Int32)) + i) 83 = true)) ∧ True
theorem it_X9_clashesOf_274_18 {d : Nat} {L : Nat → Nat → Int64} {Q : Option Value → z_St → Prop} (M : Nat → Nat → Int32) (a1 : Int32) (v3 : Int32) (i : Int32) (c2 : Int32) (hc : ¬ (v3 ≤ i)) (p1 : qi_X9_clashesOf_274_18 M a1 v3 i c2) (h : z_G (d + 1) tb_X9_clashesOf 18 [some (.ref 274), some (.int a1), some (.int (e_X9_clashesOf_274_18_c2 M a1 v3 i c2)), some (.int v3), some (.int (i + 1))] [] [] (z_SH, M, L) Q) : z_G (d + 1) tb_X9_clashesOf 18 [some (.ref 274), some (.int a1), some (.int c2), some (.int v3), some (.int i)] [] [] (z_SH, M, L) Q := by
  unfold qi_X9_clashesOf_274_18 at p1
  obtain ⟨p1, p2, p3, p4, -⟩ := p1
  refine g_k 3 (pc' := (if z_cmp .ge i v3 = true then 99 else 24)) (LI' := [some (.ref 274), some (.int a1), some (.int c2), some (.int v3), some (.int i)]) (LL' := []) (st' := []) (S' := (z_SH, M, L)) (fun nq hq => And.intro rfl (And.intro rfl (And.intro rfl hq))) ?_
  refine g_ge (fun hc1 => ?_) (fun hc1 => ?_)
  · exact absurd hc1 hc
  · refine g_k 3 (pc' := 27) (LI' := [some (.ref 274), some (.int a1), some (.int c2), some (.int v3), some (.int i)]) (LL' := []) (st' := [.int v3, .int a1, .int c2]) (S' := (z_SH, M, L)) (fun nq hq => And.intro rfl (And.intro rfl (And.intro rfl hq))) ?_
    refine g_k 1 (pc' := 30) (LI' := [some (.ref 274), some (.int a1), some (.int c2), some (.int v3), some (.int i)]) (LL' := []) (st' := [.int (f_X9_has M a1 v3), .int c2]) (S' := (z_SH, M, L)) (fun nq hq => And.intro rfl (Exists.intro _ (Exists.intro _ (And.intro (c_X9_has (d := d) M a1 v3) (And.intro (z_fit_same _ _ _ _ _ _ _ _) hq))))) ?_
    generalize hg1 : f_X9_has M a1 v3 = r1 at *
    refine g_k 1 (pc' := (if z_cmp .eq r1 ((0 : Int32)) = true then 90 else 33)) (LI' := [some (.ref 274), some (.int a1), some (.int c2), some (.int v3), some (.int i)]) (LL' := []) (st' := [.int c2]) (S' := (z_SH, M, L)) (fun nq hq => And.intro rfl hq) ?_
    refine g_eq (fun hc2 => ?_) (fun hc2 => ?_)
    · refine g_k 5 (pc' := 18) (LI' := [some (.ref 274), some (.int a1), some (.int (c2 + ((0 : Int32)))), some (.int v3), some (.int (i + 1))]) (LL' := []) (st' := []) (S' := (z_SH, M, L)) (fun nq hq => And.intro rfl (And.intro rfl (And.intro rfl (And.intro rfl (And.intro rfl hq))))) ?_
      (subst hg1; unfold e_X9_clashesOf_274_18_c2 at h; (try simp only [if_pos hc2] at h); exact h )
    · refine g_k 2 (pc' := 36) (LI' := [some (.ref 274), some (.int a1), some (.int c2), some (.int v3), some (.int i)]) (LL' := []) (st' := [.int i, .int a1, .int c2]) (S' := (z_SH, M, L)) (fun nq hq => And.intro rfl (And.intro rfl hq)) ?_
      refine g_k 1 (pc' := 39) (LI' := [some (.ref 274), some (.int a1), some (.int c2), some (.int v3), some (.int i)]) (LL' := []) (st' := [.int (f_X9_has M a1 i), .int c2]) (S' := (z_SH, M, L)) (fun nq hq => And.intro rfl (Exists.intro _ (Exists.intro _ (And.intro (c_X9_has (d := d) M a1 i) (And.intro (z_fit_same _ _ _ _ _ _ _ _) hq))))) ?_
      generalize hg2 : f_X9_has M a1 i = r2 at *
      refine g_k 1 (pc' := (if z_cmp .eq r2 ((0 : Int32)) = true then 90 else 42)) (LI' := [some (.ref 274), some (.int a1), some (.int c2), some (.int v3), some (.int i)]) (LL' := []) (st' := [.int c2]) (S' := (z_SH, M, L)) (fun nq hq => And.intro rfl hq) ?_
      refine g_eq (fun hc3 => ?_) (fun hc3 => ?_)
      · refine g_k 5 (pc' := 18) (LI' := [some (.ref 274), some (.int a1), some (.int (c2 + ((0 : Int32)))), some (.int v3), some (.int (i + 1))]) (LL' := []) (st' := []) (S' := (z_SH, M, L)) (fun nq hq => And.intro rfl (And.intro rfl (And.intro rfl (And.intro rfl (And.intro rfl hq))))) ?_
        (subst hg2; subst hg1; unfold e_X9_clashesOf_274_18_c2 at h; (try simp only [if_neg hc2] at h); (try simp only [if_pos hc3] at h); exact h )
      · refine g_k 9 (pc' := 57) (LI' := [some (.ref 274), some (.int a1), some (.int c2), some (.int v3), some (.int i)]) (LL' := []) (st' := [.int 23, .ref 279, .int (M 279 ((((23 : Int32)) + v3).toNatClampNeg)), .int c2]) (S' := (z_SH, M, L)) (fun nq hq => And.intro rfl (And.intro rfl (And.intro rfl (And.intro rfl (And.intro rfl (And.intro (p1 hc2 hc3) (And.intro rfl (And.intro rfl (And.intro rfl hq))))))))) ?_
        refine g_k 4 (pc' := (if z_cmp .ne (M 279 ((((23 : Int32)) + v3).toNatClampNeg)) (M 279 ((((23 : Int32)) + i).toNatClampNeg)) = true then 90 else 64)) (LI' := [some (.ref 274), some (.int a1), some (.int c2), some (.int v3), some (.int i)]) (LL' := []) (st' := [.int c2]) (S' := (z_SH, M, L)) (fun nq hq => And.intro rfl (And.intro rfl (And.intro (p2 hc2 hc3) (And.intro rfl hq)))) ?_
        refine g_ne (fun hc4 => ?_) (fun hc4 => ?_)
        · refine g_k 5 (pc' := 18) (LI' := [some (.ref 274), some (.int a1), some (.int (c2 + ((0 : Int32)))), some (.int v3), some (.int (i + 1))]) (LL' := []) (st' := []) (S' := (z_SH, M, L)) (fun nq hq => And.intro rfl (And.intro rfl (And.intro rfl (And.intro rfl (And.intro rfl hq))))) ?_
          (subst hg2; subst hg1; unfold e_X9_clashesOf_274_18_c2 at h; (try simp only [if_neg hc2] at h); (try simp only [if_neg hc3] at h); (try simp only [if_pos hc4] at h); exact h )
        · refine g_k 9 (pc' := 79) (LI' := [some (.ref 274), some (.int a1), some (.int c2), some (.int v3), some (.int i)]) (LL' := []) (st' := [.int 35, .ref 279, .int (M 279 ((((35 : Int32)) + v3).toNatClampNeg)), .int c2]) (S' := (z_SH, M, L)) (fun nq hq => And.intro rfl (And.intro rfl (And.intro rfl (And.intro rfl (And.intro rfl (And.intro (p3 hc2 hc3 hc4) (And.intro rfl (And.intro rfl (And.intro rfl hq))))))))) ?_
          refine g_k 4 (pc' := (if z_cmp .eq (M 279 ((((35 : Int32)) + v3).toNatClampNeg)) (M 279 ((((35 : Int32)) + i).toNatClampNeg)) = true then 90 else 86)) (LI' := [some (.ref 274), some (.int a1), some (.int c2), some (.int v3), some (.int i)]) (LL' := []) (st' := [.int c2]) (S' := (z_SH, M, L)) (fun nq hq => And.intro rfl (And.intro rfl (And.intro (p4 hc2 hc3 hc4) (And.intro rfl hq)))) ?_
          refine g_eq (fun hc5 => ?_) (fun hc5 => ?_)
          · refine g_k 5 (pc' := 18) (LI' := [some (.ref 274), some (.int a1), some (.int (c2 + ((0 : Int32)))), some (.int v3), some (.int (i + 1))]) (LL' := []) (st' := []) (S' := (z_SH, M, L)) (fun nq hq => And.intro rfl (And.intro rfl (And.intro rfl (And.intro rfl (And.intro rfl hq))))) ?_
            (subst hg2; subst hg1; unfold e_X9_clashesOf_274_18_c2 at h; (try simp only [if_neg hc2] at h); (try simp only [if_neg hc3] at h); (try simp only [if_neg (not_not_intro hc4)] at h); (try simp only [if_pos hc5] at h); exact h )
          · refine g_k 6 (pc' := 18) (LI' := [some (.ref 274), some (.int a1), some (.int (c2 + ((1 : Int32)))), some (.int v3), some (.int (i + 1))]) (LL' := []) (st' := []) (S' := (z_SH, M, L)) (fun nq hq => And.intro rfl (And.intro rfl (And.intro rfl (And.intro rfl (And.intro rfl (And.intro rfl hq)))))) ?_
            (subst hg2; subst hg1; unfold e_X9_clashesOf_274_18_c2 at h; (try simp only [if_neg hc2] at h); (try simp only [if_neg hc3] at h); (try simp only [if_neg (not_not_intro hc4)] at h); (try simp only [if_neg hc5] at h); exact h )
def s_X9_clashesOf_274_18 (M : Nat → Nat → Int32) (a1 : Int32) (v3 : Int32) (c2 : Int32) (n : Nat) : Int32 := Nat.rec (motive := fun _ => Int32) (c2) (fun k r => (e_X9_clashesOf_274_18_c2 M a1 v3 (nI k) r)) n
theorem l_X9_clashesOf_274_18 {d : Nat} {L : Nat → Nat → Int64} {Q : Option Value → z_St → Prop} (M : Nat → Nat → Int32) (a1 : Int32) (v3 : Int32) (c2 : Int32) (n : Nat) : (∀ k, k < n → ¬ (v3 ≤ (nI k))) → (∀ k, k < n → qi_X9_clashesOf_274_18 M a1 v3 (nI k) ((s_X9_clashesOf_274_18 M a1 v3 c2 k))) → (z_G (d + 1) tb_X9_clashesOf 18 [some (.ref 274), some (.int a1), some (.int ((s_X9_clashesOf_274_18 M a1 v3 c2 n))), some (.int v3), some (.int (nI n))] [] [] (z_SH, M, L) Q) → z_G (d + 1) tb_X9_clashesOf 18 [some (.ref 274), some (.int a1), some (.int c2), some (.int v3), some (.int (nI 0))] [] [] (z_SH, M, L) Q := by
  induction n with
  | zero =>
    intro hc p1 h
    exact h
  | succ n ih =>
    intro hc p1 h
    refine ih (fun k hk => hc k (by omega)) (fun k hk => p1 k (by omega)) ?_
    have hcn := hc n (by omega)
    have p1n := p1 n (by omega)
    clear ih hc p1
    have hs : s_X9_clashesOf_274_18 M a1 v3 c2 (n + 1) = (e_X9_clashesOf_274_18_c2 M a1 v3 (nI n) ((s_X9_clashesOf_274_18 M a1 v3 c2 n))) := rfl
    rw [hs] at h
    clear hs
    generalize s_X9_clashesOf_274_18 M a1 v3 c2 n = sg at *
    refine it_X9_clashesOf_274_18 M a1 v3 (nI n) sg hcn p1n ?_
    rw [nI_1]
    exact h
def e_X9_clashesOf_274_4_c2 (M : Nat → Nat → Int32) (a1 : Int32) (i : Int32) (c2 : Int32) : Int32 := ((s_X9_clashesOf_274_18 M a1 i c2 ((i).toNatClampNeg)))
def qi_X9_clashesOf_274_4 (M : Nat → Nat → Int32) (a1 : Int32) (i : Int32) (c2 : Int32) : Prop := (∀ k75, k75 < (i).toNatClampNeg → qi_X9_clashesOf_274_18 M a1 i (nI k75) ((s_X9_clashesOf_274_18 M a1 i c2 k75))) ∧ True
theorem it_X9_clashesOf_274_4 {d : Nat} {L : Nat → Nat → Int64} {Q : Option Value → z_St → Prop} (M : Nat → Nat → Int32) (a1 : Int32) (i : Int32) (c2 : Int32) (hc : ¬ (M 279 10 ≤ i)) (p1 : qi_X9_clashesOf_274_4 M a1 i c2) (h : ∀ (y4 : Option Value), z_G (d + 1) tb_X9_clashesOf 4 [some (.ref 274), some (.int a1), some (.int (e_X9_clashesOf_274_4_c2 M a1 i c2)), some (.int (i + 1)), y4] [] [] (z_SH, M, L) Q) : ∀ (x4 : Option Value), z_G (d + 1) tb_X9_clashesOf 4 [some (.ref 274), some (.int a1), some (.int c2), some (.int i), x4] [] [] (z_SH, M, L) Q := by
  intro x4
  unfold qi_X9_clashesOf_274_4 at p1
  obtain ⟨p1, -⟩ := p1
  refine g_k 6 (pc' := (if z_cmp .ge i (M 279 10) = true then 105 else 15)) (LI' := [some (.ref 274), some (.int a1), some (.int c2), some (.int i), x4]) (LL' := []) (st' := []) (S' := (z_SH, M, L)) (fun nq hq => And.intro rfl (And.intro rfl (And.intro rfl (And.intro rfl (And.intro rfl (And.intro rfl hq)))))) ?_
  refine g_ge (fun hc1 => ?_) (fun hc1 => ?_)
  · exact absurd hc1 hc
  · refine g_k 2 (pc' := 18) (LI' := [some (.ref 274), some (.int a1), some (.int c2), some (.int i), some (.int 0)]) (LL' := []) (st' := []) (S' := (z_SH, M, L)) (fun nq hq => And.intro rfl (And.intro rfl hq)) ?_
    refine l_X9_clashesOf_274_18 (d := d) M a1 i c2 ((i).toNatClampNeg) (fun k hk => z_lpc hk) p1 ?_ 
    have hx1 : i ≤ nI ((i).toNatClampNeg) := z_lpe
    generalize hg1 : (s_X9_clashesOf_274_18 M a1 i c2 ((i).toNatClampNeg)) = r1 at *
    generalize hg2 : nI ((i).toNatClampNeg) = r2 at *
    refine g_k 3 (pc' := (if z_cmp .ge r2 i = true then 99 else 24)) (LI' := [some (.ref 274), some (.int a1), some (.int r1), some (.int i), some (.int r2)]) (LL' := []) (st' := []) (S' := (z_SH, M, L)) (fun nq hq => And.intro rfl (And.intro rfl (And.intro rfl hq))) ?_
    refine g_ge (fun hc2 => ?_) (fun hc2 => absurd (hx1) hc2)
    refine g_k 2 (pc' := 4) (LI' := [some (.ref 274), some (.int a1), some (.int r1), some (.int (i + 1)), some (.int r2)]) (LL' := []) (st' := []) (S' := (z_SH, M, L)) (fun nq hq => And.intro rfl (And.intro rfl hq)) ?_
    (subst hg2; subst hg1; unfold e_X9_clashesOf_274_4_c2 at h; exact h (some (.int (nI ((i).toNatClampNeg)))))
def s_X9_clashesOf_274_4 (M : Nat → Nat → Int32) (a1 : Int32) (c2 : Int32) (n : Nat) : Int32 := Nat.rec (motive := fun _ => Int32) (c2) (fun k r => (e_X9_clashesOf_274_4_c2 M a1 (nI k) r)) n
theorem l_X9_clashesOf_274_4 {d : Nat} {L : Nat → Nat → Int64} {Q : Option Value → z_St → Prop} (M : Nat → Nat → Int32) (a1 : Int32) (c2 : Int32) (n : Nat) : (∀ k, k < n → ¬ (M 279 10 ≤ (nI k))) → (∀ k, k < n → qi_X9_clashesOf_274_4 M a1 (nI k) ((s_X9_clashesOf_274_4 M a1 c2 k))) → (∀ (y4 : Option Value), z_G (d + 1) tb_X9_clashesOf 4 [some (.ref 274), some (.int a1), some (.int ((s_X9_clashesOf_274_4 M a1 c2 n))), some (.int (nI n)), y4] [] [] (z_SH, M, L) Q) → ∀ (x4 : Option Value), z_G (d + 1) tb_X9_clashesOf 4 [some (.ref 274), some (.int a1), some (.int c2), some (.int (nI 0)), x4] [] [] (z_SH, M, L) Q := by
  induction n with
  | zero =>
    intro hc p1 h
    exact h
  | succ n ih =>
    intro hc p1 h
    refine ih (fun k hk => hc k (by omega)) (fun k hk => p1 k (by omega)) ?_
    have hcn := hc n (by omega)
    have p1n := p1 n (by omega)
    clear ih hc p1
    have hs : s_X9_clashesOf_274_4 M a1 c2 (n + 1) = (e_X9_clashesOf_274_4_c2 M a1 (nI n) ((s_X9_clashesOf_274_4 M a1 c2 n))) := rfl
    rw [hs] at h
    clear hs
    generalize s_X9_clashesOf_274_4 M a1 c2 n = sg at *
    refine it_X9_clashesOf_274_4 M a1 (nI n) sg hcn p1n ?_
    rw [nI_1]
    exact h
def f_X9_clashesOf_274 (M : Nat → Nat → Int32) (a1 : Int32) : Int32 := ((s_X9_clashesOf_274_4 M a1 ((0 : Int32)) ((M 279 10).toNatClampNeg)))
def q_X9_clashesOf_274 (M : Nat → Nat → Int32) (a1 : Int32) : Prop := (∀ k76, k76 < (M 279 10).toNatClampNeg → qi_X9_clashesOf_274_4 M a1 (nI k76) ((s_X9_clashesOf_274_4 M a1 ((0 : Int32)) k76))) ∧ True
theorem c_X9_clashesOf_274 {d : Nat} {L : Nat → Nat → Int64} (M : Nat → Nat → Int32) (a1 : Int32)  (hpre : q_X9_clashesOf_274 M a1) : z_C (d + 2) 146 [.ref 274, .int a1] (z_SH, M, L) (some (.int (f_X9_clashesOf_274 M a1))) (z_SH, M, L) := by
  unfold q_X9_clashesOf_274 at hpre
  obtain ⟨p1, -⟩ := hpre
  refine z_mkA (tb := tb_X9_clashesOf) rfl (by decide) rfl rfl rfl ?_
  refine g_k 4 (pc' := 4) (LI' := [some (.ref 274), some (.int a1), some (.int 0), some (.int 0), none]) (LL' := []) (st' := []) (S' := (z_SH, M, L)) (fun nq hq => And.intro rfl (And.intro rfl (And.intro rfl (And.intro rfl hq)))) ?_
  refine l_X9_clashesOf_274_4 (d := d) M a1 ((0 : Int32)) ((M 279 10).toNatClampNeg) (fun k hk => z_lpc hk) p1 (fun y1 => ?_) none
  have hx1 : M 279 10 ≤ nI ((M 279 10).toNatClampNeg) := z_lpe
  generalize hg1 : (s_X9_clashesOf_274_4 M a1 ((0 : Int32)) ((M 279 10).toNatClampNeg)) = r1 at *
  generalize hg2 : nI ((M 279 10).toNatClampNeg) = r2 at *
  refine g_k 6 (pc' := (if z_cmp .ge r2 (M 279 10) = true then 105 else 15)) (LI' := [some (.ref 274), some (.int a1), some (.int r1), some (.int r2), y1]) (LL' := []) (st' := []) (S' := (z_SH, M, L)) (fun nq hq => And.intro rfl (And.intro rfl (And.intro rfl (And.intro rfl (And.intro rfl (And.intro rfl hq)))))) ?_
  refine g_ge (fun hc1 => ?_) (fun hc1 => absurd (hx1) hc1)
  refine g_k 1 (pc' := 106) (LI' := [some (.ref 274), some (.int a1), some (.int r1), some (.int r2), y1]) (LL' := []) (st' := [.int r1]) (S' := (z_SH, M, L)) (fun nq hq => And.intro rfl hq) ?_
  exact ⟨1, And.intro rfl (⟨(by subst hg2; subst hg1; rfl), rfl⟩)⟩
def f_X9_member_w6 (M : Nat → Nat → Int32) (m : Int32) : Int32 := if ¬ (f_X9_isMember_274 M m) = (0 : Int32) then (f_X9_clashesOf_274 M (f_X9_strapsThat_279 M m)) else (-1000000001 : Int32)
def q_X9_member_w6 (M : Nat → Nat → Int32) (m : Int32) : Prop := ((¬ (f_X9_isMember_274 M m) = (0 : Int32)) → (q_X9_strapsThat_279 M m)) ∧ ((¬ (f_X9_isMember_274 M m) = (0 : Int32)) → (q_X9_clashesOf_274 M (f_X9_strapsThat_279 M m))) ∧ True
theorem c_X9_member_w6 {d : Nat} {L : Nat → Nat → Int64} (M : Nat → Nat → Int32) (m : Int32)  (hpre : q_X9_member_w6 M m) : z_C (d + 3) 148 [.ref 274, .int m, .int 6] (z_SH, M, L) (some (.int (f_X9_member_w6 M m))) (z_SH, M, L) := by
  unfold q_X9_member_w6 at hpre
  obtain ⟨p1, p2, -⟩ := hpre
  refine z_mkA (tb := tb_X9_member) rfl (by decide) rfl rfl rfl ?_
  refine g_k 2 (pc' := 2) (LI' := [some (.ref 274), some (.int m), some (.int 6)]) (LL' := []) (st' := [.int m, .ref 274]) (S' := (z_SH, M, L)) (fun nq hq => And.intro rfl (And.intro rfl hq)) ?_
  refine g_k 1 (pc' := 5) (LI' := [some (.ref 274), some (.int m), some (.int 6)]) (LL' := []) (st' := [.int (f_X9_isMember_274 M m)]) (S' := (z_SH, M, L)) (fun nq hq => And.intro rfl (Exists.intro _ (Exists.intro _ (And.intro (c_X9_isMember_274 (d := d) M m) (And.intro (z_fit_same _ _ _ _ _ _ _ _) hq))))) ?_
  generalize hg1 : f_X9_isMember_274 M m = r1 at *
  refine g_k 1 (pc' := (if z_cmp .ne r1 ((0 : Int32)) = true then 11 else 8)) (LI' := [some (.ref 274), some (.int m), some (.int 6)]) (LL' := []) (st' := []) (S' := (z_SH, M, L)) (fun nq hq => And.intro rfl hq) ?_
  refine g_ne (fun hc1 => ?_) (fun hc1 => ?_)
  · refine g_k 6 (pc' := 111) (LI' := [some (.ref 274), some (.int m), some (.int 6)]) (LL' := []) (st' := [.int m, .ref 279, .ref 274]) (S' := (z_SH, M, L)) (fun nq hq => And.intro rfl (And.intro rfl (And.intro rfl (And.intro rfl (And.intro rfl (And.intro rfl hq)))))) ?_
    refine g_k 1 (pc' := 114) (LI' := [some (.ref 274), some (.int m), some (.int 6)]) (LL' := []) (st' := [.int (f_X9_strapsThat_279 M m), .ref 274]) (S' := (z_SH, M, L)) (fun nq hq => And.intro rfl (Exists.intro _ (Exists.intro _ (And.intro (c_X9_strapsThat_279 (d := d) M m (p1 hc1)) (And.intro (z_fit_same _ _ _ _ _ _ _ _) hq))))) ?_
    generalize hg2 : f_X9_strapsThat_279 M m = r2 at *
    refine g_k 1 (pc' := 117) (LI' := [some (.ref 274), some (.int m), some (.int 6)]) (LL' := []) (st' := [.int (f_X9_clashesOf_274 M r2)]) (S' := (z_SH, M, L)) (fun nq hq => And.intro rfl (Exists.intro _ (Exists.intro _ (And.intro (c_X9_clashesOf_274 (d := d) M r2 (p2 hc1)) (And.intro (z_fit_same _ _ _ _ _ _ _ _) hq))))) ?_
    generalize hg3 : f_X9_clashesOf_274 M r2 = r3 at *
    exact ⟨1, And.intro rfl (⟨(by subst hg3; subst hg2; subst hg1; unfold f_X9_member_w6; (first | rw [if_pos hc1] | skip); try rfl), rfl⟩)⟩
  · refine g_k 1 (pc' := 10) (LI' := [some (.ref 274), some (.int m), some (.int 6)]) (LL' := []) (st' := [.int (-1000000001)]) (S' := (z_SH, M, L)) (fun nq hq => And.intro rfl hq) ?_
    exact ⟨1, And.intro rfl (⟨(by subst hg1; unfold f_X9_member_w6; (first | rw [if_neg (not_not_intro hc1)] | skip); try rfl), rfl⟩)⟩
