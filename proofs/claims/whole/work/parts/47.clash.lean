/-! STRAPS THAT PULL BOTH WAYS -/
def hO (s : Nat → Int32) (o : Int32) (k : Nat) : Bool := decide (s (71 + k) = 0 ∧ s (11 + k) = o)
def sd4 (s : Nat → Int32) (o t v : Int32) (k : Nat) : Bool := decide (s (71 + k) = 0 ∧ s (11 + k) = o ∧ s (23 + k) = t ∧ s (35 + k) = v)
theorem sa_c {M : Nat → Nat → Int32} {s kd w : Nat → Int32} {q : Int32} {n mm : Nat} (h : CS_28 M s kd w q n mm) (o t v : Int32) : q_X0_setSaid_20 M o t v ∧ f_X0_setSaid_20 M o t v = bs n (sd4 s o t v) := by
  have hn := h.2.2.2.2.1
  have lp : ∀ k, k ≤ n → s_X0_setSaid_20_6 M o t v 0 k = bs k (sd4 s o t v) := by
    intro k
    induction k with
    | zero => intro _; rfl
    | succ k ih =>
      intro hk
      have hs : s_X0_setSaid_20_6 M o t v 0 (k + 1) = e_X0_setSaid_20_6_c4 M o t v (nI k) (s_X0_setSaid_20_6 M o t v 0 k) := rfl
      obtain ⟨a1, a2, a3, a4, a5, a6⟩ := h.2.2.1.2.2 k (by omega)
      rw [hs, bs_s, ih (by omega)]
      unfold e_X0_setSaid_20_6_c4 sd4
      rw [(hd_c (s := s) (h.2.2.1.1.1.trans h.2.2.2.1) hn (by omega) a6).2, nI_clamp (by omega), a1, a2, a3]
      by_cases c : s (71 + k) = 0 <;> by_cases c2 : s (11 + k) = o <;> by_cases c3 : s (23 + k) = t <;> by_cases c4 : s (35 + k) = v <;> simp [c, c2, c3, c4]
  unfold q_X0_setSaid_20 f_X0_setSaid_20
  rw [en_c h]
  exact ⟨⟨fun k hk => ⟨(hd_c (s := s) (h.2.2.1.1.1.trans h.2.2.2.1) hn (by omega) (h.2.2.1.2.2 k (by omega)).2.2.2.2.2).1, fun _ => vi (by omega) (by decide), trivial⟩, trivial⟩, lp n (Nat.le_refl n)⟩
def cF (s : Nat → Int32) (o v : Int32) (n t : Nat) : Nat := sN n (fun k => if sd4 s o (nI t) v k = true then 1 else 0)
theorem cF_s (s : Nat → Int32) (o v : Int32) (n t : Nat) : cF s o v (n + 1) t = cF s o v n t + (if sd4 s o (nI t) v n = true then 1 else 0) := rfl
theorem cl_c {M : Nat → Nat → Int32} {s kd w : Nat → Int32} {q : Int32} {n mm : Nat} (h : CS_28 M s kd w q n mm) (o : Int32) : q_X0_clashesOf_20 M o ∧ f_X0_clashesOf_20 M o = nI (sN 8 (fun t => cF s o 1 n t * cF s o 0 n t)) := by
  have hn := h.2.2.2.2.1
  have bc : ∀ v t, f_J6_bitCount_0f7a4 M (f_X0_setSaid_20 M o (nI t) v) = nI (cF s o v n t) := fun v t => by
    rw [(sa_c h o (nI t) v).2, bs_bN hn, bc_c M (bN_4096 hn _), pc_bN hn]
    rfl
  have lp : ∀ k, s_X0_clashesOf_20_4 M o 0 k = nI (sN k (fun t => cF s o 1 n t * cF s o 0 n t)) := by
    intro k
    induction k with
    | zero => rfl
    | succ k ih =>
      have hs : s_X0_clashesOf_20_4 M o 0 (k + 1) = e_X0_clashesOf_20_4_c2 M o (nI k) (s_X0_clashesOf_20_4 M o 0 k) := rfl
      rw [hs, ih, sN_s]
      unfold e_X0_clashesOf_20_4_c2
      rw [bc, bc, nI_mul, nI_add]
  unfold q_X0_clashesOf_20 f_X0_clashesOf_20
  exact ⟨⟨fun k hk => ⟨(sa_c h o (nI k) 1).1, (sa_c h o (nI k) 0).1, trivial⟩, trivial⟩, lp 8⟩
/-- two of a set that pull apart -/
def cP (s : Nat → Int32) (X a b : Nat) : Bool := decide (X.testBit a = true ∧ X.testBit b = true ∧ s (23 + a) = s (23 + b) ∧ ¬ s (35 + a) = s (35 + b))
def clN (s : Nat → Int32) (X n : Nat) : Nat := sN n (fun a => sN a (fun b => if cP s X a b = true then 1 else 0))
theorem cl_r {M : Nat → Nat → Int32} {s kd w : Nat → Int32} {q : Int32} {n mm : Nat} (h : RS_279 M s kd w q n mm) {X : Nat} (hX : X < 4096) : q_X9_clashesOf_274 M (nI X) ∧ f_X9_clashesOf_274 M (nI X) = nI (clN s X n) := by
  have hn := h.2.2.2.2.1
  have hr := h.2.2.1
  have inn : ∀ (a : Nat), a < n → ∀ (x : Nat) k, k ≤ a → s_X9_clashesOf_274_18 M (nI X) (nI a) (nI x) k = nI (x + sN k (fun b => if cP s X a b = true then 1 else 0)) := by
    intro a ha x k
    induction k with
    | zero => intro _; rfl
    | succ k ih =>
      intro hk
      have hs : s_X9_clashesOf_274_18 M (nI X) (nI a) (nI x) (k + 1) = e_X9_clashesOf_274_18_c2 M (nI X) (nI a) (nI k) (s_X9_clashesOf_274_18 M (nI X) (nI a) (nI x) k) := rfl
      rw [hs, ih (by omega), sN_s]
      unfold e_X9_clashesOf_274_18_c2 cP
      rw [hasr_tb M (by omega) (by omega), hasr_tb M (by omega) (by omega), ix_23 (by omega), ix_23 (by omega), ix_35 (by omega), ix_35 (by omega), hr _ (by omega), hr _ (by omega), hr _ (by omega), hr _ (by omega), Int32.add_zero, nI_1]
      by_cases c1 : X.testBit a = true <;> by_cases c2 : X.testBit k = true <;> by_cases c3 : s (23 + a) = s (23 + k) <;> by_cases c4 : s (35 + a) = s (35 + k) <;> simp [c1, c2, c3, c4]
      rfl
  have lp : ∀ k, k ≤ n → s_X9_clashesOf_274_4 M (nI X) 0 k = nI (clN s X k) := by
    intro k
    induction k with
    | zero => intro _; rfl
    | succ k ih =>
      intro hk
      have hs : s_X9_clashesOf_274_4 M (nI X) 0 (k + 1) = e_X9_clashesOf_274_4_c2 M (nI X) (nI k) (s_X9_clashesOf_274_4 M (nI X) 0 k) := rfl
      rw [hs, ih (by omega)]
      unfold e_X9_clashesOf_274_4_c2
      rw [nI_clamp (by omega), inn k (by omega) _ k (Nat.le_refl k)]
      rfl
  unfold q_X9_clashesOf_274 f_X9_clashesOf_274
  rw [rn_279 h]
  refine ⟨⟨fun k hk => ?_, trivial⟩, lp n (Nat.le_refl n)⟩
  unfold qi_X9_clashesOf_274_4
  rw [nI_clamp (by omega)]
  refine ⟨fun i hi => ?_, trivial⟩
  exact ⟨fun _ _ => vx_23 (by omega), fun _ _ => vx_23 (by omega), fun _ _ _ => vx_35 (by omega), fun _ _ _ => vx_35 (by omega), trivial⟩
theorem cl_eq {s : Nat → Int32} {o : Int32} {X N : Nat} (n : Nat) (hn : n ≤ N) (hX : ∀ k, k < N → X.testBit k = hO s o k) (ht : ∀ k, k < N → ∃ t, t < 8 ∧ s (23 + k) = nI t) (hd : ∀ k, k < N → s (35 + k) = 0 ∨ s (35 + k) = 1) : sN 8 (fun t => cF s o 1 n t * cF s o 0 n t) = clN s X n := by
  induction n with
  | zero => exact sN_zero 8 _ (fun _ _ => rfl)
  | succ n ih =>
    have hc : clN s X (n + 1) = clN s X n + sN n (fun b => if cP s X n b = true then 1 else 0) := rfl
    rw [hc, ← ih (by omega)]
    obtain ⟨t0, ht0, et0⟩ := ht n (by omega)
    have tq : ∀ t, t < 8 → (nI t0 = nI t ↔ t = t0) := fun t h8 => ⟨fun z => ((nI_eq (by omega) (by omega)).mp z).symm, fun z => by rw [z]⟩
    by_cases c1 : s (71 + n) = 0 ∧ s (11 + n) = o
    · have Xn : X.testBit n = true := by rw [hX n (by omega)]; exact decide_eq_true c1
      rcases hd n (by omega) with d0 | d1
      · have e1 : ∀ t, t < 8 → cF s o 1 (n + 1) t * cF s o 0 (n + 1) t = cF s o 1 n t * cF s o 0 n t + (if t = t0 then cF s o 1 n t else 0) := fun t h8 => by
          rw [cF_s, cF_s]
          unfold sd4
          rw [et0, d0]
          by_cases c : t = t0
          · subst c
            simp [c1, Nat.mul_add]
          · have c' : ¬ nI t0 = nI t := fun z => c ((tq t h8).mp z)
            simp [c, c', c1]
        rw [sN_congr e1, sN_add]
        congr 1
        rw [sN_one 8 t0 _ ht0 (fun k _ hk => if_neg hk), if_pos rfl]
        refine sN_congr (fun b hb => ?_)
        unfold sd4 cP
        rw [Xn, hX b (by omega), et0, d0]
        unfold hO
        rcases hd b (by omega) with e0 | e1'
        · rw [e0]; simp
        · rw [e1']
          by_cases u1 : s (71 + b) = 0 <;> by_cases u2 : s (11 + b) = o <;> by_cases u3 : s (23 + b) = nI t0 <;> simp [u1, u2, u3, eq_comm]
      · have e1 : ∀ t, t < 8 → cF s o 1 (n + 1) t * cF s o 0 (n + 1) t = cF s o 1 n t * cF s o 0 n t + (if t = t0 then cF s o 0 n t else 0) := fun t h8 => by
          rw [cF_s, cF_s]
          unfold sd4
          rw [et0, d1]
          by_cases c : t = t0
          · subst c
            simp [c1, Nat.add_mul]
          · have c' : ¬ nI t0 = nI t := fun z => c ((tq t h8).mp z)
            simp [c, c', c1]
        rw [sN_congr e1, sN_add]
        congr 1
        rw [sN_one 8 t0 _ ht0 (fun k _ hk => if_neg hk), if_pos rfl]
        refine sN_congr (fun b hb => ?_)
        unfold sd4 cP
        rw [Xn, hX b (by omega), et0, d1]
        unfold hO
        rcases hd b (by omega) with e0 | e1'
        · rw [e0]
          by_cases u1 : s (71 + b) = 0 <;> by_cases u2 : s (11 + b) = o <;> by_cases u3 : s (23 + b) = nI t0 <;> simp [u1, u2, u3, eq_comm]
        · rw [e1']; simp
    · have Xn : X.testBit n = false := by rw [hX n (by omega)]; exact decide_eq_false c1
      have e0 : ∀ v t, cF s o v (n + 1) t = cF s o v n t := fun v t => by
        rw [cF_s]
        unfold sd4
        rw [decide_eq_false (fun z => c1 ⟨z.1, z.2.1⟩), if_neg Bool.false_ne_true, Nat.add_zero]
      have z0 : sN n (fun b => if cP s X n b = true then 1 else 0) = 0 := sN_zero n _ (fun b _ => by
        unfold cP
        rw [Xn, decide_eq_false (fun z => Bool.false_ne_true z.1), if_neg Bool.false_ne_true])
      rw [z0]
      exact (sN_congr (f := fun t => cF s o 1 (n + 1) t * cF s o 0 (n + 1) t) (g := fun t => cF s o 1 n t * cF s o 0 n t) (fun t _ => by rw [e0, e0])).trans (Nat.add_zero _).symm
theorem s_member_6 {bd : Nat} {M : Nat → Nat → Int32} {L : Nat → Nat → Int64} (h : RR (bd + 20) M L) (m : Int32) : ST bd 80 148 [.int m, .int 6] M L := by
  have h0 := h
  obtain ⟨s, kd, sd, w, q, n, mm, cnt, e, P, ns, kp, I, nj, sj, seed, len, tx, fl, sc, ec, pp, h1, h2, h3⟩ := h
  have hm := h1.1.1.2.1
  have hn := h1.1.2.2.2.2.1
  have em : M 15 1 = nI mm := h1.1.1.1
  have rm : M 274 4 = nI mm := h2.1.1.2.1
  have i1 := mb_eq (M' := M) m rm (by omega)
  by_cases a1 : f_X8_isOutside M m (nI mm) = 0
  · obtain ⟨k, hk, rfl⟩ := oi_k (by omega) a1
    obtain ⟨b1, b2⟩ := cl_c h1.1 (nI k)
    obtain ⟨d1, d2⟩ := st_r h2.1 (nI k)
    have e : f_X9_strapsThat_279 M (nI k) = nI (bN n (hO s (nI k))) := by
      rw [d2, bs_bN hn]
      congr 2
      funext j
      unfold hO
      by_cases c : s (71 + j) = 0 ∧ s (11 + j) = nI k
      · rw [decide_eq_true c, decide_eq_true ⟨c.1, Or.inr c.2⟩]
      · rw [decide_eq_false c, decide_eq_false (fun z => c ⟨z.1, z.2.resolve_left (nI_pos (by omega))⟩)]
    obtain ⟨r1, r2⟩ := cl_r h2.1 (bN_4096 hn (hO s (nI k)))
    refine ST_q h0 (c_X8_member_w6 (d := 6) (L := L) M (nI k) ⟨fun _ => b1, trivial⟩) (c_X9_member_w6 (d := 7) (L := L) M (nI k) ⟨fun _ => d1, fun _ => by rw [e]; exact r1, trivial⟩) ?_ (fun c _ => rfl) (fun c _ => rfl)
    unfold f_X8_member_w6 f_X9_member_w6
    rw [em, if_pos a1, i1, if_pos a1, if_pos c10, b2, e, r2]
    congr 1
    exact cl_eq n (Nat.le_refl n) (fun j hj => by rw [bN_tb, decide_eq_true hj, Bool.true_and]) h1.1.2.2.2.2.2.2.1 h1.1.2.2.2.2.2.2.2.1
  · have i0 : f_X9_isMember_274 M m = 0 := by rw [i1, if_neg a1]
    have c8 := c_X8_member_w6 (d := 6) (L := L) M m (by unfold q_X8_member_w6; rw [em]; exact ⟨fun z => absurd z a1, trivial⟩)
    have c9 := c_X9_member_w6 (d := 7) (L := L) M m ⟨fun z => absurd i0 z, fun z => absurd i0 z, trivial⟩
    refine ST_q h0 c8 c9 ?_ (fun c _ => rfl) (fun c _ => rfl)
    unfold f_X8_member_w6 f_X9_member_w6
    rw [em, if_neg a1, i0, if_neg (not_not_intro rfl)]
