/-! WHAT IS ASKED -/
theorem to_out {x : Int32} {N : Nat} (hN : N + 1 < 2147483648) (h : x < 0 ∨ nI (N + 1) ≤ x) : x.toInt < 0 ∨ (N : Int) < x.toInt := by
  rcases h with c | c
  · left
    have := Int32.lt_iff_toInt_lt.mp c
    exact this
  · right
    have := Int32.le_iff_toInt_le.mp c
    rw [nI_toInt hN] at this
    omega
theorem s_told_0 {bd : Nat} {M : Nat → Nat → Int32} {L : Nat → Nat → Int64} (h : RR (bd + 20) M L) : ST bd 79 144 [.int 0] M L := by
  have h0 := h
  obtain ⟨s, kd, sd, w, q, n, mm, cnt, e, P, ns, kp, I, nj, sj, seed, len, tx, fl, sc, ec, pp, h1, h2, h3⟩ := h
  refine ST_q h0 (c_X8_told_w0 (d := 9) (L := L) M) (c_X9_told_w0 (d := 9) (L := L) M) ?_ (fun c _ => rfl) (fun c _ => rfl)
  unfold f_X8_told_w0 f_X9_told_w0
  exact (h1.1.1.2.2).trans (h2.1.1.1).symm
theorem s_told_1 {bd : Nat} {M : Nat → Nat → Int32} {L : Nat → Nat → Int64} (h : RR (bd + 20) M L) : ST bd 79 144 [.int 1] M L := by
  have h0 := h
  obtain ⟨s, kd, sd, w, q, n, mm, cnt, e, P, ns, kp, I, nj, sj, seed, len, tx, fl, sc, ec, pp, h1, h2, h3⟩ := h
  refine ST_q h0 (c_X8_told_w1 (d := 9) (L := L) M) (c_X9_told_w1 (d := 9) (L := L) M) ?_ (fun c _ => rfl) (fun c _ => rfl)
  unfold f_X8_told_w1 f_X9_told_w1
  exact (h1.1.1.1).trans (h2.1.1.2.1).symm
theorem s_told_2 {bd : Nat} {M : Nat → Nat → Int32} {L : Nat → Nat → Int64} (h : RR (bd + 20) M L) : ST bd 79 144 [.int 2] M L := by
  have h0 := h
  obtain ⟨s, kd, sd, w, q, n, mm, cnt, e, P, ns, kp, I, nj, sj, seed, len, tx, fl, sc, ec, pp, h1, h2, h3⟩ := h
  refine ST_q h0 (c_X8_told_w2 (d := 9) (L := L) M) (c_X9_told_w2 (d := 9) (L := L) M) ?_ (fun c _ => rfl) (fun c _ => rfl)
  unfold f_X8_told_w2 f_X9_told_w2
  exact (h1.1.2.2.1.1.1).trans ((h2.1.2.2.1 10 (by decide))).symm
theorem s_told_3 {bd : Nat} {M : Nat → Nat → Int32} {L : Nat → Nat → Int64} (h : RR (bd + 20) M L) : ST bd 79 144 [.int 3] M L := by
  have h0 := h
  obtain ⟨s, kd, sd, w, q, n, mm, cnt, e, P, ns, kp, I, nj, sj, seed, len, tx, fl, sc, ec, pp, h1, h2, h3⟩ := h
  refine ST_q h0 (c_X8_told_w3 (d := 9) (L := L) M) (c_X9_told_w3 (d := 9) (L := L) M) ?_ (fun c _ => rfl) (fun c _ => rfl)
  unfold f_X8_told_w3 f_X9_told_w3
  exact (h1.2.2.2.2.2.1.1).trans (h2.2.2.2.2.2.1.1).symm
theorem s_told_4 {bd : Nat} {M : Nat → Nat → Int32} {L : Nat → Nat → Int64} (h : RR (bd + 20) M L) : ST bd 79 144 [.int 4] M L := by
  have h0 := h
  obtain ⟨s, kd, sd, w, q, n, mm, cnt, e, P, ns, kp, I, nj, sj, seed, len, tx, fl, sc, ec, pp, h1, h2, h3⟩ := h
  refine ST_q h0 (c_X8_told_w4 (d := 9) (L := L) M) (c_X9_told_w4 (d := 9) (L := L) M) ?_ (fun c _ => rfl) (fun c _ => rfl)
  unfold f_X8_told_w4 f_X9_told_w4
  exact (h1.1.2.2.1.1.2.1).trans ((h2.1.2.2.1 0 (by decide))).symm
theorem s_told_5 {bd : Nat} {M : Nat → Nat → Int32} {L : Nat → Nat → Int64} (h : RR (bd + 20) M L) : ST bd 79 144 [.int 5] M L := by
  have h0 := h
  obtain ⟨s, kd, sd, w, q, n, mm, cnt, e, P, ns, kp, I, nj, sj, seed, len, tx, fl, sc, ec, pp, h1, h2, h3⟩ := h
  refine ST_q h0 (c_X8_told_w5 (d := 9) (L := L) M) (c_X9_told_w5 (d := 9) (L := L) M) ?_ (fun c _ => rfl) (fun c _ => rfl)
  unfold f_X8_told_w5 f_X9_told_w5
  exact (h1.1.2.2.1.1.2.2.1).trans ((h2.1.2.2.1 1 (by decide))).symm
theorem s_told_6 {bd : Nat} {M : Nat → Nat → Int32} {L : Nat → Nat → Int64} (h : RR (bd + 20) M L) : ST bd 79 144 [.int 6] M L := by
  have h0 := h
  obtain ⟨s, kd, sd, w, q, n, mm, cnt, e, P, ns, kp, I, nj, sj, seed, len, tx, fl, sc, ec, pp, h1, h2, h3⟩ := h
  refine ST_q h0 (c_X8_told_w6 (d := 9) (L := L) M) (c_X9_told_w6 (d := 9) (L := L) M) ?_ (fun c _ => rfl) (fun c _ => rfl)
  unfold f_X8_told_w6 f_X9_told_w6
  exact (h1.1.2.2.1.1.2.2.2.1).trans ((h2.1.2.2.1 2 (by decide))).symm
theorem s_told_7 {bd : Nat} {M : Nat → Nat → Int32} {L : Nat → Nat → Int64} (h : RR (bd + 20) M L) : ST bd 79 144 [.int 7] M L := by
  have h0 := h
  obtain ⟨s, kd, sd, w, q, n, mm, cnt, e, P, ns, kp, I, nj, sj, seed, len, tx, fl, sc, ec, pp, h1, h2, h3⟩ := h
  refine ST_q h0 (c_X8_told_w7 (d := 9) (L := L) M) (c_X9_told_w7 (d := 9) (L := L) M) ?_ (fun c _ => rfl) (fun c _ => rfl)
  unfold f_X8_told_w7 f_X9_told_w7
  exact (h1.1.2.2.1.1.2.2.2.2).trans ((h2.1.2.2.1 3 (by decide))).symm
theorem s_told_12 {bd : Nat} {M : Nat → Nat → Int32} {L : Nat → Nat → Int64} (h : RR (bd + 20) M L) : ST bd 79 144 [.int 12] M L := by
  have h0 := h
  obtain ⟨s, kd, sd, w, q, n, mm, cnt, e, P, ns, kp, I, nj, sj, seed, len, tx, fl, sc, ec, pp, h1, h2, h3⟩ := h
  refine ST_q h0 (c_X8_told_w12 (d := 9) (L := L) M) (c_X9_told_w12 (d := 9) (L := L) M) ?_ (fun c _ => rfl) (fun c _ => rfl)
  unfold f_X8_told_w12 f_X9_told_w12
  exact (h1.2.2.2.2.2.2.2.1.1).trans (h2.2.2.2.2.2.2.2.1.1).symm
theorem s_told_13 {bd : Nat} {M : Nat → Nat → Int32} {L : Nat → Nat → Int64} (h : RR (bd + 20) M L) : ST bd 79 144 [.int 13] M L := by
  have h0 := h
  obtain ⟨s, kd, sd, w, q, n, mm, cnt, e, P, ns, kp, I, nj, sj, seed, len, tx, fl, sc, ec, pp, h1, h2, h3⟩ := h
  refine ST_q h0 (c_X8_told_w13 (d := 9) (L := L) M) (c_X9_told_w13 (d := 9) (L := L) M) ?_ (fun c _ => rfl) (fun c _ => rfl)
  unfold f_X8_told_w13 f_X9_told_w13
  exact (h1.2.2.2.2.2.2.2.2.1).trans (h2.2.2.2.2.2.2.2.2.1).symm
theorem s_told_14 {bd : Nat} {M : Nat → Nat → Int32} {L : Nat → Nat → Int64} (h : RR (bd + 20) M L) : ST bd 79 144 [.int 14] M L := by
  have h0 := h
  obtain ⟨s, kd, sd, w, q, n, mm, cnt, e, P, ns, kp, I, nj, sj, seed, len, tx, fl, sc, ec, pp, h1, h2, h3⟩ := h
  refine ST_q h0 (c_X8_told_w14 (d := 9) (L := L) M) (c_X9_told_w14 (d := 9) (L := L) M) ?_ (fun c _ => rfl) (fun c _ => rfl)
  unfold f_X8_told_w14 f_X9_told_w14
  exact (h1.2.2.1.2.2.1).trans (h2.2.2.1.1).symm
theorem s_told_8 {bd : Nat} {M : Nat → Nat → Int32} {L : Nat → Nat → Int64} (h : RR (bd + 20) M L) : ST bd 79 144 [.int 8] M L := by
  have h0 := h
  obtain ⟨s, kd, sd, w, q, n, mm, cnt, e, P, ns, kp, I, nj, sj, seed, len, tx, fl, sc, ec, pp, h1, h2, h3⟩ := h
  obtain ⟨a1, a2⟩ := sh_c h1.1
  obtain ⟨b1, b2⟩ := st_r h2.1 (-1)
  refine ST_q h0 (c_X8_told_w8 (d := 7) (L := L) M ⟨a1, trivial⟩) (c_X9_told_w8 (d := 7) (L := L) M ⟨b1, trivial⟩) ?_ (fun c _ => rfl) (fun c _ => rfl)
  unfold f_X8_told_w8 f_X9_told_w8
  rw [a2, b2]
  refine bs_congr (fun k _ => ?_)
  by_cases c : s (71 + k) = 0
  · rw [decide_eq_true c, decide_eq_true ⟨c, Or.inl (by decide)⟩]
  · rw [decide_eq_false c, decide_eq_false (fun z => c z.1)]
theorem s_told_9 {bd : Nat} {M : Nat → Nat → Int32} {L : Nat → Nat → Int64} (h : RR (bd + 20) M L) : ST bd 79 144 [.int 9] M L := by
  have h0 := h
  obtain ⟨s, kd, sd, w, q, n, mm, cnt, e, P, ns, kp, I, nj, sj, seed, len, tx, fl, sc, ec, pp, h1, h2, h3⟩ := h
  obtain ⟨a1, a2⟩ := ha_c h1.1
  have fr : ∀ c, (c < 28 ∨ 31 < c) ∧ (c < 268 ∨ 273 < c) → g_X8_told_w9 M c = M c := fun c hc => by
    unfold g_X8_told_w9 g_X6_setOfHanging_19
    exact fr_g_X1_take_28 M 0 c (by omega) (by omega) (by omega) (by omega) (by omega) (by omega) (by omega)
  have c8 := c_X8_told_w9 (d := 5) (L := L) M ⟨a1, trivial⟩
  have h2' := Rr_c (M' := g_X8_told_w9 M) h2 (fun c hc => fr c (by omega))
  generalize g_X8_told_w9 M = N at *
  obtain ⟨b1, b2⟩ := ha_r h2'.1
  refine ST_q h0 c8 (c_X9_told_w9 (d := 5) (L := L) N ⟨b1, trivial⟩) ?_ (fun c hc => fr c (by omega)) (fun c _ => rfl)
  unfold f_X8_told_w9 f_X9_told_w9
  rw [a2, b2]
theorem s_told_10 {bd : Nat} {M : Nat → Nat → Int32} {L : Nat → Nat → Int64} (h : RR (bd + 20) M L) : ST bd 79 144 [.int 10] M L := by
  have h0 := h
  obtain ⟨s, kd, sd, w, q, n, mm, cnt, e, P, ns, kp, I, nj, sj, seed, len, tx, fl, sc, ec, pp, h1, h2, h3⟩ := h
  obtain ⟨a1, a2⟩ := si_c h1.1 h1.2.1
  have fr : ∀ c, (c < 28 ∨ 31 < c) ∧ (c < 268 ∨ 273 < c) → g_X8_told_w10 M c = M c := fun c hc => by
    unfold g_X8_told_w10 g_X6_sideHeldMost_19
    exact fr_g_X1_take_28 M 0 c (by omega) (by omega) (by omega) (by omega) (by omega) (by omega) (by omega)
  have c8 := c_X8_told_w10 (d := 5) (L := L) M ⟨a1, trivial⟩
  have h2' := Rr_c (M' := g_X8_told_w10 M) h2 (fun c hc => fr c (by omega))
  generalize g_X8_told_w10 M = N at *
  obtain ⟨b1, b2⟩ := si_r h2'.1 h2'.2.1
  refine ST_q h0 c8 (c_X9_told_w10 (d := 6) (L := L) N ⟨b1, trivial⟩) ?_ (fun c hc => fr c (by omega)) (fun c _ => rfl)
  unfold f_X8_told_w10 f_X9_told_w10
  rw [a2, b2]
theorem s_told_11 {bd : Nat} {M : Nat → Nat → Int32} {L : Nat → Nat → Int64} (h : RR (bd + 20) M L) : ST bd 79 144 [.int 11] M L := by
  have h0 := h
  obtain ⟨s, kd, sd, w, q, n, mm, cnt, e, P, ns, kp, I, nj, sj, seed, len, tx, fl, sc, ec, pp, h1, h2, h3⟩ := h
  obtain ⟨a1, a2, a3⟩ := pa_c h1.1
  have fr : ∀ c, (c < 28 ∨ 31 < c) ∧ (c < 268 ∨ 273 < c) → g_X8_told_w11 M c = M c := fun c hc => by
    unfold g_X8_told_w11
    exact a3 c hc
  have c8 := c_X8_told_w11 (d := 4) (L := L) M ⟨a1, trivial⟩
  have h2' := Rr_c (M' := g_X8_told_w11 M) h2 (fun c hc => fr c (by omega))
  generalize g_X8_told_w11 M = N at *
  obtain ⟨b1, b2⟩ := pa_r h2'.1
  refine ST_q h0 c8 (c_X9_told_w11 (d := 3) (L := L) N ⟨b1, trivial⟩) ?_ (fun c hc => fr c (by omega)) (fun c _ => rfl)
  unfold f_X8_told_w11 f_X9_told_w11
  rw [a2, b2]
theorem s_told {bd : Nat} {M : Nat → Nat → Int32} {L : Nat → Nat → Int64} (h : RR (bd + 20) M L) (x : Int32) : ST bd 79 144 [.int x] M L := by
  rcases rng x (N := 15) (by decide) with ⟨k, hk, rfl⟩ | c
  · match k, hk with
    | 0, _ => exact s_told_0 h
    | 1, _ => exact s_told_1 h
    | 2, _ => exact s_told_2 h
    | 3, _ => exact s_told_3 h
    | 4, _ => exact s_told_4 h
    | 5, _ => exact s_told_5 h
    | 6, _ => exact s_told_6 h
    | 7, _ => exact s_told_7 h
    | 8, _ => exact s_told_8 h
    | 9, _ => exact s_told_9 h
    | 10, _ => exact s_told_10 h
    | 11, _ => exact s_told_11 h
    | 12, _ => exact s_told_12 h
    | 13, _ => exact s_told_13 h
    | 14, _ => exact s_told_14 h
    | _ + 15, hk => exact absurd hk (by omega)
  · have c' := to_out (N := 14) (by decide) c
    exact ST_q h (c_X8_told_wout (d := 9) (L := L) M x c') (c_X9_told_wout (d := 9) (L := L) M x c') rfl (fun c _ => rfl) (fun c _ => rfl)
theorem s_member_0 {bd : Nat} {M : Nat → Nat → Int32} {L : Nat → Nat → Int64} (h : RR (bd + 20) M L) (m : Int32) : ST bd 80 148 [.int m, .int 0] M L := by
  have h0 := h
  obtain ⟨s, kd, sd, w, q, n, mm, cnt, e, P, ns, kp, I, nj, sj, seed, len, tx, fl, sc, ec, pp, h1, h2, h3⟩ := h
  have hm := h1.1.1.2.1
  have em : M 15 1 = nI mm := h1.1.1.1
  have rm : M 274 4 = nI mm := h2.1.1.2.1
  have i1 := mb_eq (M' := M) m rm (by omega)
  by_cases a1 : f_X8_isOutside M m (nI mm) = 0
  · obtain ⟨k, hk, rfl⟩ := oi_k (by omega) a1
    have ck : (nI k).toNatClampNeg = k := nI_clamp (by omega)
    have v6 : z_vin (nI k) 6 = true := vi (by omega) (by decide)
    refine ST_q h0 (c_X8_member_w0 (d := 8) (L := L) M (nI k) ⟨fun _ => v6, trivial⟩) (c_X9_member_w0 (d := 7) (L := L) M (nI k) ⟨fun _ => v6, trivial⟩) ?_ (fun c _ => rfl) (fun c _ => rfl)
    unfold f_X8_member_w0 f_X9_member_w0
    rw [em, if_pos a1, i1, if_pos a1, if_pos c10, ck]
    exact ((h1.1.2.1 k hk).1).trans ((h2.1.2.1 k hk).1).symm
  · have i0 : f_X9_isMember_274 M m = 0 := by rw [i1, if_neg a1]
    have c8 := c_X8_member_w0 (d := 8) (L := L) M m (by unfold q_X8_member_w0; rw [em]; exact ⟨fun z => absurd z a1, trivial⟩)
    have c9 := c_X9_member_w0 (d := 7) (L := L) M m ⟨fun z => absurd i0 z, trivial⟩
    refine ST_q h0 c8 c9 ?_ (fun c _ => rfl) (fun c _ => rfl)
    unfold f_X8_member_w0 f_X9_member_w0
    rw [em, if_neg a1, i0, if_neg (not_not_intro rfl)]
theorem s_member_1 {bd : Nat} {M : Nat → Nat → Int32} {L : Nat → Nat → Int64} (h : RR (bd + 20) M L) (m : Int32) : ST bd 80 148 [.int m, .int 1] M L := by
  have h0 := h
  obtain ⟨s, kd, sd, w, q, n, mm, cnt, e, P, ns, kp, I, nj, sj, seed, len, tx, fl, sc, ec, pp, h1, h2, h3⟩ := h
  have hm := h1.1.1.2.1
  have em : M 15 1 = nI mm := h1.1.1.1
  have rm : M 274 4 = nI mm := h2.1.1.2.1
  have i1 := mb_eq (M' := M) m rm (by omega)
  by_cases a1 : f_X8_isOutside M m (nI mm) = 0
  · obtain ⟨k, hk, rfl⟩ := oi_k (by omega) a1
    have ck : (nI k).toNatClampNeg = k := nI_clamp (by omega)
    have v6 : z_vin (nI k) 6 = true := vi (by omega) (by decide)
    refine ST_q h0 (c_X8_member_w1 (d := 8) (L := L) M (nI k) ⟨fun _ => v6, trivial⟩) (c_X9_member_w1 (d := 7) (L := L) M (nI k) ⟨fun _ => v6, trivial⟩) ?_ (fun c _ => rfl) (fun c _ => rfl)
    unfold f_X8_member_w1 f_X9_member_w1
    rw [em, if_pos a1, i1, if_pos a1, if_pos c10, ck]
    exact (h1.2.1 k hk).trans (h2.2.1 k hk).symm
  · have i0 : f_X9_isMember_274 M m = 0 := by rw [i1, if_neg a1]
    have c8 := c_X8_member_w1 (d := 8) (L := L) M m (by unfold q_X8_member_w1; rw [em]; exact ⟨fun z => absurd z a1, trivial⟩)
    have c9 := c_X9_member_w1 (d := 7) (L := L) M m ⟨fun z => absurd i0 z, trivial⟩
    refine ST_q h0 c8 c9 ?_ (fun c _ => rfl) (fun c _ => rfl)
    unfold f_X8_member_w1 f_X9_member_w1
    rw [em, if_neg a1, i0, if_neg (not_not_intro rfl)]
theorem s_member_2 {bd : Nat} {M : Nat → Nat → Int32} {L : Nat → Nat → Int64} (h : RR (bd + 20) M L) (m : Int32) : ST bd 80 148 [.int m, .int 2] M L := by
  have h0 := h
  obtain ⟨s, kd, sd, w, q, n, mm, cnt, e, P, ns, kp, I, nj, sj, seed, len, tx, fl, sc, ec, pp, h1, h2, h3⟩ := h
  have hm := h1.1.1.2.1
  have em : M 15 1 = nI mm := h1.1.1.1
  have rm : M 274 4 = nI mm := h2.1.1.2.1
  have i1 := mb_eq (M' := M) m rm (by omega)
  by_cases a1 : f_X8_isOutside M m (nI mm) = 0
  · obtain ⟨k, hk, rfl⟩ := oi_k (by omega) a1
    have ck : (nI k).toNatClampNeg = k := nI_clamp (by omega)
    have v6 : z_vin (nI k) 6 = true := vi (by omega) (by decide)
    refine ST_q h0 (c_X8_member_w2 (d := 8) (L := L) M (nI k) ⟨fun _ => v6, trivial⟩) (c_X9_member_w2 (d := 7) (L := L) M (nI k) ⟨fun _ => vx_4 (by omega), trivial⟩) ?_ (fun c _ => rfl) (fun c _ => rfl)
    unfold f_X8_member_w2 f_X9_member_w2
    rw [em, if_pos a1, i1, if_pos a1, if_pos c10, ck, ix_4 (by omega)]
    exact (h1.1.2.2.1.2.1 k hk).trans (h2.1.2.2.1 (4 + k) (by omega)).symm
  · have i0 : f_X9_isMember_274 M m = 0 := by rw [i1, if_neg a1]
    have c8 := c_X8_member_w2 (d := 8) (L := L) M m (by unfold q_X8_member_w2; rw [em]; exact ⟨fun z => absurd z a1, trivial⟩)
    have c9 := c_X9_member_w2 (d := 7) (L := L) M m ⟨fun z => absurd i0 z, trivial⟩
    refine ST_q h0 c8 c9 ?_ (fun c _ => rfl) (fun c _ => rfl)
    unfold f_X8_member_w2 f_X9_member_w2
    rw [em, if_neg a1, i0, if_neg (not_not_intro rfl)]
theorem s_member_3 {bd : Nat} {M : Nat → Nat → Int32} {L : Nat → Nat → Int64} (h : RR (bd + 20) M L) (m : Int32) : ST bd 80 148 [.int m, .int 3] M L := by
  have h0 := h
  obtain ⟨s, kd, sd, w, q, n, mm, cnt, e, P, ns, kp, I, nj, sj, seed, len, tx, fl, sc, ec, pp, h1, h2, h3⟩ := h
  have hm := h1.1.1.2.1
  have em : M 15 1 = nI mm := h1.1.1.1
  have rm : M 274 4 = nI mm := h2.1.1.2.1
  have i1 := mb_eq (M' := M) m rm (by omega)
  by_cases a1 : f_X8_isOutside M m (nI mm) = 0
  · obtain ⟨k, hk, rfl⟩ := oi_k (by omega) a1
    have ck : (nI k).toNatClampNeg = k := nI_clamp (by omega)
    have v6 : z_vin (nI k) 6 = true := vi (by omega) (by decide)
    refine ST_q h0 (c_X8_member_w3 (d := 8) (L := L) M (nI k) ⟨fun _ => v6, trivial⟩) (c_X9_member_w3 (d := 7) (L := L) M (nI k) ⟨fun _ => v6, trivial⟩) ?_ (fun c _ => rfl) (fun c _ => rfl)
    unfold f_X8_member_w3 f_X9_member_w3
    rw [em, if_pos a1, i1, if_pos a1, if_pos c10, ck]
    exact ((h1.1.2.1 k hk).2).trans ((h2.1.2.1 k hk).2).symm
  · have i0 : f_X9_isMember_274 M m = 0 := by rw [i1, if_neg a1]
    have c8 := c_X8_member_w3 (d := 8) (L := L) M m (by unfold q_X8_member_w3; rw [em]; exact ⟨fun z => absurd z a1, trivial⟩)
    have c9 := c_X9_member_w3 (d := 7) (L := L) M m ⟨fun z => absurd i0 z, trivial⟩
    refine ST_q h0 c8 c9 ?_ (fun c _ => rfl) (fun c _ => rfl)
    unfold f_X8_member_w3 f_X9_member_w3
    rw [em, if_neg a1, i0, if_neg (not_not_intro rfl)]
theorem s_member_4 {bd : Nat} {M : Nat → Nat → Int32} {L : Nat → Nat → Int64} (h : RR (bd + 20) M L) (m : Int32) : ST bd 80 148 [.int m, .int 4] M L := by
  have h0 := h
  obtain ⟨s, kd, sd, w, q, n, mm, cnt, e, P, ns, kp, I, nj, sj, seed, len, tx, fl, sc, ec, pp, h1, h2, h3⟩ := h
  have hm := h1.1.1.2.1
  have em : M 15 1 = nI mm := h1.1.1.1
  have rm : M 274 4 = nI mm := h2.1.1.2.1
  have i1 := mb_eq (M' := M) m rm (by omega)
  by_cases a1 : f_X8_isOutside M m (nI mm) = 0
  · obtain ⟨k, hk, rfl⟩ := oi_k (by omega) a1
    have ck : (nI k).toNatClampNeg = k := nI_clamp (by omega)
    have v6 : z_vin (nI k) 6 = true := vi (by omega) (by decide)
    obtain ⟨b1, b2⟩ := so_c h1.1 (nI k)
    obtain ⟨d1, d2⟩ := st_r h2.1 (nI k)
    refine ST_q h0 (c_X8_member_w4 (d := 7) (L := L) M (nI k) ⟨fun _ => b1, trivial⟩) (c_X9_member_w4 (d := 7) (L := L) M (nI k) ⟨fun _ => d1, trivial⟩) ?_ (fun c _ => rfl) (fun c _ => rfl)
    unfold f_X8_member_w4 f_X9_member_w4
    rw [em, if_pos a1, i1, if_pos a1, if_pos c10, b2, d2]
    refine bs_congr (fun j _ => ?_)
    by_cases c : s (71 + j) = 0 ∧ s (11 + j) = nI k
    · rw [decide_eq_true c, decide_eq_true ⟨c.1, Or.inr c.2⟩]
    · rw [decide_eq_false c, decide_eq_false (fun z => c ⟨z.1, z.2.resolve_left (nI_pos (by omega))⟩)]
  · have i0 : f_X9_isMember_274 M m = 0 := by rw [i1, if_neg a1]
    have c8 := c_X8_member_w4 (d := 7) (L := L) M m (by unfold q_X8_member_w4; rw [em]; exact ⟨fun z => absurd z a1, trivial⟩)
    have c9 := c_X9_member_w4 (d := 7) (L := L) M m ⟨fun z => absurd i0 z, trivial⟩
    refine ST_q h0 c8 c9 ?_ (fun c _ => rfl) (fun c _ => rfl)
    unfold f_X8_member_w4 f_X9_member_w4
    rw [em, if_neg a1, i0, if_neg (not_not_intro rfl)]
theorem s_member_5 {bd : Nat} {M : Nat → Nat → Int32} {L : Nat → Nat → Int64} (h : RR (bd + 20) M L) (m : Int32) : ST bd 80 148 [.int m, .int 5] M L := by
  have h0 := h
  obtain ⟨s, kd, sd, w, q, n, mm, cnt, e, P, ns, kp, I, nj, sj, seed, len, tx, fl, sc, ec, pp, h1, h2, h3⟩ := h
  have hm := h1.1.1.2.1
  have em : M 15 1 = nI mm := h1.1.1.1
  have rm : M 274 4 = nI mm := h2.1.1.2.1
  have i1 := mb_eq (M' := M) m rm (by omega)
  by_cases a1 : f_X8_isOutside M m (nI mm) = 0
  · obtain ⟨k, hk, rfl⟩ := oi_k (by omega) a1
    have ck : (nI k).toNatClampNeg = k := nI_clamp (by omega)
    have v6 : z_vin (nI k) 6 = true := vi (by omega) (by decide)
    obtain ⟨b1, b2, b3⟩ := he_c h1.1 hk
    have g8 : g_X8_member_w5 M (nI k) = g_X6_setOfHeldOn_19 M (nI k) := by unfold g_X8_member_w5; rw [em, if_pos a1]
    have fr : ∀ c, (c < 28 ∨ 31 < c) ∧ (c < 268 ∨ 273 < c) → g_X8_member_w5 M (nI k) c = M c := fun c hc => by rw [g8]; exact b3 c hc
    have c8 := c_X8_member_w5 (d := 5) (L := L) M (nI k) ⟨fun _ => b1, trivial⟩
    have h2' := Rr_c (M' := g_X8_member_w5 M (nI k)) h2 (fun c hc => fr c (by omega))
    clear g8
    generalize g_X8_member_w5 M (nI k) = N at *
    obtain ⟨d1, d2⟩ := he_r h2'.1 hk
    refine ST_q h0 c8 (c_X9_member_w5 (d := 3) (L := L) N (nI k) ⟨fun _ => d1, trivial⟩) ?_ (fun c hc => fr c (by omega)) (fun c _ => rfl)
    unfold f_X8_member_w5 f_X9_member_w5
    rw [em, if_pos a1, mb_eq (M' := M) _ h2'.1.1.2.1 (by omega), if_pos a1, if_pos c10, b2, d2]
  · have i0 : f_X9_isMember_274 M m = 0 := by rw [i1, if_neg a1]
    have c8 := c_X8_member_w5 (d := 5) (L := L) M m (by unfold q_X8_member_w5; rw [em]; exact ⟨fun z => absurd z a1, trivial⟩)
    have c9 := c_X9_member_w5 (d := 3) (L := L) M m ⟨fun z => absurd i0 z, trivial⟩
    have g8 : g_X8_member_w5 M m = M := by unfold g_X8_member_w5; rw [em, if_neg a1]
    rw [g8] at c8
    refine ST_q h0 c8 c9 ?_ (fun c _ => rfl) (fun c _ => rfl)
    unfold f_X8_member_w5 f_X9_member_w5
    rw [em, if_neg a1, i0, if_neg (not_not_intro rfl)]
theorem s_strap_0 {bd : Nat} {M : Nat → Nat → Int32} {L : Nat → Nat → Int64} (h : RR (bd + 20) M L) (x : Int32) : ST bd 81 149 [.int x, .int 0] M L := by
  have h0 := h
  obtain ⟨s, kd, sd, w, q, n, mm, cnt, e, P, ns, kp, I, nj, sj, seed, len, tx, fl, sc, ec, pp, h1, h2, h3⟩ := h
  have hn := h1.1.2.2.2.2.1
  have e1 : M 20 1 = nI n := h1.1.2.2.1.1.1.trans h1.1.2.2.2.1
  have r1 : M 279 10 = nI n := (h2.1.2.2.1 10 (by decide)).trans h2.1.2.2.2.1
  have im := sp_eq (M' := M) x r1 (by omega)
  have iw : f_X9_in M 0 0 5 = 1 := ii_in (k := 0) (a := 0) (b := 5) (by decide) (by decide) (by decide)
  have ew : (11 : Int32) + 12 * 0 = nI 11 := by decide
  by_cases a1 : f_X8_isOutside M x (nI n) = 0
  · obtain ⟨k, hk, rfl⟩ := oi_k (by omega) a1
    have ck : (nI k).toNatClampNeg = k := nI_clamp (by omega)
    refine ST_q h0 (c_X8_strap_w0 (d := 8) (L := L) M (nI k) ⟨fun _ => vi (by omega) (by decide), trivial⟩) (c_X9_strap_274 (d := 7) (L := L) M (nI k) 0 ⟨fun _ _ => by rw [ew, nI_add]; exact vi (by omega) (by decide), trivial⟩) ?_ (fun c _ => rfl) (fun c _ => rfl)
    unfold f_X8_strap_w0 f_X9_strap_274
    rw [e1, if_pos a1, im, if_pos a1, if_pos c10, iw, if_neg c10, ew, cl_add (by omega), ck]
    exact (h1.1.2.2.1.2.2 k hk).1.trans (h2.1.2.2.1 (11 + k) (by omega)).symm
  · have i0 : f_X9_isStrap_274 M x = 0 := by rw [im, if_neg a1]
    refine ST_q h0 (c_X8_strap_w0 (d := 8) (L := L) M x (by unfold q_X8_strap_w0; rw [e1]; exact ⟨fun z => absurd z a1, trivial⟩)) (c_X9_strap_274 (d := 7) (L := L) M x 0 ⟨fun z => absurd i0 z, trivial⟩) ?_ (fun c _ => rfl) (fun c _ => rfl)
    unfold f_X8_strap_w0 f_X9_strap_274
    rw [e1, if_neg a1, i0, if_neg (not_not_intro rfl)]
theorem s_strap_1 {bd : Nat} {M : Nat → Nat → Int32} {L : Nat → Nat → Int64} (h : RR (bd + 20) M L) (x : Int32) : ST bd 81 149 [.int x, .int 1] M L := by
  have h0 := h
  obtain ⟨s, kd, sd, w, q, n, mm, cnt, e, P, ns, kp, I, nj, sj, seed, len, tx, fl, sc, ec, pp, h1, h2, h3⟩ := h
  have hn := h1.1.2.2.2.2.1
  have e1 : M 20 1 = nI n := h1.1.2.2.1.1.1.trans h1.1.2.2.2.1
  have r1 : M 279 10 = nI n := (h2.1.2.2.1 10 (by decide)).trans h2.1.2.2.2.1
  have im := sp_eq (M' := M) x r1 (by omega)
  have iw : f_X9_in M 1 0 5 = 1 := ii_in (k := 1) (a := 0) (b := 5) (by decide) (by decide) (by decide)
  have ew : (11 : Int32) + 12 * 1 = nI 23 := by decide
  by_cases a1 : f_X8_isOutside M x (nI n) = 0
  · obtain ⟨k, hk, rfl⟩ := oi_k (by omega) a1
    have ck : (nI k).toNatClampNeg = k := nI_clamp (by omega)
    refine ST_q h0 (c_X8_strap_w1 (d := 8) (L := L) M (nI k) ⟨fun _ => vi (by omega) (by decide), trivial⟩) (c_X9_strap_274 (d := 7) (L := L) M (nI k) 1 ⟨fun _ _ => by rw [ew, nI_add]; exact vi (by omega) (by decide), trivial⟩) ?_ (fun c _ => rfl) (fun c _ => rfl)
    unfold f_X8_strap_w1 f_X9_strap_274
    rw [e1, if_pos a1, im, if_pos a1, if_pos c10, iw, if_neg c10, ew, cl_add (by omega), ck]
    exact (h1.1.2.2.1.2.2 k hk).2.1.trans (h2.1.2.2.1 (23 + k) (by omega)).symm
  · have i0 : f_X9_isStrap_274 M x = 0 := by rw [im, if_neg a1]
    refine ST_q h0 (c_X8_strap_w1 (d := 8) (L := L) M x (by unfold q_X8_strap_w1; rw [e1]; exact ⟨fun z => absurd z a1, trivial⟩)) (c_X9_strap_274 (d := 7) (L := L) M x 1 ⟨fun z => absurd i0 z, trivial⟩) ?_ (fun c _ => rfl) (fun c _ => rfl)
    unfold f_X8_strap_w1 f_X9_strap_274
    rw [e1, if_neg a1, i0, if_neg (not_not_intro rfl)]
theorem s_strap_2 {bd : Nat} {M : Nat → Nat → Int32} {L : Nat → Nat → Int64} (h : RR (bd + 20) M L) (x : Int32) : ST bd 81 149 [.int x, .int 2] M L := by
  have h0 := h
  obtain ⟨s, kd, sd, w, q, n, mm, cnt, e, P, ns, kp, I, nj, sj, seed, len, tx, fl, sc, ec, pp, h1, h2, h3⟩ := h
  have hn := h1.1.2.2.2.2.1
  have e1 : M 20 1 = nI n := h1.1.2.2.1.1.1.trans h1.1.2.2.2.1
  have r1 : M 279 10 = nI n := (h2.1.2.2.1 10 (by decide)).trans h2.1.2.2.2.1
  have im := sp_eq (M' := M) x r1 (by omega)
  have iw : f_X9_in M 2 0 5 = 1 := ii_in (k := 2) (a := 0) (b := 5) (by decide) (by decide) (by decide)
  have ew : (11 : Int32) + 12 * 2 = nI 35 := by decide
  by_cases a1 : f_X8_isOutside M x (nI n) = 0
  · obtain ⟨k, hk, rfl⟩ := oi_k (by omega) a1
    have ck : (nI k).toNatClampNeg = k := nI_clamp (by omega)
    refine ST_q h0 (c_X8_strap_w2 (d := 8) (L := L) M (nI k) ⟨fun _ => vi (by omega) (by decide), trivial⟩) (c_X9_strap_274 (d := 7) (L := L) M (nI k) 2 ⟨fun _ _ => by rw [ew, nI_add]; exact vi (by omega) (by decide), trivial⟩) ?_ (fun c _ => rfl) (fun c _ => rfl)
    unfold f_X8_strap_w2 f_X9_strap_274
    rw [e1, if_pos a1, im, if_pos a1, if_pos c10, iw, if_neg c10, ew, cl_add (by omega), ck]
    exact (h1.1.2.2.1.2.2 k hk).2.2.1.trans (h2.1.2.2.1 (35 + k) (by omega)).symm
  · have i0 : f_X9_isStrap_274 M x = 0 := by rw [im, if_neg a1]
    refine ST_q h0 (c_X8_strap_w2 (d := 8) (L := L) M x (by unfold q_X8_strap_w2; rw [e1]; exact ⟨fun z => absurd z a1, trivial⟩)) (c_X9_strap_274 (d := 7) (L := L) M x 2 ⟨fun z => absurd i0 z, trivial⟩) ?_ (fun c _ => rfl) (fun c _ => rfl)
    unfold f_X8_strap_w2 f_X9_strap_274
    rw [e1, if_neg a1, i0, if_neg (not_not_intro rfl)]
theorem s_strap_3 {bd : Nat} {M : Nat → Nat → Int32} {L : Nat → Nat → Int64} (h : RR (bd + 20) M L) (x : Int32) : ST bd 81 149 [.int x, .int 3] M L := by
  have h0 := h
  obtain ⟨s, kd, sd, w, q, n, mm, cnt, e, P, ns, kp, I, nj, sj, seed, len, tx, fl, sc, ec, pp, h1, h2, h3⟩ := h
  have hn := h1.1.2.2.2.2.1
  have e1 : M 20 1 = nI n := h1.1.2.2.1.1.1.trans h1.1.2.2.2.1
  have r1 : M 279 10 = nI n := (h2.1.2.2.1 10 (by decide)).trans h2.1.2.2.2.1
  have im := sp_eq (M' := M) x r1 (by omega)
  have iw : f_X9_in M 3 0 5 = 1 := ii_in (k := 3) (a := 0) (b := 5) (by decide) (by decide) (by decide)
  have ew : (11 : Int32) + 12 * 3 = nI 47 := by decide
  by_cases a1 : f_X8_isOutside M x (nI n) = 0
  · obtain ⟨k, hk, rfl⟩ := oi_k (by omega) a1
    have ck : (nI k).toNatClampNeg = k := nI_clamp (by omega)
    refine ST_q h0 (c_X8_strap_w3 (d := 8) (L := L) M (nI k) ⟨fun _ => vi (by omega) (by decide), trivial⟩) (c_X9_strap_274 (d := 7) (L := L) M (nI k) 3 ⟨fun _ _ => by rw [ew, nI_add]; exact vi (by omega) (by decide), trivial⟩) ?_ (fun c _ => rfl) (fun c _ => rfl)
    unfold f_X8_strap_w3 f_X9_strap_274
    rw [e1, if_pos a1, im, if_pos a1, if_pos c10, iw, if_neg c10, ew, cl_add (by omega), ck]
    exact (h1.1.2.2.1.2.2 k hk).2.2.2.1.trans (h2.1.2.2.1 (47 + k) (by omega)).symm
  · have i0 : f_X9_isStrap_274 M x = 0 := by rw [im, if_neg a1]
    refine ST_q h0 (c_X8_strap_w3 (d := 8) (L := L) M x (by unfold q_X8_strap_w3; rw [e1]; exact ⟨fun z => absurd z a1, trivial⟩)) (c_X9_strap_274 (d := 7) (L := L) M x 3 ⟨fun z => absurd i0 z, trivial⟩) ?_ (fun c _ => rfl) (fun c _ => rfl)
    unfold f_X8_strap_w3 f_X9_strap_274
    rw [e1, if_neg a1, i0, if_neg (not_not_intro rfl)]
theorem s_strap_4 {bd : Nat} {M : Nat → Nat → Int32} {L : Nat → Nat → Int64} (h : RR (bd + 20) M L) (x : Int32) : ST bd 81 149 [.int x, .int 4] M L := by
  have h0 := h
  obtain ⟨s, kd, sd, w, q, n, mm, cnt, e, P, ns, kp, I, nj, sj, seed, len, tx, fl, sc, ec, pp, h1, h2, h3⟩ := h
  have hn := h1.1.2.2.2.2.1
  have e1 : M 20 1 = nI n := h1.1.2.2.1.1.1.trans h1.1.2.2.2.1
  have r1 : M 279 10 = nI n := (h2.1.2.2.1 10 (by decide)).trans h2.1.2.2.2.1
  have im := sp_eq (M' := M) x r1 (by omega)
  have iw : f_X9_in M 4 0 5 = 1 := ii_in (k := 4) (a := 0) (b := 5) (by decide) (by decide) (by decide)
  have ew : (11 : Int32) + 12 * 4 = nI 59 := by decide
  by_cases a1 : f_X8_isOutside M x (nI n) = 0
  · obtain ⟨k, hk, rfl⟩ := oi_k (by omega) a1
    have ck : (nI k).toNatClampNeg = k := nI_clamp (by omega)
    refine ST_q h0 (c_X8_strap_w4 (d := 8) (L := L) M (nI k) ⟨fun _ => vi (by omega) (by decide), trivial⟩) (c_X9_strap_274 (d := 7) (L := L) M (nI k) 4 ⟨fun _ _ => by rw [ew, nI_add]; exact vi (by omega) (by decide), trivial⟩) ?_ (fun c _ => rfl) (fun c _ => rfl)
    unfold f_X8_strap_w4 f_X9_strap_274
    rw [e1, if_pos a1, im, if_pos a1, if_pos c10, iw, if_neg c10, ew, cl_add (by omega), ck]
    exact (h1.1.2.2.1.2.2 k hk).2.2.2.2.1.trans (h2.1.2.2.1 (59 + k) (by omega)).symm
  · have i0 : f_X9_isStrap_274 M x = 0 := by rw [im, if_neg a1]
    refine ST_q h0 (c_X8_strap_w4 (d := 8) (L := L) M x (by unfold q_X8_strap_w4; rw [e1]; exact ⟨fun z => absurd z a1, trivial⟩)) (c_X9_strap_274 (d := 7) (L := L) M x 4 ⟨fun z => absurd i0 z, trivial⟩) ?_ (fun c _ => rfl) (fun c _ => rfl)
    unfold f_X8_strap_w4 f_X9_strap_274
    rw [e1, if_neg a1, i0, if_neg (not_not_intro rfl)]
theorem s_strap_5 {bd : Nat} {M : Nat → Nat → Int32} {L : Nat → Nat → Int64} (h : RR (bd + 20) M L) (x : Int32) : ST bd 81 149 [.int x, .int 5] M L := by
  have h0 := h
  obtain ⟨s, kd, sd, w, q, n, mm, cnt, e, P, ns, kp, I, nj, sj, seed, len, tx, fl, sc, ec, pp, h1, h2, h3⟩ := h
  have hn := h1.1.2.2.2.2.1
  have e1 : M 20 1 = nI n := h1.1.2.2.1.1.1.trans h1.1.2.2.2.1
  have r1 : M 279 10 = nI n := (h2.1.2.2.1 10 (by decide)).trans h2.1.2.2.2.1
  have im := sp_eq (M' := M) x r1 (by omega)
  have iw : f_X9_in M 5 0 5 = 1 := ii_in (k := 5) (a := 0) (b := 5) (by decide) (by decide) (by decide)
  have ew : (11 : Int32) + 12 * 5 = nI 71 := by decide
  by_cases a1 : f_X8_isOutside M x (nI n) = 0
  · obtain ⟨k, hk, rfl⟩ := oi_k (by omega) a1
    have ck : (nI k).toNatClampNeg = k := nI_clamp (by omega)
    refine ST_q h0 (c_X8_strap_w5 (d := 8) (L := L) M (nI k) ⟨fun _ => vi (by omega) (by decide), trivial⟩) (c_X9_strap_274 (d := 7) (L := L) M (nI k) 5 ⟨fun _ _ => by rw [ew, nI_add]; exact vi (by omega) (by decide), trivial⟩) ?_ (fun c _ => rfl) (fun c _ => rfl)
    unfold f_X8_strap_w5 f_X9_strap_274
    rw [e1, if_pos a1, im, if_pos a1, if_pos c10, iw, if_neg c10, ew, cl_add (by omega), ck]
    exact (h1.1.2.2.1.2.2 k hk).2.2.2.2.2.trans (h2.1.2.2.1 (71 + k) (by omega)).symm
  · have i0 : f_X9_isStrap_274 M x = 0 := by rw [im, if_neg a1]
    refine ST_q h0 (c_X8_strap_w5 (d := 8) (L := L) M x (by unfold q_X8_strap_w5; rw [e1]; exact ⟨fun z => absurd z a1, trivial⟩)) (c_X9_strap_274 (d := 7) (L := L) M x 5 ⟨fun z => absurd i0 z, trivial⟩) ?_ (fun c _ => rfl) (fun c _ => rfl)
    unfold f_X8_strap_w5 f_X9_strap_274
    rw [e1, if_neg a1, i0, if_neg (not_not_intro rfl)]
theorem s_strap {bd : Nat} {M : Nat → Nat → Int32} {L : Nat → Nat → Int64} (h : RR (bd + 20) M L) (x y : Int32) : ST bd 81 149 [.int x, .int y] M L := by
  rcases rng y (N := 6) (by decide) with ⟨k, hk, rfl⟩ | c
  · match k, hk with
    | 0, _ => exact s_strap_0 h x
    | 1, _ => exact s_strap_1 h x
    | 2, _ => exact s_strap_2 h x
    | 3, _ => exact s_strap_3 h x
    | 4, _ => exact s_strap_4 h x
    | 5, _ => exact s_strap_5 h x
    | _ + 6, hk => exact absurd hk (by omega)
  · have c' := to_out (N := 5) (by decide) c
    have h0 := h
    obtain ⟨s, kd, sd, w, q, n, mm, cnt, e, P, ns, kp, I, nj, sj, seed, len, tx, fl, sc, ec, pp, h1, h2, h3⟩ := h
    have hn := h1.1.2.2.2.2.1
    have e1 : M 20 1 = nI n := h1.1.2.2.1.1.1.trans h1.1.2.2.2.1
    have r1 : M 279 10 = nI n := (h2.1.2.2.1 10 (by decide)).trans h2.1.2.2.2.1
    have im := sp_eq (M' := M) x r1 (by omega)
    have i0 : f_X9_in M y 0 5 = 0 := ii_out (c.imp id fun z => by have := lt_m1 (N := 6) (by decide) z; rwa [nI_pred] at this)
    refine ST_q h0 (c_X8_strap_wout (d := 8) (L := L) M x y c') (c_X9_strap_274 (d := 7) (L := L) M x y ⟨fun _ z => absurd i0 z, trivial⟩) ?_ (fun c _ => rfl) (fun c _ => rfl)
    unfold f_X8_strap_wout f_X9_strap_274
    rw [e1, im, i0, if_pos rfl]
    by_cases a1 : f_X8_isOutside M x (nI n) = 0 <;> simp [a1]
theorem s_goes {bd : Nat} {M : Nat → Nat → Int32} {L : Nat → Nat → Int64} (h : RR (bd + 20) M L) (m t x : Int32) : ST bd 89 161 [.int m, .int t, .int x] M L := by
  have h0 := h
  obtain ⟨s, kd, sd, w, q, n, mm, cnt, e, P, ns, kp, I, nj, sj, seed, len, tx, fl, sc, ec, pp, h1, h2, h3⟩ := h
  have hm := h1.1.1.2.1
  have em : M 15 1 = nI mm := h1.1.1.1
  have rm : M 274 4 = nI mm := h2.1.1.2.1
  have i1 := mb_eq (M' := M) m rm (by omega)
  have i2 := mt_eq M M t
  have i3 : f_X9_in M x 0 1 = if f_X8_isOutside M x 2 = 0 then 1 else 0 := io_eq M M x 1 (by decide)
  by_cases ac : f_X8_isOutside M m (nI mm) = 0 ∧ f_X8_isOutside M t 8 = 0 ∧ f_X8_isOutside M x 2 = 0
  · obtain ⟨a1, a2, a3⟩ := ac
    obtain ⟨k, hk, rfl⟩ := oi_k (by omega) a1
    have ck : (nI k).toNatClampNeg = k := nI_clamp (by omega)
    have v6 : z_vin (nI k) 6 = true := vi (by omega) (by decide)
    obtain ⟨k1, dv, fr, hc⟩ := dv_28 h1.1 t
    have g8 : g_X8_goes_0 M (nI k) t x = g_X1_take_28 M t := by
      unfold g_X8_goes_0
      rw [em, if_pos a1, if_neg (not_not_intro a2), if_pos a3]
    have f8 : f_X8_goes_0 M (nI k) t x = if ¬ x = 0 then pul s n (nI k) t + 1000 else gos w s n k t := by
      unfold f_X8_goes_0
      rw [em, if_pos a1, if_neg (not_not_intro a2), if_pos a3, ck, (dv.2.2 k hk).1, (dv.2.2 k hk).2.2.1]
    have c8 := c_X8_goes_0 (d := 6) (L := L) M (nI k) t x ⟨fun _ _ _ => k1, fun _ _ _ _ => v6, fun _ _ _ _ => v6, trivial⟩
    rw [g8, f8] at c8
    have h2' := Rr_c (M' := g_X1_take_28 M t) h2 (fun c hc => fr c (by omega))
    clear g8 f8
    generalize g_X1_take_28 M t = N at *
    have p1 := pu_279 h2'.1 (nI k) t
    have p2 := go_279 h2'.1 hk t
    refine ST_q h0 c8 (c_X9_goes_274 (d := 5) (L := L) N (nI k) t x ⟨fun _ _ _ _ => p1.1, fun _ _ _ _ => p2.1, trivial⟩) ?_ (fun c hc => fr c (by omega)) (fun c _ => rfl)
    unfold f_X9_goes_274
    rw [mb_eq (M' := M) _ h2'.1.1.2.1 (by omega), if_pos a1, if_pos c10, mt_eq N M t, if_pos a2, if_neg c10, show f_X9_in N x 0 1 = 1 from (io_eq N M x 1 (by decide)).trans (if_pos a3), if_pos c10, p1.2, p2.2]
  · have x8 : ∀ {p : Prop}, f_X8_isOutside M m (nI mm) = 0 → f_X8_isOutside M t 8 = 0 → f_X8_isOutside M x 2 = 0 → p := fun k1 k2 k3 => absurd ⟨k1, k2, k3⟩ ac
    have x9 : ∀ {p : Prop}, ¬ f_X9_isMember_274 M m = 0 → ¬ f_X9_isMatter M t = 0 → ¬ f_X9_in M x 0 1 = 0 → p := fun k1 k2 k3 => absurd ⟨by rw [i1] at k1; exact Decidable.byContradiction fun k => k1 (if_neg k), by rw [i2] at k2; exact Decidable.byContradiction fun k => k2 (if_neg k), by rw [i3] at k3; exact Decidable.byContradiction fun k => k3 (if_neg k)⟩ ac
    have c8 := c_X8_goes_0 (d := 6) (L := L) M m t x (by unfold q_X8_goes_0; rw [em]; exact ⟨x8, fun k1 k2 k3 => x8 k1 k2 k3, fun k1 k2 k3 => x8 k1 k2 k3, trivial⟩)
    have c9 := c_X9_goes_274 (d := 5) (L := L) M m t x ⟨fun k1 k2 k3 => x9 k1 k2 k3, fun k1 k2 k3 => x9 k1 k2 k3, trivial⟩
    have g8 : g_X8_goes_0 M m t x = M := by
      unfold g_X8_goes_0
      rw [em]
      split
      · split
        · rfl
        · split
          · rename_i k1 k2 k3; exact x8 k1 (Decidable.byContradiction k2) k3
          · rfl
      · rfl
    rw [g8] at c8
    refine ST_q h0 c8 c9 ?_ (fun c _ => rfl) (fun c _ => rfl)
    unfold f_X8_goes_0 f_X9_goes_274
    rw [em, i1, i2, i3]
    by_cases b1 : f_X8_isOutside M m (nI mm) = 0 <;> by_cases b2 : f_X8_isOutside M t 8 = 0 <;> by_cases b3 : f_X8_isOutside M x 2 = 0 <;> first | (exfalso; apply ac; refine ⟨?_, ?_, ?_⟩ <;> assumption) | simp [b1, b2, b3]
theorem s_matter_0 {bd : Nat} {M : Nat → Nat → Int32} {L : Nat → Nat → Int64} (h : RR (bd + 20) M L) (t : Int32) : ST bd 90 165 [.int t, .int 0] M L := by
  have h0 := h
  obtain ⟨s, kd, sd, w, q, n, mm, cnt, e, P, ns, kp, I, nj, sj, seed, len, tx, fl, sc, ec, pp, h1, h2, h3⟩ := h
  have i2 := mt_eq M M t
  by_cases a1 : f_X8_isOutside M t 8 = 0
  · skip
    obtain ⟨p1, p2⟩ := mo_c h1.1 t
    have fr : ∀ c, (c < 28 ∨ 31 < c) ∧ (c < 268 ∨ 273 < c) → g_X8_matter_w0 M t c = M c := fun c hc => by
      unfold g_X8_matter_w0
      rw [if_pos a1]
      unfold g_X6_marginOn_19
      exact fr_g_X1_take_28 M t c (by omega) (by omega) (by omega) (by omega) (by omega) (by omega) (by omega)
    have c8 := c_X8_matter_w0 (d := 5) (L := L) M t ⟨fun _ => p1, trivial⟩
    have h2' := Rr_c (M' := g_X8_matter_w0 M t) h2 (fun c hc => fr c (by omega))
    generalize g_X8_matter_w0 M t = N at *
    obtain ⟨r1, r2⟩ := mr_279 h2'.1 t
    refine ST_q h0 c8 (c_X9_matter_w0 (d := 4) (L := L) N t ⟨fun _ => r1, trivial⟩) ?_ (fun c hc => fr c (by omega)) (fun c _ => rfl)
    unfold f_X8_matter_w0 f_X9_matter_w0
    rw [if_pos a1, mt_eq N M t, if_pos a1, if_pos c10, p2, r2]
  · have i0 : f_X9_isMatter M t = 0 := by rw [i2, if_neg a1]
    have c8 := c_X8_matter_w0 (d := 5) (L := L) M t ⟨fun z => absurd z a1, trivial⟩
    have g8 : g_X8_matter_w0 M t = M := by unfold g_X8_matter_w0; rw [if_neg a1]
    rw [g8] at c8
    refine ST_q h0 c8 (c_X9_matter_w0 (d := 4) (L := L) M t ⟨fun z => absurd i0 z, trivial⟩) ?_ (fun c _ => rfl) (fun c _ => rfl)
    unfold f_X8_matter_w0 f_X9_matter_w0
    rw [if_neg a1, i0, if_neg (not_not_intro rfl)]
theorem s_matter_1 {bd : Nat} {M : Nat → Nat → Int32} {L : Nat → Nat → Int64} (h : RR (bd + 20) M L) (t : Int32) : ST bd 90 165 [.int t, .int 1] M L := by
  have h0 := h
  obtain ⟨s, kd, sd, w, q, n, mm, cnt, e, P, ns, kp, I, nj, sj, seed, len, tx, fl, sc, ec, pp, h1, h2, h3⟩ := h
  have i2 := mt_eq M M t
  by_cases a1 : f_X8_isOutside M t 8 = 0
  · skip
    obtain ⟨p1, p2⟩ := mo_c h1.1 t
    have fr : ∀ c, (c < 28 ∨ 31 < c) ∧ (c < 268 ∨ 273 < c) → g_X8_matter_w1 M t c = M c := fun c hc => by
      unfold g_X8_matter_w1
      rw [if_pos a1]
      unfold g_X6_marginOn_19
      exact fr_g_X1_take_28 M t c (by omega) (by omega) (by omega) (by omega) (by omega) (by omega) (by omega)
    have c8 := c_X8_matter_w1 (d := 5) (L := L) M t ⟨fun _ => p1, trivial⟩
    have h2' := Rr_c (M' := g_X8_matter_w1 M t) h2 (fun c hc => fr c (by omega))
    generalize g_X8_matter_w1 M t = N at *
    obtain ⟨r1, r2⟩ := mr_279 h2'.1 t
    refine ST_q h0 c8 (c_X9_matter_w1 (d := 4) (L := L) N t ⟨fun _ => r1, trivial⟩) ?_ (fun c hc => fr c (by omega)) (fun c _ => rfl)
    unfold f_X8_matter_w1 f_X9_matter_w1
    rw [if_pos a1, mt_eq N M t, if_pos a1, if_pos c10, p2, r2]
  · have i0 : f_X9_isMatter M t = 0 := by rw [i2, if_neg a1]
    have c8 := c_X8_matter_w1 (d := 5) (L := L) M t ⟨fun z => absurd z a1, trivial⟩
    have g8 : g_X8_matter_w1 M t = M := by unfold g_X8_matter_w1; rw [if_neg a1]
    rw [g8] at c8
    refine ST_q h0 c8 (c_X9_matter_w1 (d := 4) (L := L) M t ⟨fun z => absurd i0 z, trivial⟩) ?_ (fun c _ => rfl) (fun c _ => rfl)
    unfold f_X8_matter_w1 f_X9_matter_w1
    rw [if_neg a1, i0, if_neg (not_not_intro rfl)]
theorem s_matter_2 {bd : Nat} {M : Nat → Nat → Int32} {L : Nat → Nat → Int64} (h : RR (bd + 20) M L) (t : Int32) : ST bd 90 165 [.int t, .int 2] M L := by
  have h0 := h
  obtain ⟨s, kd, sd, w, q, n, mm, cnt, e, P, ns, kp, I, nj, sj, seed, len, tx, fl, sc, ec, pp, h1, h2, h3⟩ := h
  have i2 := mt_eq M M t
  by_cases a1 : f_X8_isOutside M t 8 = 0
  · skip
    obtain ⟨p1, p2⟩ := cr_c h1.1 t
    have fr : ∀ c, (c < 28 ∨ 31 < c) ∧ (c < 268 ∨ 273 < c) → g_X8_matter_w2 M t c = M c := fun c hc => by
      unfold g_X8_matter_w2
      rw [if_pos a1]
      unfold g_X6_setOfCreaking_19
      exact fr_g_X1_take_28 M t c (by omega) (by omega) (by omega) (by omega) (by omega) (by omega) (by omega)
    have c8 := c_X8_matter_w2 (d := 5) (L := L) M t ⟨fun _ => p1, trivial⟩
    have h2' := Rr_c (M' := g_X8_matter_w2 M t) h2 (fun c hc => fr c (by omega))
    generalize g_X8_matter_w2 M t = N at *
    obtain ⟨r1, r2⟩ := cr_r h2'.1 t
    refine ST_q h0 c8 (c_X9_matter_w2 (d := 2) (L := L) N t ⟨fun _ => r1, trivial⟩) ?_ (fun c hc => fr c (by omega)) (fun c _ => rfl)
    unfold f_X8_matter_w2 f_X9_matter_w2
    rw [if_pos a1, mt_eq N M t, if_pos a1, if_pos c10, p2, r2]
  · have i0 : f_X9_isMatter M t = 0 := by rw [i2, if_neg a1]
    have c8 := c_X8_matter_w2 (d := 5) (L := L) M t ⟨fun z => absurd z a1, trivial⟩
    have g8 : g_X8_matter_w2 M t = M := by unfold g_X8_matter_w2; rw [if_neg a1]
    rw [g8] at c8
    refine ST_q h0 c8 (c_X9_matter_w2 (d := 2) (L := L) M t ⟨fun z => absurd i0 z, trivial⟩) ?_ (fun c _ => rfl) (fun c _ => rfl)
    unfold f_X8_matter_w2 f_X9_matter_w2
    rw [if_neg a1, i0, if_neg (not_not_intro rfl)]
