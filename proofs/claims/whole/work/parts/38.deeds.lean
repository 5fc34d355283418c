/-! DEEDS, call by call -/
theorem io_eq (M M' : Nat → Nat → Int32) (x : Int32) (b : Nat) (hb : b + 1 < 2147483648) : f_X9_in M x 0 (nI b) = if f_X8_isOutside M' x (nI (b + 1)) = 0 then 1 else 0 := by
  rcases rng x hb with ⟨k, hk, rfl⟩ | h
  · rw [oi_in hk hb, if_pos rfl]
    exact ii_in (a := 0) (by omega) (by omega) (by omega)
  · rw [oi_out h, if_neg (show ¬ (1 : Int32) = 0 by decide)]
    refine ii_out (h.imp id fun z => ?_)
    have := lt_m1 hb z
    rwa [nI_pred] at this
theorem mt_eq (M M' : Nat → Nat → Int32) (x : Int32) : f_X9_isMatter M x = if f_X8_isOutside M' x 8 = 0 then 1 else 0 := io_eq M M' x 7 (by decide)
theorem sp_eq {M M' : Nat → Nat → Int32} {n : Nat} (x : Int32) (h : M 279 10 = nI n) (hn : n < 2147483648) : f_X9_isStrap_274 M x = if f_X8_isOutside M' x (nI n) = 0 then 1 else 0 := by
  unfold f_X9_isStrap_274
  rcases rng x hn with ⟨k, hk, rfl⟩ | c
  · rw [oi_in hk hn, if_pos rfl]; exact ms_in h hk hn
  · rw [oi_out c, if_neg (show ¬ (1 : Int32) = 0 by decide)]; exact ms_out h hn c
theorem mb_eq {M M' : Nat → Nat → Int32} {mm : Nat} (x : Int32) (h : M 274 4 = nI mm) (hn : mm < 2147483648) : f_X9_isMember_274 M x = if f_X8_isOutside M' x (nI mm) = 0 then 1 else 0 := by
  unfold f_X9_isMember_274
  rcases rng x hn with ⟨k, hk, rfl⟩ | c
  · rw [oi_in hk hn, if_pos rfl]; exact ms_in h hk hn
  · rw [oi_out c, if_neg (show ¬ (1 : Int32) = 0 by decide)]; exact ms_out h hn c
theorem oi_k {M : Nat → Nat → Int32} {x : Int32} {N : Nat} (hN : N < 2147483648) (h : f_X8_isOutside M x (nI N) = 0) : ∃ k, k < N ∧ x = nI k := by
  rcases rng x hN with c | c
  · exact c
  · rw [oi_out c] at h; exact absurd h (by decide)
theorem c10 : ¬ (1 : Int32) = 0 := by decide
theorem s_put {bd : Nat} {M : Nat → Nat → Int32} {L : Nat → Nat → Int64} (h : RR (bd + 20) M L) (t : Int32) : ST bd 82 151 [.int t] M L := by
  have h0 := h
  obtain ⟨s, kd, sd, w, q, n, mm, cnt, e, P, ns, kp, I, nj, sj, seed, len, tx, fl, sc, ec, pp, h1, h2, h3⟩ := h
  have e15 : M 15 0 = q := h1.1.1.2.2
  have st := st_q e15 h3.2.2.2.2.2.2.2
  have e20 : M 20 8 = s 0 := h1.1.2.2.1.1.2.1
  have r3 : M 274 3 = q := h2.1.1.1
  have r0 : M 279 0 = s 0 := h2.1.2.2.1 0 (by decide)
  have hs : ¬ f_X2_stands_15 M = 0 → ¬ q = 0 := by rw [st]; intro z hq; exact z (if_pos hq)
  have im := mt_eq M M t
  by_cases ac : f_X8_isOutside M t 8 = 0 ∧ ¬ q = 0 ∧ s 0 < 90000
  · obtain ⟨a1, a2, a3⟩ := ac
    obtain ⟨m1, m2, m3, m4⟩ := Cc_rem h1 h3
    obtain ⟨p1, p2, p3⟩ := pm_19 m3.1 t
    have g8 : g_X8_put_0 M t = g_X6_putMatter_19 (g_X4_remember_49_20 M) t := by
      unfold g_X8_put_0
      rw [if_pos a1, st, if_neg a2, if_pos c10, e20, if_pos a3]
    have f8 : f_X8_put_0 M t = if 0 < mg kd w s n mm t then 1 else 0 := by
      unfold f_X8_put_0
      rw [if_pos a1, st, if_neg a2, if_pos c10, e20, if_pos a3, p2]
      by_cases c : 0 < mg kd w s n mm t
      · rw [if_pos c, if_neg c10]
      · rw [if_neg c, if_pos rfl]
    have fr1 : ∀ c, 274 ≤ c → g_X8_put_0 M t c = M c := fun c hc => by
      rw [g8, fr_g_X6_putMatter_19 _ t c (by omega) (by omega) (by omega) (by omega) (by omega) (by omega) (by omega) (by omega) (by omega) (by omega), m2 c (by omega)]
    have k1 := Cc_core (M' := g_X8_put_0 M t) m3 (fun c hc => by rw [g8, fr_g_X6_putMatter_19 _ t c (by omega) (by omega) (by omega) (by omega) (by omega) (by omega) (by omega) (by omega) (by omega) (by omega)]) (by rw [g8]; exact p3)
    have h2' := Rr_c (M' := g_X8_put_0 M t) h2 fr1
    have c8 := c_X8_put_0 (d := 5) (L := L) M t ⟨fun _ _ _ => m1, fun _ _ _ => p1, trivial⟩
    generalize g_X8_put_0 M t = N at *
    obtain ⟨n1, n2, n3, n4⟩ := Rr_rem h2' (e + 1) (bd + 19) (pnP cnt ns n)
    obtain ⟨u1, u2, u3⟩ := pr_279 n4.1 t
    have b3 : N 274 3 = q := h2'.1.1.1
    have b0 : N 279 0 = s 0 := h2'.1.2.2.1 0 (by decide)
    have jm : f_X9_isMatter N t = 1 := by rw [mt_eq N M t, if_pos a1]
    have g9 : g_X9_put_274 N t = g_X9_puts_274_279 (g_X9_notes_274 N) t := by
      unfold g_X9_put_274
      rw [jm, if_pos c10, b3, if_pos a2, b0, if_pos a3]
    have f9 : f_X9_put_274 N t = if 0 < mg kd w s n mm t then 1 else 0 := by
      unfold f_X9_put_274
      rw [jm, if_pos c10, b3, if_pos a2, b0, if_pos a3, u2]
      by_cases c : 0 < mg kd w s n mm t
      · rw [if_pos c, if_neg c10]
      · rw [if_neg c, if_pos rfl]
    have c9 := c_X9_put_274 (d := 2) (L := L) N t ⟨fun _ _ _ => n1, fun _ _ _ => u1, trivial⟩
    refine ST_mk c8 c9 (by rw [f8, f9]) k1 (fun c hc => ?_) (Rr_core (M' := g_X9_put_274 N t) n4 (fun j hj => ?_) (fun c hc => ?_) (by rw [g9]; exact u3)) m4
    · rw [g9, fr_g_X9_puts_274_279 _ t c (by omega) (by omega), n2 c (by omega) (by omega)]
    · rw [g9, fr_g_X9_puts_274_279 _ t 274 (by decide) (by decide)]
    · rw [g9, fr_g_X9_puts_274_279 _ t c (by omega) (by omega)]
  · have x8 : ∀ {p : Prop}, f_X8_isOutside M t 8 = 0 → ¬ f_X2_stands_15 M = 0 → M 20 8 < 90000 → p := fun x y z => absurd ⟨x, hs y, by rw [← e20]; exact z⟩ ac
    have x9 : ∀ {p : Prop}, ¬ f_X9_isMatter M t = 0 → ¬ M 274 3 = 0 → M 279 0 < 90000 → p := fun x y z => absurd ⟨by rw [im] at x; exact Decidable.byContradiction fun k => x (if_neg k), by rw [← r3]; exact y, by rw [← r0]; exact z⟩ ac
    have c8 := c_X8_put_0 (d := 5) (L := L) M t ⟨x8, x8, trivial⟩
    have c9 := c_X9_put_274 (d := 2) (L := L) M t ⟨x9, x9, trivial⟩
    have g8 : g_X8_put_0 M t = M := by
      unfold g_X8_put_0
      split
      · split
        · split
          · apply x8 <;> assumption
          · rfl
        · rfl
      · rfl
    have g9 : g_X9_put_274 M t = M := by
      unfold g_X9_put_274
      split
      · split
        · split
          · apply x9 <;> assumption
          · rfl
        · rfl
      · rfl
    rw [g8] at c8
    rw [g9] at c9
    refine ST_q h0 c8 c9 ?_ (fun c _ => rfl) (fun c _ => rfl)
    unfold f_X8_put_0 f_X9_put_274
    rw [im, st, e20, r3, r0]
    by_cases b1 : f_X8_isOutside M t 8 = 0 <;> by_cases b2 : q = 0 <;> by_cases b3 : s 0 < 90000 <;> first | (exfalso; apply ac; refine ⟨?_, ?_, ?_⟩ <;> assumption) | simp [b1, b2, b3]
theorem s_letOut {bd : Nat} {M : Nat → Nat → Int32} {L : Nat → Nat → Int64} (h : RR (bd + 20) M L) (x : Int32) : ST bd 83 152 [.int x] M L := by
  have h0 := h
  obtain ⟨s, kd, sd, w, q, n, mm, cnt, e, P, ns, kp, I, nj, sj, seed, len, tx, fl, sc, ec, pp, h1, h2, h3⟩ := h
  have hn := h1.1.2.2.2.2.1
  have e1 : M 20 1 = nI n := h1.1.2.2.1.1.1.trans h1.1.2.2.2.1
  have r1 : M 279 10 = nI n := (h2.1.2.2.1 10 (by decide)).trans h2.1.2.2.2.1
  have im := sp_eq (M' := M) x r1 (by omega)
  by_cases a1 : f_X8_isOutside M x (nI n) = 0
  · obtain ⟨k, hk, rfl⟩ := oi_k (by omega) a1
    have ck : (nI k).toNatClampNeg = k := nI_clamp (by omega)
    have a6 : M 27 k = s (71 + k) := (h1.1.2.2.1.2.2 k hk).2.2.2.2.2
    have i8 : f_X0_holds_20 M (nI k) = if s (71 + k) = 0 then 1 else 0 := by
      rw [ho_20 e1 hk hn, a6]
    have i9 := rh_279 (s := s) (show k < 12 by omega) (h2.1.2.2.1 _ (by omega))
    have v12 : z_vin (nI k) 12 = true := vi (by omega) (by decide)
    by_cases a2 : s (71 + k) = 0
    · obtain ⟨m1, m2, m3, m4⟩ := Cc_rem h1 h3
      obtain ⟨p1, p2, p3⟩ := lz_28 m3.1 hk a2
      have g8 : g_X8_letOut_0 M (nI k) = g_X0_loosen_20 (g_X4_remember_49_20 M) (nI k) := by
        unfold g_X8_letOut_0
        rw [e1, if_pos a1, i8, if_pos a2, if_pos c10]
      have f8 : f_X8_letOut_0 M (nI k) = s (47 + k) - 1 := by
        unfold f_X8_letOut_0
        rw [e1, if_pos a1, i8, if_pos a2, if_pos c10, ck, p2]
      have fl1 : ∀ c, c < 25 ∨ 27 < c → g_X0_loosen_20 (g_X4_remember_49_20 M) (nI k) c = g_X4_remember_49_20 M c := fun c hc => by
        unfold g_X0_loosen_20
        split
        · rw [z_row_ne (by omega)]
        · rw [z_row_ne (by omega), z_row_ne (by omega)]
      have fr1 : ∀ c, 274 ≤ c → g_X8_letOut_0 M (nI k) c = M c := fun c hc => by rw [g8, fl1 c (by omega), m2 c (by omega)]
      have k1 := Cc_core (M' := g_X8_letOut_0 M (nI k)) m3 (fun c hc => by rw [g8, fl1 c (by omega)]) (by rw [g8]; exact p3)
      have h2' := Rr_c (M' := g_X8_letOut_0 M (nI k)) h2 fr1
      have c8 := c_X8_letOut_0 (d := 6) (L := L) M (nI k) ⟨fun _ => (qho_20 _ (show k < 12 by omega)), fun _ _ => m1, fun _ _ => p1, fun _ _ => v12, trivial⟩
      generalize g_X8_letOut_0 M (nI k) = N at *
      obtain ⟨n1, n2, n3, n4⟩ := Rr_rem h2' (e + 1) (bd + 19) (pnP cnt ns n)
      obtain ⟨u1, u2, u3⟩ := lz_279 n4.1 hk a2
      have b1 : N 279 10 = nI n := (h2'.1.2.2.1 10 (by decide)).trans h2'.1.2.2.2.1
      have jm : f_X9_isStrap_274 N (nI k) = 1 := by rw [sp_eq (M' := M) _ b1 (by omega), if_pos a1]
      have j9 := rh_279 (M := N) (s := s) (show k < 12 by omega) (h2'.1.2.2.1 _ (by omega))
      have g9 : g_X9_letOut_274 N (nI k) = g_X9_lets_279 (g_X9_notes_274 N) (nI k) := by
        unfold g_X9_letOut_274
        rw [jm, if_pos c10, j9.2, if_pos a2, if_pos c10]
      have f9 : f_X9_letOut_274 N (nI k) = s (47 + k) - 1 := by
        unfold f_X9_letOut_274
        rw [jm, if_pos c10, j9.2, if_pos a2, if_pos c10, ix_47 (by omega), u2]
      have fl2 : ∀ c, c ≠ 279 → g_X9_lets_279 (g_X9_notes_274 N) (nI k) c = g_X9_notes_274 N c := fun c hc => by
        unfold g_X9_lets_279
        split
        · rw [z_row_ne hc, z_row_ne hc]
        · rw [z_row_ne hc, z_row_ne hc]
      have c9 := c_X9_letOut_274 (d := 7) (L := L) N (nI k) ⟨fun _ => j9.1, fun _ _ => n1, fun _ _ => u1, fun _ _ => vx_47 (by omega), trivial⟩
      refine ST_mk c8 c9 (by rw [f8, f9]) k1 (fun c hc => ?_) (Rr_core (M' := g_X9_letOut_274 N (nI k)) n4 (fun j hj => ?_) (fun c hc => ?_) (by rw [g9]; exact u3)) m4
      · rw [g9, fl2 c (by omega), n2 c (by omega) (by omega)]
      · rw [g9, fl2 274 (by decide)]
      · rw [g9, fl2 c (by omega)]
    · have c8 := c_X8_letOut_0 (d := 6) (L := L) M (nI k) ⟨fun _ => (qho_20 _ (show k < 12 by omega)), fun _ z => absurd (by rw [i8, if_neg a2]) z, fun _ z => absurd (by rw [i8, if_neg a2]) z, fun _ _ => v12, trivial⟩
      have c9 := c_X9_letOut_274 (d := 7) (L := L) M (nI k) ⟨fun _ => i9.1, fun _ z => absurd (by rw [i9.2, if_neg a2]) z, fun _ z => absurd (by rw [i9.2, if_neg a2]) z, fun _ _ => vx_47 (by omega), trivial⟩
      have g8 : g_X8_letOut_0 M (nI k) = M := by
        unfold g_X8_letOut_0
        rw [e1, if_pos a1, i8, if_neg a2, if_neg (not_not_intro rfl)]
      have g9 : g_X9_letOut_274 M (nI k) = M := by
        unfold g_X9_letOut_274
        rw [im, if_pos a1, if_pos c10, i9.2, if_neg a2, if_neg (not_not_intro rfl)]
      rw [g8] at c8
      rw [g9] at c9
      refine ST_q h0 c8 c9 ?_ (fun c _ => rfl) (fun c _ => rfl)
      unfold f_X8_letOut_0 f_X9_letOut_274
      rw [e1, if_pos a1, i8, if_neg a2, if_neg (not_not_intro rfl), im, if_pos a1, if_pos c10, i9.2, if_neg a2, if_neg (not_not_intro rfl)]
  · have c8 := c_X8_letOut_0 (d := 6) (L := L) M x ⟨by rw [e1]; exact fun z => absurd z a1, by rw [e1]; exact fun z => absurd z a1, by rw [e1]; exact fun z => absurd z a1, by rw [e1]; exact fun z => absurd z a1, trivial⟩
    have i0 : f_X9_isStrap_274 M x = 0 := by rw [im, if_neg a1]
    have c9 := c_X9_letOut_274 (d := 7) (L := L) M x ⟨fun z => absurd i0 z, fun z => absurd i0 z, fun z => absurd i0 z, fun z => absurd i0 z, trivial⟩
    have g8 : g_X8_letOut_0 M x = M := by unfold g_X8_letOut_0; rw [e1, if_neg a1]
    have g9 : g_X9_letOut_274 M x = M := by unfold g_X9_letOut_274; rw [i0, if_neg (not_not_intro rfl)]
    rw [g8] at c8
    rw [g9] at c9
    refine ST_q h0 c8 c9 ?_ (fun c _ => rfl) (fun c _ => rfl)
    unfold f_X8_letOut_0 f_X9_letOut_274
    rw [e1, if_neg a1, i0, if_neg (not_not_intro rfl)]
theorem s_letGo {bd : Nat} {M : Nat → Nat → Int32} {L : Nat → Nat → Int64} (h : RR (bd + 20) M L) (x : Int32) : ST bd 84 153 [.int x] M L := by
  have h0 := h
  obtain ⟨s, kd, sd, w, q, n, mm, cnt, e, P, ns, kp, I, nj, sj, seed, len, tx, fl, sc, ec, pp, h1, h2, h3⟩ := h
  have hn := h1.1.2.2.2.2.1
  have e1 : M 20 1 = nI n := h1.1.2.2.1.1.1.trans h1.1.2.2.2.1
  have r1 : M 279 10 = nI n := (h2.1.2.2.1 10 (by decide)).trans h2.1.2.2.2.1
  have im := sp_eq (M' := M) x r1 (by omega)
  by_cases a1 : f_X8_isOutside M x (nI n) = 0
  · obtain ⟨k, hk, rfl⟩ := oi_k (by omega) a1
    have ck : (nI k).toNatClampNeg = k := nI_clamp (by omega)
    have a6 : M 27 k = s (71 + k) := (h1.1.2.2.1.2.2 k hk).2.2.2.2.2
    have i8 : f_X0_holds_20 M (nI k) = if s (71 + k) = 0 then 1 else 0 := by
      rw [ho_20 e1 hk hn, a6]
    have i9 := rh_279 (s := s) (show k < 12 by omega) (h2.1.2.2.1 _ (by omega))
    have v12 : z_vin (nI k) 12 = true := vi (by omega) (by decide)
    by_cases a2 : s (71 + k) = 0
    · obtain ⟨m1, m2, m3, m4⟩ := Cc_rem h1 h3
      have p3 := lgo_28 m3.1 hk a2
      have g8 : g_X8_letGo_0 M (nI k) = z_row (g_X4_remember_49_20 M) 27 (upd (g_X4_remember_49_20 M 27) k 2) := by
        unfold g_X8_letGo_0
        rw [e1, if_pos a1, i8, if_pos a2, if_pos c10, ck]
      have f8 : f_X8_letGo_0 M (nI k) = s (47 + k) := by
        unfold f_X8_letGo_0
        rw [e1, if_pos a1, i8, if_pos a2, if_pos c10, ck]
        exact (m3.1.2.2.1.2.2 k hk).2.2.2.1
      have fr1 : ∀ c, 274 ≤ c → g_X8_letGo_0 M (nI k) c = M c := fun c hc => by rw [g8, z_row_ne (by omega), m2 c (by omega)]
      have k1 := Cc_core (M' := g_X8_letGo_0 M (nI k)) m3 (fun c hc => by rw [g8, z_row_ne (by omega)]) (by rw [g8]; exact p3)
      have h2' := Rr_c (M' := g_X8_letGo_0 M (nI k)) h2 fr1
      have c8 := c_X8_letGo_0 (d := 6) (L := L) M (nI k) (by unfold q_X8_letGo_0; (repeat' apply And.intro) <;> intros <;> first | exact trivial | exact m1 | exact v12 | exact (qho_20 _ (show k < 12 by omega)))
      generalize g_X8_letGo_0 M (nI k) = N at *
      obtain ⟨n1, n2, n3, n4⟩ := Rr_rem h2' (e + 1) (bd + 19) (pnP cnt ns n)
      have b1 : N 279 10 = nI n := (h2'.1.2.2.1 10 (by decide)).trans h2'.1.2.2.2.1
      have jm : f_X9_isStrap_274 N (nI k) = 1 := by rw [sp_eq (M' := M) _ b1 (by omega), if_pos a1]
      have j9 := rh_279 (M := N) (s := s) (show k < 12 by omega) (h2'.1.2.2.1 _ (by omega))
      have g9 : g_X9_letGo_274 N (nI k) = z_row (g_X9_notes_274 N) 279 (upd (g_X9_notes_274 N 279) (71 + k) 2) := by
        unfold g_X9_letGo_274
        rw [jm, if_pos c10, j9.2, if_pos a2, if_pos c10, ix_71 (by omega)]
      have f9 : f_X9_letGo_274 N (nI k) = s (47 + k) := by
        unfold f_X9_letGo_274
        rw [jm, if_pos c10, j9.2, if_pos a2, if_pos c10, ix_47 (by omega), ix_71 (by omega), ud_ne (by omega)]
        exact n4.1.2.2.1 _ (by omega)
      have c9 := c_X9_letGo_274 (d := 7) (L := L) N (nI k) ⟨fun _ => j9.1, fun _ _ => n1, fun _ _ => vx_71 (by omega), fun _ _ => vx_47 (by omega), trivial⟩
      refine ST_mk c8 c9 (by rw [f8, f9]) k1 (fun c hc => ?_) (Rr_core (M' := g_X9_letGo_274 N (nI k)) n4 (fun j hj => ?_) (fun c hc => ?_) ?_) m4
      · rw [g9, z_row_ne (by omega), n2 c (by omega) (by omega)]
      · rw [g9, z_row_ne (by decide)]
      · rw [g9, z_row_ne (by omega)]
      · rw [g9]
        refine RS_row n4.1 rfl rfl rfl rfl (fun j hj => ?_) (wf_lg n4.1.2.2.2 n4.1.1.2.2 hk a2)
        rw [z_row_eq]
        exact ud_cong n4.1.2.2.1 j hj
    · have c8 := c_X8_letGo_0 (d := 6) (L := L) M (nI k) (by unfold q_X8_letGo_0; rw [i8, if_neg a2]; (repeat' apply And.intro) <;> intros <;> first | exact trivial | exact v12 | exact (qho_20 _ (show k < 12 by omega)) | exact absurd rfl ‹¬ (0 : Int32) = 0›)
      have c9 := c_X9_letGo_274 (d := 7) (L := L) M (nI k) ⟨fun _ => i9.1, fun _ z => absurd (by rw [i9.2, if_neg a2]) z, fun _ _ => vx_71 (by omega), fun _ _ => vx_47 (by omega), trivial⟩
      have g8 : g_X8_letGo_0 M (nI k) = M := by
        unfold g_X8_letGo_0
        rw [e1, if_pos a1, i8, if_neg a2, if_neg (not_not_intro rfl)]
      have g9 : g_X9_letGo_274 M (nI k) = M := by
        unfold g_X9_letGo_274
        rw [im, if_pos a1, if_pos c10, i9.2, if_neg a2, if_neg (not_not_intro rfl)]
      rw [g8] at c8
      rw [g9] at c9
      refine ST_q h0 c8 c9 ?_ (fun c _ => rfl) (fun c _ => rfl)
      unfold f_X8_letGo_0 f_X9_letGo_274
      rw [e1, if_pos a1, i8, if_neg a2, if_neg (not_not_intro rfl), im, if_pos a1, if_pos c10, i9.2, if_neg a2, if_neg (not_not_intro rfl)]
  · have c8 := c_X8_letGo_0 (d := 6) (L := L) M x (by unfold q_X8_letGo_0; rw [e1]; (repeat' apply And.intro) <;> intros <;> first | exact trivial | exact absurd ‹f_X8_isOutside M x (nI n) = 0› a1)
    have i0 : f_X9_isStrap_274 M x = 0 := by rw [im, if_neg a1]
    have c9 := c_X9_letGo_274 (d := 7) (L := L) M x ⟨fun z => absurd i0 z, fun z => absurd i0 z, fun z => absurd i0 z, fun z => absurd i0 z, trivial⟩
    have g8 : g_X8_letGo_0 M x = M := by unfold g_X8_letGo_0; rw [e1, if_neg a1]
    have g9 : g_X9_letGo_274 M x = M := by unfold g_X9_letGo_274; rw [i0, if_neg (not_not_intro rfl)]
    rw [g8] at c8
    rw [g9] at c9
    refine ST_q h0 c8 c9 ?_ (fun c _ => rfl) (fun c _ => rfl)
    unfold f_X8_letGo_0 f_X9_letGo_274
    rw [e1, if_neg a1, i0, if_neg (not_not_intro rfl)]
theorem s_session {bd : Nat} {M : Nat → Nat → Int32} {L : Nat → Nat → Int64} (h : RR (bd + 20) M L) : ST bd 86 155 [] M L := by
  have h0 := h
  obtain ⟨s, kd, sd, w, q, n, mm, cnt, e, P, ns, kp, I, nj, sj, seed, len, tx, fl, sc, ec, pp, h1, h2, h3⟩ := h
  have e15 : M 15 0 = q := h1.1.1.2.2
  have st := st_q e15 h3.2.2.2.2.2.2.2
  have e20 : M 20 11 = s 3 := h1.1.2.2.1.1.2.2.2.2
  have r3 : M 274 3 = q := h2.1.1.1
  have r0 : M 279 3 = s 3 := h2.1.2.2.1 3 (by decide)
  have hs : ¬ f_X2_stands_15 M = 0 → ¬ q = 0 := by rw [st]; intro z hq; exact z (if_pos hq)
  by_cases ac : ¬ q = 0 ∧ s 3 < 90000
  · obtain ⟨a2, a3⟩ := ac
    obtain ⟨m1, m2, m3, m4⟩ := Cc_rem h1 h3
    obtain ⟨p1, p2, p3⟩ := es_28 m3.1
    have g8 : g_X8_session_0 M = g_X6_endSession_19 (g_X4_remember_49_20 M) := by
      unfold g_X8_session_0
      rw [st, if_neg a2, if_pos c10, e20, if_pos a3]
    have f8 : f_X8_session_0 M = s 3 + 1 := by
      unfold f_X8_session_0
      rw [st, if_neg a2, if_pos c10, e20, if_pos a3, p2]
    have fl1 : ∀ c, c < 20 ∨ 27 < c → g_X6_endSession_19 (g_X4_remember_49_20 M) c = g_X4_remember_49_20 M c := fun c hc => fr_g_X6_endSession_19 _ c (by omega) (by omega) (by omega)
    have fr1 : ∀ c, 274 ≤ c → g_X8_session_0 M c = M c := fun c hc => by rw [g8, fl1 c (by omega), m2 c (by omega)]
    have k1 := Cc_core (M' := g_X8_session_0 M) m3 (fun c hc => by rw [g8, fl1 c (by omega)]) (by rw [g8]; exact p3)
    have h2' := Rr_c (M' := g_X8_session_0 M) h2 fr1
    have c8 := c_X8_session_0 (d := 6) (L := L) M ⟨fun _ _ => m1, fun _ _ => p1, trivial⟩
    generalize g_X8_session_0 M = N at *
    obtain ⟨n1, n2, n3, n4⟩ := Rr_rem h2' (e + 1) (bd + 19) (pnP cnt ns n)
    obtain ⟨u1, u3⟩ := es_279 n4.1
    have b3 : N 274 3 = q := h2'.1.1.1
    have b0 : N 279 3 = s 3 := h2'.1.2.2.1 3 (by decide)
    have g9 : g_X9_session_274 N = g_X9_sessionOn_274_279 (g_X9_notes_274 N) := by
      unfold g_X9_session_274
      rw [b3, if_pos a2, b0, if_pos a3]
    have f9 : f_X9_session_274 N = s 3 + 1 := by
      unfold f_X9_session_274
      rw [b3, if_pos a2, b0, if_pos a3, u3.2.2.1 3 (by decide)]
      rfl
    have fl2 : ∀ c, c ≠ 279 → g_X9_sessionOn_274_279 (g_X9_notes_274 N) c = g_X9_notes_274 N c := fun c hc => fr_g_X9_sessionOn_274_279 _ c hc
    have c9 := c_X9_session_274 (d := 7) (L := L) N ⟨fun _ _ => n1, fun _ _ => u1, trivial⟩
    refine ST_mk c8 c9 (by rw [f8, f9]) k1 (fun c hc => ?_) (Rr_core (M' := g_X9_session_274 N) n4 (fun j hj => ?_) (fun c hc => ?_) (by rw [g9]; exact u3)) m4
    · rw [g9, fl2 c (by omega), n2 c (by omega) (by omega)]
    · rw [g9, fl2 274 (by decide)]
    · rw [g9, fl2 c (by omega)]
  · have x8 : ∀ {p : Prop}, ¬ f_X2_stands_15 M = 0 → M 20 11 < 90000 → p := fun y z => absurd ⟨hs y, by rw [← e20]; exact z⟩ ac
    have x9 : ∀ {p : Prop}, ¬ M 274 3 = 0 → M 279 3 < 90000 → p := fun y z => absurd ⟨by rw [← r3]; exact y, by rw [← r0]; exact z⟩ ac
    have c8 := c_X8_session_0 (d := 6) (L := L) M ⟨x8, x8, trivial⟩
    have c9 := c_X9_session_274 (d := 7) (L := L) M ⟨x9, x9, trivial⟩
    have g8 : g_X8_session_0 M = M := by
      unfold g_X8_session_0
      split
      · split
        · apply x8 <;> assumption
        · rfl
      · rfl
    have g9 : g_X9_session_274 M = M := by
      unfold g_X9_session_274
      split
      · split
        · apply x9 <;> assumption
        · rfl
      · rfl
    rw [g8] at c8
    rw [g9] at c9
    refine ST_q h0 c8 c9 ?_ (fun c _ => rfl) (fun c _ => rfl)
    unfold f_X8_session_0 f_X9_session_274
    rw [st, e20, r3, r0]
    by_cases b2 : q = 0 <;> by_cases b3 : s 3 < 90000 <;> first | (exfalso; apply ac; refine ⟨?_, ?_⟩ <;> assumption) | simp [b2, b3]
