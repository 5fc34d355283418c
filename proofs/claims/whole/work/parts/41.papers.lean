/-! PAPERS, IMAGES, A QUIET NIGHT -/
theorem m2x {k : Nat} (h : k < 1000) : ((2 : Int32) * nI k).toNatClampNeg = 2 * k ∧ ((2 : Int32) * nI k + 1).toNatClampNeg = 2 * k + 1 := by
  have e : (2 : Int32) * nI k = nI (2 * k) := nI_mul 2 k
  rw [e, nI_1, nI_clamp (by omega), nI_clamp (by omega)]
  exact ⟨rfl, rfl⟩
theorem m3x {k : Nat} (h : k < 1000) : ((3 : Int32) * nI k).toNatClampNeg = 3 * k ∧ ((3 : Int32) * nI k + 1).toNatClampNeg = 3 * k + 1 ∧ ((3 : Int32) * nI k + 2).toNatClampNeg = 3 * k + 2 := by
  have e : (3 : Int32) * nI k = nI (3 * k) := nI_mul 3 k
  have e2 : nI (3 * k) + 2 = nI (3 * k + 2) := nI_add (3 * k) 2
  rw [e, nI_1, e2, nI_clamp (by omega), nI_clamp (by omega), nI_clamp (by omega)]
  exact ⟨rfl, rfl, rfl⟩
theorem s_see {bd : Nat} {M : Nat → Nat → Int32} {L : Nat → Nat → Int64} (h : RR (bd + 20) M L) (t x : Int32) : ST bd 94 171 [.int t, .int x] M L := by
  have h0 := h
  obtain ⟨s, kd, sd, w, q, n, mm, cnt, e, P, ns, kp, I, nj, sj, seed, len, tx, fl, sc, ec, pp, h1, h2, h3⟩ := h
  have hl : sc ≤ 6 := h3.2.2.2.2.1
  have e2 : M 243 0 = nI sc := h1.2.2.2.2.2.2.2.1.1
  have r2 : M 274 17 = nI sc := h2.2.2.2.2.2.2.2.1.1
  have i2 := mt_eq M M t
  have i3 : f_X9_in M x 0 2 = if f_X8_isOutside M x 3 = 0 then 1 else 0 := io_eq M M x 2 (by decide)
  have l12 : (nI sc < 6) ↔ sc < 6 := nI_ltI (b := 6) (by omega) (by decide)
  have q12 : (nI sc = 6) ↔ sc = 6 := nI_eq (b := 6) (by omega) (by decide)
  by_cases ac : f_X8_isOutside M t 8 = 0 ∧ f_X8_isOutside M x 3 = 0 ∧ sc < 6
  · obtain ⟨a0, a1, a2⟩ := ac
    have cl : (nI sc).toNatClampNeg = sc := nI_clamp (by omega)
    have gs : g_X3_addSeen_243 M t x = z_row (z_row (z_row M 244 (upd (M 244) sc t)) 245 (upd (M 245) sc x)) 243 (upd (M 243) 0 (nI (sc + 1))) := by
      unfold g_X3_addSeen_243
      rw [e2, if_pos (l12.mpr a2), cl, nI_1]
    have g8 : g_X8_see_0 M t x = g_X3_addSeen_243 M t x := by
      unfold g_X8_see_0
      rw [if_neg (not_not_intro a0), if_pos a1, e2, if_pos (l12.mpr a2)]
    have f8 : f_X8_see_0 M t x = nI (sc + 1) := by
      unfold f_X8_see_0
      rw [if_neg (not_not_intro a0), if_pos a1, e2, if_pos (l12.mpr a2), gs, z_row_eq, ud_eq]
    have c8 := c_X8_see_0 (d := 8) (L := L) M t x ⟨fun _ _ _ => ⟨fun _ => by rw [e2]; exact vi a2 (by decide), trivial⟩, trivial⟩
    rw [f8, g8, gs] at c8
    have f1 : ∀ c, c < 243 ∨ 245 < c → z_row (z_row (z_row M 244 (upd (M 244) sc t)) 245 (upd (M 245) sc x)) 243 (upd (M 243) 0 (nI (sc + 1))) c = M c := fun c hc => by rw [z_row_ne (by omega), z_row_ne (by omega), z_row_ne (by omega)]
    obtain ⟨y1, y2, y3, y4, y5, y6, y7, y8, y9⟩ := h1
    have k1 : Cc (z_row (z_row (z_row M 244 (upd (M 244) sc t)) 245 (upd (M 245) sc x)) 243 (upd (M 243) 0 (nI (sc + 1)))) s kd sd w q n mm cnt e (bd + 20) P ns kp I nj sj seed len tx fl (sc + 1) ec (z_row (z_row pp 0 (upd (pp 0) sc t)) 1 (upd (pp 1) sc x)) := by
      refine ⟨CS_cong_28 y1 (fun c hc => f1 c (by omega)), y2, PSc_cong y3 (fun c x y => f1 c (by omega)), IMc_cong y4 (fun c x y => f1 c (by omega)), y5, y6, y7, ⟨?_, ?_⟩, ⟨?_, y9.2⟩⟩
      · rw [z_row_eq, ud_eq]
      · intro k hk
        show upd (M 244) sc t k = upd (pp 0) sc t k ∧ upd (M 245) sc x k = upd (pp 1) sc x k
        rw [ud_if, ud_if, ud_if, ud_if]
        by_cases c : k = sc
        · rw [if_pos c, if_pos c, if_pos c, if_pos c]; exact ⟨rfl, rfl⟩
        · rw [if_neg c, if_neg c, if_neg c, if_neg c]; exact y8.2 k (by omega)
      · rw [z_row_eq, ud_ne (by decide)]; exact y9.1
    have h2' := Rr_c (M' := z_row (z_row (z_row M 244 (upd (M 244) sc t)) 245 (upd (M 245) sc x)) 243 (upd (M 243) 0 (nI (sc + 1)))) h2 (fun c hc => f1 c (by omega))
    generalize z_row (z_row (z_row M 244 (upd (M 244) sc t)) 245 (upd (M 245) sc x)) 243 (upd (M 243) 0 (nI (sc + 1))) = N at *
    obtain ⟨x1, x2, x3, x4, x5, x6, x7, x8, x9⟩ := h2'
    have b2 : N 274 17 = nI sc := x8.1
    have j2 : f_X9_isMatter N t = 1 := by rw [mt_eq N M, if_pos a0]
    have j3 : f_X9_in N x 0 2 = 1 := (io_eq N M x 2 (by decide)).trans (if_pos a1)
    have c12 : ¬ nI sc = 6 := fun z => absurd (q12.mp z) (by omega)
    obtain ⟨m0, m1⟩ := m2x (k := sc) (by omega)
    have g9 : g_X9_see_274 N t x = z_row (z_row (z_row N 285 (upd (N 285) (2 * sc) t)) 285 (upd (upd (N 285) (2 * sc) t) (2 * sc + 1) x)) 274 (upd (N 274) 17 (nI (sc + 1))) := by
      unfold g_X9_see_274
      rw [j2, if_neg c10, j3, if_pos c10, b2, if_pos c12, m0, m1, nI_1]
    have f9 : f_X9_see_274 N t x = nI (sc + 1) := by
      unfold f_X9_see_274
      rw [j2, if_neg c10, j3, if_pos c10, b2, if_pos c12, nI_1]
    have c9 := c_X9_see_274 (d := 7) (L := L) N t x (by
      have e : (2 : Int32) * nI sc = nI (2 * sc) := nI_mul 2 sc
      unfold q_X9_see_274
      rw [b2, e, nI_1]
      exact ⟨fun _ _ _ => vi (by omega) (by decide), fun _ _ _ => vi (by omega) (by decide), trivial⟩)
    rw [f9, g9] at c9
    have f0 : ∀ j, j ≠ 17 → z_row (z_row (z_row N 285 (upd (N 285) (2 * sc) t)) 285 (upd (upd (N 285) (2 * sc) t) (2 * sc + 1) x)) 274 (upd (N 274) 17 (nI (sc + 1))) 274 j = N 274 j := fun j hj => by rw [z_row_eq, ud_ne hj]
    refine ST_mk c8 c9 rfl k1 (fun c hc => by rw [z_row_ne (by omega), z_row_ne (by omega), z_row_ne (by omega)]) ⟨RS_cong_279 x1 (f0 3 (by decide)) (f0 4 (by decide)) rfl rfl rfl, x2, ⟨?_, x3.2⟩, x4, x5, ⟨?_, x6.2⟩, ?_, ⟨?_, ?_⟩, ⟨?_, x9.2⟩⟩ ⟨h3.1, h3.2.1, h3.2.2.1, h3.2.2.2.1, by omega, h3.2.2.2.2.2⟩
    · rw [f0 11 (by decide)]; exact x3.1
    · rw [f0 1 (by decide)]; exact x6.1
    · rw [f0 2 (by decide)]; exact x7
    · rw [z_row_eq, ud_eq]
    · intro k hk
      show upd (upd (N 285) (2 * sc) t) (2 * sc + 1) x (2 * k) = upd (pp 0) sc t k ∧ upd (upd (N 285) (2 * sc) t) (2 * sc + 1) x (2 * k + 1) = upd (pp 1) sc x k
      by_cases c : k = sc
      · subst c
        rw [ud_ne (by omega), ud_eq, ud_eq, ud_eq, ud_eq]; exact ⟨rfl, rfl⟩
      · obtain ⟨u1, u2⟩ := x8.2 k (by omega)
        rw [ud_ne c, ud_ne c]
        exact ⟨by rw [ud_ne (by omega), ud_ne (by omega)]; exact u1, by rw [ud_ne (by omega), ud_ne (by omega)]; exact u2⟩
    · rw [f0 19 (by decide)]; exact x9.1
  · have c8 := c_X8_see_0 (d := 8) (L := L) M t x ⟨fun k0 k1 k2 => absurd ⟨k0, k1, by rw [e2] at k2; exact l12.mp k2⟩ ac, trivial⟩
    have x9 : ∀ {p : Prop}, ¬ f_X9_isMatter M t = 0 → ¬ f_X9_in M x 0 2 = 0 → ¬ nI sc = 6 → p := fun k2 k3 k4 => absurd ⟨by rw [i2] at k2; exact Decidable.byContradiction fun k => k2 (if_neg k), by rw [i3] at k3; exact Decidable.byContradiction fun k => k3 (if_neg k), Nat.lt_of_le_of_ne hl (fun z => k4 (q12.mpr z))⟩ ac
    have c9 := c_X9_see_274 (d := 7) (L := L) M t x ⟨by rw [r2]; exact x9, by rw [r2]; exact x9, trivial⟩
    have g8 : g_X8_see_0 M t x = M := by
      unfold g_X8_see_0
      rw [e2]
      split
      · rfl
      · split
        · split
          · rename_i k0 k1 k2; exact absurd ⟨Decidable.byContradiction k0, k1, l12.mp k2⟩ ac
          · rfl
        · rfl
    have g9 : g_X9_see_274 M t x = M := by
      unfold g_X9_see_274
      rw [r2]
      split
      · rfl
      · split
        · split
          · apply x9 <;> assumption
          · rfl
        · rfl
    rw [g8] at c8
    rw [g9] at c9
    refine ST_q h0 c8 c9 ?_ (fun c _ => rfl) (fun c _ => rfl)
    unfold f_X8_see_0 f_X9_see_274
    rw [e2, r2, i2, i3]
    by_cases b2 : f_X8_isOutside M t 8 = 0 <;> by_cases b3 : f_X8_isOutside M x 3 = 0 <;> by_cases b5 : sc < 6 <;> first | (exfalso; apply ac; refine ⟨?_, ?_, ?_⟩ <;> assumption) | (have b6 : sc = 6 ↔ ¬ sc < 6 := ⟨fun z => by omega, fun z => by omega⟩; simp [b2, b3, b5, b6, l12, q12])
theorem s_write {bd : Nat} {M : Nat → Nat → Int32} {L : Nat → Nat → Int64} (h : RR (bd + 20) M L) (m t x : Int32) : ST bd 97 174 [.int m, .int t, .int x] M L := by
  have h0 := h
  obtain ⟨s, kd, sd, w, q, n, mm, cnt, e, P, ns, kp, I, nj, sj, seed, len, tx, fl, sc, ec, pp, h1, h2, h3⟩ := h
  have hm := h1.1.1.2.1
  have hl : ec ≤ 20 := h3.2.2.2.2.2.1
  have em : M 15 1 = nI mm := h1.1.1.1
  have rm : M 274 4 = nI mm := h2.1.1.2.1
  have e2 : M 243 3 = nI ec := h1.2.2.2.2.2.2.2.2.1
  have r2 : M 274 19 = nI ec := h2.2.2.2.2.2.2.2.2.1
  have i1 := mb_eq (M' := M) m rm (by omega)
  have i2 := mt_eq M M t
  have i3 : f_X9_in M x 0 2 = if f_X8_isOutside M x 3 = 0 then 1 else 0 := io_eq M M x 2 (by decide)
  have l12 : (nI ec < 20) ↔ ec < 20 := nI_ltI (b := 20) (by omega) (by decide)
  have q12 : (nI ec = 20) ↔ ec = 20 := nI_eq (b := 20) (by omega) (by decide)
  by_cases ac : f_X8_isOutside M m (nI mm) = 0 ∧ f_X8_isOutside M t 8 = 0 ∧ f_X8_isOutside M x 3 = 0 ∧ ec < 20
  · obtain ⟨am, a0, a1, a2⟩ := ac
    obtain ⟨mk, hmk, hme⟩ := oi_k (by omega) am
    have cl : (nI ec).toNatClampNeg = ec := nI_clamp (by omega)
    have gs : g_X3_addEntry_243 M m t x = z_row (z_row (z_row (z_row M 246 (upd (M 246) ec m)) 247 (upd (M 247) ec t)) 248 (upd (M 248) ec x)) 243 (upd (M 243) 3 (nI (ec + 1))) := by
      unfold g_X3_addEntry_243
      rw [e2, if_pos (l12.mpr a2), cl, nI_1]
    have g8 : g_X8_write_0 M m t x = g_X3_addEntry_243 M m t x := by
      unfold g_X8_write_0
      rw [em, if_pos am, if_neg (not_not_intro a0), if_pos a1, e2, if_pos (l12.mpr a2)]
    have f8 : f_X8_write_0 M m t x = nI (ec + 1) := by
      unfold f_X8_write_0
      rw [em, if_pos am, if_neg (not_not_intro a0), if_pos a1, e2, if_pos (l12.mpr a2), gs, z_row_eq, ud_eq]
    have c8 := c_X8_write_0 (d := 8) (L := L) M m t x ⟨fun _ _ _ _ => ⟨fun _ => by rw [e2]; exact vi a2 (by decide), trivial⟩, trivial⟩
    rw [f8, g8, gs] at c8
    have f1 : ∀ c, c < 243 ∨ 248 < c → z_row (z_row (z_row (z_row M 246 (upd (M 246) ec m)) 247 (upd (M 247) ec t)) 248 (upd (M 248) ec x)) 243 (upd (M 243) 3 (nI (ec + 1))) c = M c := fun c hc => by rw [z_row_ne (by omega), z_row_ne (by omega), z_row_ne (by omega), z_row_ne (by omega)]
    obtain ⟨y1, y2, y3, y4, y5, y6, y7, y8, y9⟩ := h1
    have k1 : Cc (z_row (z_row (z_row (z_row M 246 (upd (M 246) ec m)) 247 (upd (M 247) ec t)) 248 (upd (M 248) ec x)) 243 (upd (M 243) 3 (nI (ec + 1)))) s kd sd w q n mm cnt e (bd + 20) P ns kp I nj sj seed len tx fl sc (ec + 1) (z_row (z_row (z_row pp 2 (upd (pp 2) ec m)) 3 (upd (pp 3) ec t)) 4 (upd (pp 4) ec x)) := by
      refine ⟨CS_cong_28 y1 (fun c hc => f1 c (by omega)), y2, PSc_cong y3 (fun c x y => f1 c (by omega)), IMc_cong y4 (fun c x y => f1 c (by omega)), y5, y6, y7, ⟨?_, y8.2⟩, ⟨?_, ?_⟩⟩
      · rw [z_row_eq, ud_ne (by decide)]; exact y8.1
      · rw [z_row_eq, ud_eq]
      · intro k hk
        show upd (M 246) ec m k = upd (pp 2) ec m k ∧ upd (M 247) ec t k = upd (pp 3) ec t k ∧ upd (M 248) ec x k = upd (pp 4) ec x k
        rw [ud_if, ud_if, ud_if, ud_if, ud_if, ud_if]
        by_cases c : k = ec
        · rw [if_pos c, if_pos c, if_pos c, if_pos c, if_pos c, if_pos c]; exact ⟨rfl, rfl, rfl⟩
        · rw [if_neg c, if_neg c, if_neg c, if_neg c, if_neg c, if_neg c]; exact y9.2 k (by omega)
    have h2' := Rr_c (M' := z_row (z_row (z_row (z_row M 246 (upd (M 246) ec m)) 247 (upd (M 247) ec t)) 248 (upd (M 248) ec x)) 243 (upd (M 243) 3 (nI (ec + 1)))) h2 (fun c hc => f1 c (by omega))
    generalize z_row (z_row (z_row (z_row M 246 (upd (M 246) ec m)) 247 (upd (M 247) ec t)) 248 (upd (M 248) ec x)) 243 (upd (M 243) 3 (nI (ec + 1))) = N at *
    obtain ⟨x1, x2, x3, x4, x5, x6, x7, x8, x9⟩ := h2'
    have b2 : N 274 19 = nI ec := x9.1
    have j1 : f_X9_isMember_274 N m = 1 := by rw [mb_eq (M' := M) _ x1.1.2.1 (by omega), if_pos am]
    have j2 : f_X9_isMatter N t = 1 := by rw [mt_eq N M, if_pos a0]
    have j3 : f_X9_in N x 0 2 = 1 := (io_eq N M x 2 (by decide)).trans (if_pos a1)
    have c12 : ¬ nI ec = 20 := fun z => absurd (q12.mp z) (by omega)
    obtain ⟨m0, m1, m2⟩ := m3x (k := ec) (by omega)
    have g9 : g_X9_write_274 N m t x = z_row (z_row (z_row (z_row N 286 (upd (N 286) (3 * ec) m)) 286 (upd (upd (N 286) (3 * ec) m) (3 * ec + 1) t)) 286 (upd (upd (upd (N 286) (3 * ec) m) (3 * ec + 1) t) (3 * ec + 2) x)) 274 (upd (N 274) 19 (nI (ec + 1))) := by
      unfold g_X9_write_274
      rw [j1, if_pos c10, j2, if_neg c10, j3, if_pos c10, b2, if_pos c12, m0, m1, m2, nI_1]
    have f9 : f_X9_write_274 N m t x = nI (ec + 1) := by
      unfold f_X9_write_274
      rw [j1, if_pos c10, j2, if_neg c10, j3, if_pos c10, b2, if_pos c12, nI_1]
    have c9 := c_X9_write_274 (d := 7) (L := L) N m t x (by
      have e : (3 : Int32) * nI ec = nI (3 * ec) := nI_mul 3 ec
      have e2 : nI (3 * ec) + 2 = nI (3 * ec + 2) := nI_add (3 * ec) 2
      unfold q_X9_write_274
      rw [b2, e, nI_1, e2]
      exact ⟨fun _ _ _ _ => vi (by omega) (by decide), fun _ _ _ _ => vi (by omega) (by decide), fun _ _ _ _ => vi (by omega) (by decide), trivial⟩)
    rw [f9, g9] at c9
    have f0 : ∀ j, j ≠ 19 → z_row (z_row (z_row (z_row N 286 (upd (N 286) (3 * ec) m)) 286 (upd (upd (N 286) (3 * ec) m) (3 * ec + 1) t)) 286 (upd (upd (upd (N 286) (3 * ec) m) (3 * ec + 1) t) (3 * ec + 2) x)) 274 (upd (N 274) 19 (nI (ec + 1))) 274 j = N 274 j := fun j hj => by rw [z_row_eq, ud_ne hj]
    refine ST_mk c8 c9 rfl k1 (fun c hc => by rw [z_row_ne (by omega), z_row_ne (by omega), z_row_ne (by omega), z_row_ne (by omega)]) ⟨RS_cong_279 x1 (f0 3 (by decide)) (f0 4 (by decide)) rfl rfl rfl, x2, ⟨?_, x3.2⟩, x4, x5, ⟨?_, x6.2⟩, ?_, ⟨?_, x8.2⟩, ⟨?_, ?_⟩⟩ ⟨h3.1, h3.2.1, h3.2.2.1, h3.2.2.2.1, h3.2.2.2.2.1, by omega, fun k hk => ?_, h3.2.2.2.2.2.2.2⟩
    · rw [f0 11 (by decide)]; exact x3.1
    · rw [f0 1 (by decide)]; exact x6.1
    · rw [f0 2 (by decide)]; exact x7
    · rw [f0 17 (by decide)]; exact x8.1
    · rw [z_row_eq, ud_eq]
    · intro k hk
      show upd (upd (upd (N 286) (3 * ec) m) (3 * ec + 1) t) (3 * ec + 2) x (3 * k) = upd (pp 2) ec m k ∧ upd (upd (upd (N 286) (3 * ec) m) (3 * ec + 1) t) (3 * ec + 2) x (3 * k + 1) = upd (pp 3) ec t k ∧ upd (upd (upd (N 286) (3 * ec) m) (3 * ec + 1) t) (3 * ec + 2) x (3 * k + 2) = upd (pp 4) ec x k
      by_cases c : k = ec
      · subst c
        rw [ud_eq, ud_eq, ud_eq, ud_eq]
        exact ⟨by rw [ud_ne (by omega), ud_ne (by omega), ud_eq], by rw [ud_ne (by omega), ud_eq], rfl⟩
      · rw [ud_ne c, ud_ne c, ud_ne c]
        obtain ⟨u1, u2, u3⟩ := x9.2 k (by omega)
        exact ⟨by rw [ud_ne (by omega), ud_ne (by omega), ud_ne (by omega)]; exact u1, by rw [ud_ne (by omega), ud_ne (by omega), ud_ne (by omega)]; exact u2, by rw [ud_ne (by omega), ud_ne (by omega), ud_ne (by omega)]; exact u3⟩
    · show ∃ o, o < mm ∧ upd (pp 2) ec m k = nI o
      rw [ud_if]
      by_cases c : k = ec
      · rw [if_pos c]; exact ⟨mk, hmk, hme⟩
      · rw [if_neg c]; exact h3.2.2.2.2.2.2.1 k (by omega)
  · have c8 := c_X8_write_0 (d := 8) (L := L) M m t x ⟨fun km k0 k1 k2 => absurd ⟨by rw [em] at km; exact km, k0, k1, by rw [e2] at k2; exact l12.mp k2⟩ ac, trivial⟩
    have x9 : ∀ {p : Prop}, ¬ f_X9_isMember_274 M m = 0 → ¬ f_X9_isMatter M t = 0 → ¬ f_X9_in M x 0 2 = 0 → ¬ nI ec = 20 → p := fun k1 k2 k3 k4 => absurd ⟨by rw [i1] at k1; exact Decidable.byContradiction fun k => k1 (if_neg k), by rw [i2] at k2; exact Decidable.byContradiction fun k => k2 (if_neg k), by rw [i3] at k3; exact Decidable.byContradiction fun k => k3 (if_neg k), Nat.lt_of_le_of_ne hl (fun z => k4 (q12.mpr z))⟩ ac
    have c9 := c_X9_write_274 (d := 7) (L := L) M m t x ⟨by rw [r2]; exact x9, by rw [r2]; exact x9, by rw [r2]; exact x9, trivial⟩
    have g8 : g_X8_write_0 M m t x = M := by
      unfold g_X8_write_0
      rw [e2, em]
      split
      · split
        · rfl
        · split
          · split
            · rename_i km k0 k1 k2; exact absurd ⟨km, Decidable.byContradiction k0, k1, l12.mp k2⟩ ac
            · rfl
          · rfl
      · rfl
    have g9 : g_X9_write_274 M m t x = M := by
      unfold g_X9_write_274
      rw [r2]
      split
      · split
        · rfl
        · split
          · split
            · apply x9 <;> assumption
            · rfl
          · rfl
      · rfl
    rw [g8] at c8
    rw [g9] at c9
    refine ST_q h0 c8 c9 ?_ (fun c _ => rfl) (fun c _ => rfl)
    unfold f_X8_write_0 f_X9_write_274
    rw [e2, r2, em, i1, i2, i3]
    by_cases b1 : f_X8_isOutside M m (nI mm) = 0 <;> by_cases b2 : f_X8_isOutside M t 8 = 0 <;> by_cases b3 : f_X8_isOutside M x 3 = 0 <;> by_cases b5 : ec < 20 <;> first | (exfalso; apply ac; refine ⟨?_, ?_, ?_, ?_⟩ <;> assumption) | (have b6 : ec = 20 ↔ ¬ ec < 20 := ⟨fun z => by omega, fun z => by omega⟩; simp [b1, b2, b3, b5, b6, l12, q12])
theorem s_quietp {bd : Nat} {M : Nat → Nat → Int32} {L : Nat → Nat → Int64} (h : RR (bd + 20) M L) (a b : Int32) : ST bd 93 170 [.int a, .int b] M L := by
  refine ST_q h (c_X8_quiet_0 (d := 8) (L := L) M a b) (c_X9_quiet_274 (d := 8) (L := L) M a b) ?_ (fun c _ => rfl) (fun c _ => rfl)
  have i1 : f_X9_in M a 0 60 = if f_X8_isOutside M a 61 = 0 then 1 else 0 := io_eq M M a 60 (by decide)
  have i2 : f_X9_in M b 0 100 = if f_X8_isOutside M b 101 = 0 then 1 else 0 := io_eq M M b 100 (by decide)
  unfold f_X8_quiet_0 f_X9_quiet_274
  rw [i1, i2]
  by_cases b1 : f_X8_isOutside M a 61 = 0 <;> by_cases b2 : f_X8_isOutside M b 101 = 0 <;> simp [b1, b2]
/-! images -/
theorem Cc_clear {M : Nat → Nat → Int32} {s kd sd w : Nat → Int32} {q : Int32} {n mm cnt e bd : Nat} {P : Nat → Nat → Int32} {ns : Nat → Nat} {kp : Nat → Bool} {I : Nat → Nat → Int32} {nj sj : Nat → Nat} {seed len : Nat} {tx : Nat → Int32} {fl : Int32} {sc ec : Nat} {pp : Nat → Nat → Int32} (h : Cc M s kd sd w q n mm cnt e bd P ns kp I nj sj seed len tx fl sc ec pp) : Cc (g_X4_clear_49 M) s kd sd w q n mm 0 e bd P ns kp I nj sj seed len tx fl sc ec pp := by
  obtain ⟨y1, y2, y3, y4, y5, y6, y7, y8, y9⟩ := h
  unfold g_X4_clear_49
  have f1 : ∀ c, c ≠ 49 → z_row M 49 (upd (M 49) 2 0) c = M c := fun c hc => by rw [z_row_ne hc]
  refine ⟨CS_cong_28 y1 (fun c hc => f1 c (by omega)), y2, ⟨?_, ⟨y3.2.1.1, by omega⟩, ?_, by omega, fun i hi => absurd hi (by omega)⟩, IMc_cong y4 (fun c x y => f1 c (by omega)), y5, y6, y7, y8, y9⟩
  · rw [z_row_eq, ud_ne (by decide)]; exact y3.1
  · rw [z_row_eq, ud_eq]; rfl
def ku {α : Type} (f : Nat → α) (i : Nat) (x : α) : Nat → α := fun j => if j = i then x else f j
theorem s_keep_out {bd : Nat} {M : Nat → Nat → Int32} {L : Nat → Nat → Int64} (h : RR (bd + 20) M L) {x : Int32} (ho : f_X8_isOutside M x 2 = 1) : ST bd 101 178 [.int x] M L := by
  have i3 : f_X9_in M x 0 1 = if f_X8_isOutside M x 2 = 0 then 1 else 0 := io_eq M M x 1 (by decide)
  rw [ho, if_neg c10] at i3
  have c9 := c_X9_keep_274 (d := 8) M L x ⟨fun z => absurd i3 z, fun z => absurd i3 z, trivial⟩
  have g9 : g_X9_keep_274 M L x = M := by unfold g_X9_keep_274; rw [i3, if_neg (not_not_intro rfl)]
  have l9 : h_X9_keep_274 M L x = L := by unfold h_X9_keep_274; rw [i3, if_neg (not_not_intro rfl)]
  rw [g9, l9] at c9
  refine ST_q h (c_X8_keep_out (d := 8) (L := L) M x (by rw [ho]; decide)) c9 ?_ (fun c _ => rfl) (fun c _ => rfl)
  unfold f_X8_keep_out f_X9_keep_274
  rw [i3, if_neg (not_not_intro rfl)]
theorem s_goBack_out {bd : Nat} {M : Nat → Nat → Int32} {L : Nat → Nat → Int64} (h : RR (bd + 20) M L) {x : Int32} (ho : f_X8_isOutside M x 2 = 1) : ST bd 102 179 [.int x] M L := by
  have i3 : f_X9_in M x 0 1 = if f_X8_isOutside M x 2 = 0 then 1 else 0 := io_eq M M x 1 (by decide)
  rw [ho, if_neg c10] at i3
  have c9 := c_X9_goBack_274 (d := 8) M L x ⟨fun z => absurd i3 z, fun z => absurd i3 z, trivial⟩
  have g9 : g_X9_goBack_274 M L x = M := by unfold g_X9_goBack_274; rw [i3, if_neg (not_not_intro rfl)]
  have l9 : h_X9_goBack_274 M L x = L := by unfold h_X9_goBack_274; rw [i3, if_neg (not_not_intro rfl)]
  rw [g9, l9] at c9
  refine ST_q h (c_X8_goBack_out (d := 8) (L := L) M x (by rw [ho]; decide)) c9 ?_ (fun c _ => rfl) (fun c _ => rfl)
  unfold f_X8_goBack_out f_X9_goBack_274
  rw [i3, if_neg (not_not_intro rfl)]
theorem s_keep_0 {bd : Nat} {M : Nat → Nat → Int32} {L : Nat → Nat → Int64} (h : RR (bd + 20) M L) : ST bd 101 178 [.int 0] M L := by
  obtain ⟨s, kd, sd, w, q, n, mm, cnt, e, P, ns, kp, I, nj, sj, seed, len, tx, fl, sc, ec, pp, h1, h2, h3⟩ := h
  have hm := h1.1.1.2.1
  have hn := h1.1.2.2.2.2.1
  have io : f_X8_isOutside M 0 2 = 0 := oi_in (k := 0) (N := 2) (by decide) (by decide)
  have e3 : M 0 3 = nI seed := h1.2.2.2.2.1
  have c8 := c_X8_keep_w0 (d := 7) (L := L) M
  have f8 : f_X8_keep_w0 M = 1 := by unfold f_X8_keep_w0; rw [if_pos io]
  have fc : ∀ c, c < 250 ∨ 250 + 8 ≤ c → g_X0_copyFrom_250_20 M c = M c := fun c hc => cpB_fr hc
  have g8 : g_X8_keep_w0 M = g_X4_clear_49 (z_row (z_row (g_X0_copyFrom_250_20 M) 266 (upd (M 266) 0 (nI seed))) 267 (upd (M 267) 0 1)) := by
    unfold g_X8_keep_w0
    rw [if_pos io, fc 266 (by decide), fc 267 (by decide), fc 0 (by decide), e3]
  rw [f8, g8] at c8
  obtain ⟨K, hK⟩ : ∃ K, K = z_row (z_row (g_X0_copyFrom_250_20 M) 266 (upd (M 266) 0 (nI seed))) 267 (upd (M 267) 0 1) := ⟨_, rfl⟩
  rw [← hK] at c8
  have fK : ∀ c, c ≠ 266 → c ≠ 267 → (c < 250 ∨ 250 + 8 ≤ c) → K c = M c := fun c h1 h2 h3 => by rw [hK, z_row_ne h2, z_row_ne h1, fc c h3]
  obtain ⟨y1, y2, y3, y4, y5, y6, y7, y8, y9⟩ := h1
  have k0 : Cc K s kd sd w q n mm cnt e (bd + 20) P ns (ku kp 0 true) (ku I 0 s) (ku nj 0 n) (ku sj 0 seed) seed len tx fl sc ec pp := by
    refine ⟨CS_cong_28 y1 (fun c hc => fK c (by omega) (by omega) (by omega)), ?_, PSc_cong y3 (fun c x y => fK c (by omega) (by omega) (by omega)), ?_, ?_, ?_, ?_, ?_, ?_⟩
    · rw [fK 17 (by decide) (by decide) (by decide)]; exact y2
    · intro i hi
      unfold ku
      by_cases c : i = 0
      · subst c
        rw [if_pos rfl, if_pos rfl, if_pos rfl, if_pos rfl, if_pos rfl, hK]
        refine ⟨by rw [z_row_eq, ud_eq], fun _ => ⟨rp_cong (cpB_rp (a := 250) y1.2.2.1 hn hm) (fun c x1 x2 => by rw [z_row_ne (by omega), z_row_ne (by omega)]; rfl), by rw [z_row_ne (by decide), z_row_eq, ud_eq]⟩⟩
      · rw [if_neg c, if_neg c, if_neg c, if_neg c]
        obtain ⟨u1, u2⟩ := y4 i hi
        refine ⟨by rw [hK, z_row_eq, ud_ne c]; exact u1, fun z => ⟨rp_cong (u2 z).1 (fun c x1 x2 => fK c (by omega) (by omega) (by omega)), by rw [hK, z_row_ne (by decide), z_row_eq, ud_ne c]; exact (u2 z).2⟩⟩
    · rw [fK 0 (by decide) (by decide) (by decide)]; exact y5
    · rw [fK 0 (by decide) (by decide) (by decide), fK 1 (by decide) (by decide) (by decide)]; exact y6
    · rw [fK 0 (by decide) (by decide) (by decide)]; exact y7
    · rw [fK 243 (by decide) (by decide) (by decide), fK 244 (by decide) (by decide) (by decide), fK 245 (by decide) (by decide) (by decide)]; exact y8
    · rw [fK 243 (by decide) (by decide) (by decide), fK 246 (by decide) (by decide) (by decide), fK 247 (by decide) (by decide) (by decide), fK 248 (by decide) (by decide) (by decide)]; exact y9
  have k1 := Cc_clear k0
  have h2' := Rr_c (M' := g_X4_clear_49 K) h2 (fun c hc => by unfold g_X4_clear_49; rw [z_row_ne (by omega), fK c (by omega) (by omega) (by omega)])
  generalize g_X4_clear_49 K = N at *
  obtain ⟨x1, x2, x3, x4, x5, x6, x7, x8, x9⟩ := h2'
  have b := br_279_282 (M := N) (a := 0) (b := 83 * 0) (N := 83) (by omega) (by omega)
  have bq : q_X9_bring_279_282 N 0 (83 * 0) 83 := b.1
  have br : ∀ j, g_X9_bring_279_282 N 0 (83 * 0) 83 282 j = if 83 * 0 ≤ j ∧ j < 83 * 0 + 83 then N 279 (0 + (j - 83 * 0)) else N 282 j := b.2
  have c9 := c_X9_keep_274 (d := 8) N L 0 ⟨fun _ => bq, fun _ => by decide, trivial⟩
  have fB : ∀ c, c ≠ 282 → g_X9_bring_279_282 N 0 (83 * 0) 83 c = N c := fun c a => fr_g_X9_bring_279_282 N _ _ _ c a
  have i1 : f_X9_in N 0 0 1 = 1 := ii_in (k := 0) (a := 0) (b := 1) (by decide) (by decide) (by decide)
  have f9 : f_X9_keep_274 N L 0 = 1 := by unfold f_X9_keep_274; rw [i1, if_pos c10]
  have g9 : g_X9_keep_274 N L 0 = z_row (z_row (g_X9_bring_279_282 N 0 (83 * 0) 83) 284 (upd (N 284) 0 1)) 274 (upd (N 274) 11 0) := by
    unfold g_X9_keep_274
    rw [i1, if_pos c10, fB 284 (by decide), fB 274 (by decide)]
    rfl
  have l9 : h_X9_keep_274 N L 0 = z_row L 283 (vp_updL (L 283) 0 (lN seed)) := by
    unfold h_X9_keep_274
    rw [i1, if_pos c10, x5]
    rfl
  rw [f9, g9, l9] at c9
  obtain ⟨G, hG⟩ : ∃ G, G = z_row (z_row (g_X9_bring_279_282 N 0 (83 * 0) 83) 284 (upd (N 284) 0 1)) 274 (upd (N 274) 11 0) := ⟨_, rfl⟩
  rw [← hG] at c9
  have f0 : ∀ j, j ≠ 11 → G 274 j = N 274 j := fun j hj => by rw [hG, z_row_eq, ud_ne hj]
  have ff : ∀ c, c ≠ 274 → c ≠ 282 → c ≠ 284 → G c = N c := fun c a1 a2 a3 => by rw [hG, z_row_ne a1, z_row_ne a3, fB c a2]
  refine ST_mk c8 c9 rfl k1 (fun c hc => ff c (by omega) (by omega) (by omega)) ⟨RS_cong_279 x1 (f0 3 (by decide)) (f0 4 (by decide)) (ff _ (by decide) (by decide) (by decide)) (ff _ (by decide) (by decide) (by decide)) (ff _ (by decide) (by decide) (by decide)), ?_, ⟨?_, by omega, fun i hi => absurd hi (by omega)⟩, ?_, ?_, ⟨?_, ?_⟩, ?_, ⟨?_, ?_⟩, ⟨?_, ?_⟩⟩ ⟨fun i hi => absurd hi (by omega), ?_, h3.2.2⟩
  · rw [ff 277 (by decide) (by decide) (by decide)]; exact x2
  · rw [hG, z_row_eq, ud_eq]; rfl
  · intro i hi
    unfold ku
    have e282 : ∀ j, G 282 j = if 83 * 0 ≤ j ∧ j < 83 * 0 + 83 then N 279 (0 + (j - 83 * 0)) else N 282 j := fun j => by rw [hG, z_row_ne (by decide), z_row_ne (by decide)]; exact br j
    by_cases c : i = 0
    · subst c
      rw [if_pos rfl, if_pos rfl, if_pos rfl, if_pos rfl]
      refine ⟨by rw [hG, z_row_ne (by decide), z_row_eq, ud_eq], fun _ => ⟨fun j hj => ?_, by rw [z_row_eq]; exact if_pos rfl⟩⟩
      rw [e282, if_pos (by omega), Nat.zero_add, Nat.add_sub_cancel_left]; exact x1.2.2.1 j hj
    · rw [if_neg c, if_neg c, if_neg c]
      obtain ⟨u1, u2⟩ := x4 i hi
      refine ⟨by rw [hG, z_row_ne (by decide), z_row_eq, ud_ne c]; exact u1, fun z => ⟨fun j hj => ?_, ?_⟩⟩
      · rw [e282, if_neg (by omega)]; exact (u2 z).1 j hj
      · rw [z_row_eq]; exact (if_neg c).trans (u2 z).2
  · rw [z_row_ne (by decide)]; exact x5
  · rw [f0 1 (by decide)]; exact x6.1
  · rw [ff 275 (by decide) (by decide) (by decide)]; exact x6.2
  · rw [f0 2 (by decide)]; exact x7
  · rw [f0 17 (by decide)]; exact x8.1
  · rw [ff 285 (by decide) (by decide) (by decide)]; exact x8.2
  · rw [f0 19 (by decide)]; exact x9.1
  · rw [ff 286 (by decide) (by decide) (by decide)]; exact x9.2
  · intro i hi
    unfold ku
    by_cases c : i = 0
    · rw [if_pos c, if_pos c, if_pos c, if_pos c]; exact fun _ => ⟨y1.2.2.2, h3.2.2.1⟩
    · rw [if_neg c, if_neg c, if_neg c, if_neg c]; exact h3.2.1 i hi
theorem s_goBack_0 {bd : Nat} {M : Nat → Nat → Int32} {L : Nat → Nat → Int64} (h : RR (bd + 20) M L) : ST bd 102 179 [.int 0] M L := by
  have h0 := h
  obtain ⟨s, kd, sd, w, q, n, mm, cnt, e, P, ns, kp, I, nj, sj, seed, len, tx, fl, sc, ec, pp, h1, h2, h3⟩ := h
  have hm := h1.1.1.2.1
  have c8 := c_X8_goBack_w0 (d := 7) (L := L) M
  have io : f_X8_isOutside M 0 2 = 0 := oi_in (k := 0) (N := 2) (by decide) (by decide)
  obtain ⟨y1, y2, y3, y4, y5, y6, y7, y8, y9⟩ := h1
  obtain ⟨u1, u2⟩ := y4 0 (by decide)
  by_cases ck : kp 0 = true
  · obtain ⟨u3, u4⟩ := u2 ck
    obtain ⟨v1, v2⟩ := h3.2.1 0 (by decide) ck
    rw [if_pos ck] at u1
    have f8 : f_X8_goBack_w0 M = 1 := by unfold f_X8_goBack_w0; rw [if_pos io, u1, if_pos c10]
    have fc : ∀ c, c < 20 ∨ 28 ≤ c → g_X0_copyFrom_20_250 M c = M c := fun c hc => cpB_fr hc
    have g8 : g_X8_goBack_w0 M = g_X4_clear_49 (z_row (g_X0_copyFrom_20_250 M) 0 (upd (M 0) 3 (nI (sj 0)))) := by
      unfold g_X8_goBack_w0
      rw [if_pos io, u1, if_pos c10, fc 0 (by decide), fc 266 (by decide), u4]
    rw [f8, g8] at c8
    obtain ⟨K, hK⟩ : ∃ K, K = z_row (g_X0_copyFrom_20_250 M) 0 (upd (M 0) 3 (nI (sj 0))) := ⟨_, rfl⟩
    rw [← hK] at c8
    have fK : ∀ c, c ≠ 0 → (c < 20 ∨ 28 ≤ c) → K c = M c := fun c h1 h3 => by rw [hK, z_row_ne h1, fc c h3]
    have k0 : Cc K (I 0) kd sd w q (nj 0) mm cnt e (bd + 20) P ns kp I nj sj (sj 0) len tx fl sc ec pp := by
      refine ⟨⟨?_, ?_, rp_cong (cpB_rp (a := 20) u3 v1.2.1 hm) (fun c x1 x2 => by rw [hK, z_row_ne (by omega)]; rfl), v1⟩, ?_, PSc_cong y3 (fun c x y => fK c (by omega) (by omega)), IMc_cong y4 (fun c x y => fK c (by omega) (by omega)), ?_, ⟨?_, ?_⟩, ?_, ?_, ?_⟩
      · rw [fK 15 (by decide) (by decide)]; exact y1.1
      · rw [fK 16 (by decide) (by decide), fK 18 (by decide) (by decide)]; exact y1.2.1
      · rw [fK 17 (by decide) (by decide)]; exact y2
      · rw [hK, z_row_eq, ud_eq]
      · rw [hK, z_row_eq, ud_ne (by decide)]; exact y6.1
      · rw [fK 1 (by decide) (by decide)]; exact y6.2
      · rw [hK, z_row_eq, ud_ne (by decide)]; exact y7
      · rw [fK 243 (by decide) (by decide), fK 244 (by decide) (by decide), fK 245 (by decide) (by decide)]; exact y8
      · rw [fK 243 (by decide) (by decide), fK 246 (by decide) (by decide), fK 247 (by decide) (by decide), fK 248 (by decide) (by decide)]; exact y9
    have k1 := Cc_clear k0
    have h2' := Rr_c (M' := g_X4_clear_49 K) h2 (fun c hc => by unfold g_X4_clear_49; rw [z_row_ne (by omega), fK c (by omega) (by omega)])
    generalize g_X4_clear_49 K = N at *
    obtain ⟨x1, x2, x3, x4, x5, x6, x7, x8, x9⟩ := h2'
    obtain ⟨t1, t2⟩ := x4 0 (by decide)
    rw [if_pos ck] at t1
    obtain ⟨t3, t4⟩ := t2 ck
    have b := br_282_279 (M := N) (a := 83 * 0) (b := 0) (N := 83) (by omega) (by omega)
    have bq : q_X9_bring_282_279 N (83 * 0) 0 83 := b.1
    have br : ∀ j, g_X9_bring_282_279 N (83 * 0) 0 83 279 j = if 0 ≤ j ∧ j < 0 + 83 then N 282 (83 * 0 + (j - 0)) else N 279 j := b.2
    have c9 := c_X9_goBack_274 (d := 8) N L 0 ⟨fun _ => by decide, fun _ _ => bq, trivial⟩
    have fB : ∀ c, c ≠ 279 → g_X9_bring_282_279 N (83 * 0) 0 83 c = N c := fun c a => fr_g_X9_bring_282_279 N _ _ _ c a
    have i1 : f_X9_in N 0 0 1 = 1 := ii_in (k := 0) (a := 0) (b := 1) (by decide) (by decide) (by decide)
    have cl : (0 : Int32).toNatClampNeg = 0 := by decide
    have f9 : f_X9_goBack_274 N L 0 = 1 := by unfold f_X9_goBack_274; rw [i1, if_pos c10, cl, t1, if_pos c10]
    have g9 : g_X9_goBack_274 N L 0 = z_row (g_X9_bring_282_279 N (83 * 0) 0 83) 274 (upd (N 274) 11 0) := by
      unfold g_X9_goBack_274
      rw [i1, if_pos c10, cl, t1, if_pos c10, fB 274 (by decide)]
    have l9 : h_X9_goBack_274 N L 0 = z_row L 274 (vp_updL (L 274) 12 (lN (sj 0))) := by
      unfold h_X9_goBack_274
      rw [i1, if_pos c10, cl, t1, if_pos c10, t4]
    rw [f9, g9, l9] at c9
    obtain ⟨G, hG⟩ : ∃ G, G = z_row (g_X9_bring_282_279 N (83 * 0) 0 83) 274 (upd (N 274) 11 0) := ⟨_, rfl⟩
    rw [← hG] at c9
    have f0 : ∀ j, j ≠ 11 → G 274 j = N 274 j := fun j hj => by rw [hG, z_row_eq, ud_ne hj]
    have ff : ∀ c, c ≠ 274 → c ≠ 279 → G c = N c := fun c a1 a2 => by rw [hG, z_row_ne a1, fB c a2]
    refine ST_mk c8 c9 rfl k1 (fun c hc => ff c (by omega) (by omega)) ⟨RS_row x1 (f0 3 (by decide)) (f0 4 (by decide)) (ff _ (by decide) (by decide)) (ff _ (by decide) (by decide)) (fun j hj => ?_) v1, ?_, ⟨?_, by omega, fun i hi => absurd hi (by omega)⟩, ?_, ?_, ⟨?_, ?_⟩, ?_, ⟨?_, ?_⟩, ⟨?_, ?_⟩⟩ ⟨fun i hi => absurd hi (by omega), h3.2.1, v2, h3.2.2.2⟩
    · rw [hG, z_row_ne (by decide), br, if_pos (by omega), Nat.sub_zero]; exact t3 j hj
    · rw [ff 277 (by decide) (by decide)]; exact x2
    · rw [hG, z_row_eq, ud_eq]; rfl
    · intro i hi
      obtain ⟨w1, w2⟩ := x4 i hi
      rw [ff 284 (by decide) (by decide), ff 282 (by decide) (by decide), z_row_ne (by decide)]
      exact ⟨w1, w2⟩
    · rw [z_row_eq]; exact if_pos rfl
    · rw [f0 1 (by decide)]; exact x6.1
    · rw [ff 275 (by decide) (by decide)]; exact x6.2
    · rw [f0 2 (by decide)]; exact x7
    · rw [f0 17 (by decide)]; exact x8.1
    · rw [ff 285 (by decide) (by decide)]; exact x8.2
    · rw [f0 19 (by decide)]; exact x9.1
    · rw [ff 286 (by decide) (by decide)]; exact x9.2
  · rw [if_neg ck] at u1
    have f8 : f_X8_goBack_w0 M = -1000000003 := by unfold f_X8_goBack_w0; rw [if_pos io, u1, if_neg (not_not_intro rfl)]
    have g8 : g_X8_goBack_w0 M = M := by unfold g_X8_goBack_w0; rw [if_pos io, u1, if_neg (not_not_intro rfl)]
    have t1 := (h2.2.2.2.1 0 (by decide)).1
    rw [if_neg ck] at t1
    have i1 : f_X9_in M 0 0 1 = 1 := ii_in (k := 0) (a := 0) (b := 1) (by decide) (by decide) (by decide)
    have cl : (0 : Int32).toNatClampNeg = 0 := by decide
    have c9 := c_X9_goBack_274 (d := 8) M L 0 ⟨fun _ => by decide, fun _ z => absurd (by rw [cl]; exact t1) z, trivial⟩
    have f9 : f_X9_goBack_274 M L 0 = -1000000003 := by unfold f_X9_goBack_274; rw [i1, if_pos c10, cl, t1, if_neg (not_not_intro rfl)]
    have g9 : g_X9_goBack_274 M L 0 = M := by unfold g_X9_goBack_274; rw [i1, if_pos c10, cl, t1, if_neg (not_not_intro rfl)]
    have l9 : h_X9_goBack_274 M L 0 = L := by unfold h_X9_goBack_274; rw [i1, if_pos c10, cl, t1, if_neg (not_not_intro rfl)]
    rw [f8, g8] at c8
    rw [f9, g9, l9] at c9
    exact ST_q h0 c8 c9 rfl (fun c _ => rfl) (fun c _ => rfl)
theorem s_keep_1 {bd : Nat} {M : Nat → Nat → Int32} {L : Nat → Nat → Int64} (h : RR (bd + 20) M L) : ST bd 101 178 [.int 1] M L := by
  obtain ⟨s, kd, sd, w, q, n, mm, cnt, e, P, ns, kp, I, nj, sj, seed, len, tx, fl, sc, ec, pp, h1, h2, h3⟩ := h
  have hm := h1.1.1.2.1
  have hn := h1.1.2.2.2.2.1
  have io : f_X8_isOutside M 1 2 = 0 := oi_in (k := 1) (N := 2) (by decide) (by decide)
  have e3 : M 0 3 = nI seed := h1.2.2.2.2.1
  have c8 := c_X8_keep_w1 (d := 7) (L := L) M
  have f8 : f_X8_keep_w1 M = 1 := by unfold f_X8_keep_w1; rw [if_pos io]
  have fc : ∀ c, c < 258 ∨ 258 + 8 ≤ c → g_X0_copyFrom_258_20 M c = M c := fun c hc => cpB_fr hc
  have g8 : g_X8_keep_w1 M = g_X4_clear_49 (z_row (z_row (g_X0_copyFrom_258_20 M) 266 (upd (M 266) 1 (nI seed))) 267 (upd (M 267) 1 1)) := by
    unfold g_X8_keep_w1
    rw [if_pos io, fc 266 (by decide), fc 267 (by decide), fc 0 (by decide), e3]
  rw [f8, g8] at c8
  obtain ⟨K, hK⟩ : ∃ K, K = z_row (z_row (g_X0_copyFrom_258_20 M) 266 (upd (M 266) 1 (nI seed))) 267 (upd (M 267) 1 1) := ⟨_, rfl⟩
  rw [← hK] at c8
  have fK : ∀ c, c ≠ 266 → c ≠ 267 → (c < 258 ∨ 258 + 8 ≤ c) → K c = M c := fun c h1 h2 h3 => by rw [hK, z_row_ne h2, z_row_ne h1, fc c h3]
  obtain ⟨y1, y2, y3, y4, y5, y6, y7, y8, y9⟩ := h1
  have k0 : Cc K s kd sd w q n mm cnt e (bd + 20) P ns (ku kp 1 true) (ku I 1 s) (ku nj 1 n) (ku sj 1 seed) seed len tx fl sc ec pp := by
    refine ⟨CS_cong_28 y1 (fun c hc => fK c (by omega) (by omega) (by omega)), ?_, PSc_cong y3 (fun c x y => fK c (by omega) (by omega) (by omega)), ?_, ?_, ?_, ?_, ?_, ?_⟩
    · rw [fK 17 (by decide) (by decide) (by decide)]; exact y2
    · intro i hi
      unfold ku
      by_cases c : i = 1
      · subst c
        rw [if_pos rfl, if_pos rfl, if_pos rfl, if_pos rfl, if_pos rfl, hK]
        refine ⟨by rw [z_row_eq, ud_eq], fun _ => ⟨rp_cong (cpB_rp (a := 258) y1.2.2.1 hn hm) (fun c x1 x2 => by rw [z_row_ne (by omega), z_row_ne (by omega)]; rfl), by rw [z_row_ne (by decide), z_row_eq, ud_eq]⟩⟩
      · rw [if_neg c, if_neg c, if_neg c, if_neg c]
        obtain ⟨u1, u2⟩ := y4 i hi
        refine ⟨by rw [hK, z_row_eq, ud_ne c]; exact u1, fun z => ⟨rp_cong (u2 z).1 (fun c x1 x2 => fK c (by omega) (by omega) (by omega)), by rw [hK, z_row_ne (by decide), z_row_eq, ud_ne c]; exact (u2 z).2⟩⟩
    · rw [fK 0 (by decide) (by decide) (by decide)]; exact y5
    · rw [fK 0 (by decide) (by decide) (by decide), fK 1 (by decide) (by decide) (by decide)]; exact y6
    · rw [fK 0 (by decide) (by decide) (by decide)]; exact y7
    · rw [fK 243 (by decide) (by decide) (by decide), fK 244 (by decide) (by decide) (by decide), fK 245 (by decide) (by decide) (by decide)]; exact y8
    · rw [fK 243 (by decide) (by decide) (by decide), fK 246 (by decide) (by decide) (by decide), fK 247 (by decide) (by decide) (by decide), fK 248 (by decide) (by decide) (by decide)]; exact y9
  have k1 := Cc_clear k0
  have h2' := Rr_c (M' := g_X4_clear_49 K) h2 (fun c hc => by unfold g_X4_clear_49; rw [z_row_ne (by omega), fK c (by omega) (by omega) (by omega)])
  generalize g_X4_clear_49 K = N at *
  obtain ⟨x1, x2, x3, x4, x5, x6, x7, x8, x9⟩ := h2'
  have b := br_279_282 (M := N) (a := 0) (b := 83 * 1) (N := 83) (by omega) (by omega)
  have bq : q_X9_bring_279_282 N 0 (83 * 1) 83 := b.1
  have br : ∀ j, g_X9_bring_279_282 N 0 (83 * 1) 83 282 j = if 83 * 1 ≤ j ∧ j < 83 * 1 + 83 then N 279 (0 + (j - 83 * 1)) else N 282 j := b.2
  have c9 := c_X9_keep_274 (d := 8) N L 1 ⟨fun _ => bq, fun _ => by decide, trivial⟩
  have fB : ∀ c, c ≠ 282 → g_X9_bring_279_282 N 0 (83 * 1) 83 c = N c := fun c a => fr_g_X9_bring_279_282 N _ _ _ c a
  have i1 : f_X9_in N 1 0 1 = 1 := ii_in (k := 1) (a := 0) (b := 1) (by decide) (by decide) (by decide)
  have f9 : f_X9_keep_274 N L 1 = 1 := by unfold f_X9_keep_274; rw [i1, if_pos c10]
  have g9 : g_X9_keep_274 N L 1 = z_row (z_row (g_X9_bring_279_282 N 0 (83 * 1) 83) 284 (upd (N 284) 1 1)) 274 (upd (N 274) 11 0) := by
    unfold g_X9_keep_274
    rw [i1, if_pos c10, fB 284 (by decide), fB 274 (by decide)]
    rfl
  have l9 : h_X9_keep_274 N L 1 = z_row L 283 (vp_updL (L 283) 1 (lN seed)) := by
    unfold h_X9_keep_274
    rw [i1, if_pos c10, x5]
    rfl
  rw [f9, g9, l9] at c9
  obtain ⟨G, hG⟩ : ∃ G, G = z_row (z_row (g_X9_bring_279_282 N 0 (83 * 1) 83) 284 (upd (N 284) 1 1)) 274 (upd (N 274) 11 0) := ⟨_, rfl⟩
  rw [← hG] at c9
  have f0 : ∀ j, j ≠ 11 → G 274 j = N 274 j := fun j hj => by rw [hG, z_row_eq, ud_ne hj]
  have ff : ∀ c, c ≠ 274 → c ≠ 282 → c ≠ 284 → G c = N c := fun c a1 a2 a3 => by rw [hG, z_row_ne a1, z_row_ne a3, fB c a2]
  refine ST_mk c8 c9 rfl k1 (fun c hc => ff c (by omega) (by omega) (by omega)) ⟨RS_cong_279 x1 (f0 3 (by decide)) (f0 4 (by decide)) (ff _ (by decide) (by decide) (by decide)) (ff _ (by decide) (by decide) (by decide)) (ff _ (by decide) (by decide) (by decide)), ?_, ⟨?_, by omega, fun i hi => absurd hi (by omega)⟩, ?_, ?_, ⟨?_, ?_⟩, ?_, ⟨?_, ?_⟩, ⟨?_, ?_⟩⟩ ⟨fun i hi => absurd hi (by omega), ?_, h3.2.2⟩
  · rw [ff 277 (by decide) (by decide) (by decide)]; exact x2
  · rw [hG, z_row_eq, ud_eq]; rfl
  · intro i hi
    unfold ku
    have e282 : ∀ j, G 282 j = if 83 * 1 ≤ j ∧ j < 83 * 1 + 83 then N 279 (0 + (j - 83 * 1)) else N 282 j := fun j => by rw [hG, z_row_ne (by decide), z_row_ne (by decide)]; exact br j
    by_cases c : i = 1
    · subst c
      rw [if_pos rfl, if_pos rfl, if_pos rfl, if_pos rfl]
      refine ⟨by rw [hG, z_row_ne (by decide), z_row_eq, ud_eq], fun _ => ⟨fun j hj => ?_, by rw [z_row_eq]; exact if_pos rfl⟩⟩
      rw [e282, if_pos (by omega), Nat.zero_add, Nat.add_sub_cancel_left]; exact x1.2.2.1 j hj
    · rw [if_neg c, if_neg c, if_neg c]
      obtain ⟨u1, u2⟩ := x4 i hi
      refine ⟨by rw [hG, z_row_ne (by decide), z_row_eq, ud_ne c]; exact u1, fun z => ⟨fun j hj => ?_, ?_⟩⟩
      · rw [e282, if_neg (by omega)]; exact (u2 z).1 j hj
      · rw [z_row_eq]; exact (if_neg c).trans (u2 z).2
  · rw [z_row_ne (by decide)]; exact x5
  · rw [f0 1 (by decide)]; exact x6.1
  · rw [ff 275 (by decide) (by decide) (by decide)]; exact x6.2
  · rw [f0 2 (by decide)]; exact x7
  · rw [f0 17 (by decide)]; exact x8.1
  · rw [ff 285 (by decide) (by decide) (by decide)]; exact x8.2
  · rw [f0 19 (by decide)]; exact x9.1
  · rw [ff 286 (by decide) (by decide) (by decide)]; exact x9.2
  · intro i hi
    unfold ku
    by_cases c : i = 1
    · rw [if_pos c, if_pos c, if_pos c, if_pos c]; exact fun _ => ⟨y1.2.2.2, h3.2.2.1⟩
    · rw [if_neg c, if_neg c, if_neg c, if_neg c]; exact h3.2.1 i hi
theorem s_goBack_1 {bd : Nat} {M : Nat → Nat → Int32} {L : Nat → Nat → Int64} (h : RR (bd + 20) M L) : ST bd 102 179 [.int 1] M L := by
  have h0 := h
  obtain ⟨s, kd, sd, w, q, n, mm, cnt, e, P, ns, kp, I, nj, sj, seed, len, tx, fl, sc, ec, pp, h1, h2, h3⟩ := h
  have hm := h1.1.1.2.1
  have c8 := c_X8_goBack_w1 (d := 7) (L := L) M
  have io : f_X8_isOutside M 1 2 = 0 := oi_in (k := 1) (N := 2) (by decide) (by decide)
  obtain ⟨y1, y2, y3, y4, y5, y6, y7, y8, y9⟩ := h1
  obtain ⟨u1, u2⟩ := y4 1 (by decide)
  by_cases ck : kp 1 = true
  · obtain ⟨u3, u4⟩ := u2 ck
    obtain ⟨v1, v2⟩ := h3.2.1 1 (by decide) ck
    rw [if_pos ck] at u1
    have f8 : f_X8_goBack_w1 M = 1 := by unfold f_X8_goBack_w1; rw [if_pos io, u1, if_pos c10]
    have fc : ∀ c, c < 20 ∨ 28 ≤ c → g_X0_copyFrom_20_258 M c = M c := fun c hc => cpB_fr hc
    have g8 : g_X8_goBack_w1 M = g_X4_clear_49 (z_row (g_X0_copyFrom_20_258 M) 0 (upd (M 0) 3 (nI (sj 1)))) := by
      unfold g_X8_goBack_w1
      rw [if_pos io, u1, if_pos c10, fc 0 (by decide), fc 266 (by decide), u4]
    rw [f8, g8] at c8
    obtain ⟨K, hK⟩ : ∃ K, K = z_row (g_X0_copyFrom_20_258 M) 0 (upd (M 0) 3 (nI (sj 1))) := ⟨_, rfl⟩
    rw [← hK] at c8
    have fK : ∀ c, c ≠ 0 → (c < 20 ∨ 28 ≤ c) → K c = M c := fun c h1 h3 => by rw [hK, z_row_ne h1, fc c h3]
    have k0 : Cc K (I 1) kd sd w q (nj 1) mm cnt e (bd + 20) P ns kp I nj sj (sj 1) len tx fl sc ec pp := by
      refine ⟨⟨?_, ?_, rp_cong (cpB_rp (a := 20) u3 v1.2.1 hm) (fun c x1 x2 => by rw [hK, z_row_ne (by omega)]; rfl), v1⟩, ?_, PSc_cong y3 (fun c x y => fK c (by omega) (by omega)), IMc_cong y4 (fun c x y => fK c (by omega) (by omega)), ?_, ⟨?_, ?_⟩, ?_, ?_, ?_⟩
      · rw [fK 15 (by decide) (by decide)]; exact y1.1
      · rw [fK 16 (by decide) (by decide), fK 18 (by decide) (by decide)]; exact y1.2.1
      · rw [fK 17 (by decide) (by decide)]; exact y2
      · rw [hK, z_row_eq, ud_eq]
      · rw [hK, z_row_eq, ud_ne (by decide)]; exact y6.1
      · rw [fK 1 (by decide) (by decide)]; exact y6.2
      · rw [hK, z_row_eq, ud_ne (by decide)]; exact y7
      · rw [fK 243 (by decide) (by decide), fK 244 (by decide) (by decide), fK 245 (by decide) (by decide)]; exact y8
      · rw [fK 243 (by decide) (by decide), fK 246 (by decide) (by decide), fK 247 (by decide) (by decide), fK 248 (by decide) (by decide)]; exact y9
    have k1 := Cc_clear k0
    have h2' := Rr_c (M' := g_X4_clear_49 K) h2 (fun c hc => by unfold g_X4_clear_49; rw [z_row_ne (by omega), fK c (by omega) (by omega)])
    generalize g_X4_clear_49 K = N at *
    obtain ⟨x1, x2, x3, x4, x5, x6, x7, x8, x9⟩ := h2'
    obtain ⟨t1, t2⟩ := x4 1 (by decide)
    rw [if_pos ck] at t1
    obtain ⟨t3, t4⟩ := t2 ck
    have b := br_282_279 (M := N) (a := 83 * 1) (b := 0) (N := 83) (by omega) (by omega)
    have bq : q_X9_bring_282_279 N (83 * 1) 0 83 := b.1
    have br : ∀ j, g_X9_bring_282_279 N (83 * 1) 0 83 279 j = if 0 ≤ j ∧ j < 0 + 83 then N 282 (83 * 1 + (j - 0)) else N 279 j := b.2
    have c9 := c_X9_goBack_274 (d := 8) N L 1 ⟨fun _ => by decide, fun _ _ => bq, trivial⟩
    have fB : ∀ c, c ≠ 279 → g_X9_bring_282_279 N (83 * 1) 0 83 c = N c := fun c a => fr_g_X9_bring_282_279 N _ _ _ c a
    have i1 : f_X9_in N 1 0 1 = 1 := ii_in (k := 1) (a := 0) (b := 1) (by decide) (by decide) (by decide)
    have cl : (1 : Int32).toNatClampNeg = 1 := by decide
    have f9 : f_X9_goBack_274 N L 1 = 1 := by unfold f_X9_goBack_274; rw [i1, if_pos c10, cl, t1, if_pos c10]
    have g9 : g_X9_goBack_274 N L 1 = z_row (g_X9_bring_282_279 N (83 * 1) 0 83) 274 (upd (N 274) 11 0) := by
      unfold g_X9_goBack_274
      rw [i1, if_pos c10, cl, t1, if_pos c10, fB 274 (by decide)]
    have l9 : h_X9_goBack_274 N L 1 = z_row L 274 (vp_updL (L 274) 12 (lN (sj 1))) := by
      unfold h_X9_goBack_274
      rw [i1, if_pos c10, cl, t1, if_pos c10, t4]
    rw [f9, g9, l9] at c9
    obtain ⟨G, hG⟩ : ∃ G, G = z_row (g_X9_bring_282_279 N (83 * 1) 0 83) 274 (upd (N 274) 11 0) := ⟨_, rfl⟩
    rw [← hG] at c9
    have f0 : ∀ j, j ≠ 11 → G 274 j = N 274 j := fun j hj => by rw [hG, z_row_eq, ud_ne hj]
    have ff : ∀ c, c ≠ 274 → c ≠ 279 → G c = N c := fun c a1 a2 => by rw [hG, z_row_ne a1, fB c a2]
    refine ST_mk c8 c9 rfl k1 (fun c hc => ff c (by omega) (by omega)) ⟨RS_row x1 (f0 3 (by decide)) (f0 4 (by decide)) (ff _ (by decide) (by decide)) (ff _ (by decide) (by decide)) (fun j hj => ?_) v1, ?_, ⟨?_, by omega, fun i hi => absurd hi (by omega)⟩, ?_, ?_, ⟨?_, ?_⟩, ?_, ⟨?_, ?_⟩, ⟨?_, ?_⟩⟩ ⟨fun i hi => absurd hi (by omega), h3.2.1, v2, h3.2.2.2⟩
    · rw [hG, z_row_ne (by decide), br, if_pos (by omega), Nat.sub_zero]; exact t3 j hj
    · rw [ff 277 (by decide) (by decide)]; exact x2
    · rw [hG, z_row_eq, ud_eq]; rfl
    · intro i hi
      obtain ⟨w1, w2⟩ := x4 i hi
      rw [ff 284 (by decide) (by decide), ff 282 (by decide) (by decide), z_row_ne (by decide)]
      exact ⟨w1, w2⟩
    · rw [z_row_eq]; exact if_pos rfl
    · rw [f0 1 (by decide)]; exact x6.1
    · rw [ff 275 (by decide) (by decide)]; exact x6.2
    · rw [f0 2 (by decide)]; exact x7
    · rw [f0 17 (by decide)]; exact x8.1
    · rw [ff 285 (by decide) (by decide)]; exact x8.2
    · rw [f0 19 (by decide)]; exact x9.1
    · rw [ff 286 (by decide) (by decide)]; exact x9.2
  · rw [if_neg ck] at u1
    have f8 : f_X8_goBack_w1 M = -1000000003 := by unfold f_X8_goBack_w1; rw [if_pos io, u1, if_neg (not_not_intro rfl)]
    have g8 : g_X8_goBack_w1 M = M := by unfold g_X8_goBack_w1; rw [if_pos io, u1, if_neg (not_not_intro rfl)]
    have t1 := (h2.2.2.2.1 1 (by decide)).1
    rw [if_neg ck] at t1
    have i1 : f_X9_in M 1 0 1 = 1 := ii_in (k := 1) (a := 0) (b := 1) (by decide) (by decide) (by decide)
    have cl : (1 : Int32).toNatClampNeg = 1 := by decide
    have c9 := c_X9_goBack_274 (d := 8) M L 1 ⟨fun _ => by decide, fun _ z => absurd (by rw [cl]; exact t1) z, trivial⟩
    have f9 : f_X9_goBack_274 M L 1 = -1000000003 := by unfold f_X9_goBack_274; rw [i1, if_pos c10, cl, t1, if_neg (not_not_intro rfl)]
    have g9 : g_X9_goBack_274 M L 1 = M := by unfold g_X9_goBack_274; rw [i1, if_pos c10, cl, t1, if_neg (not_not_intro rfl)]
    have l9 : h_X9_goBack_274 M L 1 = L := by unfold h_X9_goBack_274; rw [i1, if_pos c10, cl, t1, if_neg (not_not_intro rfl)]
    rw [f8, g8] at c8
    rw [f9, g9, l9] at c9
    exact ST_q h0 c8 c9 rfl (fun c _ => rfl) (fun c _ => rfl)
theorem s_keep {bd : Nat} {M : Nat → Nat → Int32} {L : Nat → Nat → Int64} (h : RR (bd + 20) M L) (x : Int32) : ST bd 101 178 [.int x] M L := by
  rcases rng x (N := 2) (by decide) with ⟨k, hk, rfl⟩ | c
  · have : k = 0 ∨ k = 1 := by omega
    rcases this with rfl | rfl
    · exact s_keep_0 h
    · exact s_keep_1 h
  · exact s_keep_out h (oi_out c)
theorem s_goBack {bd : Nat} {M : Nat → Nat → Int32} {L : Nat → Nat → Int64} (h : RR (bd + 20) M L) (x : Int32) : ST bd 102 179 [.int x] M L := by
  rcases rng x (N := 2) (by decide) with ⟨k, hk, rfl⟩ | c
  · have : k = 0 ∨ k = 1 := by omega
    rcases this with rfl | rfl
    · exact s_goBack_0 h
    · exact s_goBack_1 h
  · exact s_goBack_out h (oi_out c)
