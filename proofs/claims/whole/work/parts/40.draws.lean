/-! DRAWS -/
def sd1 (x : Nat) : Nat := (x * 1103515245 + 12345) % 2147483648
def dw (x m : Nat) : Nat := sd1 x / 65536 % m
theorem sd1_lt (x : Nat) : sd1 x < 2147483648 := Nat.mod_lt _ (by decide)
theorem mask31 (a : Nat) : nI a &&& 2147483647 = nI (a % 2147483648) := by
  rw [pk_and (nI a) 31 (by decide)]
  have e : (nI a).toBitVec.toNat = a % 4294967296 := by
    show (BitVec.ofNat 32 a).toNat = _
    rw [BitVec.toNat_ofNat]
  rw [e]
  congr 1
  omega
theorem dr8 (x : Nat) : nI x * 1103515245 + 12345 &&& 2147483647 = nI (sd1 x) := by
  show nI x * nI 1103515245 + nI 12345 &&& 2147483647 = nI (sd1 x)
  rw [nI_mul, nI_add, mask31]
  rfl
theorem dr9 {x : Nat} (hx : x < 2147483648) : (lN x * 1103515245 + 12345) - (lN x * 1103515245 + 12345) / 2147483648 * 2147483648 = lN (sd1 x) := by
  show (lN x * lN 1103515245 + lN 12345) - (lN x * lN 1103515245 + lN 12345) / lN 2147483648 * lN 2147483648 = lN (sd1 x)
  rw [lN_mul, lN_add, pk_lRem (by omega) (by omega) (by omega)]
  rfl
theorem fd8 {M : Nat → Nat → Int32} {x m : Nat} (h : M 0 3 = nI x) (hm : 0 < m) (hm2 : m < 2147483648) : q_X8_drawOf_0 M (nI m) ∧ f_X8_drawOf_0 M (nI m) = nI (dw x m) := by
  refine ⟨⟨fun _ => decide_eq_true (nI_ne0 hm hm2), trivial⟩, ?_⟩
  have := sd1_lt x
  unfold f_X8_drawOf_0
  rw [if_neg (nI_nle hm hm2), h, dr8]
  show nI (sd1 x) / nI 65536 - nI (sd1 x) / nI 65536 / nI m * nI m = _
  rw [pk_div (by omega) (by omega) (by omega), pk_rem (by omega) hm hm2]
  rfl
theorem fd9 {M : Nat → Nat → Int32} {L : Nat → Nat → Int64} {x m : Nat} (h : L 274 12 = lN x) (hx : x < 2147483648) (hm : 0 < m) (hm2 : m < 2147483648) : q_X9_draw_274 M L (nI m) ∧ f_X9_draw_274 M L (nI m) = nI (dw x m) := by
  have e0 : ¬ (nI m).toInt64 = 0 := by
    rw [nI_l hm2]
    intro z
    have := (lN_eq (b := 0) hm2 (by decide)).mp z
    omega
  refine ⟨⟨decide_eq_true e0, trivial⟩, ?_⟩
  have := sd1_lt x
  unfold f_X9_draw_274
  rw [h, dr9 hx, nI_l hm2]
  show (lN (sd1 x) / lN 65536 - lN (sd1 x) / lN 65536 / lN m * lN m).toInt32 = _
  rw [pk_lDiv (by omega) (by omega) (by omega), pk_lRem (by omega) hm (by omega), lN_i]
  rfl
theorem Cc_draw {M : Nat → Nat → Int32} {s kd sd w : Nat → Int32} {q : Int32} {n mm cnt e bd : Nat} {P : Nat → Nat → Int32} {ns : Nat → Nat} {kp : Nat → Bool} {I : Nat → Nat → Int32} {nj sj : Nat → Nat} {seed len : Nat} {tx : Nat → Int32} {fl : Int32} {sc ec : Nat} {pp : Nat → Nat → Int32} (x : Int32) (h : Cc M s kd sd w q n mm cnt e bd P ns kp I nj sj seed len tx fl sc ec pp) : Cc (g_X8_drawOf_0 M x) s kd sd w q n mm cnt e bd P ns kp I nj sj (sd1 seed) len tx fl sc ec pp := by
  obtain ⟨y1, y2, y3, y4, y5, y6, y7, y8, y9⟩ := h
  unfold g_X8_drawOf_0
  rw [y5, dr8]
  have f1 : ∀ c, 0 < c → z_row M 0 (upd (M 0) 3 (nI (sd1 seed))) c = M c := fun c hc => by rw [z_row_ne (by omega)]
  refine ⟨⟨y1.1, y1.2.1, rp_cong y1.2.2.1 (fun c x1 x2 => f1 c (by omega)), y1.2.2.2⟩, y2, PSc_cong y3 (fun c x y => f1 c (by omega)), IMc_cong y4 (fun c x y => f1 c (by omega)), ?_, ⟨?_, y6.2⟩, ?_, y8, y9⟩
  · rw [z_row_eq, ud_eq]
  · rw [z_row_eq, ud_ne (by decide)]; exact y6.1
  · rw [z_row_eq, ud_ne (by decide)]; exact y7
theorem Rr_draw {M : Nat → Nat → Int32} {L : Nat → Nat → Int64} {s kd sd w : Nat → Int32} {q : Int32} {n mm cnt e bd : Nat} {P : Nat → Nat → Int32} {ns : Nat → Nat} {kp : Nat → Bool} {I : Nat → Nat → Int32} {nj sj : Nat → Nat} {seed len : Nat} {tx : Nat → Int32} {fl : Int32} {sc ec : Nat} {pp : Nat → Nat → Int32} (N : Nat → Nat → Int32) (x : Int32) (h : Rr M L s kd sd w q n mm cnt e bd P ns kp I nj sj seed len tx fl sc ec pp) (hs : seed < 2147483648) : Rr M (h_X9_draw_274 N L x) s kd sd w q n mm cnt e bd P ns kp I nj sj (sd1 seed) len tx fl sc ec pp := by
  obtain ⟨x1, x2, x3, x4, x5, x6, x7, x8, x9⟩ := h
  unfold h_X9_draw_274
  rw [x5, dr9 hs]
  refine ⟨x1, x2, x3, ?_, ?_, x6, x7, x8, x9⟩
  · intro i hi
    obtain ⟨u1, u2⟩ := x4 i hi
    exact ⟨u1, fun z => ⟨(u2 z).1, (by rw [z_row_ne (by decide)]; exact (u2 z).2)⟩⟩
  · rw [z_row_eq]; exact if_pos rfl
theorem Ww_draw {s kd sd w : Nat → Int32} {q : Int32} {n mm cnt e bd : Nat} {P : Nat → Nat → Int32} {ns : Nat → Nat} {kp : Nat → Bool} {I : Nat → Nat → Int32} {nj sj : Nat → Nat} {seed len : Nat} {tx : Nat → Int32} {fl : Int32} {sc ec : Nat} {pp : Nat → Nat → Int32} (h : Ww s kd sd w q n mm cnt e bd P ns kp I nj sj seed len tx fl sc ec pp) : Ww s kd sd w q n mm cnt e bd P ns kp I nj sj (sd1 seed) len tx fl sc ec pp := ⟨h.1, h.2.1, sd1_lt seed, h.2.2.2⟩
theorem fd_fr {M : Nat → Nat → Int32} (x : Int32) {c : Nat} (h : c ≠ 0) : g_X8_drawOf_0 M x c = M c := by
  unfold g_X8_drawOf_0
  rw [z_row_ne h]
theorem n5 : ∀ d, d < 8 → ((4 : Int32) < nI d ↔ 5 ≤ d) ∧ ((5 : Int32) ≤ nI d ↔ 5 ≤ d) ∧ (nI d = 7 ↔ d = 7) := by decide
/-- one draw's deed, on both sides -/
theorem drift1 {M : Nat → Nat → Int32} {s kd sd w : Nat → Int32} {q : Int32} {n mm cnt e bd : Nat} {P : Nat → Nat → Int32} {ns : Nat → Nat} {kp : Nat → Bool} {I : Nat → Nat → Int32} {nj sj : Nat → Nat} {seed len : Nat} {tx : Nat → Int32} {fl : Int32} {sc ec : Nat} {pp : Nat → Nat → Int32} (h : Cc M s kd sd w q n mm cnt e (bd + 1) P ns kp I nj sj seed len tx fl sc ec pp) (hw : Ww s kd sd w q n mm cnt e (bd + 1) P ns kp I nj sj seed len tx fl sc ec pp) : ∃ (s' : Nat → Int32) (cnt' e' : Nat) (P' : Nat → Nat → Int32) (ns' : Nat → Nat) (seed' : Nat), q_X4_remember_49_20 M ∧ q_X8_doByDraws_0 (g_X4_remember_49_20 M) ∧ Cc (g_X8_doByDraws_0 (g_X4_remember_49_20 M)) (s') kd sd w q n mm (cnt') (e') bd (P') (ns') kp I nj sj (seed') len tx fl sc ec pp ∧ (∀ c, 274 ≤ c → g_X8_doByDraws_0 (g_X4_remember_49_20 M) c = M c) ∧ Ww (s') kd sd w q n mm (cnt') (e') bd (P') (ns') kp I nj sj (seed') len tx fl sc ec pp ∧ ∀ (N : Nat → Nat → Int32) (L : Nat → Nat → Int64), Rr N L s kd sd w q n mm cnt e (bd + 1) P ns kp I nj sj seed len tx fl sc ec pp → q_X9_drawn_274 N L ∧ Rr (g_X9_drawn_274 N L) (h_X9_drawn_274 N L) (s') kd sd w q n mm (cnt') (e') bd (P') (ns') kp I nj sj (seed') len tx fl sc ec pp ∧ ∀ c, c < 274 → g_X9_drawn_274 N L c = N c := by
  have hs := hw.2.2.1
  obtain ⟨m1, m2, m3, m4⟩ := Cc_rem h hw
  have hn : n ≤ 12 := h.1.2.2.2.2.1
  have d8 : dw seed 8 < 8 := Nat.mod_lt _ (by decide)
  have t8 : dw (sd1 seed) 8 < 8 := Nat.mod_lt _ (by decide)
  obtain ⟨z4, z5, z7⟩ := n5 _ d8
  obtain ⟨A, hA⟩ : ∃ A, A = g_X4_remember_49_20 M := ⟨_, rfl⟩
  rw [← hA] at m2 m3 ⊢
  have p1 := fd8 (M := A) (m := 8) m3.2.2.2.2.1 (by decide) (by decide)
  have k1 := Cc_draw 8 m3
  obtain ⟨A1, hA1⟩ : ∃ A1, A1 = g_X8_drawOf_0 A 8 := ⟨_, rfl⟩
  rw [← hA1] at k1
  have p2 := fd8 (M := A1) (m := 8) k1.2.2.2.2.1 (by decide) (by decide)
  have k2 := Cc_draw 8 k1
  obtain ⟨A2, hA2⟩ : ∃ A2, A2 = g_X8_drawOf_0 A1 8 := ⟨_, rfl⟩
  rw [← hA2] at k2
  have e1 : A2 20 1 = nI n := k2.1.2.2.1.1.1.trans k2.1.2.2.2.1
  have w2 := Ww_draw (Ww_draw m4)
  have fA2 : ∀ c, c ≠ 0 → A2 c = A c := fun c hc => by rw [hA2, fd_fr _ hc, hA1, fd_fr _ hc]
  have p1q : q_X8_drawOf_0 A 8 := p1.1
  have p1e : f_X8_drawOf_0 A 8 = nI (dw seed 8) := p1.2
  have p2q : q_X8_drawOf_0 A1 8 := p2.1
  have p2e : f_X8_drawOf_0 A1 8 = nI (dw (sd1 seed) 8) := p2.2
  -- the reference's first two draws and its note
  have R : ∀ (N : Nat → Nat → Int32) (L : Nat → Nat → Int64), Rr N L s kd sd w q n mm cnt e (bd + 1) P ns kp I nj sj seed len tx fl sc ec pp → q_X9_draw_274 N L 8 ∧ f_X9_draw_274 N L 8 = nI (dw seed 8) ∧ q_X9_draw_274 N (h_X9_draw_274 N L 8) 8 ∧ f_X9_draw_274 N (h_X9_draw_274 N L 8) 8 = nI (dw (sd1 seed) 8) ∧ q_X9_notes_274 N ∧ (∀ c, c ≠ 274 → c ≠ 281 → g_X9_notes_274 N c = N c) ∧ Rr (g_X9_notes_274 N) (h_X9_draw_274 N (h_X9_draw_274 N L 8) 8) s kd sd w q n mm (pnC cnt) (e + 1) bd (pnP cnt P s) (pnP cnt ns n) kp I nj sj (sd1 (sd1 seed)) len tx fl sc ec pp := by
    intro N L hR
    have q1 := fd9 (M := N) (m := 8) hR.2.2.2.2.1 hs (by decide) (by decide)
    have r1 := Rr_draw N 8 hR hs
    have q2 := fd9 (M := N) (m := 8) r1.2.2.2.2.1 (sd1_lt _) (by decide) (by decide)
    have r2 := Rr_draw N 8 r1 (sd1_lt _)
    obtain ⟨n1, n2, n3, n4⟩ := Rr_rem r2 (e + 1) bd (pnP cnt ns n)
    exact ⟨q1.1, q1.2, q2.1, q2.2, n1, n2, n4⟩
  by_cases c5 : 5 ≤ dw seed 8
  · by_cases c7 : dw seed 8 = 7
    · obtain ⟨u1, u2, u3⟩ := es_28 k2.1
      have g8 : g_X8_doByDraws_0 A = g_X6_endSession_19 A2 := by
        unfold g_X8_doByDraws_0
        rw [p1e, if_pos (z4.mpr c5), if_neg (not_not_intro (z7.mpr c7)), ← hA1, ← hA2]
      have fl1 : ∀ c, c < 20 ∨ 27 < c → g_X6_endSession_19 A2 c = A2 c := fun c hc => fr_g_X6_endSession_19 _ c (by omega) (by omega) (by omega)
      refine ⟨ss kd s n mm, _, _, _, _, _, m1, ?_, by rw [g8]; exact Cc_core k2 (fun c hc => fl1 c (by omega)) u3, fun c hc => by rw [g8, fl1 c (by omega), fA2 c (by omega), m2 c (by omega)], w2, fun N L hR => ?_⟩
      · unfold q_X8_doByDraws_0
        rw [p1e, ← hA1, ← hA2]
        exact ⟨p1q, p2q, fun _ z => absurd (z7.mpr c7) z, fun _ z => absurd (z7.mpr c7) z, fun _ z => absurd (z7.mpr c7) z, fun _ _ => u1, fun z => absurd (z4.mpr c5) z, trivial⟩
      · obtain ⟨a1, a2, a3, a4, a5, a6, a7⟩ := R N L hR
        obtain ⟨v1, v2⟩ := es_279 a7.1
        have g9 : g_X9_drawn_274 N L = g_X9_sessionOn_274_279 (g_X9_notes_274 N) := by
          unfold g_X9_drawn_274
          rw [a2, if_pos (z5.mpr c5), if_neg (not_not_intro (z7.mpr c7))]
        have h9 : h_X9_drawn_274 N L = h_X9_draw_274 N (h_X9_draw_274 N L 8) 8 := by
          unfold h_X9_drawn_274
          rw [a2, if_pos (z5.mpr c5), if_neg (not_not_intro (z7.mpr c7))]
        have fl2 : ∀ c, c ≠ 279 → g_X9_sessionOn_274_279 (g_X9_notes_274 N) c = g_X9_notes_274 N c := fun c hc => fr_g_X9_sessionOn_274_279 _ c hc
        refine ⟨?_, ?_, fun c hc => by rw [g9, fl2 c (by omega), a6 c (by omega) (by omega)]⟩
        · unfold q_X9_drawn_274
          rw [a2]
          exact ⟨a1, a3, a5, fun _ z => absurd (z7.mpr c7) z, fun _ z => absurd (z7.mpr c7) z, fun _ z => absurd (z7.mpr c7) z, fun _ _ => v1, fun z => absurd (z5.mpr c5) z, trivial⟩
        · rw [g9, h9]
          exact Rr_core a7 (fun j hj => by rw [fl2 274 (by decide)]) (fun c hc => fl2 c (by omega)) v2
    · by_cases c0 : n = 0
      · have le0 : A2 20 1 ≤ 0 := by rw [e1, c0]; decide
        have g8 : g_X8_doByDraws_0 A = A2 := by
          unfold g_X8_doByDraws_0
          rw [p1e, if_pos (z4.mpr c5), if_pos (fun z => c7 (z7.mp z)), ← hA1, ← hA2, if_pos le0]
        refine ⟨s, _, _, _, _, _, m1, ?_, by rw [g8]; exact k2, fun c hc => by rw [g8, fA2 c (by omega), m2 c (by omega)], w2, fun N L hR => ?_⟩
        · unfold q_X8_doByDraws_0
          rw [p1e, ← hA1, ← hA2]
          exact ⟨p1q, p2q, fun _ _ z => absurd le0 z, fun _ _ z => absurd le0 z, fun _ _ z => absurd le0 z, fun _ z => absurd (z7.mp z) c7, fun z => absurd (z4.mpr c5) z, trivial⟩
        · obtain ⟨a1, a2, a3, a4, a5, a6, a7⟩ := R N L hR
          have le9 : g_X9_notes_274 N 279 10 ≤ 0 := by rw [(a7.1.2.2.1 10 (by decide)).trans a7.1.2.2.2.1, c0]; decide
          have g9 : g_X9_drawn_274 N L = g_X9_notes_274 N := by
            unfold g_X9_drawn_274
            rw [a2, if_pos (z5.mpr c5), if_pos (fun z => c7 (z7.mp z)), if_pos le9]
          have h9 : h_X9_drawn_274 N L = h_X9_draw_274 N (h_X9_draw_274 N L 8) 8 := by
            unfold h_X9_drawn_274
            rw [a2, if_pos (z5.mpr c5), if_pos (fun z => c7 (z7.mp z)), if_pos le9]
          refine ⟨?_, ?_, fun c hc => by rw [g9, a6 c (by omega) (by omega)]⟩
          · unfold q_X9_drawn_274
            rw [a2]
            exact ⟨a1, a3, a5, fun _ _ z => absurd le9 z, fun _ _ z => absurd le9 z, fun _ _ z => absurd le9 z, fun _ z => absurd (z7.mp z) c7, fun z => absurd (z5.mpr c5) z, trivial⟩
          · rw [g9, h9]
            exact a7
      · have gt0 : ¬ A2 20 1 ≤ 0 := by rw [e1]; exact nI_nle (by omega) (by omega)
        have p3 := fd8 (M := A2) (m := n) k2.2.2.2.2.1 (by omega) (by omega)
        have k3 := Cc_draw (A2 20 1) k2
        have w3 := Ww_draw w2
        obtain ⟨A3, hA3⟩ : ∃ A3, A3 = g_X8_drawOf_0 A2 (A2 20 1) := ⟨_, rfl⟩
        rw [← hA3] at k3
        have fA3 : ∀ c, c ≠ 0 → A3 c = A c := fun c hc => by rw [hA3, fd_fr _ hc, fA2 c hc]
        have p3q : q_X8_drawOf_0 A2 (A2 20 1) := by rw [e1]; exact p3.1
        have p3e : f_X8_drawOf_0 A2 (A2 20 1) = nI (dw (sd1 (sd1 seed)) n) := by rw [e1]; exact p3.2
        have kn : dw (sd1 (sd1 seed)) n < n := Nat.mod_lt _ (by omega)
        generalize hk : dw (sd1 (sd1 seed)) n = k at *
        have ck : (nI k).toNatClampNeg = k := nI_clamp (by omega)
        have i8 : f_X0_holds_20 A3 (nI k) = if s (71 + k) = 0 then 1 else 0 := by
          rw [ho_20 (k3.1.2.2.1.1.1.trans k3.1.2.2.2.1) kn hn, (k3.1.2.2.1.2.2 k kn).2.2.2.2.2]
        have v12 : z_vin (nI k) 12 = true := vi (by omega) (by decide)
        have R3 : ∀ (N : Nat → Nat → Int32) (L : Nat → Nat → Int64), Rr N L s kd sd w q n mm cnt e (bd + 1) P ns kp I nj sj seed len tx fl sc ec pp → ¬ g_X9_notes_274 N 279 10 ≤ 0 ∧ q_X9_draw_274 (g_X9_notes_274 N) (h_X9_draw_274 N (h_X9_draw_274 N L 8) 8) (g_X9_notes_274 N 279 10) ∧ f_X9_draw_274 (g_X9_notes_274 N) (h_X9_draw_274 N (h_X9_draw_274 N L 8) 8) (g_X9_notes_274 N 279 10) = nI k ∧ q_X9_holds_279 (g_X9_notes_274 N) (nI k) ∧ f_X9_holds_279 (g_X9_notes_274 N) (nI k) = (if s (71 + k) = 0 then 1 else 0) ∧ Rr (g_X9_notes_274 N) (h_X9_draw_274 (g_X9_notes_274 N) (h_X9_draw_274 N (h_X9_draw_274 N L 8) 8) (g_X9_notes_274 N 279 10)) s kd sd w q n mm (pnC cnt) (e + 1) bd (pnP cnt P s) (pnP cnt ns n) kp I nj sj (sd1 (sd1 (sd1 seed))) len tx fl sc ec pp := by
          intro N L hR
          obtain ⟨a1, a2, a3, a4, a5, a6, a7⟩ := R N L hR
          have e9 := (a7.1.2.2.1 10 (by decide)).trans a7.1.2.2.2.1
          have j3 := fd9 (M := g_X9_notes_274 N) (m := n) a7.2.2.2.2.1 (sd1_lt _) (by omega) (by omega)
          have r3 := Rr_draw (g_X9_notes_274 N) (g_X9_notes_274 N 279 10) a7 (sd1_lt _)
          have rh := rh_279 (M := g_X9_notes_274 N) (s := s) (show k < 12 by omega) (a7.1.2.2.1 _ (by omega))
          rw [hk] at j3
          refine ⟨by rw [e9]; exact nI_nle (by omega) (by omega), by rw [e9]; exact j3.1, by rw [e9]; exact j3.2, rh.1, rh.2, r3⟩
        by_cases ch : s (71 + k) = 0
        · obtain ⟨u1, u2, u3⟩ := lz_28 k3.1 kn ch
          have g8 : g_X8_doByDraws_0 A = g_X0_loosen_20 A3 (nI k) := by
            unfold g_X8_doByDraws_0
            rw [p1e, if_pos (z4.mpr c5), if_pos (fun z => c7 (z7.mp z)), ← hA1, ← hA2, if_neg gt0, p3e, ← hA3, i8, if_pos ch, if_neg c10]
          have fl1 : ∀ c, c < 25 ∨ 27 < c → g_X0_loosen_20 A3 (nI k) c = A3 c := fun c hc => by
            unfold g_X0_loosen_20
            split
            · rw [z_row_ne (by omega)]
            · rw [z_row_ne (by omega), z_row_ne (by omega)]
          refine ⟨lo s k, _, _, _, _, _, m1, ?_, by rw [g8]; exact Cc_core k3 (fun c hc => fl1 c (by omega)) u3, fun c hc => by rw [g8, fl1 c (by omega), fA3 c (by omega), m2 c (by omega)], w3, fun N L hR => ?_⟩
          · unfold q_X8_doByDraws_0
            rw [p1e, ← hA1, ← hA2, p3e, ← hA3]
            exact ⟨p1q, p2q, fun _ _ _ => p3q, fun _ _ _ => (qho_20 _ (show k < 12 by omega)), fun _ _ _ _ => u1, fun _ z => absurd (z7.mp z) c7, fun z => absurd (z4.mpr c5) z, trivial⟩
          · obtain ⟨a1, a2, a3, a4, a5, a6, a7⟩ := R N L hR
            obtain ⟨b1, b2, b3, b4, b5, b6⟩ := R3 N L hR
            obtain ⟨v1, v2, v3⟩ := lz_279 b6.1 kn ch
            have g9 : g_X9_drawn_274 N L = g_X9_lets_279 (g_X9_notes_274 N) (nI k) := by
              unfold g_X9_drawn_274
              rw [a2, if_pos (z5.mpr c5), if_pos (fun z => c7 (z7.mp z)), if_neg b1, b3, b5, if_pos ch, if_neg c10]
            have h9 : h_X9_drawn_274 N L = h_X9_draw_274 (g_X9_notes_274 N) (h_X9_draw_274 N (h_X9_draw_274 N L 8) 8) (g_X9_notes_274 N 279 10) := by
              unfold h_X9_drawn_274
              rw [a2, if_pos (z5.mpr c5), if_pos (fun z => c7 (z7.mp z)), if_neg b1]
            have fl2 : ∀ c, c ≠ 279 → g_X9_lets_279 (g_X9_notes_274 N) (nI k) c = g_X9_notes_274 N c := fun c hc => by
              unfold g_X9_lets_279
              split
              · rw [z_row_ne hc, z_row_ne hc]
              · rw [z_row_ne hc, z_row_ne hc]
            refine ⟨?_, ?_, fun c hc => by rw [g9, fl2 c (by omega), a6 c (by omega) (by omega)]⟩
            · unfold q_X9_drawn_274
              rw [a2, b3]
              exact ⟨a1, a3, a5, fun _ _ _ => b2, fun _ _ _ => b4, fun _ _ _ _ => v1, fun _ z => absurd (z7.mp z) c7, fun z => absurd (z5.mpr c5) z, trivial⟩
            · rw [g9, h9]
              exact Rr_core b6 (fun j hj => by rw [fl2 274 (by decide)]) (fun c hc => fl2 c (by omega)) v3
        · have g8 : g_X8_doByDraws_0 A = A3 := by
            unfold g_X8_doByDraws_0
            rw [p1e, if_pos (z4.mpr c5), if_pos (fun z => c7 (z7.mp z)), ← hA1, ← hA2, if_neg gt0, p3e, ← hA3, i8, if_neg ch, if_pos rfl]
          have i0 : f_X0_holds_20 A3 (nI k) = 0 := by rw [i8, if_neg ch]
          refine ⟨s, _, _, _, _, _, m1, ?_, by rw [g8]; exact k3, fun c hc => by rw [g8, fA3 c (by omega), m2 c (by omega)], w3, fun N L hR => ?_⟩
          · unfold q_X8_doByDraws_0
            rw [p1e, ← hA1, ← hA2, p3e, ← hA3]
            exact ⟨p1q, p2q, fun _ _ _ => p3q, fun _ _ _ => (qho_20 _ (show k < 12 by omega)), fun _ _ _ z => absurd i0 z, fun _ z => absurd (z7.mp z) c7, fun z => absurd (z4.mpr c5) z, trivial⟩
          · obtain ⟨a1, a2, a3, a4, a5, a6, a7⟩ := R N L hR
            obtain ⟨b1, b2, b3, b4, b5, b6⟩ := R3 N L hR
            have b0 : f_X9_holds_279 (g_X9_notes_274 N) (nI k) = 0 := by rw [b5, if_neg ch]
            have g9 : g_X9_drawn_274 N L = g_X9_notes_274 N := by
              unfold g_X9_drawn_274
              rw [a2, if_pos (z5.mpr c5), if_pos (fun z => c7 (z7.mp z)), if_neg b1, b3, b5, if_neg ch, if_pos rfl]
            have h9 : h_X9_drawn_274 N L = h_X9_draw_274 (g_X9_notes_274 N) (h_X9_draw_274 N (h_X9_draw_274 N L 8) 8) (g_X9_notes_274 N 279 10) := by
              unfold h_X9_drawn_274
              rw [a2, if_pos (z5.mpr c5), if_pos (fun z => c7 (z7.mp z)), if_neg b1]
            refine ⟨?_, ?_, fun c hc => by rw [g9, a6 c (by omega) (by omega)]⟩
            · unfold q_X9_drawn_274
              rw [a2, b3]
              exact ⟨a1, a3, a5, fun _ _ _ => b2, fun _ _ _ => b4, fun _ _ _ z => absurd b0 z, fun _ z => absurd (z7.mp z) c7, fun z => absurd (z5.mpr c5) z, trivial⟩
            · rw [g9, h9]
              exact b6
  · obtain ⟨u1, u2, u3⟩ := pm_19 k2.1 (nI (dw (sd1 seed) 8))
    have g8 : g_X8_doByDraws_0 A = g_X6_putMatter_19 A2 (nI (dw (sd1 seed) 8)) := by
      unfold g_X8_doByDraws_0
      rw [p1e, if_neg (fun z => c5 (z4.mp z)), ← hA1, ← hA2, p2e]
    have fl1 : ∀ c, (c < 20 ∨ 31 < c) ∧ (c < 268 ∨ 273 < c) → g_X6_putMatter_19 A2 (nI (dw (sd1 seed) 8)) c = A2 c := fun c hc => fr_g_X6_putMatter_19 _ _ c (by omega) (by omega) (by omega) (by omega) (by omega) (by omega) (by omega) (by omega) (by omega) (by omega)
    refine ⟨pt kd w s q n mm (nI (dw (sd1 seed) 8)), _, _, _, _, _, m1, ?_, by rw [g8]; exact Cc_core k2 (fun c hc => fl1 c (by omega)) u3, fun c hc => by rw [g8, fl1 c (by omega), fA2 c (by omega), m2 c (by omega)], w2, fun N L hR => ?_⟩
    · unfold q_X8_doByDraws_0
      rw [p1e, ← hA1, ← hA2, p2e]
      exact ⟨p1q, p2q, fun z => absurd (z4.mp z) c5, fun z => absurd (z4.mp z) c5, fun z => absurd (z4.mp z) c5, fun z => absurd (z4.mp z) c5, fun _ => u1, trivial⟩
    · obtain ⟨a1, a2, a3, a4, a5, a6, a7⟩ := R N L hR
      obtain ⟨v1, v2, v3⟩ := pr_279 a7.1 (nI (dw (sd1 seed) 8))
      have g9 : g_X9_drawn_274 N L = g_X9_puts_274_279 (g_X9_notes_274 N) (nI (dw (sd1 seed) 8)) := by
        unfold g_X9_drawn_274
        rw [a2, if_neg (fun z => c5 (z5.mp z)), a4]
      have h9 : h_X9_drawn_274 N L = h_X9_draw_274 N (h_X9_draw_274 N L 8) 8 := by
        unfold h_X9_drawn_274
        rw [a2, if_neg (fun z => c5 (z5.mp z))]
      have fl2 : ∀ c, c ≠ 279 → c ≠ 291 → g_X9_puts_274_279 (g_X9_notes_274 N) (nI (dw (sd1 seed) 8)) c = g_X9_notes_274 N c := fun c h1 h2 => fr_g_X9_puts_274_279 _ _ c h1 h2
      refine ⟨?_, ?_, fun c hc => by rw [g9, fl2 c (by omega) (by omega), a6 c (by omega) (by omega)]⟩
      · unfold q_X9_drawn_274
        rw [a2, a4]
        exact ⟨a1, a3, a5, fun z => absurd (z5.mp z) c5, fun z => absurd (z5.mp z) c5, fun z => absurd (z5.mp z) c5, fun z => absurd (z5.mp z) c5, fun _ => v1, trivial⟩
      · rw [g9, h9]
        exact Rr_core a7 (fun j hj => by rw [fl2 274 (by decide) (by decide)]) (fun c hc => fl2 c (by omega) (by omega)) v3
theorem driftn {M : Nat → Nat → Int32} {s kd sd w : Nat → Int32} {q : Int32} {n mm cnt e bd : Nat} {P : Nat → Nat → Int32} {ns : Nat → Nat} {kp : Nat → Bool} {I : Nat → Nat → Int32} {nj sj : Nat → Nat} {seed len : Nat} {tx : Nat → Int32} {fl : Int32} {sc ec : Nat} {pp : Nat → Nat → Int32} (z : Int32) (h : Cc M s kd sd w q n mm cnt e bd P ns kp I nj sj seed len tx fl sc ec pp) (hw : Ww s kd sd w q n mm cnt e bd P ns kp I nj sj seed len tx fl sc ec pp) (k : Nat) : k ≤ bd → ∃ (s' : Nat → Int32) (cnt' e' : Nat) (P' : Nat → Nat → Int32) (ns' : Nat → Nat) (seed' : Nat), (∀ i, i < k → qi_X8_drift_0_62 (s_X8_drift_0_62 M z i) z (nI i)) ∧ Cc (s_X8_drift_0_62 M z k) (s') kd sd w q n mm (cnt') (e') (bd - k) (P') (ns') kp I nj sj (seed') len tx fl sc ec pp ∧ (∀ c, 274 ≤ c → s_X8_drift_0_62 M z k c = M c) ∧ Ww (s') kd sd w q n mm (cnt') (e') (bd - k) (P') (ns') kp I nj sj (seed') len tx fl sc ec pp ∧ ∀ (N : Nat → Nat → Int32) (L : Nat → Nat → Int64), Rr N L s kd sd w q n mm cnt e bd P ns kp I nj sj seed len tx fl sc ec pp → (∀ i, i < k → q_X9_drawn_274 (s_drift9 N L i).1 (s_drift9 N L i).2) ∧ Rr (s_drift9 N L k).1 (s_drift9 N L k).2 (s') kd sd w q n mm (cnt') (e') (bd - k) (P') (ns') kp I nj sj (seed') len tx fl sc ec pp ∧ ∀ c, c < 274 → (s_drift9 N L k).1 c = N c := by
  induction k with
  | zero => exact fun _ => ⟨_, _, _, _, _, _, fun i hi => absurd hi (by omega), h, fun c _ => rfl, hw, fun N L hR => ⟨fun i hi => absurd hi (by omega), hR, fun c _ => rfl⟩⟩
  | succ k ih =>
    intro hk
    obtain ⟨s1, cnt1, e1, P1, ns1, seed1, i1, i2, i3, i4, i5⟩ := ih (by omega)
    have hb : bd - k = bd - (k + 1) + 1 := by omega
    rw [hb] at i2 i4 i5
    obtain ⟨s2, cnt2, e2, P2, ns2, seed2, j0, j1, j2, j3, j4, j5⟩ := drift1 i2 i4
    have hs : s_X8_drift_0_62 M z (k + 1) = g_X8_doByDraws_0 (g_X4_remember_49_20 (s_X8_drift_0_62 M z k)) := rfl
    refine ⟨s2, cnt2, e2, P2, ns2, seed2, fun i hi => ?_, by rw [hs]; exact j2, fun c hc => by rw [hs, j3 c hc, i3 c hc], j4, fun N L hR => ?_⟩
    · by_cases c : i = k
      · subst c
        exact ⟨j0, j1, trivial⟩
      · exact i1 i (by omega)
    · obtain ⟨a1, a2, a3⟩ := i5 N L hR
      obtain ⟨b1, b2, b3⟩ := j5 _ _ a2
      have hs9 : s_drift9 N L (k + 1) = (g_X9_drawn_274 (s_drift9 N L k).1 (s_drift9 N L k).2, h_X9_drawn_274 (s_drift9 N L k).1 (s_drift9 N L k).2) := rfl
      refine ⟨fun i hi => ?_, by rw [hs9]; exact b2, fun c hc => by rw [hs9]; exact (b3 c hc).trans (a3 c hc)⟩
      by_cases c : i = k
      · subst c
        exact b1
      · exact a1 i (by omega)
theorem s_drift {bd : Nat} {M : Nat → Nat → Int32} {L : Nat → Nat → Int64} (h : RR (bd + 20) M L) (z : Int32) : ST bd 87 158 [.int z] M L := by
  have h0 := h
  obtain ⟨s, kd, sd, w, q, n, mm, cnt, e, P, ns, kp, I, nj, sj, seed, len, tx, fl, sc, ec, pp, h1, h2, h3⟩ := h
  have e15 : M 15 0 = q := h1.1.1.2.2
  have st := st_q e15 h3.2.2.2.2.2.2.2
  have e20 : M 20 8 = s 0 := h1.1.2.2.1.1.2.1
  have e23 : M 20 11 = s 3 := h1.1.2.2.1.1.2.2.2.2
  have r3 : M 274 3 = q := h2.1.1.1
  have r0 : M 279 0 = s 0 := h2.1.2.2.1 0 (by decide)
  have r30 : M 279 3 = s 3 := h2.1.2.2.1 3 (by decide)
  have hs : ¬ f_X2_stands_15 M = 0 → ¬ q = 0 := by rw [st]; intro z hq; exact z (if_pos hq)
  have i3 := in_eq M z 1 20
  by_cases ac : (¬ z < 1 ∧ z ≤ 20) ∧ ¬ q = 0 ∧ ¬ 90000 ≤ s 0 ∧ s 3 < 90000
  · obtain ⟨⟨a1, a2⟩, a3, a4, a5⟩ := ac
    have hz : z.toNatClampNeg ≤ 20 := by
      obtain ⟨m, hm1, hm2, e'⟩ := i_one (Int32.not_lt.mp a1)
      rw [e'] at a2 ⊢
      rw [nI_clamp hm1]
      exact (nI_leI (b := 20) hm1 (by decide)).mp a2
    obtain ⟨s1, cnt1, e1, P1, ns1, seed1, i1, i2, i3', i4, i5⟩ := driftn z h1 h3 z.toNatClampNeg (by omega)
    have g8 : g_X8_drift_0 M z = s_X8_drift_0_62 M z z.toNatClampNeg := by
      unfold g_X8_drift_0
      rw [if_neg a1, if_pos a2, st, if_neg a3, if_pos c10, e20, if_neg a4, e23, if_pos a5]
    have f8 : f_X8_drift_0 M z = s1 2 := by
      unfold f_X8_drift_0
      rw [if_neg a1, if_pos a2, st, if_neg a3, if_pos c10, e20, if_neg a4, e23, if_pos a5]
      exact i2.1.2.2.1.1.2.2.2.1
    have c8 := c_X8_drift_0 (d := 4) (L := L) M z ⟨fun _ _ _ _ _ => i1, trivial⟩
    rw [f8, g8] at c8
    have h2' := Rr_c (M' := s_X8_drift_0_62 M z z.toNatClampNeg) h2 i3'
    generalize s_X8_drift_0_62 M z z.toNatClampNeg = N at *
    obtain ⟨k1, k2, k3⟩ := i5 N L h2'
    have b3 : N 274 3 = q := h2'.1.1.1
    have b0 : N 279 0 = s 0 := h2'.1.2.2.1 0 (by decide)
    have b30 : N 279 3 = s 3 := h2'.1.2.2.1 3 (by decide)
    have j3 : f_X9_in N z 1 20 = 1 := by rw [in_eq, if_pos ⟨a1, a2⟩]
    have g9 : g_X9_drift_274 N L z = (s_drift9 N L z.toNatClampNeg).1 := by
      unfold g_X9_drift_274
      rw [j3, if_pos c10, b3, if_pos a3, b0, if_neg a4, b30, if_pos a5]
    have l9 : h_X9_drift_274 N L z = (s_drift9 N L z.toNatClampNeg).2 := by
      unfold h_X9_drift_274
      rw [j3, if_pos c10, b3, if_pos a3, b0, if_neg a4, b30, if_pos a5]
    have f9 : f_X9_drift_274 N L z = s1 2 := by
      unfold f_X9_drift_274
      rw [j3, if_pos c10, b3, if_pos a3, b0, if_neg a4, b30, if_pos a5]
      exact k2.1.2.2.1 2 (by decide)
    have c9 := c_X9_drift_274 (d := 1) N L z ⟨fun _ _ _ _ => k1, trivial⟩
    rw [f9, g9, l9] at c9
    exact ST_mk c8 c9 rfl i2 (fun c hc => k3 c (by omega)) k2 i4
  · have x8 : ∀ {p : Prop}, ¬ z < 1 → z ≤ 20 → ¬ f_X2_stands_15 M = 0 → ¬ 90000 ≤ M 20 8 → M 20 11 < 90000 → p := fun k1 k2 k3 k4 k5 => absurd ⟨⟨k1, k2⟩, hs k3, by rw [← e20]; exact k4, by rw [← e23]; exact k5⟩ ac
    have x9 : ∀ {p : Prop}, ¬ f_X9_in M z 1 20 = 0 → ¬ M 274 3 = 0 → ¬ 90000 ≤ M 279 0 → M 279 3 < 90000 → p := fun k3 k4 k5 k6 => absurd ⟨by rw [i3] at k3; exact Decidable.byContradiction fun k => k3 (if_neg k), by rw [← r3]; exact k4, by rw [← r0]; exact k5, by rw [← r30]; exact k6⟩ ac
    have c8 := c_X8_drift_0 (d := 4) (L := L) M z ⟨x8, trivial⟩
    have c9 := c_X9_drift_274 (d := 1) M L z ⟨x9, trivial⟩
    have g8 : g_X8_drift_0 M z = M := by
      unfold g_X8_drift_0
      split
      · rfl
      · split
        · split
          · split
            · rfl
            · split
              · apply x8 <;> assumption
              · rfl
          · rfl
        · rfl
    have g9 : g_X9_drift_274 M L z = M := by
      unfold g_X9_drift_274
      split
      · split
        · split
          · rfl
          · split
            · apply x9 <;> assumption
            · rfl
        · rfl
      · rfl
    have l9 : h_X9_drift_274 M L z = L := by
      unfold h_X9_drift_274
      split
      · split
        · split
          · rfl
          · split
            · apply x9 <;> assumption
            · rfl
        · rfl
      · rfl
    rw [g8] at c8
    rw [g9, l9] at c9
    refine ST_q h0 c8 c9 ?_ (fun c _ => rfl) (fun c _ => rfl)
    unfold f_X8_drift_0 f_X9_drift_274
    rw [st, e20, e23, r3, r0, r30, i3]
    by_cases b1 : z < 1 <;> by_cases b2 : z ≤ 20 <;> by_cases b3 : q = 0 <;> by_cases b4 : 90000 ≤ s 0 <;> by_cases b5 : s 3 < 90000 <;> first | (exfalso; apply ac; refine ⟨⟨?_, ?_⟩, ?_, ?_, ?_⟩ <;> assumption) | simp [b1, b2, b3, b4, b5]
