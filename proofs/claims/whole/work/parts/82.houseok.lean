/-! HOUSE: a house without a fault -/
theorem house_c {R N : Nat → Nat → Int32} {s kd sd w : Nat → Int32} {q : Int32} {n mm : Nat} (hC : HC R s kd sd w q n mm) (hW : HW s q n mm) (eN : N = s_X8_house_0_84 (g_X4_clear_49 (g_X3_clear_243 (g_X0_copyFrom_20_7 (g_X2_copyFrom_15_3 (z_row (z_row R 0 (upd (R 0) 1 0)) 0 (upd (upd (R 0) 1 0) 2 (R 2 4))))))) 2) : CS_28 N s kd w q n mm ∧ (∀ k, k < mm → N 17 k = sd k) ∧ (N 49 1 = R 49 1 ∧ N 49 2 = 0) ∧ (N 267 0 = 0 ∧ N 267 1 = 0) ∧ N 0 = upd (upd (R 0) 1 0) 2 (R 2 4) ∧ (N 243 0 = 0 ∧ N 243 3 = 0) ∧ N 15 1 = nI mm ∧ (∀ c, 267 < c → N c = R c) := by
  obtain ⟨a1, a2, a3, a4⟩ := hC
  have hm : mm ≤ 6 := hW.1
  have hn : n ≤ 12 := hW.2.1.2.1
  have z0 : (z_row (z_row R 0 (upd (R 0) 1 0)) 0 (upd (upd (R 0) 1 0) 2 (R 2 4))) 0 = upd (upd (R 0) 1 0) 2 (R 2 4) := z_row_eq
  have zf : ∀ c, c ≠ 0 → (z_row (z_row R 0 (upd (R 0) 1 0)) 0 (upd (upd (R 0) 1 0) 2 (R 2 4))) c = R c := fun c hc => by rw [z_row_ne hc, z_row_ne hc]
  generalize (z_row (z_row R 0 (upd (R 0) 1 0)) 0 (upd (upd (R 0) 1 0) 2 (R 2 4))) = Z at *
  have p15 : g_X2_copyFrom_15_3 Z 15 = upd (upd (Z 15) 0 (Z 3 0)) 1 (Z 3 1) := by
    unfold g_X2_copyFrom_15_3
    rw [z_row_ne (by decide), z_row_ne (by decide), z_row_ne (by decide), z_row_eq]
  have p16 : g_X2_copyFrom_15_3 Z 16 = va_cpy (Z 4) (Z 16) 0 0 6 := by
    unfold g_X2_copyFrom_15_3
    rw [z_row_ne (by decide), z_row_ne (by decide), z_row_eq]
  have p17 : g_X2_copyFrom_15_3 Z 17 = va_cpy (Z 5) (Z 17) 0 0 6 := by
    unfold g_X2_copyFrom_15_3
    rw [z_row_ne (by decide), z_row_eq]
  have p18 : g_X2_copyFrom_15_3 Z 18 = va_cpy (Z 6) (Z 18) 0 0 6 := by
    unfold g_X2_copyFrom_15_3
    rw [z_row_eq]
  have pf : ∀ c, c < 15 ∨ 18 < c → g_X2_copyFrom_15_3 Z c = Z c := fun c hc => fr_g_X2_copyFrom_15_3 Z c (by omega) (by omega) (by omega) (by omega)
  generalize g_X2_copyFrom_15_3 Z = A at *
  have e2 : g_X0_copyFrom_20_7 A = cpB 20 7 A := rfl
  rw [e2] at eN
  clear e2
  have r : rp A 7 s n mm := rp_cong a4 (fun c x y => by rw [pf c (by omega), zf c (by omega)])
  have r2 : rp (cpB 20 7 A) 20 s n mm := cpB_rp r hn hm
  have cf : ∀ c, c < 20 ∨ 20 + 8 ≤ c → cpB 20 7 A c = A c := fun c hc => cpB_fr hc
  generalize cpB 20 7 A = B at *
  have d3 : g_X3_clear_243 B 243 0 = 0 ∧ g_X3_clear_243 B 243 3 = 0 := by
    unfold g_X3_clear_243
    rw [z_row_eq]
    exact ⟨rfl, rfl⟩
  have df : ∀ c, c ≠ 243 → g_X3_clear_243 B c = B c := fun c hc => fr_g_X3_clear_243 B c hc
  generalize g_X3_clear_243 B = C at *
  have q49 : g_X4_clear_49 C 49 = upd (C 49) 2 0 := by
    unfold g_X4_clear_49
    rw [z_row_eq]
  have qf : ∀ c, c ≠ 49 → g_X4_clear_49 C c = C c := fun c hc => fr_g_X4_clear_49 C c hc
  generalize g_X4_clear_49 C = D at *
  have e5 : s_X8_house_0_84 D 2 = z_row (z_row D 267 (upd (D 267) (nI 0).toNatClampNeg 0)) 267 (upd (z_row D 267 (upd (D 267) (nI 0).toNatClampNeg 0) 267) (nI 1).toNatClampNeg 0) := rfl
  rw [e5, nI_clamp (n := 0) (by decide), nI_clamp (n := 1) (by decide)] at eN
  clear e5
  have k7 : N 267 = upd (upd (D 267) 0 0) 1 0 := by rw [eN, z_row_eq, z_row_eq]
  have nf : ∀ c, c ≠ 267 → N c = D c := fun c hc => by rw [eN, z_row_ne hc, z_row_ne hc]
  have nz : ∀ c, c < 15 ∨ (18 < c ∧ c < 20) ∨ (27 < c ∧ c ≠ 49 ∧ c ≠ 243 ∧ c ≠ 267) → N c = Z c := fun c hc => by rw [nf c (by omega), qf c (by omega), df c (by omega), cf c (by omega), pf c (by omega)]
  have nA : ∀ c, 14 < c → c < 20 → N c = A c := fun c x y => by rw [nf c (by omega), qf c (by omega), df c (by omega), cf c (by omega)]
  have n15 : N 15 = upd (upd (Z 15) 0 (R 3 0)) 1 (R 3 1) := by rw [nA 15 (by decide) (by decide), p15, zf 3 (by decide)]
  refine ⟨⟨⟨?_, hm, ?_⟩, fun k hk => ?_, rp_cong r2 (fun c x y => by rw [nf c (by omega), qf c (by omega), df c (by omega)]), hW.2.1⟩, fun k hk => ?_, ⟨?_, ?_⟩, ⟨?_, ?_⟩, ?_, ⟨?_, ?_⟩, ?_, fun c hc => ?_⟩
  · rw [n15, ud_eq]; exact a2
  · rw [n15, ud_ne (by decide), ud_eq]; exact a1
  · rw [nA 16 (by decide) (by decide), nA 18 (by decide) (by decide), p16, p18, cy_in (by omega), cy_in (by omega), zf 4 (by decide), zf 6 (by decide)]
    exact ⟨(a3 k hk).1, (a3 k hk).2.2⟩
  · rw [nA 17 (by decide) (by decide), p17, cy_in (by omega), zf 5 (by decide)]
    exact (a3 k hk).2.1
  · rw [nf 49 (by decide), q49, ud_ne (by decide), df 49 (by decide), cf 49 (by decide), pf 49 (by decide), zf 49 (by decide)]
  · rw [nf 49 (by decide), q49, ud_eq]
  · rw [k7]; rfl
  · rw [k7]; rfl
  · rw [nz 0 (by decide), z0]
  · rw [nf 243 (by decide), qf 243 (by decide)]; exact d3.1
  · rw [nf 243 (by decide), qf 243 (by decide)]; exact d3.2
  · rw [n15, ud_eq]; exact a2
  · rw [nz c (by omega), zf c (by omega)]
theorem house_r {H m2 m3 m4 m5 : Nat → Nat → Int32} {s kd sd w : Nat → Int32} {q : Int32} {mm : Nat} (hX : HX H s kd sd w q mm) (hm : mm ≤ 6) (e2 : g_X9_bring_287_276 (z_row (z_row (z_row (z_row H 274 (upd (H 274) 1 0)) 274 (upd (upd (H 274) 1 0) 2 (-1))) 274 (upd (upd (upd (H 274) 1 0) 2 (-1)) 3 (H 274 23))) 274 (upd (upd (upd (upd (H 274) 1 0) 2 (-1)) 3 (H 274 23)) 4 (H 274 24))) 0 0 6 = m2) (e3 : g_X9_bring_288_277 m2 0 0 6 = m3) (e4 : g_X9_bring_289_278 m3 0 0 6 = m4) (e5 : g_X9_bring_290_279 m4 0 0 83 = m5) : (q_X9_bring_287_276 (z_row (z_row (z_row (z_row H 274 (upd (H 274) 1 0)) 274 (upd (upd (H 274) 1 0) 2 (-1))) 274 (upd (upd (upd (H 274) 1 0) 2 (-1)) 3 (H 274 23))) 274 (upd (upd (upd (upd (H 274) 1 0) 2 (-1)) 3 (H 274 23)) 4 (H 274 24))) 0 0 6 ∧ q_X9_bring_288_277 m2 0 0 6 ∧ q_X9_bring_289_278 m3 0 0 6 ∧ q_X9_bring_290_279 m4 0 0 83) ∧ m5 274 = upd (upd (upd (upd (H 274) 1 0) 2 (-1)) 3 q) 4 (nI mm) ∧ (∀ k, k < mm → m5 276 k = kd k ∧ m5 277 k = sd k ∧ m5 278 k = w k) ∧ (∀ j, j < 83 → m5 279 j = s j) ∧ ∀ c, c < 274 ∨ 279 < c → m5 c = H c := by
  obtain ⟨b1, b2, b3, b4⟩ := hX
  have z8 : (z_row (z_row (z_row (z_row H 274 (upd (H 274) 1 0)) 274 (upd (upd (H 274) 1 0) 2 (-1))) 274 (upd (upd (upd (H 274) 1 0) 2 (-1)) 3 (H 274 23))) 274 (upd (upd (upd (upd (H 274) 1 0) 2 (-1)) 3 (H 274 23)) 4 (H 274 24))) 274 = upd (upd (upd (upd (H 274) 1 0) 2 (-1)) 3 q) 4 (nI mm) := by rw [z_row_eq, b1, b2]
  have zf : ∀ c, c ≠ 274 → (z_row (z_row (z_row (z_row H 274 (upd (H 274) 1 0)) 274 (upd (upd (H 274) 1 0) 2 (-1))) 274 (upd (upd (upd (H 274) 1 0) 2 (-1)) 3 (H 274 23))) 274 (upd (upd (upd (upd (H 274) 1 0) 2 (-1)) 3 (H 274 23)) 4 (H 274 24))) c = H c := fun c hc => by rw [z_row_ne hc, z_row_ne hc, z_row_ne hc, z_row_ne hc]
  generalize (z_row (z_row (z_row (z_row H 274 (upd (H 274) 1 0)) 274 (upd (upd (H 274) 1 0) 2 (-1))) 274 (upd (upd (upd (H 274) 1 0) 2 (-1)) 3 (H 274 23))) 274 (upd (upd (upd (upd (H 274) 1 0) 2 (-1)) 3 (H 274 23)) 4 (H 274 24))) = Z at *
  have i6 : nI 6 = (6 : Int32) := by decide
  have i83 : nI 83 = (83 : Int32) := by decide
  have t2 := br_287_276 (M := Z) (a := 0) (b := 0) (N := 6) (by decide) (by decide)
  have t3 := br_288_277 (M := m2) (a := 0) (b := 0) (N := 6) (by decide) (by decide)
  have t4 := br_289_278 (M := m3) (a := 0) (b := 0) (N := 6) (by decide) (by decide)
  have t5 := br_290_279 (M := m4) (a := 0) (b := 0) (N := 83) (by decide) (by decide)
  rw [nI_0, i6] at t2 t3 t4
  rw [nI_0, i83] at t5
  have u2 : ∀ c, c ≠ 276 → g_X9_bring_287_276 Z 0 0 6 c = Z c := fun c hc => fr_g_X9_bring_287_276 Z 0 0 6 c hc
  rw [e2] at t2 u2
  have u3 : ∀ c, c ≠ 277 → g_X9_bring_288_277 m2 0 0 6 c = m2 c := fun c hc => fr_g_X9_bring_288_277 m2 0 0 6 c hc
  rw [e3] at t3 u3
  have u4 : ∀ c, c ≠ 278 → g_X9_bring_289_278 m3 0 0 6 c = m3 c := fun c hc => fr_g_X9_bring_289_278 m3 0 0 6 c hc
  rw [e4] at t4 u4
  have u5 : ∀ c, c ≠ 279 → g_X9_bring_290_279 m4 0 0 83 c = m4 c := fun c hc => fr_g_X9_bring_290_279 m4 0 0 83 c hc
  rw [e5] at t5 u5
  refine ⟨⟨t2.1, t3.1, t4.1, t5.1⟩, ?_, fun k hk => ⟨?_, ?_, ?_⟩, fun j hj => ?_, fun c hc => ?_⟩
  · rw [u5 274 (by decide), u4 274 (by decide), u3 274 (by decide), u2 274 (by decide), z8]
  · rw [u5 276 (by decide), u4 276 (by decide), u3 276 (by decide), t2.2 k, if_pos (by omega), Nat.zero_add, Nat.sub_zero, zf 287 (by decide)]
    exact (b3 k hk).1
  · rw [u5 277 (by decide), u4 277 (by decide), t3.2 k, if_pos (by omega), Nat.zero_add, Nat.sub_zero, u2 288 (by decide), zf 288 (by decide)]
    exact (b3 k hk).2.1
  · rw [u5 278 (by decide), t4.2 k, if_pos (by omega), Nat.zero_add, Nat.sub_zero, u3 289 (by decide), u2 289 (by decide), zf 289 (by decide)]
    exact (b3 k hk).2.2
  · rw [t5.2 j, if_pos (by omega), Nat.zero_add, Nat.sub_zero, u4 290 (by decide), u3 290 (by decide), u2 290 (by decide), zf 290 (by decide)]
    exact b4 j hj
  · rw [u5 c (by omega), u4 c (by omega), u3 c (by omega), u2 c (by omega), zf c (by omega)]
theorem house_ok {M R N H m5 : Nat → Nat → Int32} {L : Nat → Nat → Int64} {s kd sd w : Nat → Int32} {q : Int32} {n mm cnt e bd : Nat} {P : Nat → Nat → Int32} {ns : Nat → Nat} {kp : Nat → Bool} {I : Nat → Nat → Int32} {nj sj : Nat → Nat} {seed len : Nat} {tx : Nat → Int32} {fl : Int32} {sc ec : Nat} {pp : Nat → Nat → Int32} {s' kd' sd' w' : Nat → Int32} {q' : Int32} {n' mm' : Nat}
    (h1 : Cc M s kd sd w q n mm cnt e (bd + 20) P ns kp I nj sj seed len tx fl sc ec pp) (h2 : Rr M L s kd sd w q n mm cnt e (bd + 20) P ns kp I nj sj seed len tx fl sc ec pp) (h3 : Ww s kd sd w q n mm cnt e (bd + 20) P ns kp I nj sj seed len tx fl sc ec pp)
    (fR : ∀ c, c < 2 ∨ 14 < c → R c = M c) (r24 : R 2 4 = -1) (hW : HW s' q' n' mm')
    (hN : CS_28 N s' kd' w' q' n' mm' ∧ (∀ k, k < mm' → N 17 k = sd' k) ∧ (N 49 1 = R 49 1 ∧ N 49 2 = 0) ∧ (N 267 0 = 0 ∧ N 267 1 = 0) ∧ N 0 = upd (upd (R 0) 1 0) 2 (R 2 4) ∧ (N 243 0 = 0 ∧ N 243 3 = 0) ∧ N 15 1 = nI mm' ∧ (∀ c, 267 < c → N c = R c))
    (fH : ∀ c, c < 274 ∨ (274 < c ∧ c < 287) ∨ 290 < c → H c = N c)
    (hm : m5 274 = upd (upd (upd (upd (H 274) 1 0) 2 (-1)) 3 q') 4 (nI mm') ∧ (∀ k, k < mm' → m5 276 k = kd' k ∧ m5 277 k = sd' k ∧ m5 278 k = w' k) ∧ (∀ j, j < 83 → m5 279 j = s' j) ∧ ∀ c, c < 274 ∨ 279 < c → m5 c = H c)
    (c8 : z_C 10 77 [.ref 0] (z_SH, M, L) (some (.int (N 15 1))) (z_SH, N, L)) (c9 : z_C 10 125 [.ref 274] (z_SH, N, L) (some (.int (m5 274 4))) (z_SH, (z_row (z_row (z_row (z_row (z_row m5 274 (upd (m5 274) 11 0)) 274 (upd (upd (m5 274) 11 0) 17 0)) 274 (upd (upd (upd (m5 274) 11 0) 17 0) 19 0)) 284 (upd (m5 284) 0 0)) 284 (upd (upd (m5 284) 0 0) 1 0)), L)) : ST bd 77 125 [] M L := by
  obtain ⟨n1, n2, n3, n4, n5, n6, n7, n8⟩ := hN
  obtain ⟨t1, t2, t3, t4⟩ := hm
  obtain ⟨y1, y2, y3, y4, y5, y6, y7, y8, y9⟩ := h1
  obtain ⟨x1, x2, x3, x4, x5, x6, x7, x8, x9⟩ := h2
  have k1 : Cc N s' kd' sd' w' q' n' mm' 0 e (bd + 20) P ns (fun _ => false) I nj sj seed 0 tx (-1) 0 0 pp := by
    refine ⟨n1, n2, ⟨?_, ⟨y3.2.1.1, Nat.zero_le _⟩, n3.2, by decide, fun i hi => absurd hi (by omega)⟩, fun i hi => ⟨?_, fun z => absurd z Bool.false_ne_true⟩, ?_, ⟨?_, fun k hk => absurd hk (by omega)⟩, ?_, ⟨n6.1, fun k hk => absurd hk (by omega)⟩, ⟨n6.2, fun k hk => absurd hk (by omega)⟩⟩
    · rw [n3.1, fR 49 (by decide)]; exact y3.1
    · match i, hi with
      | 0, _ => exact n4.1
      | 1, _ => exact n4.2
      | i + 2, hi => exact absurd hi (by omega)
    · rw [n5, fR 0 (by decide)]; exact y5
    · rw [n5]; rfl
    · rw [n5, r24]; rfl
  have e4 : m5 274 4 = nI mm' := by rw [t1, ud_eq]
  have g8 : (z_row (z_row (z_row (z_row (z_row m5 274 (upd (m5 274) 11 0)) 274 (upd (upd (m5 274) 11 0) 17 0)) 274 (upd (upd (upd (m5 274) 11 0) 17 0) 19 0)) 284 (upd (m5 284) 0 0)) 284 (upd (upd (m5 284) 0 0) 1 0)) 274 = upd (upd (upd (m5 274) 11 0) 17 0) 19 0 := by rw [z_row_ne (by decide), z_row_ne (by decide), z_row_eq]
  have g7 : (z_row (z_row (z_row (z_row (z_row m5 274 (upd (m5 274) 11 0)) 274 (upd (upd (m5 274) 11 0) 17 0)) 274 (upd (upd (upd (m5 274) 11 0) 17 0) 19 0)) 284 (upd (m5 284) 0 0)) 284 (upd (upd (m5 284) 0 0) 1 0)) 284 = upd (upd (m5 284) 0 0) 1 0 := z_row_eq
  have gf : ∀ c, c ≠ 274 → c ≠ 284 → (z_row (z_row (z_row (z_row (z_row m5 274 (upd (m5 274) 11 0)) 274 (upd (upd (m5 274) 11 0) 17 0)) 274 (upd (upd (upd (m5 274) 11 0) 17 0) 19 0)) 284 (upd (m5 284) 0 0)) 284 (upd (upd (m5 284) 0 0) 1 0)) c = m5 c := fun c x y => by rw [z_row_ne y, z_row_ne y, z_row_ne x, z_row_ne x, z_row_ne x]
  generalize (z_row (z_row (z_row (z_row (z_row m5 274 (upd (m5 274) 11 0)) 274 (upd (upd (m5 274) 11 0) 17 0)) 274 (upd (upd (upd (m5 274) 11 0) 17 0) 19 0)) 284 (upd (m5 284) 0 0)) 284 (upd (upd (m5 284) 0 0) 1 0)) = E at *
  rw [t1] at g8
  refine ST_mk c8 c9 (by rw [n7, e4]) k1 (fun c hc => by rw [gf c (by omega) (by omega), t4 c (by omega), fH c (by omega)]) ⟨⟨⟨?_, ?_, hW.1⟩, fun k hk => ?_, fun j hj => ?_, hW.2.1⟩, fun k hk => ?_, ⟨?_, by decide, fun i hi => absurd hi (by omega)⟩, fun i hi => ⟨?_, fun z => absurd z Bool.false_ne_true⟩, x5, ⟨?_, fun k hk => absurd hk (by omega)⟩, ?_, ⟨?_, fun k hk => absurd hk (by omega)⟩, ⟨?_, fun k hk => absurd hk (by omega)⟩⟩ ⟨fun i hi => absurd hi (by omega), fun i hi z => absurd z Bool.false_ne_true, h3.2.2.1, by decide, by decide, by decide, fun k hk => absurd hk (by omega), hW.2.2.2⟩
  · rw [g8]; rfl
  · rw [g8]; rfl
  · rw [gf 276 (by decide) (by decide), gf 278 (by decide) (by decide)]; exact ⟨(t2 k hk).1, (t2 k hk).2.2⟩
  · rw [gf 279 (by decide) (by decide)]; exact t3 j hj
  · rw [gf 277 (by decide) (by decide)]; exact (t2 k hk).2.1
  · rw [g8]; rfl
  · rw [g7]
    match i, hi with
    | 0, _ => rfl
    | 1, _ => rfl
    | i + 2, hi => exact absurd hi (by omega)
  · rw [g8]; rfl
  · rw [g8]; rfl
  · rw [g8]; rfl
  · rw [g8]; rfl
theorem s_house {bd : Nat} {M : Nat → Nat → Int32} {L : Nat → Nat → Int64} (h : RR (bd + 20) M L) : ST bd 77 125 [] M L := by
  obtain ⟨s, kd, sd, w, q, n, mm, cnt, e, P, ns, kp, I, nj, sj, seed, len, tx, fl, sc, ec, pp, h1, h2, h3⟩ := h
  have hl : len ≤ 240 := h3.2.2.2.1
  have m1 : M 0 1 = nI len := h1.2.2.2.2.2.1.1
  have t1 : ∀ j, j < len → M 1 j = tx j := h1.2.2.2.2.2.1.2
  have m2 : M 274 1 = nI len := h2.2.2.2.2.2.1.1
  have t2 : ∀ j, j < len → M 275 j = tx j := h2.2.2.2.2.2.1.2
  have fR := rt_fr M (nI len)
  have nf : ∀ c, 267 < c → g_X8_house_0 M c = M c := fun c hc => fr_g_X8_house_0 M c (by omega) (by omega) (by omega) (by omega) (by omega) (by omega) (by omega) (by omega) (by omega) (by omega) (by omega) (by omega) (by omega) (by omega) (by omega) (by omega) (by omega) (by omega) (by omega) (by omega) (by omega) (by omega) (by omega) (by omega) (by omega) (by omega) (by omega) (by omega) (by omega)
  obtain ⟨qc, qr, ef, ⟨t', z1, z2, z3⟩, zl⟩ := reads (M := M) (G := g_X8_house_0 M) t1 hl (by rw [nf 275 (by decide)]; exact t2) (by rw [nf 274 (by decide)]; exact m2)
  have fH := rh_fr (g_X8_house_0 M)
  have q8 : q_X8_house_0 M := by
    unfold q_X8_house_0
    rw [m1]
    exact ⟨qc, fun _ k hk => ⟨vi hk (by decide), trivial⟩, trivial⟩
  have c8 := c_X8_house_0 (d := 4) (L := L) M q8
  have r23 : g_X5_readText_2 M (nI len) 2 3 = t'.2.1 := z1.1.2.2.2.2.1
  have r24 : g_X5_readText_2 M (nI len) 2 4 = t'.2.2 := z1.1.2.2.2.2.2
  have eN : g_X8_house_0 M = g_X8_house_0 M := rfl
  have eF : f_X8_house_0 M = f_X8_house_0 M := rfl
  conv at eN => rhs; unfold g_X8_house_0
  conv at eF => rhs; unfold f_X8_house_0
  rw [m1, ef, r23] at eN eF
  clear q8 qc ef
  rw [eF] at c8
  clear eF
  by_cases cz : t'.2.1 = 0
  · obtain ⟨zl', s', kd', sd', w', q', n', mm', k1, k2, k3⟩ := z3 cz
    rw [if_pos cz] at eN c8
    rw [← eN] at c8
    rw [zl'] at r24
    generalize g_X5_readText_2 M (nI len) = R at *
    have hN := house_c k1 k3 eN
    generalize g_X8_house_0 M = N at *
    have h21 : g_X9_readHouse_274 N 274 21 = 0 := z2.1.2.2.2.2.1.trans cz
    generalize eH : g_X9_readHouse_274 N = H at *
    generalize e2 : g_X9_bring_287_276 (z_row (z_row (z_row (z_row H 274 (upd (H 274) 1 0)) 274 (upd (upd (H 274) 1 0) 2 (-1))) 274 (upd (upd (upd (H 274) 1 0) 2 (-1)) 3 (H 274 23))) 274 (upd (upd (upd (upd (H 274) 1 0) 2 (-1)) 3 (H 274 23)) 4 (H 274 24))) 0 0 6 = a2
    generalize e3 : g_X9_bring_288_277 a2 0 0 6 = a3
    generalize e4 : g_X9_bring_289_278 a3 0 0 6 = a4
    generalize e5 : g_X9_bring_290_279 a4 0 0 83 = a5
    obtain ⟨⟨p2, p3, p4, p5⟩, hm⟩ := house_r k2 k3.1 e2 e3 e4 e5
    have c9 := ch_ok (d := 3) (L := L) N H a2 a3 a4 a5 qr eH h21 p2 e2 p3 e3 p4 e4 p5 e5
    exact house_ok h1 h2 h3 fR r24 k3 hN fH hm c8 c9
  · rw [if_neg cz] at eN c8
    generalize g_X5_readText_2 M (nI len) = R at *
    generalize g_X8_house_0 M = N at *
    have h21 : g_X9_readHouse_274 N 274 21 = t'.2.1 := z2.1.2.2.2.2.1
    have h22 : g_X9_readHouse_274 N 274 22 = t'.2.2 := z2.1.2.2.2.2.2 cz
    generalize eH : g_X9_readHouse_274 N = H at *
    have c9 := ch_bad (d := 3) (L := L) N H qr eH (by rw [h21]; exact cz)
    exact house_bad h1 h2 h3 fR r24 eN fH zl h21 h22 c8 c9
