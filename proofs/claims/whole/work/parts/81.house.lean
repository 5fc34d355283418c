/-! HOUSE: both -/
theorem CS_cg {M M' : Nat → Nat → Int32} {s kd w : Nat → Int32} {q : Int32} {n mm : Nat} (h : CS_28 M s kd w q n mm) (f : ∀ c, 15 ≤ c → c < 28 → M' c = M c) : CS_28 M' s kd w q n mm := by
  obtain ⟨h1, h2, h3, h4⟩ := h
  refine ⟨?_, ?_, rp_cong h3 (fun c x y => f c (by omega) (by omega)), h4⟩
  · rw [f 15 (by decide) (by decide)]; exact h1
  · rw [f 16 (by decide) (by decide), f 18 (by decide) (by decide)]; exact h2
theorem rt_fr (M : Nat → Nat → Int32) (a : Int32) (c : Nat) (h : c < 2 ∨ 14 < c) : g_X5_readText_2 M a c = M c := fr_g_X5_readText_2 M a c (by omega) (by omega) (by omega) (by omega) (by omega) (by omega) (by omega) (by omega) (by omega) (by omega) (by omega) (by omega) (by omega)
theorem rh_fr (M : Nat → Nat → Int32) (c : Nat) (h : c < 274 ∨ (274 < c ∧ c < 287) ∨ 290 < c) : g_X9_readHouse_274 M c = M c := fr_g_X9_readHouse_274 M c (by omega) (by omega) (by omega) (by omega) (by omega)
/-- a house that is at fault -/
theorem house_bad {M R N H : Nat → Nat → Int32} {L : Nat → Nat → Int64} {s kd sd w : Nat → Int32} {q : Int32} {n mm cnt e bd : Nat} {P : Nat → Nat → Int32} {ns : Nat → Nat} {kp : Nat → Bool} {I : Nat → Nat → Int32} {nj sj : Nat → Nat} {seed len : Nat} {tx : Nat → Int32} {fl : Int32} {sc ec : Nat} {pp : Nat → Nat → Int32} {v l : Int32}
    (h1 : Cc M s kd sd w q n mm cnt e (bd + 20) P ns kp I nj sj seed len tx fl sc ec pp) (h2 : Rr M L s kd sd w q n mm cnt e (bd + 20) P ns kp I nj sj seed len tx fl sc ec pp) (h3 : Ww s kd sd w q n mm cnt e (bd + 20) P ns kp I nj sj seed len tx fl sc ec pp)
    (fR : ∀ c, c < 2 ∨ 14 < c → R c = M c) (r24 : R 2 4 = l) (eN : N = z_row (z_row R 0 (upd (R 0) 1 0)) 0 (upd (upd (R 0) 1 0) 2 (R 2 4))) (fH : ∀ c, c < 274 ∨ (274 < c ∧ c < 287) ∨ 290 < c → H c = N c) (fl' : lwr N H) (h21 : H 274 21 = v) (h22 : H 274 22 = l)
    (c8 : z_C 10 77 [.ref 0] (z_SH, M, L) (some (.int (-10 - v))) (z_SH, N, L)) (c9 : z_C 10 125 [.ref 274] (z_SH, N, L) (some (.int (-10 - H 274 21))) (z_SH, z_row (z_row H 274 (upd (H 274) 1 0)) 274 (upd (upd (H 274) 1 0) 2 (H 274 22)), L)) : ST bd 77 125 [] M L := by
  have f1 : ∀ c, c = 1 ∨ 14 < c → N c = M c := fun c hc => by rw [eN, z_row_ne (by omega), z_row_ne (by omega)]; exact fR c (by omega)
  have n0 : N 0 = upd (upd (M 0) 1 0) 2 l := by rw [eN, z_row_eq, r24, fR 0 (by decide)]
  have f9 : ∀ c, c ≠ 274 → z_row (z_row H 274 (upd (H 274) 1 0)) 274 (upd (upd (H 274) 1 0) 2 (H 274 22)) c = H c := fun c hc => by rw [z_row_ne hc, z_row_ne hc]
  have f0 : ∀ j, j < 20 → j ≠ 1 → j ≠ 2 → z_row (z_row H 274 (upd (H 274) 1 0)) 274 (upd (upd (H 274) 1 0) 2 (H 274 22)) 274 j = M 274 j := fun j h h1 h2 => by rw [z_row_eq, ud_ne h2, ud_ne h1, fl' j h, f1 274 (by decide)]
  have g1 : z_row (z_row H 274 (upd (H 274) 1 0)) 274 (upd (upd (H 274) 1 0) 2 (H 274 22)) 274 1 = 0 := by rw [z_row_eq]; rfl
  have g2 : z_row (z_row H 274 (upd (H 274) 1 0)) 274 (upd (upd (H 274) 1 0) 2 (H 274 22)) 274 2 = l := by rw [z_row_eq, h22]; rfl
  generalize z_row (z_row H 274 (upd (H 274) 1 0)) 274 (upd (upd (H 274) 1 0) 2 (H 274 22)) = E at *
  have fE : ∀ c, 274 < c → c < 287 → E c = M c := fun c x y => by rw [f9 c (by omega), fH c (by omega), f1 c (by omega)]
  obtain ⟨y1, y2, y3, y4, y5, y6, y7, y8, y9⟩ := h1
  obtain ⟨x1, x2, x3, x4, x5, x6, x7, x8, x9⟩ := h2
  have k1 : Cc N s kd sd w q n mm cnt e (bd + 20) P ns kp I nj sj seed 0 tx l sc ec pp := by
    refine ⟨CS_cg y1 (fun c x y => f1 c (by omega)), ?_, PSc_cong y3 (fun c x y => f1 c (by omega)), IMc_cong y4 (fun c x y => f1 c (by omega)), ?_, ⟨?_, fun k hk => absurd hk (by omega)⟩, ?_, ?_, ?_⟩
    · rw [f1 17 (by decide)]; exact y2
    · rw [n0]; exact y5
    · rw [n0]; rfl
    · rw [n0]; rfl
    · rw [f1 243 (by decide), f1 244 (by decide), f1 245 (by decide)]; exact y8
    · rw [f1 243 (by decide), f1 246 (by decide), f1 247 (by decide), f1 248 (by decide)]; exact y9
  refine ST_mk c8 c9 (by rw [h21]) k1 (fun c hc => by rw [f9 c (by omega), fH c (by omega)]) ⟨RS_cong_279 x1 (f0 3 (by decide) (by decide) (by decide)) (f0 4 (by decide) (by decide) (by decide)) (fE 276 (by decide) (by decide)) (fE 278 (by decide) (by decide)) (fE 279 (by decide) (by decide)), ?_, ⟨?_, x3.2.1, ?_⟩, ?_, x5, ⟨g1, fun k hk => absurd hk (by omega)⟩, g2, ?_, ?_⟩ ⟨h3.1, h3.2.1, h3.2.2.1, by decide, h3.2.2.2.2⟩
  · rw [fE 277 (by decide) (by decide)]; exact x2
  · rw [f0 11 (by decide) (by decide) (by decide)]; exact x3.1
  · rw [fE 281 (by decide) (by decide)]; exact x3.2.2
  · unfold IMr
    rw [fE 284 (by decide) (by decide), fE 282 (by decide) (by decide)]; exact x4
  · rw [f0 17 (by decide) (by decide) (by decide), fE 285 (by decide) (by decide)]; exact x8
  · rw [f0 19 (by decide) (by decide) (by decide), fE 286 (by decide) (by decide)]; exact x9
