/-! ALL THAT STANDS, on both sides -/
theorem oi_in {M : Nat → Nat → Int32} {k N : Nat} (h : k < N) (hN : N < 2147483648) : f_X8_isOutside M (nI k) (nI N) = 0 := by
  unfold f_X8_isOutside
  rw [if_neg (nI_pos (by omega)), if_pos (nI_lt h hN)]
theorem oi_out {M : Nat → Nat → Int32} {x y : Int32} (h : x < 0 ∨ y ≤ x) : f_X8_isOutside M x y = 1 := by
  unfold f_X8_isOutside
  by_cases c : x < 0
  · rw [if_pos c]
  · rw [if_neg c, if_neg (i_nlt.mpr (h.resolve_left c))]
theorem ii_in {M : Nat → Nat → Int32} {k a b : Nat} (h1 : a ≤ k) (h2 : k ≤ b) (hN : b < 2147483648) : f_X9_in M (nI k) (nI a) (nI b) = 1 := by
  unfold f_X9_in
  rw [if_neg (nI_nlt h1 (by omega)), if_neg (nI_nlt h2 (by omega))]
theorem ii_out {M : Nat → Nat → Int32} {x a b : Int32} (h : x < a ∨ b < x) : f_X9_in M x a b = 0 := by
  unfold f_X9_in
  by_cases c : x < a
  · rw [if_pos c]
  · rw [if_neg c, if_pos (h.resolve_left c)]
theorem rng (x : Int32) {N : Nat} (hN : N < 2147483648) : (∃ k, k < N ∧ x = nI k) ∨ (x < 0 ∨ nI N ≤ x) := by
  by_cases c : x < 0
  · exact Or.inr (Or.inl c)
  · obtain ⟨j, hj, rfl⟩ := nI_of c
    by_cases c2 : j < N
    · exact Or.inl ⟨j, c2, rfl⟩
    · exact Or.inr (Or.inr (nI_le (by omega) hj))
theorem nI_m1 (N : Nat) : nI N - 1 = nI (N + 4294967295) := by
  have e : nI (N + 4294967295) = nI N + nI 4294967295 := (nI_add _ _).symm
  have e2 : nI 4294967295 = -1 := by decide
  rw [e, e2, Int32.sub_eq_add_neg]
theorem lt_m1 {N : Nat} (hN : N < 2147483648) {x : Int32} (h : nI N ≤ x) : nI N - 1 < x := by
  by_cases c : N = 0
  · subst c
    exact Int32.lt_of_lt_of_le (show nI 0 - 1 < nI 0 by decide) h
  · obtain ⟨j, rfl⟩ : ∃ j, N = j + 1 := ⟨N - 1, by omega⟩
    rw [nI_pred]
    exact Int32.lt_of_lt_of_le (nI_lt (by omega) hN) h
theorem ms_in {M : Nat → Nat → Int32} {a b k N : Nat} (h : M a b = nI N) (hk : k < N) (hN : N < 2147483648) : f_X9_in M (nI k) 0 (M a b - 1) = 1 := by
  obtain ⟨j, rfl⟩ : ∃ j, N = j + 1 := ⟨N - 1, by omega⟩
  rw [h, nI_pred]
  exact ii_in (a := 0) (by omega) (by omega) (by omega)
theorem ms_out {M : Nat → Nat → Int32} {a b N : Nat} {x : Int32} (h : M a b = nI N) (hN : N < 2147483648) (hx : x < 0 ∨ nI N ≤ x) : f_X9_in M x 0 (M a b - 1) = 0 := by
  rw [h]
  exact ii_out (hx.imp id (lt_m1 hN))
def IMc (M : Nat → Nat → Int32) (mm : Nat) (kp : Nat → Bool) (I : Nat → Nat → Int32) (nj sj : Nat → Nat) : Prop := ∀ i, i < 2 → M 267 i = (if kp i = true then 1 else 0) ∧ (kp i = true → rp M (250 + 8 * i) (I i) (nj i) mm ∧ M 266 i = nI (sj i))
def IMr (M : Nat → Nat → Int32) (L : Nat → Nat → Int64) (kp : Nat → Bool) (I : Nat → Nat → Int32) (sj : Nat → Nat) : Prop := ∀ i, i < 2 → M 284 i = (if kp i = true then 1 else 0) ∧ (kp i = true → (∀ j, j < 83 → M 282 (83 * i + j) = I i j) ∧ L 283 i = lN (sj i))
def IMw (mm : Nat) (kp : Nat → Bool) (I : Nat → Nat → Int32) (nj sj : Nat → Nat) : Prop := ∀ i, i < 2 → kp i = true → wf (I i) (nj i) mm ∧ sj i < 2147483648
def Cc (M : Nat → Nat → Int32) (s kd sd w : Nat → Int32) (q : Int32) (n mm cnt e bd : Nat) (P : Nat → Nat → Int32) (ns : Nat → Nat) (kp : Nat → Bool) (I : Nat → Nat → Int32) (nj sj : Nat → Nat) (seed len : Nat) (tx : Nat → Int32) (fl : Int32) (sc ec : Nat) (pp : Nat → Nat → Int32) : Prop := CS_28 M s kd w q n mm ∧ (∀ k, k < mm → M 17 k = sd k) ∧ PSc M cnt e bd mm P ns ∧ IMc M mm kp I nj sj ∧ M 0 3 = nI seed ∧ (M 0 1 = nI len ∧ ∀ k, k < len → M 1 k = tx k) ∧ M 0 2 = fl ∧ (M 243 0 = nI sc ∧ ∀ k, k < sc → M 244 k = pp 0 k ∧ M 245 k = pp 1 k) ∧ (M 243 3 = nI ec ∧ ∀ k, k < ec → M 246 k = pp 2 k ∧ M 247 k = pp 3 k ∧ M 248 k = pp 4 k)
def Rr (M : Nat → Nat → Int32) (L : Nat → Nat → Int64) (s kd sd w : Nat → Int32) (q : Int32) (n mm cnt e bd : Nat) (P : Nat → Nat → Int32) (ns : Nat → Nat) (kp : Nat → Bool) (I : Nat → Nat → Int32) (nj sj : Nat → Nat) (seed len : Nat) (tx : Nat → Int32) (fl : Int32) (sc ec : Nat) (pp : Nat → Nat → Int32) : Prop := RS_279 M s kd w q n mm ∧ (∀ k, k < mm → M 277 k = sd k) ∧ PSr M cnt P ∧ IMr M L kp I sj ∧ L 274 12 = lN seed ∧ (M 274 1 = nI len ∧ ∀ k, k < len → M 275 k = tx k) ∧ M 274 2 = fl ∧ (M 274 17 = nI sc ∧ ∀ k, k < sc → M 285 (2 * k) = pp 0 k ∧ M 285 (2 * k + 1) = pp 1 k) ∧ (M 274 19 = nI ec ∧ ∀ k, k < ec → M 286 (3 * k) = pp 2 k ∧ M 286 (3 * k + 1) = pp 3 k ∧ M 286 (3 * k + 2) = pp 4 k)
def Ww (s kd sd w : Nat → Int32) (q : Int32) (n mm cnt e bd : Nat) (P : Nat → Nat → Int32) (ns : Nat → Nat) (kp : Nat → Bool) (I : Nat → Nat → Int32) (nj sj : Nat → Nat) (seed len : Nat) (tx : Nat → Int32) (fl : Int32) (sc ec : Nat) (pp : Nat → Nat → Int32) : Prop := PSw cnt mm P ns ∧ IMw mm kp I nj sj ∧ seed < 2147483648 ∧ len ≤ 240 ∧ sc ≤ 6 ∧ ec ≤ 20 ∧ (∀ k, k < ec → ∃ o, o < mm ∧ pp 2 k = nI o) ∧ ∃ qn, qn < 10 ∧ q = nI qn
/-- bd: how many calls may follow -/
def RR (bd : Nat) (M : Nat → Nat → Int32) (L : Nat → Nat → Int64) : Prop := ∃ (s kd sd w : Nat → Int32) (q : Int32) (n mm cnt e : Nat) (P : Nat → Nat → Int32) (ns : Nat → Nat) (kp : Nat → Bool) (I : Nat → Nat → Int32) (nj sj : Nat → Nat) (seed len : Nat) (tx : Nat → Int32) (fl : Int32) (sc ec : Nat) (pp : Nat → Nat → Int32), Cc M s kd sd w q n mm cnt e bd P ns kp I nj sj seed len tx fl sc ec pp ∧ Rr M L s kd sd w q n mm cnt e bd P ns kp I nj sj seed len tx fl sc ec pp ∧ Ww s kd sd w q n mm cnt e bd P ns kp I nj sj seed len tx fl sc ec pp
def ST (bd y8 y9 : Nat) (as : List Value) (M : Nat → Nat → Int32) (L : Nat → Nat → Int64) : Prop := ∃ (v : Int32) (M1 M2 : Nat → Nat → Int32) (L2 : Nat → Nat → Int64), z_C 10 y8 (.ref 0 :: as) (z_SH, M, L) (some (.int v)) (z_SH, M1, L) ∧ z_C 10 y9 (.ref 274 :: as) (z_SH, M1, L) (some (.int v)) (z_SH, M2, L2) ∧ RR bd M2 L2
theorem PSc_cong {M M' : Nat → Nat → Int32} {cnt e bd mm : Nat} {P : Nat → Nat → Int32} {ns : Nat → Nat} (h : PSc M cnt e bd mm P ns) (f : ∀ c, 48 < c → c < 243 → M' c = M c) : PSc M' cnt e bd mm P ns := by
  obtain ⟨h1, h2, h3, h4, h5⟩ := h
  refine ⟨by rw [f 49 (by decide) (by decide)]; exact h1, h2, by rw [f 49 (by decide) (by decide)]; exact h3, h4, fun i hi => rp_cong (h5 i hi) (fun c x1 x2 => f c (by omega) (by omega))⟩
theorem IMc_cong {M M' : Nat → Nat → Int32} {mm : Nat} {kp : Nat → Bool} {I : Nat → Nat → Int32} {nj sj : Nat → Nat} (h : IMc M mm kp I nj sj) (f : ∀ c, 249 < c → c < 268 → M' c = M c) : IMc M' mm kp I nj sj := by
  intro i hi
  obtain ⟨h1, h2⟩ := h i hi
  rw [f 267 (by decide) (by decide), f 266 (by decide) (by decide)]
  exact ⟨h1, fun z => ⟨rp_cong (h2 z).1 (fun c x1 x2 => f c (by omega) (by omega)), (h2 z).2⟩⟩
theorem Cc_core {M M' : Nat → Nat → Int32} {s kd sd w : Nat → Int32} {q : Int32} {n mm cnt e bd : Nat} {P : Nat → Nat → Int32} {ns : Nat → Nat} {kp : Nat → Bool} {I : Nat → Nat → Int32} {nj sj : Nat → Nat} {seed len : Nat} {tx : Nat → Int32} {fl : Int32} {sc ec : Nat} {pp : Nat → Nat → Int32} {s' : Nat → Int32} {n' : Nat} (h : Cc M s kd sd w q n mm cnt e bd P ns kp I nj sj seed len tx fl sc ec pp) (f : ∀ c, c < 20 ∨ (48 < c ∧ c < 268) → M' c = M c) (hc : CS_28 M' s' kd w q n' mm) : Cc M' s' kd sd w q n' mm cnt e bd P ns kp I nj sj seed len tx fl sc ec pp := by
  obtain ⟨h1, h2, h3, h4, h5, h6, h7, h8, h9⟩ := h
  refine ⟨hc, ?_, PSc_cong h3 (fun c x y => f c (by omega)), IMc_cong h4 (fun c x y => f c (by omega)), ?_, ?_, ?_, ?_, ?_⟩
  · rw [f 17 (by decide)]; exact h2
  · rw [f 0 (by decide)]; exact h5
  · rw [f 0 (by decide), f 1 (by decide)]; exact h6
  · rw [f 0 (by decide)]; exact h7
  · rw [f 243 (by decide), f 244 (by decide), f 245 (by decide)]; exact h8
  · rw [f 243 (by decide), f 246 (by decide), f 247 (by decide), f 248 (by decide)]; exact h9
theorem Cc_cong {M M' : Nat → Nat → Int32} {s kd sd w : Nat → Int32} {q : Int32} {n mm cnt e bd : Nat} {P : Nat → Nat → Int32} {ns : Nat → Nat} {kp : Nat → Bool} {I : Nat → Nat → Int32} {nj sj : Nat → Nat} {seed len : Nat} {tx : Nat → Int32} {fl : Int32} {sc ec : Nat} {pp : Nat → Nat → Int32} (h : Cc M s kd sd w q n mm cnt e bd P ns kp I nj sj seed len tx fl sc ec pp) (f : ∀ c, c < 28 ∨ (48 < c ∧ c < 268) → M' c = M c) : Cc M' s kd sd w q n mm cnt e bd P ns kp I nj sj seed len tx fl sc ec pp := Cc_core h (fun c hc => f c (by omega)) (CS_cong_28 h.1 (fun c hc => f c (by omega)))
theorem Rr_core {M M' : Nat → Nat → Int32} {L : Nat → Nat → Int64} {s kd sd w : Nat → Int32} {q : Int32} {n mm cnt e bd : Nat} {P : Nat → Nat → Int32} {ns : Nat → Nat} {kp : Nat → Bool} {I : Nat → Nat → Int32} {nj sj : Nat → Nat} {seed len : Nat} {tx : Nat → Int32} {fl : Int32} {sc ec : Nat} {pp : Nat → Nat → Int32} {s' : Nat → Int32} {n' : Nat} (h : Rr M L s kd sd w q n mm cnt e bd P ns kp I nj sj seed len tx fl sc ec pp) (f0 : ∀ j, j < 20 → M' 274 j = M 274 j) (f : ∀ c, (274 < c ∧ c < 279) ∨ (280 < c ∧ c < 287) → M' c = M c) (hc : RS_279 M' s' kd w q n' mm) : Rr M' L s' kd sd w q n' mm cnt e bd P ns kp I nj sj seed len tx fl sc ec pp := by
  obtain ⟨h1, h2, h3, h4, h5, h6, h7, h8, h9⟩ := h
  refine ⟨hc, ?_, ⟨?_, h3.2.1, ?_⟩, ?_, h5, ?_, ?_, ?_, ?_⟩
  · rw [f 277 (by decide)]; exact h2
  · rw [f0 11 (by decide)]; exact h3.1
  · rw [f 281 (by decide)]; exact h3.2.2
  · unfold IMr
    rw [f 284 (by decide), f 282 (by decide)]; exact h4
  · rw [f0 1 (by decide), f 275 (by decide)]; exact h6
  · rw [f0 2 (by decide)]; exact h7
  · rw [f0 17 (by decide), f 285 (by decide)]; exact h8
  · rw [f0 19 (by decide), f 286 (by decide)]; exact h9
theorem Rr_cong {M M' : Nat → Nat → Int32} {L : Nat → Nat → Int64} {s kd sd w : Nat → Int32} {q : Int32} {n mm cnt e bd : Nat} {P : Nat → Nat → Int32} {ns : Nat → Nat} {kp : Nat → Bool} {I : Nat → Nat → Int32} {nj sj : Nat → Nat} {seed len : Nat} {tx : Nat → Int32} {fl : Int32} {sc ec : Nat} {pp : Nat → Nat → Int32} (h : Rr M L s kd sd w q n mm cnt e bd P ns kp I nj sj seed len tx fl sc ec pp) (f0 : ∀ j, j < 20 → M' 274 j = M 274 j) (f : ∀ c, (274 < c ∧ c < 280) ∨ (280 < c ∧ c < 287) → M' c = M c) : Rr M' L s kd sd w q n mm cnt e bd P ns kp I nj sj seed len tx fl sc ec pp := Rr_core h f0 (fun c hc => f c (by omega)) (RS_cong_279 h.1 (f0 3 (by decide)) (f0 4 (by decide)) (f 276 (by decide)) (f 278 (by decide)) (f 279 (by decide)))
theorem Rr_c {M M' : Nat → Nat → Int32} {L : Nat → Nat → Int64} {s kd sd w : Nat → Int32} {q : Int32} {n mm cnt e bd : Nat} {P : Nat → Nat → Int32} {ns : Nat → Nat} {kp : Nat → Bool} {I : Nat → Nat → Int32} {nj sj : Nat → Nat} {seed len : Nat} {tx : Nat → Int32} {fl : Int32} {sc ec : Nat} {pp : Nat → Nat → Int32} (h : Rr M L s kd sd w q n mm cnt e bd P ns kp I nj sj seed len tx fl sc ec pp) (f : ∀ c, 274 ≤ c → M' c = M c) : Rr M' L s kd sd w q n mm cnt e bd P ns kp I nj sj seed len tx fl sc ec pp := Rr_cong h (fun j hj => by rw [f 274 (by decide)]) (fun c hc => f c (by omega))
theorem Cc_b {M : Nat → Nat → Int32} {b' : Nat} {s kd sd w : Nat → Int32} {q : Int32} {n mm cnt e bd : Nat} {P : Nat → Nat → Int32} {ns : Nat → Nat} {kp : Nat → Bool} {I : Nat → Nat → Int32} {nj sj : Nat → Nat} {seed len : Nat} {tx : Nat → Int32} {fl : Int32} {sc ec : Nat} {pp : Nat → Nat → Int32} (h : Cc M s kd sd w q n mm cnt e bd P ns kp I nj sj seed len tx fl sc ec pp) (hb : b' ≤ bd) : Cc M s kd sd w q n mm cnt e b' P ns kp I nj sj seed len tx fl sc ec pp := by
  obtain ⟨h1, h2, ⟨p1, ⟨p2, p3⟩, p4⟩, h4⟩ := h
  exact ⟨h1, h2, ⟨p1, ⟨by omega, p3⟩, p4⟩, h4⟩
theorem ST_mk {b' y8 y9 : Nat} {as : List Value} {M M1 M2 : Nat → Nat → Int32} {L L2 : Nat → Nat → Int64} {v v' : Int32} {s kd sd w : Nat → Int32} {q : Int32} {n mm cnt e bd : Nat} {P : Nat → Nat → Int32} {ns : Nat → Nat} {kp : Nat → Bool} {I : Nat → Nat → Int32} {nj sj : Nat → Nat} {seed len : Nat} {tx : Nat → Int32} {fl : Int32} {sc ec : Nat} {pp : Nat → Nat → Int32} (c8 : z_C 10 y8 (.ref 0 :: as) (z_SH, M, L) (some (.int v)) (z_SH, M1, L)) (c9 : z_C 10 y9 (.ref 274 :: as) (z_SH, M1, L) (some (.int v')) (z_SH, M2, L2)) (hv : v = v') (k1 : Cc M1 s kd sd w q n mm cnt e bd P ns kp I nj sj seed len tx fl sc ec pp) (f : ∀ c, c < 268 → M2 c = M1 c) (k2 : Rr M2 L2 s kd sd w q n mm cnt e bd P ns kp I nj sj seed len tx fl sc ec pp) (k3 : Ww s kd sd w q n mm cnt e bd P ns kp I nj sj seed len tx fl sc ec pp) (hb : b' ≤ bd := by omega) : ST b' y8 y9 as M L := by
  subst hv
  exact ⟨v, M1, M2, L2, c8, c9, s, kd, sd, w, q, n, mm, cnt, e, P, ns, kp, I, nj, sj, seed, len, tx, fl, sc, ec, pp, Cc_b (Cc_cong k1 (fun c hc => f c (by omega))) hb, k2, k3⟩
/-- a call that asks only -/
theorem ST_q {bd y8 y9 : Nat} {as : List Value} {M M1 M2 : Nat → Nat → Int32} {L : Nat → Nat → Int64} {v v' : Int32} (h : RR (bd + 20) M L) (c8 : z_C 10 y8 (.ref 0 :: as) (z_SH, M, L) (some (.int v)) (z_SH, M1, L)) (c9 : z_C 10 y9 (.ref 274 :: as) (z_SH, M1, L) (some (.int v')) (z_SH, M2, L)) (hv : v = v') (f1 : ∀ c, (c < 28 ∨ 48 < c) ∧ (c < 268 ∨ 273 < c) → M1 c = M c) (f2 : ∀ c, c < 280 ∨ (280 < c ∧ c < 287) → M2 c = M1 c) : ST bd y8 y9 as M L := by
  obtain ⟨s, kd, sd, w, q, n, mm, cnt, e, P, ns, kp, I, nj, sj, seed, len, tx, fl, sc, ec, pp, h1, h2, h3⟩ := h
  exact ST_mk c8 c9 hv (Cc_cong h1 (fun c hc => f1 c (by omega))) (fun c hc => f2 c (by omega)) (Rr_cong (Rr_c h2 (fun c hc => f1 c (by omega))) (fun j hj => by rw [f2 274 (by decide)]) (fun c hc => f2 c (by omega))) h3
theorem Cc_rem {M : Nat → Nat → Int32} {s kd sd w : Nat → Int32} {q : Int32} {n mm cnt e bd : Nat} {P : Nat → Nat → Int32} {ns : Nat → Nat} {kp : Nat → Bool} {I : Nat → Nat → Int32} {nj sj : Nat → Nat} {seed len : Nat} {tx : Nat → Int32} {fl : Int32} {sc ec : Nat} {pp : Nat → Nat → Int32} (h : Cc M s kd sd w q n mm cnt e (bd + 1) P ns kp I nj sj seed len tx fl sc ec pp) (hw : Ww s kd sd w q n mm cnt e (bd + 1) P ns kp I nj sj seed len tx fl sc ec pp) : q_X4_remember_49_20 M ∧ (∀ c, c < 49 ∨ 242 < c → g_X4_remember_49_20 M c = M c) ∧ Cc (g_X4_remember_49_20 M) s kd sd w q n mm (pnC cnt) (e + 1) bd (pnP cnt P s) (pnP cnt ns n) kp I nj sj seed len tx fl sc ec pp ∧ Ww s kd sd w q n mm (pnC cnt) (e + 1) bd (pnP cnt P s) (pnP cnt ns n) kp I nj sj seed len tx fl sc ec pp := by
  obtain ⟨h1, h2, h3, h4, h5, h6, h7, h8, h9⟩ := h
  obtain ⟨w1, w2⟩ := hw
  obtain ⟨r1, f, r2⟩ := rem_c h3 w1 h1.1.2.1 h1.2.2.1 h1.2.2.2.2.1
  refine ⟨r1, f, ⟨CS_cong_28 h1 (fun c hc => f c (by omega)), ?_, r2, IMc_cong h4 (fun c x y => f c (by omega)), ?_, ?_, ?_, ?_, ?_⟩, PSw_n h3.2.2.2.1 w1 h1.2.2.2, w2⟩
  · rw [f 17 (by decide)]; exact h2
  · rw [f 0 (by decide)]; exact h5
  · rw [f 0 (by decide), f 1 (by decide)]; exact h6
  · rw [f 0 (by decide)]; exact h7
  · rw [f 243 (by decide), f 244 (by decide), f 245 (by decide)]; exact h8
  · rw [f 243 (by decide), f 246 (by decide), f 247 (by decide), f 248 (by decide)]; exact h9
theorem Rr_rem {M : Nat → Nat → Int32} {L : Nat → Nat → Int64} {s kd sd w : Nat → Int32} {q : Int32} {n mm cnt e bd : Nat} {P : Nat → Nat → Int32} {ns : Nat → Nat} {kp : Nat → Bool} {I : Nat → Nat → Int32} {nj sj : Nat → Nat} {seed len : Nat} {tx : Nat → Int32} {fl : Int32} {sc ec : Nat} {pp : Nat → Nat → Int32} (h : Rr M L s kd sd w q n mm cnt e bd P ns kp I nj sj seed len tx fl sc ec pp) (e' b' : Nat) (ns' : Nat → Nat) : q_X9_notes_274 M ∧ (∀ c, c ≠ 274 → c ≠ 281 → g_X9_notes_274 M c = M c) ∧ (∀ j, j ≠ 11 → g_X9_notes_274 M 274 j = M 274 j) ∧ Rr (g_X9_notes_274 M) L s kd sd w q n mm (pnC cnt) e' b' (pnP cnt P s) ns' kp I nj sj seed len tx fl sc ec pp := by
  obtain ⟨h1, h2, h3, h4, h5, h6, h7, h8, h9⟩ := h
  obtain ⟨r1, f, f0, r2⟩ := no_r h3 h1.2.2.1
  refine ⟨r1, f, f0, RS_cong_279 h1 (f0 3 (by decide)) (f0 4 (by decide)) (f _ (by decide) (by decide)) (f _ (by decide) (by decide)) (f _ (by decide) (by decide)), ?_, r2, ?_, h5, ?_, ?_, ?_, ?_⟩
  · rw [f 277 (by decide) (by decide)]; exact h2
  · unfold IMr
    rw [f 284 (by decide) (by decide), f 282 (by decide) (by decide)]; exact h4
  · rw [f0 1 (by decide), f 275 (by decide) (by decide)]; exact h6
  · rw [f0 2 (by decide)]; exact h7
  · rw [f0 17 (by decide), f 285 (by decide) (by decide)]; exact h8
  · rw [f0 19 (by decide), f 286 (by decide) (by decide)]; exact h9
theorem st_q {M : Nat → Nat → Int32} {q : Int32} (h : M 15 0 = q) (hq : ∃ qn, qn < 10 ∧ q = nI qn) : f_X2_stands_15 M = if q = 0 then 0 else 1 := by
  obtain ⟨qn, h1, rfl⟩ := hq
  unfold f_X2_stands_15
  rw [h]
  by_cases c : qn = 0
  · subst c; rfl
  · rw [if_neg (nI_nle (by omega) (by omega)), if_neg (nI_ne0 (by omega) (by omega))]
