/-! THE TEXT: both read it, from its first letter -/
theorem tC_tr {M : Nat → Nat → Int32} {a c : Int32} (h1 : ¬ (240 : Int32) ≤ c) (h2 : ¬ M 2 1 ≤ M 2 2) (h3 : M 2 3 = 0) : t_X5_readText_2_48 M a c = true := by
  unfold t_X5_readText_2_48
  rw [if_neg h1, if_neg h2, if_neg (not_not_intro h3)]
theorem tR_tr {M : Nat → Nat → Int32} (h1 : M 274 21 = 0) (h2 : ¬ M 274 1 ≤ M 274 20) : t_X9_readHouse_274_45 M = true := by
  unfold t_X9_readHouse_274_45
  rw [if_neg (not_not_intro h1), if_neg h2]
theorem ctC (M : Nat → Nat → Int32) (a : Int32) (k : Nat) : (s_X5_readText_2_48 M a (nI 0) k).1 = nI k := by
  induction k with
  | zero => rfl
  | succ k ih =>
    have h1 : (s_X5_readText_2_48 M a (nI 0) (k + 1)).1 = (s_X5_readText_2_48 M a (nI 0) k).1 + 1 := rfl
    rw [h1, ih, nI_1]
theorem z22 (M : Nat → Nat → Int32) (k : Nat) (hk : k ≤ 83) : ∀ j, s_X9_readHouse_274_22 M k 290 j = if j < k then 0 else M 290 j := by
  induction k with
  | zero => intro j; rw [if_neg (by omega)]; rfl
  | succ k ih =>
    intro j
    have hs : s_X9_readHouse_274_22 M (k + 1) = z_row (s_X9_readHouse_274_22 M k) 290 (upd (s_X9_readHouse_274_22 M k 290) ((nI k).toNatClampNeg) 0) := rfl
    rw [hs, z_row_eq, ud_if, nI_clamp (by omega), ih (by omega) j]
    by_cases c : j = k
    · rw [if_pos c, if_pos (by omega)]
    · rw [if_neg c]
      by_cases c2 : j < k
      · rw [if_pos c2, if_pos (by omega)]
      · rw [if_neg c2, if_neg (by omega)]
theorem startC {M : Nat → Nat → Int32} {tx : Nat → Int32} {len : Nat} (h1 : ∀ j, j < len → M 1 j = tx j) (hl : len ≤ 240) : CR (g_X0_clear_7 (g_X2_clear_3 (z_row (z_row (z_row (z_row M 2 (upd (M 2) 1 (nI len))) 2 (upd (upd (M 2) 1 (nI len)) 2 0)) 2 (upd (upd (upd (M 2) 1 (nI len)) 2 0) 3 0)) 2 (upd (upd (upd (upd (M 2) 1 (nI len)) 2 0) 3 0) 4 (-1))))) tx len 0 0 (-1) ∧ HC (g_X0_clear_7 (g_X2_clear_3 (z_row (z_row (z_row (z_row M 2 (upd (M 2) 1 (nI len))) 2 (upd (upd (M 2) 1 (nI len)) 2 0)) 2 (upd (upd (upd (M 2) 1 (nI len)) 2 0) 3 0)) 2 (upd (upd (upd (upd (M 2) 1 (nI len)) 2 0) 3 0) 4 (-1))))) (fun _ => 0) (fun _ => 0) (fun _ => 0) (fun _ => 0) 0 0 0 := by
  have e2 : (g_X0_clear_7 (g_X2_clear_3 (z_row (z_row (z_row (z_row M 2 (upd (M 2) 1 (nI len))) 2 (upd (upd (M 2) 1 (nI len)) 2 0)) 2 (upd (upd (upd (M 2) 1 (nI len)) 2 0) 3 0)) 2 (upd (upd (upd (upd (M 2) 1 (nI len)) 2 0) 3 0) 4 (-1))))) 2 = upd (upd (upd (upd (M 2) 1 (nI len)) 2 0) 3 0) 4 (-1) := by
    rw [fr_g_X0_clear_7 _ 2 (by decide), fr_g_X2_clear_3 _ 2 (by decide), z_row_eq]
  have e1 : (g_X0_clear_7 (g_X2_clear_3 (z_row (z_row (z_row (z_row M 2 (upd (M 2) 1 (nI len))) 2 (upd (upd (M 2) 1 (nI len)) 2 0)) 2 (upd (upd (upd (M 2) 1 (nI len)) 2 0) 3 0)) 2 (upd (upd (upd (upd (M 2) 1 (nI len)) 2 0) 3 0) 4 (-1))))) 1 = M 1 := by
    rw [fr_g_X0_clear_7 _ 1 (by decide), fr_g_X2_clear_3 _ 1 (by decide), z_row_ne (by decide), z_row_ne (by decide), z_row_ne (by decide), z_row_ne (by decide)]
  have e3 : (g_X0_clear_7 (g_X2_clear_3 (z_row (z_row (z_row (z_row M 2 (upd (M 2) 1 (nI len))) 2 (upd (upd (M 2) 1 (nI len)) 2 0)) 2 (upd (upd (upd (M 2) 1 (nI len)) 2 0) 3 0)) 2 (upd (upd (upd (upd (M 2) 1 (nI len)) 2 0) 3 0) 4 (-1))))) 3 0 = 0 ∧ (g_X0_clear_7 (g_X2_clear_3 (z_row (z_row (z_row (z_row M 2 (upd (M 2) 1 (nI len))) 2 (upd (upd (M 2) 1 (nI len)) 2 0)) 2 (upd (upd (upd (M 2) 1 (nI len)) 2 0) 3 0)) 2 (upd (upd (upd (upd (M 2) 1 (nI len)) 2 0) 3 0) 4 (-1))))) 3 1 = 0 := by
    rw [fr_g_X0_clear_7 _ 3 (by decide)]
    unfold g_X2_clear_3
    rw [z_row_eq]
    exact ⟨rfl, rfl⟩
  have e7 : (g_X0_clear_7 (g_X2_clear_3 (z_row (z_row (z_row (z_row M 2 (upd (M 2) 1 (nI len))) 2 (upd (upd (M 2) 1 (nI len)) 2 0)) 2 (upd (upd (upd (M 2) 1 (nI len)) 2 0) 3 0)) 2 (upd (upd (upd (upd (M 2) 1 (nI len)) 2 0) 3 0) 4 (-1))))) 7 1 = 0 ∧ (g_X0_clear_7 (g_X2_clear_3 (z_row (z_row (z_row (z_row M 2 (upd (M 2) 1 (nI len))) 2 (upd (upd (M 2) 1 (nI len)) 2 0)) 2 (upd (upd (upd (M 2) 1 (nI len)) 2 0) 3 0)) 2 (upd (upd (upd (upd (M 2) 1 (nI len)) 2 0) 3 0) 4 (-1))))) 7 8 = 0 ∧ (g_X0_clear_7 (g_X2_clear_3 (z_row (z_row (z_row (z_row M 2 (upd (M 2) 1 (nI len))) 2 (upd (upd (M 2) 1 (nI len)) 2 0)) 2 (upd (upd (upd (M 2) 1 (nI len)) 2 0) 3 0)) 2 (upd (upd (upd (upd (M 2) 1 (nI len)) 2 0) 3 0) 4 (-1))))) 7 9 = 0 ∧ (g_X0_clear_7 (g_X2_clear_3 (z_row (z_row (z_row (z_row M 2 (upd (M 2) 1 (nI len))) 2 (upd (upd (M 2) 1 (nI len)) 2 0)) 2 (upd (upd (upd (M 2) 1 (nI len)) 2 0) 3 0)) 2 (upd (upd (upd (upd (M 2) 1 (nI len)) 2 0) 3 0) 4 (-1))))) 7 10 = 0 ∧ (g_X0_clear_7 (g_X2_clear_3 (z_row (z_row (z_row (z_row M 2 (upd (M 2) 1 (nI len))) 2 (upd (upd (M 2) 1 (nI len)) 2 0)) 2 (upd (upd (upd (M 2) 1 (nI len)) 2 0) 3 0)) 2 (upd (upd (upd (upd (M 2) 1 (nI len)) 2 0) 3 0) 4 (-1))))) 7 11 = 0 := by
    generalize g_X2_clear_3 (z_row (z_row (z_row (z_row M 2 (upd (M 2) 1 (nI len))) 2 (upd (upd (M 2) 1 (nI len)) 2 0)) 2 (upd (upd (upd (M 2) 1 (nI len)) 2 0) 3 0)) 2 (upd (upd (upd (upd (M 2) 1 (nI len)) 2 0) 3 0) 4 (-1))) = B
    unfold g_X0_clear_7
    rw [z_row_eq]
    exact ⟨rfl, rfl, rfl, rfl, rfl⟩
  generalize (g_X0_clear_7 (g_X2_clear_3 (z_row (z_row (z_row (z_row M 2 (upd (M 2) 1 (nI len))) 2 (upd (upd (M 2) 1 (nI len)) 2 0)) 2 (upd (upd (upd (M 2) 1 (nI len)) 2 0) 3 0)) 2 (upd (upd (upd (upd (M 2) 1 (nI len)) 2 0) 3 0) 4 (-1))))) = A at *
  refine ⟨⟨fun j hj => by rw [e1]; exact h1 j hj, hl, ?_, ?_, ?_, ?_⟩, ⟨e3.1, e3.2, fun k hk => absurd hk (by omega), e7, fun k hk => absurd hk (by omega), fun k hk => absurd hk (by omega)⟩⟩
  · rw [e2]; rfl
  · rw [e2]; rfl
  · rw [e2]; rfl
  · rw [e2]; rfl
theorem startR {G : Nat → Nat → Int32} {tx : Nat → Int32} {len : Nat} (h2 : ∀ j, j < len → G 275 j = tx j) (h3 : G 274 1 = nI len) (hl : len ≤ 240) : RX (s_X9_readHouse_274_22 (z_row (z_row (z_row (z_row G 274 (upd (G 274) 20 0)) 274 (upd (upd (G 274) 20 0) 21 0)) 274 (upd (upd (upd (G 274) 20 0) 21 0) 23 0)) 274 (upd (upd (upd (upd (G 274) 20 0) 21 0) 23 0) 24 0)) 83) tx len 0 0 (-1) ∧ HX (s_X9_readHouse_274_22 (z_row (z_row (z_row (z_row G 274 (upd (G 274) 20 0)) 274 (upd (upd (G 274) 20 0) 21 0)) 274 (upd (upd (upd (G 274) 20 0) 21 0) 23 0)) 274 (upd (upd (upd (upd (G 274) 20 0) 21 0) 23 0) 24 0)) 83) (fun _ => 0) (fun _ => 0) (fun _ => 0) (fun _ => 0) 0 0 ∧ lwr G (s_X9_readHouse_274_22 (z_row (z_row (z_row (z_row G 274 (upd (G 274) 20 0)) 274 (upd (upd (G 274) 20 0) 21 0)) 274 (upd (upd (upd (G 274) 20 0) 21 0) 23 0)) 274 (upd (upd (upd (upd (G 274) 20 0) 21 0) 23 0) 24 0)) 83) ∧ ∀ k, k < 83 → qi_X9_readHouse_274_22 (s_X9_readHouse_274_22 (z_row (z_row (z_row (z_row G 274 (upd (G 274) 20 0)) 274 (upd (upd (G 274) 20 0) 21 0)) 274 (upd (upd (upd (G 274) 20 0) 21 0) 23 0)) 274 (upd (upd (upd (upd (G 274) 20 0) 21 0) 23 0) 24 0)) k) (nI k) := by
  have e8 : s_X9_readHouse_274_22 (z_row (z_row (z_row (z_row G 274 (upd (G 274) 20 0)) 274 (upd (upd (G 274) 20 0) 21 0)) 274 (upd (upd (upd (G 274) 20 0) 21 0) 23 0)) 274 (upd (upd (upd (upd (G 274) 20 0) 21 0) 23 0) 24 0)) 83 274 = upd (upd (upd (upd (G 274) 20 0) 21 0) 23 0) 24 0 := by
    rw [fr_s_X9_readHouse_274_22 _ 83 274 (by decide), z_row_eq]
  have e9 : s_X9_readHouse_274_22 (z_row (z_row (z_row (z_row G 274 (upd (G 274) 20 0)) 274 (upd (upd (G 274) 20 0) 21 0)) 274 (upd (upd (upd (G 274) 20 0) 21 0) 23 0)) 274 (upd (upd (upd (upd (G 274) 20 0) 21 0) 23 0) 24 0)) 83 275 = G 275 := by
    rw [fr_s_X9_readHouse_274_22 _ 83 275 (by decide), z_row_ne (by decide), z_row_ne (by decide), z_row_ne (by decide), z_row_ne (by decide)]
  have e4 : ∀ j, j < 83 → s_X9_readHouse_274_22 (z_row (z_row (z_row (z_row G 274 (upd (G 274) 20 0)) 274 (upd (upd (G 274) 20 0) 21 0)) 274 (upd (upd (upd (G 274) 20 0) 21 0) 23 0)) 274 (upd (upd (upd (upd (G 274) 20 0) 21 0) 23 0) 24 0)) 83 290 j = 0 := fun j hj => by rw [z22 _ 83 (by decide) j, if_pos hj]
  have e0 : ∀ k, k < 83 → qi_X9_readHouse_274_22 (s_X9_readHouse_274_22 (z_row (z_row (z_row (z_row G 274 (upd (G 274) 20 0)) 274 (upd (upd (G 274) 20 0) 21 0)) 274 (upd (upd (upd (G 274) 20 0) 21 0) 23 0)) 274 (upd (upd (upd (upd (G 274) 20 0) 21 0) 23 0) 24 0)) k) (nI k) := fun k hk => ⟨vi hk (by decide), trivial⟩
  refine ⟨?_, ?_, ?_, e0⟩
  · clear e0
    generalize s_X9_readHouse_274_22 (z_row (z_row (z_row (z_row G 274 (upd (G 274) 20 0)) 274 (upd (upd (G 274) 20 0) 21 0)) 274 (upd (upd (upd (G 274) 20 0) 21 0) 23 0)) 274 (upd (upd (upd (upd (G 274) 20 0) 21 0) 23 0) 24 0)) 83 = B at *
    refine ⟨fun j hj => by rw [e9]; exact h2 j hj, hl, ?_, fun _ => ?_, ?_, fun z => absurd rfl z⟩
    · rw [e8]; exact h3
    · rw [e8]; rfl
    · rw [e8]; rfl
  · clear e0
    generalize s_X9_readHouse_274_22 (z_row (z_row (z_row (z_row G 274 (upd (G 274) 20 0)) 274 (upd (upd (G 274) 20 0) 21 0)) 274 (upd (upd (upd (G 274) 20 0) 21 0) 23 0)) 274 (upd (upd (upd (upd (G 274) 20 0) 21 0) 23 0) 24 0)) 83 = B at *
    refine ⟨?_, ?_, fun k hk => absurd hk (by omega), e4⟩
    · rw [e8]; rfl
    · rw [e8]; rfl
  · clear e0
    generalize s_X9_readHouse_274_22 (z_row (z_row (z_row (z_row G 274 (upd (G 274) 20 0)) 274 (upd (upd (G 274) 20 0) 21 0)) 274 (upd (upd (upd (G 274) 20 0) 21 0) 23 0)) 274 (upd (upd (upd (upd (G 274) 20 0) 21 0) 23 0) 24 0)) 83 = B at *
    intro j hj
    rw [e8, ud_if, if_neg (by omega), ud_if, if_neg (by omega), ud_if, if_neg (by omega), ud_if, if_neg (by omega)]
theorem reads2 {A B : Nat → Nat → Int32} {tx : Nat → Int32} {len : Nat} (a : Int32) {s kd sd w : Nat → Int32} {q : Int32} {n mm : Nat} (hl : len ≤ 240) (a1 : CR A tx len 0 0 (-1)) (a2 : HC A s kd sd w q n mm) (b1 : RX B tx len 0 0 (-1)) (b2 : HX B s kd sd w q mm) (hW : HW s q n mm) : (q_X5_skipBlanks_2 A ∧ (∀ k, k < n_X5_readText_2_48 (g_X5_skipBlanks_2 A) a 0 → qi_X5_readText_2_48 (s_X5_readText_2_48 (g_X5_skipBlanks_2 A) a 0 k).2 a (s_X5_readText_2_48 (g_X5_skipBlanks_2 A) a 0 k).1) ∧ t_X5_readText_2_48 (s_X5_readText_2_48 (g_X5_skipBlanks_2 A) a 0 240).2 a (s_X5_readText_2_48 (g_X5_skipBlanks_2 A) a 0 240).1 = false ∧ t_X5_readText_2_48 (s_X5_readText_2_48 (g_X5_skipBlanks_2 A) a 0 (n_X5_readText_2_48 (g_X5_skipBlanks_2 A) a 0)).2 a (s_X5_readText_2_48 (g_X5_skipBlanks_2 A) a 0 (n_X5_readText_2_48 (g_X5_skipBlanks_2 A) a 0)).1 = false) ∧ (q_X9_skips_274 B ∧ (∀ k, k < n_X9_readHouse_274_45 (g_X9_skips_274 B) → qi_X9_readHouse_274_45 (s_X9_readHouse_274_45 (g_X9_skips_274 B) k)) ∧ t_X9_readHouse_274_45 (s_X9_readHouse_274_45 (g_X9_skips_274 B) (n_X9_readHouse_274_45 (g_X9_skips_274 B))) = false) ∧ EN (s_X5_readText_2_48 (g_X5_skipBlanks_2 A) a 0 (n_X5_readText_2_48 (g_X5_skipBlanks_2 A) a 0)).2 (s_X9_readHouse_274_45 (g_X9_skips_274 B) (n_X9_readHouse_274_45 (g_X9_skips_274 B))) tx len := by
  obtain ⟨c1, c2, c3⟩ := sk_c a1 (Nat.zero_le _)
  obtain ⟨r1, r2, r3⟩ := sk_r (RX_D b1) (Nat.zero_le _)
  have bb := sk_b tx (p := 0) hl (by omega)
  have H := loops tx len a 240 (g_X5_skipBlanks_2 A) (g_X9_skips_274 B) 0 (sk tx len 0) s kd sd w q n mm (by omega) (by omega) ⟨c2, bb.2.1⟩ ⟨RD_X r2 (fun z => absurd rfl z), bb.2.1⟩ (HC_c a2 c3) (HX_c b2 r3) hW
  clear c2 c3 r2 r3
  generalize g_X5_skipBlanks_2 A = A1 at *
  generalize g_X9_skips_274 B = B1 at *
  obtain ⟨N, n1, n2, n3, n4, n5⟩ := H
  have ct := ctC A1 a 240
  rw [nI_0] at n2 n3 n5 ct
  have eC : n_X5_readText_2_48 A1 a 0 = N := by unfold n_X5_readText_2_48; exact z_fst_eq (by omega) (fun k hk => (n2 k hk).1) n3
  have eR : n_X9_readHouse_274_45 B1 = N := by unfold n_X9_readHouse_274_45; exact z_fst_eq (by omega) (fun k hk => (n2 k hk).2.2.1) n4
  rw [eC, eR]
  refine ⟨⟨c1, fun k hk => (n2 k hk).2.1, ?_, n3⟩, ⟨r1, fun k hk => (n2 k hk).2.2.2, n4⟩, n5⟩
  unfold t_X5_readText_2_48
  rw [ct, if_pos (by decide)]
theorem reads {M G : Nat → Nat → Int32} {tx : Nat → Int32} {len : Nat} (h1 : ∀ j, j < len → M 1 j = tx j) (hl : len ≤ 240) (h2 : ∀ j, j < len → G 275 j = tx j) (h3 : G 274 1 = nI len) : q_X5_readText_2 M (nI len) ∧ q_X9_readHouse_274 G ∧ f_X5_readText_2 M (nI len) = g_X5_readText_2 M (nI len) 2 3 ∧ EN (g_X5_readText_2 M (nI len)) (g_X9_readHouse_274 G) tx len ∧ lwr G (g_X9_readHouse_274 G) := by
  have eif : (if (240 : Int32) < nI len then (240 : Int32) else nI len) = nI len := if_neg (fun z => by have := (nI_ltI (a := 240) (b := len) (by decide) (by omega)).mp z; omega)
  obtain ⟨a1, a2⟩ := startC h1 hl
  obtain ⟨b1, b2, b3, b4⟩ := startR h2 h3 hl
  have hW : HW (fun _ => 0) 0 0 0 := ⟨by decide, ⟨rfl, by decide, fun k hk => absurd hk (by omega), fun k hk => absurd hk (by omega), fun k hk => absurd hk (by omega), fun k hk => absurd hk (by omega), rfl⟩, fun k _ => ⟨rfl, rfl⟩, 0, by decide, rfl⟩
  obtain ⟨⟨u1, u2, u3, u4⟩, ⟨v1, v2, v3⟩, w⟩ := reads2 (nI len) hl a1 a2 b1 b2 hW
  refine ⟨?_, ?_, ?_, ?_, ?_⟩
  · clear a1 a2 b1 b2 b3 b4 v1 v2 v3 w
    unfold q_X5_readText_2
    rw [eif]
    generalize (g_X0_clear_7 (g_X2_clear_3 (z_row (z_row (z_row (z_row M 2 (upd (M 2) 1 (nI len))) 2 (upd (upd (M 2) 1 (nI len)) 2 0)) 2 (upd (upd (upd (M 2) 1 (nI len)) 2 0) 3 0)) 2 (upd (upd (upd (upd (M 2) 1 (nI len)) 2 0) 3 0) 4 (-1))))) = A at *
    generalize g_X5_skipBlanks_2 A = A1 at *
    exact ⟨u1, u2, u3, fun x y z => absurd (tC_tr x y z) (by rw [u4]; exact Bool.false_ne_true), fun x y z => absurd (tC_tr x y z) (by rw [u4]; exact Bool.false_ne_true), trivial⟩
  · clear a1 a2 b1 b2 b3 u1 u2 u3 u4 w
    unfold q_X9_readHouse_274
    refine ⟨b4, ?_⟩
    clear b4
    generalize s_X9_readHouse_274_22 (z_row (z_row (z_row (z_row G 274 (upd (G 274) 20 0)) 274 (upd (upd (G 274) 20 0) 21 0)) 274 (upd (upd (upd (G 274) 20 0) 21 0) 23 0)) 274 (upd (upd (upd (upd (G 274) 20 0) 21 0) 23 0) 24 0)) 83 = B at *
    generalize g_X9_skips_274 B = B1 at *
    exact ⟨v1, v2, v3, fun x y => absurd (tR_tr x y) (by rw [v3]; exact Bool.false_ne_true), fun x y => absurd (tR_tr x y) (by rw [v3]; exact Bool.false_ne_true), trivial⟩
  · unfold f_X5_readText_2 g_X5_readText_2
    rfl
  · unfold g_X5_readText_2 g_X9_readHouse_274
    rw [eif]
    exact w
  · unfold g_X9_readHouse_274
    exact lwr_t b3 (lwr_t (lwr_sk _) (lwr_lp _ _))
