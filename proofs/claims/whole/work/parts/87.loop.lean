/-! THE LAW: say, and the loop -/
theorem w_b {N : Nat} {xs : Nat → Int32} {S : z_St} {LI : List (Option Value)} {st : List Value} {x : Int32} {p q r : Nat} (h1 : z_W N xs r LI (.int 0 :: st) S → z_W N xs p LI st S) (h2 : z_W N xs r LI (.int 1 :: st) S → z_W N xs q LI st S) (h : z_W N xs r LI (.int (if z_cmp .eq x 0 = true then (0 : Int32) else 1) :: st) S) : z_W N xs (if z_cmp .eq x 0 = true then p else q) LI st S := by
  by_cases c : z_cmp .eq x 0 = true
  · rw [if_pos c] at h ⊢
    exact h1 h
  · rw [if_neg c] at h ⊢
    exact h2 h
theorem RR_b {b b' : Nat} {M : Nat → Nat → Int32} {L : Nat → Nat → Int64} (h : RR b M L) (hb : b' ≤ b) : RR b' M L := by
  obtain ⟨s, kd, sd, w, q, n, mm, cnt, e, P, ns, kp, I, nj, sj, seed, len, tx, fl, sc, ec, pp, h1, h2, h3⟩ := h
  exact ⟨s, kd, sd, w, q, n, mm, cnt, e, P, ns, kp, I, nj, sj, seed, len, tx, fl, sc, ec, pp, Cc_b h1 hb, h2, h3⟩
set_option maxRecDepth 20000 in
theorem w_say {N : Nat} {xs : Nat → Int32} {bd : Nat} {M : Nat → Nat → Int32} {L : Nat → Nat → Int64} (i : Int32) (h : RR (bd + 20) M L) (v1 : z_vin (i + 1) N = true) (v2 : z_vin (i + 2) N = true) (v3 : z_vin (i + 3) N = true) (v4 : z_vin (i + 4) N = true) (kk : ∀ M' L', RR bd M' L' → z_W N xs 863 [some (.ref 1001), some (.ref 0), some (.ref 274), some (.int i)] [] (z_SH, M', L')) : z_W N xs 363 [some (.ref 1001), some (.ref 0), some (.ref 274), some (.int i)] [] (z_SH, M, L) := by
  obtain ⟨v, M1, M2, L2, c8, c9, hr⟩ := s_say h (xs (i + 1).toNatClampNeg) (xs (i + 2).toNatClampNeg) (if z_cmp .eq (xs (i + 3).toNatClampNeg) 0 = true then (0 : Int32) else 1) (xs (i + 4).toNatClampNeg)
  refine w_k 6 (pc' := 369) (LI' := [some (.ref 1001), some (.ref 0), some (.ref 274), some (.int i)]) (st' := [.int (xs (i + 1).toNatClampNeg), .ref 0]) (S' := (z_SH, M, L)) (fun nq hq => (And.intro rfl (And.intro rfl (And.intro rfl (And.intro rfl (And.intro rfl (And.intro v1 hq))))))) ?_
  refine w_k 5 (pc' := 374) (LI' := [some (.ref 1001), some (.ref 0), some (.ref 274), some (.int i)]) (st' := [.int (xs (i + 2).toNatClampNeg), .int (xs (i + 1).toNatClampNeg), .ref 0]) (S' := (z_SH, M, L)) (fun nq hq => (And.intro rfl (And.intro rfl (And.intro rfl (And.intro rfl (And.intro v2 hq)))))) ?_
  refine w_k 5 (pc' := 379) (LI' := [some (.ref 1001), some (.ref 0), some (.ref 274), some (.int i)]) (st' := [.int (xs (i + 3).toNatClampNeg), .int (xs (i + 2).toNatClampNeg), .int (xs (i + 1).toNatClampNeg), .ref 0]) (S' := (z_SH, M, L)) (fun nq hq => (And.intro rfl (And.intro rfl (And.intro rfl (And.intro rfl (And.intro v3 hq)))))) ?_
  refine w_k 1 (pc' := (if z_cmp .eq (xs (i + 3).toNatClampNeg) 0 = true then 386 else 382)) (LI' := [some (.ref 1001), some (.ref 0), some (.ref 274), some (.int i)]) (st' := [.int (xs (i + 2).toNatClampNeg), .int (xs (i + 1).toNatClampNeg), .ref 0]) (S' := (z_SH, M, L)) (fun nq hq => And.intro rfl hq) ?_
  refine w_b (r := 387) (fun hz => w_k 1 (fun nq hq => And.intro rfl hq) hz) (fun hz => w_k 2 (fun nq hq => And.intro rfl (And.intro rfl hq)) hz) ?_
  generalize eb : (if z_cmp .eq (xs (i + 3).toNatClampNeg) 0 = true then (0 : Int32) else 1) = bb at *
  refine w_k 5 (pc' := 392) (LI' := [some (.ref 1001), some (.ref 0), some (.ref 274), some (.int i)]) (st' := [.int (xs (i + 4).toNatClampNeg), .int bb, .int (xs (i + 2).toNatClampNeg), .int (xs (i + 1).toNatClampNeg), .ref 0]) (S' := (z_SH, M, L)) (fun nq hq => (And.intro rfl (And.intro rfl (And.intro rfl (And.intro rfl (And.intro v4 hq)))))) ?_
  refine w_k 1 (pc' := 395) (LI' := [some (.ref 1001), some (.ref 0), some (.ref 274), some (.int i)]) (st' := [.int v]) (S' := (z_SH, M1, L)) (fun nq hq => And.intro rfl (Exists.intro _ (Exists.intro _ (And.intro (Or.inl c8) (And.intro (z_fit_same _ _ _ _ _ _ _ _) hq))))) ?_
  refine w_k 6 (pc' := 401) (LI' := [some (.ref 1001), some (.ref 0), some (.ref 274), some (.int i)]) (st' := [.int (xs (i + 1).toNatClampNeg), .ref 274, .int v]) (S' := (z_SH, M1, L)) (fun nq hq => (And.intro rfl (And.intro rfl (And.intro rfl (And.intro rfl (And.intro rfl (And.intro v1 hq))))))) ?_
  refine w_k 5 (pc' := 406) (LI' := [some (.ref 1001), some (.ref 0), some (.ref 274), some (.int i)]) (st' := [.int (xs (i + 2).toNatClampNeg), .int (xs (i + 1).toNatClampNeg), .ref 274, .int v]) (S' := (z_SH, M1, L)) (fun nq hq => (And.intro rfl (And.intro rfl (And.intro rfl (And.intro rfl (And.intro v2 hq)))))) ?_
  refine w_k 5 (pc' := 411) (LI' := [some (.ref 1001), some (.ref 0), some (.ref 274), some (.int i)]) (st' := [.int (xs (i + 3).toNatClampNeg), .int (xs (i + 2).toNatClampNeg), .int (xs (i + 1).toNatClampNeg), .ref 274, .int v]) (S' := (z_SH, M1, L)) (fun nq hq => (And.intro rfl (And.intro rfl (And.intro rfl (And.intro rfl (And.intro v3 hq)))))) ?_
  refine w_k 1 (pc' := (if z_cmp .eq (xs (i + 3).toNatClampNeg) 0 = true then 418 else 414)) (LI' := [some (.ref 1001), some (.ref 0), some (.ref 274), some (.int i)]) (st' := [.int (xs (i + 2).toNatClampNeg), .int (xs (i + 1).toNatClampNeg), .ref 274, .int v]) (S' := (z_SH, M1, L)) (fun nq hq => And.intro rfl hq) ?_
  refine w_b (r := 419) (fun hz => w_k 1 (fun nq hq => And.intro rfl hq) hz) (fun hz => w_k 2 (fun nq hq => And.intro rfl (And.intro rfl hq)) hz) ?_
  rw [eb]
  refine w_k 5 (pc' := 424) (LI' := [some (.ref 1001), some (.ref 0), some (.ref 274), some (.int i)]) (st' := [.int (xs (i + 4).toNatClampNeg), .int bb, .int (xs (i + 2).toNatClampNeg), .int (xs (i + 1).toNatClampNeg), .ref 274, .int v]) (S' := (z_SH, M1, L)) (fun nq hq => (And.intro rfl (And.intro rfl (And.intro rfl (And.intro rfl (And.intro v4 hq)))))) ?_
  refine w_k 1 (pc' := 427) (LI' := [some (.ref 1001), some (.ref 0), some (.ref 274), some (.int i)]) (st' := [.int v, .int v]) (S' := (z_SH, M2, L2)) (fun nq hq => And.intro rfl (Exists.intro _ (Exists.intro _ (And.intro (Or.inl c9) (And.intro (z_fit_same _ _ _ _ _ _ _ _) hq))))) ?_
  refine w_k 1 (pc' := (if z_cmp .eq v v = true then 863 else 430)) (LI' := [some (.ref 1001), some (.ref 0), some (.ref 274), some (.int i)]) (st' := []) (S' := (z_SH, M2, L2)) (fun nq hq => And.intro rfl hq) ?_
  rw [if_pos (show z_cmp .eq v v = true from decide_eq_true rfl)]
  exact kk M2 L2 hr
theorem w_sw {N : Nat} {xs : Nat → Int32} {bd : Nat} {M : Nat → Nat → Int32} {L : Nat → Nat → Int64} (i x : Int32) (h : RR (bd + 20) M L) (v1 : z_vin (i + 1) N = true) (v2 : z_vin (i + 2) N = true) (v3 : z_vin (i + 3) N = true) (v4 : z_vin (i + 4) N = true) (kk : ∀ M' L', RR bd M' L' → z_W N xs 863 [some (.ref 1001), some (.ref 0), some (.ref 274), some (.int i)] [] (z_SH, M', L')) : z_W N xs (z_jmp 32 (z_sw 831 0 26 #[124, 147, 160, 173, 196, 229, 262, 285, 308, 331, 400, 413, 436, 459, 502, 535, 568, 601, 634, 667, 680, 693, 736, 749, 762, 785, 808] x)) [some (.ref 1001), some (.ref 0), some (.ref 274), some (.int i)] [] (z_SH, M, L) := by
  rcases rng x (N := 27) (by decide) with ⟨k, hk, rfl⟩ | hx
  · match k, hk with
    | 0, _ => exact w_feed i h v1 v2 v3 v4 kk
    | 1, _ => exact w_house i h v1 v2 v3 v4 kk
    | 2, _ => exact w_fault i h v1 v2 v3 v4 kk
    | 3, _ => exact w_told i h v1 v2 v3 v4 kk
    | 4, _ => exact w_member i h v1 v2 v3 v4 kk
    | 5, _ => exact w_strap i h v1 v2 v3 v4 kk
    | 6, _ => exact w_put i h v1 v2 v3 v4 kk
    | 7, _ => exact w_letOut i h v1 v2 v3 v4 kk
    | 8, _ => exact w_letGo i h v1 v2 v3 v4 kk
    | 9, _ => exact w_say i h v1 v2 v3 v4 kk
    | 10, _ => exact w_session i h v1 v2 v3 v4 kk
    | 11, _ => exact w_drift i h v1 v2 v3 v4 kk
    | 12, _ => exact w_undo i h v1 v2 v3 v4 kk
    | 13, _ => exact w_goes i h v1 v2 v3 v4 kk
    | 14, _ => exact w_matter i h v1 v2 v3 v4 kk
    | 15, _ => exact w_agenda i h v1 v2 v3 v4 kk
    | 16, _ => exact w_power i h v1 v2 v3 v4 kk
    | 17, _ => exact w_quietp i h v1 v2 v3 v4 kk
    | 18, _ => exact w_see i h v1 v2 v3 v4 kk
    | 19, _ => exact w_couldBe i h v1 v2 v3 v4 kk
    | 20, _ => exact w_next i h v1 v2 v3 v4 kk
    | 21, _ => exact w_write i h v1 v2 v3 v4 kk
    | 22, _ => exact w_judge i h v1 v2 v3 v4 kk
    | 23, _ => exact w_tear i h v1 v2 v3 v4 kk
    | 24, _ => exact w_seed i h v1 v2 v3 v4 kk
    | 25, _ => exact w_keep i h v1 v2 v3 v4 kk
    | 26, _ => exact w_goBack i h v1 v2 v3 v4 kk
    | k + 27, hk => exact absurd hk (by omega)
  · have e : z_sw 831 0 26 #[124, 147, 160, 173, 196, 229, 262, 285, 308, 331, 400, 413, 436, 459, 502, 535, 568, 601, 634, 667, 680, 693, 736, 749, 762, 785, 808] x = 831 := by
      unfold z_sw
      refine if_pos ?_
      rcases hx with hx | hx
      · exact Or.inl (Int32.lt_iff_toInt_lt.mp hx)
      · right
        have h1 := Int32.le_iff_toInt_le.mp hx
        have h2 : (nI 27).toInt = 27 := by decide
        omega
    rw [e]
    exact kk M L (RR_b h (by omega))
theorem w_lt {N j : Nat} (hN : N ≤ 2560) (h : ¬ nI N - 5 < nI j) (hj : j ≤ 2560) : j + 5 ≤ N := by
  by_cases c : 5 ≤ N
  · have e : nI N - 5 = nI (N - 5) := pk_sub (b := 5) c
    rw [e] at h
    have := mt (nI_ltI (a := N - 5) (b := j) (by omega) (by omega)).mpr h
    omega
  · exfalso
    apply h
    have h0 : (0 : Int32) ≤ nI j := nI_le (a := 0) (by omega) (by omega)
    refine Int32.lt_of_lt_of_le ?_ h0
    have : N = 0 ∨ N = 1 ∨ N = 2 ∨ N = 3 ∨ N = 4 := by omega
    rcases this with rfl | rfl | rfl | rfl | rfl <;> decide
theorem w_v {N j k : Nat} (hN : N ≤ 2560) (h : j + k < N) : z_vin (nI j + nI k) N = true := by
  rw [nI_add]
  exact vi h (by omega)
set_option maxRecDepth 20000 in
theorem w_loop (N : Nat) (xs : Nat → Int32) (hN : N ≤ 2560) (m : Nat) : ∀ (j : Nat) (M : Nat → Nat → Int32) (L : Nat → Nat → Int64), N < j + 5 * m + 5 → j ≤ 2560 → RR (20 * m) M L → z_W N xs 18 [some (.ref 1001), some (.ref 0), some (.ref 274), some (.int (nI j))] [] (z_SH, M, L) := by
  have fin : ∀ (j : Nat) (M : Nat → Nat → Int32) (L : Nat → Nat → Int64), z_W N xs 869 [some (.ref 1001), some (.ref 0), some (.ref 274), some (.int (nI j))] [] (z_SH, M, L) := fun j M L => ⟨2, And.intro rfl (And.intro rfl rfl)⟩
  have top : ∀ (j : Nat) (M : Nat → Nat → Int32) (L : Nat → Nat → Int64), (¬ nI N - 5 < nI j → z_W N xs 26 [some (.ref 1001), some (.ref 0), some (.ref 274), some (.int (nI j))] [] (z_SH, M, L)) → z_W N xs 18 [some (.ref 1001), some (.ref 0), some (.ref 274), some (.int (nI j))] [] (z_SH, M, L) := fun j M L hk => by
    refine w_k 6 (pc' := (if z_cmp .gt (nI j) (nI N - 5) = true then 869 else 26)) (LI' := [some (.ref 1001), some (.ref 0), some (.ref 274), some (.int (nI j))]) (st' := []) (S' := (z_SH, M, L)) (fun nq hq => And.intro rfl (And.intro rfl (And.intro rfl (And.intro rfl (And.intro rfl (And.intro rfl hq)))))) ?_
    by_cases c : nI N - 5 < nI j
    · rw [if_pos (show z_cmp .gt (nI j) (nI N - 5) = true from decide_eq_true c)]
      exact fin j M L
    · rw [if_neg (show ¬ z_cmp .gt (nI j) (nI N - 5) = true from fun q => c (of_decide_eq_true q))]
      exact hk c
  induction m with
  | zero =>
    intro j M L h1 h2 h
    exact top j M L (fun c => absurd (w_lt hN c h2) (by omega))
  | succ m ih =>
    intro j M L h1 h2 h
    rw [show 20 * (m + 1) = 20 * m + 20 by omega] at h
    refine top j M L (fun c => ?_)
    have hj := w_lt hN c h2
    have v0 : z_vin (nI j) N = true := vi (by omega) (by omega)
    refine w_k 6 (pc' := z_jmp 32 (z_sw 831 0 26 #[124, 147, 160, 173, 196, 229, 262, 285, 308, 331, 400, 413, 436, 459, 502, 535, 568, 601, 634, 667, 680, 693, 736, 749, 762, 785, 808] (xs (nI j).toNatClampNeg &&& 31))) (LI' := [some (.ref 1001), some (.ref 0), some (.ref 274), some (.int (nI j))]) (st' := []) (S' := (z_SH, M, L)) (fun nq hq => And.intro rfl (And.intro rfl (And.intro v0 (And.intro rfl (And.intro rfl (And.intro rfl hq)))))) ?_
    refine w_sw (nI j) _ h (w_v (k := 1) hN (by omega)) (w_v (k := 2) hN (by omega)) (w_v (k := 3) hN (by omega)) (w_v (k := 4) hN (by omega)) (fun M' L' h' => ?_)
    have k := ih (j + 5) M' L' (by omega) (by omega) h'
    rw [show nI (j + 5) = nI j + 5 from (nI_add j 5).symm] at k
    exact w_k 2 (fun nq hq => And.intro rfl (And.intro rfl hq)) k
