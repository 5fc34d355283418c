/-! MORE CALLS: said, undone, the text's letters, papers, seed -/
theorem in_eq (M : Nat → Nat → Int32) (x a b : Int32) : f_X9_in M x a b = if ¬ x < a ∧ x ≤ b then 1 else 0 := by
  unfold f_X9_in
  by_cases c1 : x < a
  · rw [if_pos c1, if_neg (fun z => z.1 c1)]
  · rw [if_neg c1]
    by_cases c2 : x ≤ b
    · rw [if_neg (i_nlt.mpr c2), if_pos ⟨c1, c2⟩]
    · rw [if_pos (i_nle.mp c2), if_neg (fun z => c2 z.2)]
theorem s_say {bd : Nat} {M : Nat → Nat → Int32} {L : Nat → Nat → Int64} (h : RR (bd + 20) M L) (m t b x : Int32) : ST bd 85 154 [.int m, .int t, .int b, .int x] M L := by
  have h0 := h
  obtain ⟨s, kd, sd, w, q, n, mm, cnt, e, P, ns, kp, I, nj, sj, seed, len, tx, fl, sc, ec, pp, h1, h2, h3⟩ := h
  have hn := h1.1.2.2.2.2.1
  have hm := h1.1.1.2.1
  have em : M 15 1 = nI mm := h1.1.1.1
  have e1 : M 20 1 = nI n := h1.1.2.2.1.1.1.trans h1.1.2.2.2.1
  have rm : M 274 4 = nI mm := h2.1.1.2.1
  have r1 : M 279 10 = nI n := (h2.1.2.2.1 10 (by decide)).trans h2.1.2.2.2.1
  have i1 := mb_eq (M' := M) m rm (by omega)
  have i2 := mt_eq M M t
  have i3 := in_eq M x 1 9
  have l12 : (nI n < 12) ↔ n < 12 := nI_ltI (b := 12) (by omega) (by decide)
  have q12 : (nI n = 12) ↔ n = 12 := nI_eq (b := 12) (by omega) (by decide)
  by_cases ac : f_X8_isOutside M m (nI mm) = 0 ∧ f_X8_isOutside M t 8 = 0 ∧ (¬ x < 1 ∧ x ≤ 9) ∧ n < 12
  · obtain ⟨a1, a2, a3, a4⟩ := ac
    obtain ⟨mk, hmk, rfl⟩ := oi_k (by omega) a1
    obtain ⟨tk, htk, rfl⟩ := oi_k (N := 8) (by decide) a2
    obtain ⟨b', hb', hbe⟩ : ∃ b' : Int32, (b' = 0 ∨ b' = 1) ∧ b' = if b = 0 then 0 else 1 := ⟨_, by by_cases c : b = 0 <;> simp [c], rfl⟩
    obtain ⟨m1, m2, m3, m4⟩ := Cc_rem h1 h3
    obtain ⟨p1, p2, p3⟩ := bu_28 m3.1 a4 hmk htk hb' x
    have g8 : g_X8_say_0 M (nI mk) (nI tk) b x = g_X0_button_20 (g_X4_remember_49_20 M) (nI mk) (nI tk) b' x := by
      unfold g_X8_say_0
      rw [em, if_pos a1, if_neg (not_not_intro a2), if_neg a3.1, if_pos a3.2, e1, if_pos (l12.mpr a4), hbe]
      by_cases c : b = 0
      · rw [if_pos c, if_pos c]
      · rw [if_neg c, if_neg c]
    have f8 : f_X8_say_0 M (nI mk) (nI tk) b x = nI n := by
      unfold f_X8_say_0
      rw [em, if_pos a1, if_neg (not_not_intro a2), if_neg a3.1, if_pos a3.2, e1, if_pos (l12.mpr a4)]
      by_cases c : b = 0
      · rw [if_pos c] at hbe ⊢
        subst hbe
        rw [p2, nI_pred]
      · rw [if_neg c] at hbe ⊢
        subst hbe
        rw [p2, nI_pred]
    have fl1 : ∀ c, c < 20 ∨ 27 < c → g_X0_button_20 (g_X4_remember_49_20 M) (nI mk) (nI tk) b' x c = g_X4_remember_49_20 M c := fun c hc => by
      unfold g_X0_button_20
      split
      · rw [z_row_ne (by omega), z_row_ne (by omega), z_row_ne (by omega), z_row_ne (by omega), z_row_ne (by omega), z_row_ne (by omega), z_row_ne (by omega)]
      · rfl
    have fr1 : ∀ c, 274 ≤ c → g_X8_say_0 M (nI mk) (nI tk) b x c = M c := fun c hc => by rw [g8, fl1 c (by omega), m2 c (by omega)]
    have k1 := Cc_core (M' := g_X8_say_0 M (nI mk) (nI tk) b x) m3 (fun c hc => by rw [g8, fl1 c (by omega)]) (by rw [g8]; exact p3)
    have h2' := Rr_c (M' := g_X8_say_0 M (nI mk) (nI tk) b x) h2 fr1
    have c8 := c_X8_say_0 (d := 6) (L := L) M (nI mk) (nI tk) b x (by
      unfold q_X8_say_0
      refine ⟨fun _ _ _ _ _ => m1, fun _ _ _ _ _ z => ?_, fun _ _ _ _ _ z => ?_, trivial⟩
      · rw [if_pos z] at hbe; subst hbe; exact p1
      · rw [if_neg z] at hbe; subst hbe; exact p1)
    generalize g_X8_say_0 M (nI mk) (nI tk) b x = N at *
    obtain ⟨n1, n2, n3, n4⟩ := Rr_rem h2' (e + 1) (bd + 19) (pnP cnt ns n)
    have bm : N 274 4 = nI mm := h2'.1.1.2.1
    have b1 : N 279 10 = nI n := (h2'.1.2.2.1 10 (by decide)).trans h2'.1.2.2.2.1
    have j1 : f_X9_isMember_274 N (nI mk) = 1 := by rw [mb_eq (M' := M) _ bm (by omega), if_pos a1]
    have j2 : f_X9_isMatter N (nI tk) = 1 := by rw [mt_eq N M, if_pos a2]
    have j3 : f_X9_in N x 1 9 = 1 := by rw [in_eq, if_pos a3]
    have c12 : ¬ nI n = 12 := fun z => absurd (q12.mp z) (by omega)
    have v1 := vx_11 (show n < 12 by omega)
    have v2 := vx_23 (show n < 12 by omega)
    have v3 := vx_35 (show n < 12 by omega)
    have v4 := vx_47 (show n < 12 by omega)
    have v5 := vx_59 (show n < 12 by omega)
    have v7 := vx_71 (show n < 12 by omega)
    have f9 : f_X9_say_274 N (nI mk) (nI tk) b x = nI n := by
      unfold f_X9_say_274
      rw [j1, if_pos c10, j2, if_neg c10, j3, if_pos c10, b1, if_pos c12]
    have n10 : g_X9_notes_274 N 279 10 = nI n := (n4.1.2.2.1 10 (by decide)).trans n4.1.2.2.2.1
    have g9 : ∃ A B C D E F, g_X9_say_274 N (nI mk) (nI tk) b x = z_row (z_row (z_row (z_row (z_row (z_row (z_row (g_X9_notes_274 N) 279 A) 279 B) 279 C) 279 D) 279 E) 279 F) 279 (bt (g_X9_notes_274 N 279) n (nI mk) (nI tk) b' x) := by
      unfold g_X9_say_274 bt
      rw [j1, if_pos c10, j2, if_neg c10, j3, if_pos c10, b1, if_pos c12, ix_11 (by omega), ix_23 (by omega), ix_35 (by omega), ix_47 (by omega), ix_59 (by omega), ix_71 (by omega)]
      by_cases c : b = 0
      · rw [if_pos c] at hbe ⊢
        subst hbe
        rw [ud_ne (show ¬ 10 = 71 + n by omega), ud_ne (show ¬ 10 = 59 + n by omega), ud_ne (show ¬ 10 = 47 + n by omega), ud_ne (show ¬ 10 = 35 + n by omega), ud_ne (show ¬ 10 = 23 + n by omega), ud_ne (show ¬ 10 = 11 + n by omega), n10, nI_1]
        exact ⟨_, _, _, _, _, _, rfl⟩
      · rw [if_neg c] at hbe ⊢
        subst hbe
        rw [ud_ne (show ¬ 10 = 71 + n by omega), ud_ne (show ¬ 10 = 59 + n by omega), ud_ne (show ¬ 10 = 47 + n by omega), ud_ne (show ¬ 10 = 35 + n by omega), ud_ne (show ¬ 10 = 23 + n by omega), ud_ne (show ¬ 10 = 11 + n by omega), n10, nI_1]
        exact ⟨_, _, _, _, _, _, rfl⟩
    obtain ⟨gA, gB, gC, gD, gE, gF, g9⟩ := g9
    have fl2 : ∀ c, c ≠ 279 → g_X9_say_274 N (nI mk) (nI tk) b x c = g_X9_notes_274 N c := fun c hc => by
      rw [g9, z_row_ne hc, z_row_ne hc, z_row_ne hc, z_row_ne hc, z_row_ne hc, z_row_ne hc, z_row_ne hc]
    have c9 := c_X9_say_274 (d := 7) (L := L) N (nI mk) (nI tk) b x (by
      unfold q_X9_say_274
      rw [b1]
      (repeat' apply And.intro) <;> intros <;> first | exact trivial | assumption | decide)
    refine ST_mk c8 c9 (by rw [f8, f9]) k1 (fun c hc => ?_) (Rr_core (M' := g_X9_say_274 N (nI mk) (nI tk) b x) n4 (fun j hj => ?_) (fun c hc => ?_) ?_) m4
    · rw [fl2 c (by omega), n2 c (by omega) (by omega)]
    · rw [fl2 274 (by decide)]
    · rw [fl2 c (by omega)]
    · refine RS_row n4.1 (by rw [fl2 274 (by decide)]) (by rw [fl2 274 (by decide)]) (fl2 _ (by decide)) (fl2 _ (by decide)) (fun j hj => ?_) (wf_bt n4.1.2.2.2 hm a4 hmk htk hb')
      rw [g9, z_row_eq]
      unfold bt
      exact ud_cong (ud_cong (ud_cong (ud_cong (ud_cong (ud_cong (ud_cong n4.1.2.2.1)))))) j hj
  · have x8 : ∀ {p : Prop}, f_X8_isOutside M m (nI mm) = 0 → f_X8_isOutside M t 8 = 0 → ¬ x < 1 → x ≤ 9 → nI n < 12 → p := fun k1 k2 k3 k4 k5 => absurd ⟨k1, k2, ⟨k3, k4⟩, l12.mp k5⟩ ac
    have c8 := c_X8_say_0 (d := 6) (L := L) M m t b x (by
      unfold q_X8_say_0
      rw [em, e1]
      exact ⟨x8, fun k1 k2 k3 k4 k5 => x8 k1 k2 k3 k4 k5, fun k1 k2 k3 k4 k5 => x8 k1 k2 k3 k4 k5, trivial⟩)
    have x9 : ∀ {p : Prop}, ¬ f_X9_isMember_274 M m = 0 → ¬ f_X9_isMatter M t = 0 → ¬ f_X9_in M x 1 9 = 0 → ¬ nI n = 12 → p := fun k1 k2 k3 k4 => absurd ⟨by rw [i1] at k1; exact Decidable.byContradiction fun k => k1 (if_neg k), by rw [i2] at k2; exact Decidable.byContradiction fun k => k2 (if_neg k), by rw [i3] at k3; exact Decidable.byContradiction fun k => k3 (if_neg k), Nat.lt_of_le_of_ne hn (fun z => k4 (q12.mpr z))⟩ ac
    have c9 := c_X9_say_274 (d := 7) (L := L) M m t b x (by
      unfold q_X9_say_274
      rw [r1]
      (repeat' apply And.intro) <;> intros <;> first | exact trivial | (apply x9 <;> assumption))
    have g8 : g_X8_say_0 M m t b x = M := by
      unfold g_X8_say_0
      rw [em, e1]
      split
      · split
        · rfl
        · split
          · rfl
          · split
            · split
              · apply x8 <;> first | assumption | (rename_i y _ _ _; exact Decidable.byContradiction y)
              · rfl
            · rfl
      · rfl
    have g9 : g_X9_say_274 M m t b x = M := by
      unfold g_X9_say_274
      rw [r1]
      split
      · split
        · rfl
        · split
          · split
            · apply x9 <;> assumption
            · rfl
          · rfl
      · rfl
    rw [g8] at c8
    rw [g9] at c9
    refine ST_q h0 c8 c9 ?_ (fun c _ => rfl) (fun c _ => rfl)
    unfold f_X8_say_0 f_X9_say_274
    rw [em, e1, r1, i1, i2, i3]
    by_cases b1 : f_X8_isOutside M m (nI mm) = 0 <;> by_cases b2 : f_X8_isOutside M t 8 = 0 <;> by_cases b3 : x < 1 <;> by_cases b4 : x ≤ 9 <;> by_cases b5 : n < 12 <;> first | (exfalso; apply ac; refine ⟨?_, ?_, ⟨?_, ?_⟩, ?_⟩ <;> assumption) | (have b6 : n = 12 ↔ ¬ n < 12 := ⟨fun z => by omega, fun z => by omega⟩; simp [b1, b2, b3, b4, b5, b6, l12, q12])
theorem rec_c {M : Nat → Nat → Int32} {cnt e bd mm m : Nat} {P : Nat → Nat → Int32} {ns : Nat → Nat} (h : PSc M cnt e bd mm P ns) (hw : PSw cnt mm P ns) (hm : mm ≤ 6) (h1 : 1 ≤ m) (h2 : m ≤ cnt) : q_X4_recall_49_20 M (nI m) ∧ (∀ c, c < 20 ∨ (27 < c ∧ c ≠ 49) → g_X4_recall_49_20 M (nI m) c = M c) ∧ PSc (g_X4_recall_49_20 M (nI m)) (cnt - m) (e - m) bd mm P ns ∧ rp (g_X4_recall_49_20 M (nI m)) 20 (P (cnt - m)) (ns (cnt - m)) mm := by
  obtain ⟨k1, ⟨k2, k6⟩, k3, k4, k5⟩ := h
  have e1 : M 49 1 - nI m = nI (e - m) := by rw [k1]; exact nI_sb (by omega)
  have ex : fm24 (nI (e - m)) = nI ((e - m) % 24) := fm_n _ (by omega)
  have ce : (nI ((e - m) % 24)).toNatClampNeg = (e - m) % 24 := nI_clamp (by omega)
  have es : nI cnt - nI m = nI (cnt - m) := by
    have : nI cnt = nI (cnt - m) + nI m := by rw [nI_add, Nat.sub_add_cancel h2]
    rw [this, Int32.add_sub_cancel]
  have eg : g_X4_recall_49_20 M (nI m) = cpB 20 (51 + 8 * ((e - m) % 24)) (z_row (z_row M 49 (upd (M 49) 1 (nI (e - m)))) 49 (upd (upd (M 49) 1 (nI (e - m))) 2 (nI (cnt - m)))) := by
    unfold g_X4_recall_49_20
    rw [e1, ex, ce, k3, es]
  have fr : ∀ c, c < 20 ∨ (27 < c ∧ c ≠ 49) → g_X4_recall_49_20 M (nI m) c = M c := fun c hc => by
    rw [eg, cpB_fr (by omega), z_row_ne (by omega), z_row_ne (by omega)]
  have e49 : g_X4_recall_49_20 M (nI m) 49 = upd (upd (M 49) 1 (nI (e - m))) 2 (nI (cnt - m)) := by
    rw [eg, cpB_fr (by omega), z_row_eq]
  refine ⟨⟨fun z => absurd ((nI_ltI (b := 1) (by omega) (by decide)).mp z) (by omega), by rw [k3]; exact nI_le h2 (by omega), by rw [e1, ex]; exact vi (by omega) (by decide)⟩, fr, ⟨by rw [e49, ud_ne (by decide), ud_eq], ⟨by omega, by omega⟩, by rw [e49, ud_eq], by omega, fun i hi => ?_⟩, ?_⟩
  · rw [show (e - m - (cnt - m) + i) % 24 = (e - cnt + i) % 24 by omega]
    exact rp_cong (k5 i (by omega)) (fun c x1 x2 => fr c (by omega))
  · rw [eg]
    have hw' := hw (cnt - m) (by omega)
    refine cpB_rp ?_ hw'.2.1 hm
    have := k5 (cnt - m) (by omega)
    rw [show (e - cnt + (cnt - m)) % 24 = (e - m) % 24 by omega] at this
    exact rp_cong this (fun c x1 x2 => by rw [z_row_ne (by omega), z_row_ne (by omega)])
theorem s_undo {bd : Nat} {M : Nat → Nat → Int32} {L : Nat → Nat → Int64} (h : RR (bd + 20) M L) (z : Int32) : ST bd 88 159 [.int z] M L := by
  have h0 := h
  obtain ⟨s, kd, sd, w, q, n, mm, cnt, e, P, ns, kp, I, nj, sj, seed, len, tx, fl, sc, ec, pp, h1, h2, h3⟩ := h
  have hm := h1.1.1.2.1
  have e2 : M 49 2 = nI cnt := h1.2.2.1.2.2.1
  have hc : cnt ≤ 24 := h1.2.2.1.2.2.2.1
  have r2 : M 274 11 = nI cnt := h2.2.2.1.1
  have i3 := in_eq M z 1 24
  by_cases ac : (¬ z < 1 ∧ z ≤ 24) ∧ z ≤ nI cnt
  · obtain ⟨⟨a1, a2⟩, a3⟩ := ac
    obtain ⟨m, hm1, hm2, rfl⟩ := i_one (Int32.not_lt.mp a1)
    have hmc : m ≤ cnt := (nI_leI hm1 (by omega)).mp a3
    obtain ⟨p1, fr, p2, p3⟩ := rec_c h1.2.2.1 h3.1 hm hm2 hmc
    have hwf := h3.1 (cnt - m) (by omega)
    have g8 : g_X8_undo_0 M (nI m) = g_X4_recall_49_20 M (nI m) := by
      unfold g_X8_undo_0
      rw [if_neg a1, if_pos a2, e2, if_pos a3]
    have f8 : f_X8_undo_0 M (nI m) = P (cnt - m) 0 := by
      unfold f_X8_undo_0
      rw [if_neg a1, if_pos a2, e2, if_pos a3]
      exact p3.1.2.1
    have c8 := c_X8_undo_0 (d := 6) (L := L) M (nI m) ⟨fun _ _ _ => p1, trivial⟩
    rw [f8, g8] at c8
    obtain ⟨y1, y2, y3, y4, y5, y6, y7, y8, y9⟩ := h1
    have k1 : Cc (g_X4_recall_49_20 M (nI m)) (P (cnt - m)) kd sd w q (ns (cnt - m)) mm (cnt - m) (e - m) (bd + 20) P ns kp I nj sj seed len tx fl sc ec pp := by
      refine ⟨⟨?_, ?_, p3, hwf⟩, ?_, p2, IMc_cong y4 (fun c x y => fr c (by omega)), ?_, ?_, ?_, ?_, ?_⟩
      · rw [fr 15 (by decide)]; exact y1.1
      · rw [fr 16 (by decide), fr 18 (by decide)]; exact y1.2.1
      · rw [fr 17 (by decide)]; exact y2
      · rw [fr 0 (by decide)]; exact y5
      · rw [fr 0 (by decide), fr 1 (by decide)]; exact y6
      · rw [fr 0 (by decide)]; exact y7
      · rw [fr 243 (by decide), fr 244 (by decide), fr 245 (by decide)]; exact y8
      · rw [fr 243 (by decide), fr 246 (by decide), fr 247 (by decide), fr 248 (by decide)]; exact y9
    have h2' := Rr_c (M' := g_X4_recall_49_20 M (nI m)) h2 (fun c hc => fr c (by omega))
    generalize g_X4_recall_49_20 M (nI m) = N at *
    obtain ⟨x1, x2, x3, x4, x5, x6, x7, x8, x9⟩ := h2'
    have b2 : N 274 11 = nI cnt := x3.1
    have es : nI cnt - nI m = nI (cnt - m) := by
      have : nI cnt = nI (cnt - m) + nI m := by rw [nI_add, Nat.sub_add_cancel hmc]
      rw [this, Int32.add_sub_cancel]
    have e83 : (83 : Int32) * nI (cnt - m) = nI (83 * (cnt - m)) := nI_mul 83 (cnt - m)
    obtain ⟨K, hK⟩ : ∃ K, K = z_row N 274 (upd (N 274) 11 (nI (cnt - m))) := ⟨_, rfl⟩
    have b := br_281_279 (M := K) (a := 83 * (cnt - m)) (b := 0) (N := 83) (by omega) (by omega)
    have fK : ∀ c, c ≠ 274 → K c = N c := fun c a => by rw [hK, z_row_ne a]
    have fB : ∀ c, c ≠ 279 → g_X9_bring_281_279 K (nI (83 * (cnt - m))) (nI 0) (nI 83) c = K c := fun c a => fr_g_X9_bring_281_279 K _ _ _ c a
    have row : ∀ j, j < 83 → g_X9_bring_281_279 K (nI (83 * (cnt - m))) (nI 0) (nI 83) 279 j = P (cnt - m) j := fun j hj => by
      rw [b.2, if_pos (by omega), fK 281 (by decide), Nat.sub_zero]
      exact x3.2.2 (cnt - m) (by omega) j hj
    have g9 : g_X9_undo_274 N (nI m) = g_X9_bring_281_279 K (nI (83 * (cnt - m))) (nI 0) (nI 83) := by
      unfold g_X9_undo_274
      rw [show f_X9_in N (nI m) 1 24 = 1 by rw [in_eq, if_pos ⟨a1, a2⟩], if_pos c10, b2, if_pos a3, es, e83, hK]
      rfl
    have f9 : f_X9_undo_274 N (nI m) = P (cnt - m) 0 := by
      unfold f_X9_undo_274
      rw [show f_X9_in N (nI m) 1 24 = 1 by rw [in_eq, if_pos ⟨a1, a2⟩], if_pos c10, b2, if_pos a3, es, e83, ← hK]
      exact row 0 (by decide)
    have c9 := c_X9_undo_274 (d := 8) (L := L) N (nI m) ⟨fun _ _ => by rw [b2, es, e83, ← hK]; exact b.1, trivial⟩
    rw [f9, g9] at c9
    refine ST_mk c8 c9 rfl k1 (fun c hc => ?_) (s := P (cnt - m)) (n := ns (cnt - m)) (cnt := cnt - m) (e := e - m) (bd := bd + 20) ?_ ⟨fun i hi => h3.1 i (by omega), h3.2⟩
    · rw [fB c (by omega), fK c (by omega)]
    · generalize g_X9_bring_281_279 K (nI (83 * (cnt - m))) (nI 0) (nI 83) = G at *
      have f0 : ∀ j, j ≠ 11 → G 274 j = N 274 j := fun j hj => by rw [fB 274 (by decide), hK, z_row_eq, ud_ne hj]
      have ff : ∀ c, c ≠ 274 → c ≠ 279 → G c = N c := fun c a1 a2 => by rw [fB c a2, fK c a1]
      refine ⟨RS_row x1 (f0 3 (by decide)) (f0 4 (by decide)) (ff _ (by decide) (by decide)) (ff _ (by decide) (by decide)) row hwf, ?_, ⟨?_, by omega, ?_⟩, ?_, x5, ?_, ?_, ?_, ?_⟩
      · rw [ff 277 (by decide) (by decide)]; exact x2
      · rw [fB 274 (by decide), hK, z_row_eq, ud_eq]
      · rw [ff 281 (by decide) (by decide)]; exact fun i hi => x3.2.2 i (by omega)
      · unfold IMr
        rw [ff 284 (by decide) (by decide), ff 282 (by decide) (by decide)]; exact x4
      · rw [f0 1 (by decide), ff 275 (by decide) (by decide)]; exact x6
      · rw [f0 2 (by decide)]; exact x7
      · rw [f0 17 (by decide), ff 285 (by decide) (by decide)]; exact x8
      · rw [f0 19 (by decide), ff 286 (by decide) (by decide)]; exact x9
  · have x8 : ∀ {p : Prop}, ¬ z < 1 → z ≤ 24 → z ≤ nI cnt → p := fun k3 k4 k5 => absurd ⟨⟨k3, k4⟩, k5⟩ ac
    have x9 : ∀ {p : Prop}, ¬ f_X9_in M z 1 24 = 0 → z ≤ nI cnt → p := fun k3 k4 => absurd ⟨by rw [i3] at k3; exact Decidable.byContradiction fun k => k3 (if_neg k), k4⟩ ac
    have c8 := c_X8_undo_0 (d := 6) (L := L) M z ⟨by rw [e2]; exact x8, trivial⟩
    have c9 := c_X9_undo_274 (d := 8) (L := L) M z ⟨by rw [r2]; exact x9, trivial⟩
    have g8 : g_X8_undo_0 M z = M := by
      unfold g_X8_undo_0
      rw [e2]
      split
      · rfl
      · split
        · split
          · apply x8 <;> assumption
          · rfl
        · rfl
    have g9 : g_X9_undo_274 M z = M := by
      unfold g_X9_undo_274
      rw [r2]
      split
      · split
        · apply x9 <;> assumption
        · rfl
      · rfl
    rw [g8] at c8
    rw [g9] at c9
    refine ST_q h0 c8 c9 ?_ (fun c _ => rfl) (fun c _ => rfl)
    unfold f_X8_undo_0 f_X9_undo_274
    rw [e2, r2, i3]
    by_cases b3 : z < 1 <;> by_cases b4 : z ≤ 24 <;> by_cases b5 : z ≤ nI cnt <;> first | (exfalso; apply ac; refine ⟨⟨?_, ?_⟩, ?_⟩ <;> assumption) | simp [b3, b4, b5]
theorem s_fault {bd : Nat} {M : Nat → Nat → Int32} {L : Nat → Nat → Int64} (h : RR (bd + 20) M L) : ST bd 78 126 [] M L := by
  have h0 := h
  obtain ⟨s, kd, sd, w, q, n, mm, cnt, e, P, ns, kp, I, nj, sj, seed, len, tx, fl, sc, ec, pp, h1, h2, h3⟩ := h
  exact ST_q h0 (c_X8_fault_0 (d := 9) (L := L) M) (c_X9_fault_274 (d := 9) (L := L) M) (h1.2.2.2.2.2.2.1.trans h2.2.2.2.2.2.2.1.symm) (fun c _ => rfl) (fun c _ => rfl)
theorem s_feed {bd : Nat} {M : Nat → Nat → Int32} {L : Nat → Nat → Int64} (h : RR (bd + 20) M L) (x : Int32) : ST bd 76 115 [.int x] M L := by
  have h0 := h
  obtain ⟨s, kd, sd, w, q, n, mm, cnt, e, P, ns, kp, I, nj, sj, seed, len, tx, fl, sc, ec, pp, h1, h2, h3⟩ := h
  have hl := h3.2.2.2.1
  have e2 : M 0 1 = nI len := h1.2.2.2.2.2.1.1
  have r2 : M 274 1 = nI len := h2.2.2.2.2.2.1.1
  have i3 : f_X9_in M x 0 255 = if f_X8_isOutside M x 256 = 0 then 1 else 0 := io_eq M M x 255 (by decide)
  have l12 : (nI len < 240) ↔ len < 240 := nI_ltI (b := 240) (by omega) (by decide)
  have q12 : (nI len = 240) ↔ len = 240 := nI_eq (b := 240) (by omega) (by decide)
  by_cases ac : f_X8_isOutside M x 256 = 0 ∧ len < 240
  · obtain ⟨a1, a2⟩ := ac
    have cl : (nI len).toNatClampNeg = len := nI_clamp (by omega)
    have g8 : g_X8_feed_0 M x = z_row (z_row M 1 (upd (M 1) len x)) 0 (upd (M 0) 1 (nI (len + 1))) := by
      unfold g_X8_feed_0
      rw [if_pos a1, e2, if_pos (l12.mpr a2), cl, nI_1]
    have f8 : f_X8_feed_0 M x = nI (len + 1) := by
      unfold f_X8_feed_0
      rw [if_pos a1, e2, if_pos (l12.mpr a2), nI_1]
    have c8 := c_X8_feed_0 (d := 8) (L := L) M x ⟨fun _ _ => by rw [e2]; exact vi a2 (by decide), trivial⟩
    rw [f8, g8] at c8
    have f1 : ∀ c, 1 < c → z_row (z_row M 1 (upd (M 1) len x)) 0 (upd (M 0) 1 (nI (len + 1))) c = M c := fun c hc => by rw [z_row_ne (by omega), z_row_ne (by omega)]
    obtain ⟨y1, y2, y3, y4, y5, y6, y7, y8, y9⟩ := h1
    have k1 : Cc (z_row (z_row M 1 (upd (M 1) len x)) 0 (upd (M 0) 1 (nI (len + 1)))) s kd sd w q n mm cnt e (bd + 20) P ns kp I nj sj seed (len + 1) (upd tx len x) fl sc ec pp := by
      refine ⟨?_, y2, PSc_cong y3 (fun c x y => f1 c (by omega)), IMc_cong y4 (fun c x y => f1 c (by omega)), ?_, ⟨?_, ?_⟩, ?_, y8, y9⟩
      · exact ⟨y1.1, y1.2.1, rp_cong y1.2.2.1 (fun c x1 x2 => f1 c (by omega)), y1.2.2.2⟩
      · rw [z_row_eq, ud_ne (by decide)]; exact y5
      · rw [z_row_eq, ud_eq]
      · intro k hk
        rw [z_row_ne (by decide), z_row_eq, ud_if, ud_if]
        by_cases c : k = len
        · rw [if_pos c, if_pos c]
        · rw [if_neg c, if_neg c]; exact y6.2 k (by omega)
      · rw [z_row_eq, ud_ne (by decide)]; exact y7
    have h2' := Rr_c (M' := z_row (z_row M 1 (upd (M 1) len x)) 0 (upd (M 0) 1 (nI (len + 1)))) h2 (fun c hc => f1 c (by omega))
    generalize z_row (z_row M 1 (upd (M 1) len x)) 0 (upd (M 0) 1 (nI (len + 1))) = N at *
    have b2 : N 274 1 = nI len := h2'.2.2.2.2.2.1.1
    have j3 : f_X9_in N x 0 255 = 1 := (io_eq N M x 255 (by decide)).trans (if_pos a1)
    have c12 : ¬ nI len = 240 := fun z => absurd (q12.mp z) (by omega)
    have g9 : g_X9_feed_274 N x = z_row (z_row N 275 (upd (N 275) len x)) 274 (upd (N 274) 1 (nI (len + 1))) := by
      unfold g_X9_feed_274
      rw [j3, if_pos c10, b2, if_pos c12, cl, nI_1]
    have f9 : f_X9_feed_274 N x = nI (len + 1) := by
      unfold f_X9_feed_274
      rw [j3, if_pos c10, b2, if_pos c12, nI_1]
    have c9 := c_X9_feed_274 (d := 8) (L := L) N x ⟨fun _ _ => by rw [b2]; exact vi a2 (by decide), trivial⟩
    rw [f9, g9] at c9
    obtain ⟨x1, x2, x3, x4, x5, x6, x7, x8, x9⟩ := h2'
    have f0 : ∀ j, j ≠ 1 → z_row (z_row N 275 (upd (N 275) len x)) 274 (upd (N 274) 1 (nI (len + 1))) 274 j = N 274 j := fun j hj => by rw [z_row_eq, ud_ne hj]
    refine ST_mk c8 c9 rfl k1 (fun c hc => by rw [z_row_ne (by omega), z_row_ne (by omega)]) ⟨RS_cong_279 x1 (f0 3 (by decide)) (f0 4 (by decide)) rfl rfl rfl, x2, ⟨?_, x3.2⟩, x4, x5, ⟨?_, ?_⟩, ?_, ⟨?_, x8.2⟩, ⟨?_, x9.2⟩⟩ ⟨h3.1, h3.2.1, h3.2.2.1, by omega, h3.2.2.2.2⟩
    · rw [f0 11 (by decide)]; exact x3.1
    · rw [z_row_eq, ud_eq]
    · intro k hk
      rw [z_row_ne (by decide), z_row_eq, ud_if, ud_if]
      by_cases c : k = len
      · rw [if_pos c, if_pos c]
      · rw [if_neg c, if_neg c]; exact x6.2 k (by omega)
    · rw [f0 2 (by decide)]; exact x7
    · rw [f0 17 (by decide)]; exact x8.1
    · rw [f0 19 (by decide)]; exact x9.1
  · have c8 := c_X8_feed_0 (d := 8) (L := L) M x ⟨fun k1 k2 => absurd ⟨k1, by rw [e2] at k2; exact l12.mp k2⟩ ac, trivial⟩
    have x9 : ∀ {p : Prop}, ¬ f_X9_in M x 0 255 = 0 → ¬ nI len = 240 → p := fun k3 k4 => absurd ⟨by rw [i3] at k3; exact Decidable.byContradiction fun k => k3 (if_neg k), Nat.lt_of_le_of_ne hl (fun z => k4 (q12.mpr z))⟩ ac
    have c9 := c_X9_feed_274 (d := 8) (L := L) M x ⟨by rw [r2]; exact x9, trivial⟩
    have g8 : g_X8_feed_0 M x = M := by
      unfold g_X8_feed_0
      rw [e2]
      split
      · split
        · rename_i k1 k2; exact absurd ⟨k1, l12.mp k2⟩ ac
        · rfl
      · rfl
    have g9 : g_X9_feed_274 M x = M := by
      unfold g_X9_feed_274
      rw [r2]
      split
      · split
        · apply x9 <;> assumption
        · rfl
      · rfl
    rw [g8] at c8
    rw [g9] at c9
    refine ST_q h0 c8 c9 ?_ (fun c _ => rfl) (fun c _ => rfl)
    unfold f_X8_feed_0 f_X9_feed_274
    rw [e2, r2, i3]
    by_cases b3 : f_X8_isOutside M x 256 = 0 <;> by_cases b5 : len < 240 <;> first | (exfalso; apply ac; refine ⟨?_, ?_⟩ <;> assumption) | (have b6 : len = 240 ↔ ¬ len < 240 := ⟨fun z => by omega, fun z => by omega⟩; simp [b3, b5, b6, l12, q12])
theorem s_seed {bd : Nat} {M : Nat → Nat → Int32} {L : Nat → Nat → Int64} (h : RR (bd + 20) M L) (x : Int32) : ST bd 100 177 [.int x] M L := by
  have h0 := h
  obtain ⟨s, kd, sd, w, q, n, mm, cnt, e, P, ns, kp, I, nj, sj, seed, len, tx, fl, sc, ec, pp, h1, h2, h3⟩ := h
  have e2 : M 0 3 = nI seed := h1.2.2.2.2.1
  have r2 : L 274 12 = lN seed := h2.2.2.2.2.1
  have c8 := c_X8_seed_0 (d := 9) (L := L) M x
  by_cases a1 : (0 : Int32) ≤ x
  · obtain ⟨v, hv, rfl⟩ := nI_of (Int32.not_lt.mpr a1)
    have g8 : g_X8_seed_0 M (nI v) = z_row M 0 (upd (M 0) 3 (nI v)) := by unfold g_X8_seed_0; rw [if_pos a1]
    have f8 : f_X8_seed_0 M (nI v) = nI seed := by unfold f_X8_seed_0; rw [if_pos a1, e2]
    rw [f8, g8] at c8
    have f1 : ∀ c, 0 < c → z_row M 0 (upd (M 0) 3 (nI v)) c = M c := fun c hc => by rw [z_row_ne (by omega)]
    obtain ⟨y1, y2, y3, y4, y5, y6, y7, y8, y9⟩ := h1
    have k1 : Cc (z_row M 0 (upd (M 0) 3 (nI v))) s kd sd w q n mm cnt e (bd + 20) P ns kp I nj sj v len tx fl sc ec pp := by
      refine ⟨⟨y1.1, y1.2.1, rp_cong y1.2.2.1 (fun c x1 x2 => f1 c (by omega)), y1.2.2.2⟩, y2, PSc_cong y3 (fun c x y => f1 c (by omega)), IMc_cong y4 (fun c x y => f1 c (by omega)), ?_, ⟨?_, y6.2⟩, ?_, y8, y9⟩
      · rw [z_row_eq, ud_eq]
      · rw [z_row_eq, ud_ne (by decide)]; exact y6.1
      · rw [z_row_eq, ud_ne (by decide)]; exact y7
    have h2' := Rr_c (M' := z_row M 0 (upd (M 0) 3 (nI v))) h2 (fun c hc => f1 c (by omega))
    generalize z_row M 0 (upd (M 0) 3 (nI v)) = N at *
    have c9 := c_X9_seed_274 (d := 9) N L (nI v)
    have f9 : f_X9_seed_274 N L (nI v) = nI seed := by unfold f_X9_seed_274; rw [if_pos a1, r2, lN_i]
    have g9 : h_X9_seed_274 N L (nI v) = z_row L 274 (vp_updL (L 274) 12 (lN v)) := by unfold h_X9_seed_274; rw [if_pos a1, nI_l hv]
    rw [f9, g9] at c9
    obtain ⟨x1, x2, x3, x4, x5, x6, x7, x8, x9⟩ := h2'
    refine ST_mk c8 c9 rfl k1 (fun c hc => rfl) ⟨x1, x2, x3, ?_, ?_, x6, x7, x8, x9⟩ ⟨h3.1, h3.2.1, hv, h3.2.2.2⟩
    · intro i hi
      obtain ⟨u1, u2⟩ := x4 i hi
      exact ⟨u1, fun z => ⟨(u2 z).1, (by rw [z_row_ne (by decide)]; exact (u2 z).2)⟩⟩
    · rw [z_row_eq]; exact if_pos rfl
  · have g8 : g_X8_seed_0 M x = M := by unfold g_X8_seed_0; rw [if_neg a1]
    have c9 := c_X9_seed_274 (d := 9) M L x
    have g9 : h_X9_seed_274 M L x = L := by unfold h_X9_seed_274; rw [if_neg a1]
    rw [g8] at c8
    rw [g9] at c9
    refine ST_q h0 c8 c9 ?_ (fun c _ => rfl) (fun c _ => rfl)
    unfold f_X8_seed_0 f_X9_seed_274
    rw [if_neg a1, if_neg a1]
theorem s_tear {bd : Nat} {M : Nat → Nat → Int32} {L : Nat → Nat → Int64} (h : RR (bd + 20) M L) : ST bd 99 176 [] M L := by
  obtain ⟨s, kd, sd, w, q, n, mm, cnt, e, P, ns, kp, I, nj, sj, seed, len, tx, fl, sc, ec, pp, h1, h2, h3⟩ := h
  have e8 : M 243 0 = nI sc := h1.2.2.2.2.2.2.2.1.1
  have e9 : M 243 3 = nI ec := h1.2.2.2.2.2.2.2.2.1
  have c8 := c_X8_tear_0 (d := 8) (L := L) M
  have f8 : f_X8_tear_0 M = nI sc + nI ec := by unfold f_X8_tear_0; rw [e8, e9]
  have g8 : g_X8_tear_0 M = z_row (z_row M 243 (upd (M 243) 0 0)) 243 (upd (upd (M 243) 0 0) 3 0) := rfl
  rw [f8, g8] at c8
  have f1 : ∀ c, c ≠ 243 → z_row (z_row M 243 (upd (M 243) 0 0)) 243 (upd (upd (M 243) 0 0) 3 0) c = M c := fun c hc => by rw [z_row_ne hc, z_row_ne hc]
  obtain ⟨y1, y2, y3, y4, y5, y6, y7, y8, y9⟩ := h1
  have k1 : Cc (z_row (z_row M 243 (upd (M 243) 0 0)) 243 (upd (upd (M 243) 0 0) 3 0)) s kd sd w q n mm cnt e (bd + 20) P ns kp I nj sj seed len tx fl 0 0 pp := by
    refine ⟨CS_cong_28 y1 (fun c hc => f1 c (by omega)), y2, PSc_cong y3 (fun c x y => f1 c (by omega)), IMc_cong y4 (fun c x y => f1 c (by omega)), y5, y6, y7, ⟨?_, fun k hk => absurd hk (by omega)⟩, ⟨?_, fun k hk => absurd hk (by omega)⟩⟩
    · rw [z_row_eq, ud_ne (by decide), ud_eq]; rfl
    · rw [z_row_eq, ud_eq]; rfl
  have h2' := Rr_c (M' := z_row (z_row M 243 (upd (M 243) 0 0)) 243 (upd (upd (M 243) 0 0) 3 0)) h2 (fun c hc => f1 c (by omega))
  generalize z_row (z_row M 243 (upd (M 243) 0 0)) 243 (upd (upd (M 243) 0 0) 3 0) = N at *
  have c9 := c_X9_tear_274 (d := 9) (L := L) N
  obtain ⟨x1, x2, x3, x4, x5, x6, x7, x8, x9⟩ := h2'
  have f9 : f_X9_tear_274 N = nI sc + nI ec := by unfold f_X9_tear_274; rw [x8.1, x9.1]
  rw [f9] at c9
  unfold g_X9_tear_274 at c9
  have f0 : ∀ j, j ≠ 17 → j ≠ 19 → z_row (z_row N 274 (upd (N 274) 17 0)) 274 (upd (upd (N 274) 17 0) 19 0) 274 j = N 274 j := fun j h1 h2 => by rw [z_row_eq, ud_ne h2, ud_ne h1]
  refine ST_mk c8 c9 rfl k1 (fun c hc => by rw [z_row_ne (by omega), z_row_ne (by omega)]) ⟨RS_cong_279 x1 (f0 3 (by decide) (by decide)) (f0 4 (by decide) (by decide)) rfl rfl rfl, x2, ⟨?_, x3.2⟩, x4, x5, ⟨?_, x6.2⟩, ?_, ⟨?_, fun k hk => absurd hk (by omega)⟩, ⟨?_, fun k hk => absurd hk (by omega)⟩⟩ ⟨h3.1, h3.2.1, h3.2.2.1, h3.2.2.2.1, by omega, by omega, fun k hk => absurd hk (by omega), h3.2.2.2.2.2.2.2⟩
  · rw [f0 11 (by decide) (by decide)]; exact x3.1
  · rw [f0 1 (by decide) (by decide)]; exact x6.1
  · rw [f0 2 (by decide) (by decide)]; exact x7
  · rw [z_row_eq, ud_ne (by decide), ud_eq]; rfl
  · rw [z_row_eq, ud_eq]; rfl
