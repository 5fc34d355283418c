/-! THE FEWEST STRAPS TO LET GO: both sides meet -/
theorem mg_ga (kd w s : Nat → Int32) (n : Nat) (t : Int32) (X : Nat) (k : Nat) : mg kd w (lrow s X n) n k t + nI (2 * k) = nI (sN k (fun j => ga kd w s n t j X)) := by
  induction k with
  | zero => rfl
  | succ k ih =>
    have e : mg kd w (lrow s X n) n (k + 1) t = mg kd w (lrow s X n) n k t + gn kd w (lrow s X n) n k t := rfl
    rw [e, sN_s, ← nI_add, ← ih, ← (ga_4 kd w s n t k X).1, show 2 * (k + 1) = 2 * k + 2 by omega, ← nI_add]
    show mg kd w (lrow s X n) n k t + gn kd w (lrow s X n) n k t + (nI (2 * k) + 2) = mg kd w (lrow s X n) n k t + nI (2 * k) + (gn kd w (lrow s X n) n k t + 2)
    generalize mg kd w (lrow s X n) n k t = a
    generalize gn kd w (lrow s X n) n k t = b
    generalize nI (2 * k) = c
    rw [Int32.add_assoc, Int32.add_assoc, ← Int32.add_assoc b c, Int32.add_comm b c, Int32.add_assoc c b]
theorem mg_pos {kd w s : Nat → Int32} {n mm : Nat} (hm : mm ≤ 6) {t : Int32} {X : Nat} : 0 < mg kd w (lrow s X n) n mm t ↔ 13 ≤ xi kd w s n t mm X := by
  have h1 := mg_ga kd w s n t X mm
  have h2 := sga kd w s n t mm X
  have e : mg kd w (lrow s X n) n mm t = nI (sN mm (fun j => ga kd w s n t j X)) - nI (2 * mm) := by rw [← h1, Int32.add_sub_cancel]
  rw [e, Int32.lt_iff_toInt_lt, pk_sub_toInt (by omega) (by omega)]
  have : (0 : Int32).toInt = 0 := by decide
  rw [this]
  unfold xi
  omega
theorem fw_c {M : Nat → Nat → Int32} {s kd w : Nat → Int32} {q : Int32} {n mm : Nat} (h : CS_28 M s kd w q n mm) (t : Int32) : q_X7_fewestToPass_32 M t ∧ f_X7_fewestToPass_32 M t = oI (lpb (lsV kd w s n mm t) (alS s n) none (alS s n + 1)) := by
  have hn := h.2.2.2.2.1
  have hm := h.1.2.1
  have how := h.2.2.2.2.2.1
  obtain ⟨f1, f2⟩ := fill_46 M
  have fr46 : ∀ c, c ≠ 46 → g_X7_fill_46 M 1048576 c = M c := fun c hc => fr_g_X7_fill_46 M _ c hc
  obtain ⟨Z, hZ⟩ : ∃ Z, Z = z_row (g_X7_fill_46 M 1048576) 46 (upd (g_X7_fill_46 M 1048576 46) 12 0) := ⟨_, rfl⟩
  have cZ : CS_28 Z s kd w q n mm := CS_cong_28 h (fun c hc => by rw [hZ, z_row_ne (by omega), fr46 c (by omega)])
  have dZ : DPI Z kd w s n t 0 := by
    refine ⟨fun i => if i = 12 then 0 else NV, fun i hi => ?_, fun i hi hl => ?_, fun X hX => ?_⟩
    · dsimp only
      rw [hZ, z_row_eq, ud_if]
      by_cases c : i = 12
      · rw [if_pos c, if_pos c]; exact ⟨rfl, by decide⟩
      · rw [if_neg c, if_neg c]; exact ⟨f2 i hi, Nat.le_refl _⟩
    · dsimp only at hl ⊢
      by_cases c : i = 12
      · rw [if_pos c]; exact ⟨0, sub_0 _, c.symm, by decide⟩
      · rw [if_neg c] at hl; exact absurd hl (Nat.lt_irrefl _)
    · dsimp only
      rw [show xi kd w s n t 0 X = 12 from rfl, if_pos rfl]
      exact Nat.zero_le _
  have em : (Z 15 1).toNatClampNeg = mm := em_c cZ
  have lp : ∀ k, k ≤ mm → (∀ i, i < k → qi_X7_fewestToPass_32_19 (s_X7_fewestToPass_32_19 Z t i) t (nI i)) ∧ CS_28 (s_X7_fewestToPass_32_19 Z t k) s kd w q n mm ∧ DPI (s_X7_fewestToPass_32_19 Z t k) kd w s n t k := by
    intro k
    induction k with
    | zero => intro _; exact ⟨fun i hi => absurd hi (by omega), cZ, dZ⟩
    | succ k ih =>
      intro hk
      obtain ⟨i1, i2, i3⟩ := ih (by omega)
      have hs : s_X7_fewestToPass_32_19 Z t (k + 1) = g_X7_joinGains_32 (g_X7_priceGains_32 (s_X7_fewestToPass_32_19 Z t k) (nI k) t) := rfl
      rw [hs]
      clear hs
      generalize hr : s_X7_fewestToPass_32_19 Z t k = A at *
      obtain ⟨p1, p2, G, p3⟩ := pg_c i2 t (show k < mm by omega)
      have e46 : g_X7_priceGains_32 A (nI k) t 46 = A 46 := fr_g_X7_priceGains_32 A (nI k) t 46 (by decide) (by decide) (by decide) (by decide) (by decide) (by decide) (by decide) (by decide)
      obtain ⟨d1, d2⟩ := dp_step (mm := mm) hn (show k < 6 by omega) (fun j hj => by obtain ⟨o, ho, eo⟩ := how j hj; exact ⟨o, by omega, eo⟩) i3 e46 p3 rfl
      refine ⟨fun i hi => ?_, CS_cong_28 p2 (fun c hc => fr_g_X7_joinGains_32 _ c (by omega) (by omega)), d2⟩
      by_cases c : i = k
      · subst c
        rw [hr]
        unfold qi_X7_fewestToPass_32_19
        exact ⟨p1, d1, trivial⟩
      · exact i1 i (by omega)
  obtain ⟨i1, i2, P, p1, p2, p3⟩ := lp mm (Nat.le_refl mm)
  unfold q_X7_fewestToPass_32 f_X7_fewestToPass_32
  rw [← hZ, em]
  generalize s_X7_fewestToPass_32_19 Z t mm = A at *
  have c3 : ∀ k, (s_X7_fewestToPass_32_55 A t 1048576 13 k).2 = nI (13 + k) := by
    intro k
    induction k with
    | zero => rfl
    | succ k ih =>
      have hs : (s_X7_fewestToPass_32_55 A t 1048576 13 (k + 1)).2 = (s_X7_fewestToPass_32_55 A t 1048576 13 k).2 + 1 := rfl
      rw [hs, ih, nI_1]
      rfl
  have lm : ∀ k, k ≤ 12 → ∃ K, (s_X7_fewestToPass_32_55 A t 1048576 13 k).1 = nI K ∧ K ≤ NV ∧ (∀ i, i < k → K ≤ P (13 + i)) ∧ (K = NV ∨ ∃ i, i < k ∧ K = P (13 + i)) := by
    intro k
    induction k with
    | zero => intro _; exact ⟨NV, rfl, Nat.le_refl _, fun i hi => absurd hi (by omega), Or.inl rfl⟩
    | succ k ih =>
      intro hk
      obtain ⟨K, e1, e2, e3, e4⟩ := ih (by omega)
      have hs : (s_X7_fewestToPass_32_55 A t 1048576 13 (k + 1)).1 = e_X7_fewestToPass_32_55_c2 A t (s_X7_fewestToPass_32_55 A t 1048576 13 k).1 (s_X7_fewestToPass_32_55 A t 1048576 13 k).2 := rfl
      obtain ⟨u1, u2⟩ := p1 (13 + k) (by omega)
      have lt : (nI (P (13 + k)) < nI K) ↔ P (13 + k) < K := nI_ltI (by unfold NV at u2; omega) (by unfold NV at e2; omega)
      rw [hs, e1, c3]
      unfold e_X7_fewestToPass_32_55_c2
      rw [nI_clamp (by omega), u1]
      by_cases c : P (13 + k) < K
      · rw [if_pos (lt.mpr c)]
        refine ⟨P (13 + k), rfl, u2, fun i hi => ?_, Or.inr ⟨k, by omega, rfl⟩⟩
        by_cases d : i = k
        · subst d; exact Nat.le_refl _
        · have := e3 i (by omega); omega
      · rw [if_neg (fun z => c (lt.mp z))]
        refine ⟨K, rfl, e2, fun i hi => ?_, ?_⟩
        · by_cases d : i = k
          · subst d; omega
          · exact e3 i (by omega)
        · rcases e4 with z | ⟨i, z1, z2⟩
          · exact Or.inl z
          · exact Or.inr ⟨i, by omega, z2⟩
  have tt : ∀ k, k ≤ 12 → t_X7_fewestToPass_32_55 A t (s_X7_fewestToPass_32_55 A t 1048576 13 k).1 (s_X7_fewestToPass_32_55 A t 1048576 13 k).2 = decide (k < 12) := fun k hk => by
    unfold t_X7_fewestToPass_32_55
    rw [c3]
    have l : ((25 : Int32) ≤ nI (13 + k)) ↔ 25 ≤ 13 + k := nI_leI (a := 25) (by decide) (by omega)
    by_cases c : k < 12
    · rw [if_neg (fun z => absurd (l.mp z) (by omega)), decide_eq_true c]
    · rw [if_pos (l.mpr (by omega)), decide_eq_false c]
  have eN : n_X7_fewestToPass_32_55 A t 1048576 13 = 12 := z_fst_eq (Nat.le_refl _) (fun k hk => by rw [tt k (by omega)]; exact decide_eq_true hk) (by rw [tt 12 (Nat.le_refl _)]; rfl)
  rw [eN]
  refine ⟨⟨f1, i1, fun k hk => ⟨fun _ => by rw [c3]; exact vi (by omega) (by decide), trivial⟩, by rw [tt 12 (Nat.le_refl _)]; rfl, fun z => absurd (by rw [c3]; decide) z, trivial⟩, ?_⟩
  obtain ⟨K, e1, e2, e3, e4⟩ := lm 12 (Nat.le_refl _)
  rw [e1]
  have ha : alS s n < 4096 := bN_4096 hn _
  obtain ⟨v1, v2⟩ := lpb_inv ha (Or.inl rfl) (V := lsV kd w s n mm t) (alS s n + 1) (Nat.le_refl _)
  have same : ∀ X, sub X (alS s n) ↔ sub X (owU s n mm) := fun X => by
    constructor
    · intro hX k hk
      obtain ⟨a1, a2⟩ := alS_b.mp (hX k hk)
      obtain ⟨o, ho, eo⟩ := how k a1
      exact owU_b.mpr ⟨a1, a2, by rw [eo, nI_clamp (by omega)]; exact ho⟩
    · intro hX k hk
      obtain ⟨a1, a2, a3⟩ := owU_b.mp (hX k hk)
      exact alS_b.mpr ⟨a1, a2⟩
  have V1 : ∀ x, x < 4096 → lsV kd w s n mm t x = true → K ≤ pz x := fun x hx hv => by
    obtain ⟨z1, z2⟩ := of_decide_eq_true hv
    have hs : sub x (owU s n mm) := (same x).mp ((dif_0 hx).mp z1)
    have h13 := (mg_pos hm).mp z2
    have h24 := sga kd w s n t mm x
    have pl := p3 x hs
    have hk := e3 (xi kd w s n t mm x - 13) (by unfold xi at h13 ⊢; omega)
    rw [show 13 + (xi kd w s n t mm x - 13) = xi kd w s n t mm x by omega] at hk
    omega
  by_cases cK : K = NV
  · rw [if_neg (not_not_intro (show nI K = 1048576 by rw [cK]; rfl))]
    cases hr : lpb (lsV kd w s n mm t) (alS s n) none (alS s n + 1) with
    | none => rfl
    | some x =>
      obtain ⟨w1, w2, w3⟩ := v1 x hr
      have := V1 x (by omega) w1
      have := pz_NV (show x < 4096 by omega)
      omega
  · have neK : ¬ nI K = 1048576 := fun z => cK ((nI_eq (b := NV) (by unfold NV at e2; omega) (by decide)).mp z)
    rw [if_pos neK]
    obtain ⟨i, hi, ei⟩ := e4.resolve_left cK
    obtain ⟨X0, x1, x2, x3⟩ := p2 (13 + i) (by omega) (by omega)
    have sX : sub X0 (alS s n) := (same X0).mpr x1
    have lX : X0 < 4096 := Nat.lt_of_le_of_lt (sub_leW 12 _ _ ha sX) ha
    have vX : lsV kd w s n mm t X0 = true := decide_eq_true ⟨(dif_0 lX).mpr sX, (mg_pos hm).mpr (by omega)⟩
    obtain ⟨x, hx, hp⟩ := v2 X0 vX (sub_leW 12 _ _ ha sX) (by omega)
    obtain ⟨w1, w2, w3⟩ := v1 x hx
    have := V1 x (by omega) w1
    have eK : K = pz x := by omega
    rw [hx]
    show nI K - nI K / nI 4096 * nI 4096 = nI x
    rw [pk_rem (by unfold NV at e2; omega) (by decide) (by decide), eK, show pz x % 4096 = x by unfold pz; omega]
theorem s_matter_3 {bd : Nat} {M : Nat → Nat → Int32} {L : Nat → Nat → Int64} (h : RR (bd + 20) M L) (t : Int32) : ST bd 90 165 [.int t, .int 3] M L := by
  have h0 := h
  obtain ⟨s, kd, sd, w, q, n, mm, cnt, e, P, ns, kp, I, nj, sj, seed, len, tx, fl, sc, ec, pp, h1, h2, h3⟩ := h
  have i2 := mt_eq M M t
  by_cases a1 : f_X8_isOutside M t 8 = 0
  · obtain ⟨p1, p2⟩ := fw_c h1.1 t
    have fr : ∀ c, (c < 28 ∨ 48 < c) ∧ (c < 268 ∨ 273 < c) → g_X8_matter_w3 M t c = M c := fun c hc => fr_g_X8_matter_w3 M t c (by omega) (by omega) (by omega) (by omega) (by omega) (by omega) (by omega) (by omega) (by omega) (by omega)
    have c8 := c_X8_matter_w3 (d := 5) (L := L) M t ⟨fun _ => p1, trivial⟩
    have h2' := Rr_c (M' := g_X8_matter_w3 M t) h2 (fun c hc => fr c (by omega))
    generalize g_X8_matter_w3 M t = N at *
    obtain ⟨r1, r2⟩ := le_r h2'.1 t
    refine ST_q h0 c8 (c_X9_matter_w3 (d := 3) (L := L) N t ⟨fun _ => r1, trivial⟩) ?_ (fun c hc => fr c (by omega)) (fun c hc => fr_g_X9_matter_w3 N t c (by omega))
    unfold f_X8_matter_w3 f_X9_matter_w3
    rw [if_pos a1, mt_eq N M t, if_pos a1, if_pos c10, p2, r2]
  · have i0 : f_X9_isMatter M t = 0 := by rw [i2, if_neg a1]
    have c8 := c_X8_matter_w3 (d := 5) (L := L) M t ⟨fun z => absurd z a1, trivial⟩
    have c9 := c_X9_matter_w3 (d := 3) (L := L) M t ⟨fun z => absurd i0 z, trivial⟩
    have g8 : g_X8_matter_w3 M t = M := by unfold g_X8_matter_w3; rw [if_neg a1]
    have g9 : g_X9_matter_w3 M t = M := by unfold g_X9_matter_w3; rw [i0, if_neg (not_not_intro rfl)]
    rw [g8] at c8
    rw [g9] at c9
    refine ST_q h0 c8 c9 ?_ (fun c _ => rfl) (fun c _ => rfl)
    unfold f_X8_matter_w3 f_X9_matter_w3
    rw [if_neg a1, i0, if_neg (not_not_intro rfl)]
theorem s_matter {bd : Nat} {M : Nat → Nat → Int32} {L : Nat → Nat → Int64} (h : RR (bd + 20) M L) (t y : Int32) : ST bd 90 165 [.int t, .int y] M L := by
  rcases rng y (N := 5) (by decide) with ⟨k, hk, rfl⟩ | c
  · match k, hk with
    | 0, _ => exact s_matter_0 h t
    | 1, _ => exact s_matter_1 h t
    | 2, _ => exact s_matter_2 h t
    | 3, _ => exact s_matter_3 h t
    | 4, _ => exact s_matter_4 h t
    | _ + 5, hk => exact absurd hk (by omega)
  · have c' := to_out (N := 4) (by decide) c
    exact ST_q h (c_X8_matter_wout (d := 8) (L := L) M t y c') (c_X9_matter_wout (d := 7) (L := L) M t y c') rfl (fun c _ => rfl) (fun c _ => rfl)
