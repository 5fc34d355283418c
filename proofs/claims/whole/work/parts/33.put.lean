/-! A MATTER IS PUT: the row behind it -/
theorem pt_st {kd w s : Nat → Int32} {q : Int32} {n mm : Nat} {t : Int32} {j : Nat} (h : 2 < j) (h2 : ¬ (59 ≤ j ∧ j < 59 + n)) (h3 : ¬ (71 ≤ j ∧ j < 71 + n)) : pt kd w s q n mm t j = s j := by
  unfold pt
  rw [if_neg (by omega), if_neg (by omega), if_neg (by omega), if_neg h2, if_neg h3]
theorem pt_59 {kd w s : Nat → Int32} {q : Int32} {n mm : Nat} {t : Int32} {j : Nat} (h : j < n) : pt kd w s q n mm t (59 + j) = s (59 + j) + sn kd w s n j t := by
  unfold pt
  rw [if_neg (by omega), if_neg (by omega), if_neg (by omega), if_pos (by omega), Nat.add_sub_cancel_left]
theorem pt_71 {kd w s : Nat → Int32} {q : Int32} {n mm : Nat} {t : Int32} {j : Nat} (h : j < n) (hn : n ≤ 12) : pt kd w s q n mm t (71 + j) = if gv kd w s q n j t = true then 1 else s (71 + j) := by
  unfold pt
  rw [if_neg (by omega), if_neg (by omega), if_neg (by omega), if_neg (by omega), if_pos (by omega), Nat.add_sub_cancel_left]
theorem pt_0 {kd w s : Nat → Int32} {q : Int32} {n mm : Nat} {t : Int32} : pt kd w s q n mm t 0 = s 0 + 1 := if_pos rfl
theorem pt_1 {kd w s : Nat → Int32} {q : Int32} {n mm : Nat} {t : Int32} : pt kd w s q n mm t 1 = if 0 < mg kd w s n mm t then s 1 + 1 else s 1 := by
  unfold pt
  rw [if_neg (by omega), if_pos rfl]
theorem pt_2 {kd w s : Nat → Int32} {q : Int32} {n mm : Nat} {t : Int32} : pt kd w s q n mm t 2 = s 2 + sm n (fun k => if gv kd w s q n k t = true then 1 else 0) := by
  unfold pt
  rw [if_neg (by omega), if_neg (by omega), if_pos rfl]
theorem sm_add (n : Nat) (f g : Nat → Int32) : sm n (fun k => f k + g k) = sm n f + sm n g := by
  induction n with
  | zero => rfl
  | succ n ih =>
    rw [sm_s, sm_s, sm_s, ih, Int32.add_assoc, Int32.add_assoc, ← Int32.add_assoc (sm n g), Int32.add_comm (sm n g) (f n), Int32.add_assoc (f n)]
theorem wf_pt {kd w s : Nat → Int32} {q : Int32} {n mm : Nat} {t : Int32} (h : wf s n mm) (hm : mm ≤ 6) : wf (pt kd w s q n mm t) n mm := by
  obtain ⟨h1, h2, h3, h4, h5, h6, h7⟩ := h
  refine ⟨?_, h2, ?_, ?_, ?_, ?_, ?_⟩
  · rw [pt_st (by omega) (by omega) (by omega)]; exact h1
  · intro k hk; rw [pt_st (by omega) (by omega) (by omega)]; exact h3 k hk
  · intro k hk; rw [pt_st (by omega) (by omega) (by omega)]; exact h4 k hk
  · intro k hk; rw [pt_st (by omega) (by omega) (by omega)]; exact h5 k hk
  · intro k hk; rw [pt_st (by omega) (by omega) (by omega)]; exact h6 k hk
  · rw [pt_2, h7, ← sm_add]
    refine sm_congr (fun k hk => ?_)
    unfold g1
    rw [pt_71 hk h2]
    by_cases c : gv kd w s q n k t = true
    · have c0 : s (71 + k) = 0 := (of_decide_eq_true c).1
      rw [if_pos c, if_pos c, if_pos rfl, c0, if_neg (by decide)]
      rfl
    · rw [if_neg c, if_neg c, Int32.add_zero]
theorem cn_n {M : Nat → Nat → Int32} {a b n : Nat} (h : M a b = nI n) (hn : n ≤ 2000000000) : (M a b).toNatClampNeg = n := by rw [h, nI_clamp (by omega)]

theorem DV_cong_28 {A A' : Nat → Nat → Int32} {u w : Nat → Int32} {n mm : Nat} {t : Int32} (h : DV_28 A u w n mm t) (f : ∀ c, c = 16 ∨ (28 ≤ c ∧ c ≤ 31) ∨ (268 ≤ c ∧ c ≤ 273) → A' c = A c) : DV_28 A' u w n mm t := by
  unfold DV_28 at *
  rw [f 16 (by omega), f 28 (by omega), f 29 (by omega), f 30 (by omega), f 31 (by omega), f 268 (by omega), f 269 (by omega), f 270 (by omega)]
  exact h
theorem p27_19 {A : Nat → Nat → Int32} {s w kd : Nat → Int32} {n mm : Nat} {t : Int32} (v : Int32) (h : DV_28 A s w n mm t) (h15 : A 15 1 = nI mm) (hkd : ∀ j, j < mm → A 16 j = kd j) (hr : rp A 20 s n mm) (hw : wf s n mm) (k : Nat) (hk : k ≤ n) : (∀ i, i < k → qi_X6_putMatter_19_26 (s_X6_putMatter_19_26 A t v i) t v (nI i)) ∧ ∀ j, j < n → s_X6_putMatter_19_26 A t v k 26 j = if j < k then s (59 + j) + sn kd w s n j t else s (59 + j) := by
  have hn := hw.2.1
  induction k with
  | zero => exact ⟨fun i hi => absurd hi (by omega), fun j hj => by rw [if_neg (by omega)]; exact (hr.2.2 j hj).2.2.2.2.1⟩
  | succ k ih =>
    obtain ⟨ih1, ih2⟩ := ih (by omega)
    have hs : s_X6_putMatter_19_26 A t v (k + 1) = e_X6_putMatter_19_26_M (s_X6_putMatter_19_26 A t v k) t v (nI k) := rfl
    have fr : ∀ c, c ≠ 26 → s_X6_putMatter_19_26 A t v k c = A c := fun c a => fr_s_X6_putMatter_19_26 A t v k c a
    have ck : (nI k).toNatClampNeg = k := nI_clamp (by omega)
    obtain ⟨a1, a2, a3, a4, a5, a6⟩ := hr.2.2 k (by omega)
    obtain ⟨o, ho, eo⟩ := hw.2.2.1 k (by omega)
    have so := so_28 (A := s_X6_putMatter_19_26 A t v k) (DV_cong_28 h (fun c hc => fr c (by omega))) (by rw [fr 15 (by decide)]; exact h15) (by rw [fr 20 (by decide)]; exact hr.1.1.trans hw.1) hn (kd := kd) (fun j hj => by rw [fr 16 (by decide)]; exact hkd j hj) (k := k) (o := o) (by omega) ho (by rw [fr 22 (by decide)]; exact a1) eo (by rw [fr 23 (by decide)]; exact a2) (by rw [fr 24 (by decide)]; exact a3) (by rw [fr 27 (by decide)]; exact a6)
    refine ⟨fun i hi => ?_, fun j hj => ?_⟩
    · by_cases c : i = k
      · subst c
        exact ⟨vi (by omega) (by decide), so.1, trivial⟩
      · exact ih1 i (by omega)
    · rw [hs]
      unfold e_X6_putMatter_19_26_M
      rw [z_row_eq, ck, so.2, ud_if, ih2 k (by omega), ih2 j hj, if_neg (Nat.lt_irrefl k)]
      by_cases c : j = k
      · subst c
        rw [if_pos rfl, if_pos (by omega)]
      · rw [if_neg c]
        by_cases c2 : j < k
        · rw [if_pos c2, if_pos (by omega)]
        · rw [if_neg c2, if_neg (by omega)]
theorem e66_19 {B : Nat → Nat → Int32} {s w kd : Nat → Int32} {q : Int32} {n : Nat} {t : Int32} (v : Int32) {k : Nat} (hb : B 20 1 = nI n) (hn : n ≤ 12) (hk : k < n) (h2 : B 28 2 = t) (h15 : B 15 0 = q) (b3 : B 23 k = s (23 + k)) (b5 : B 25 k = s (47 + k)) (b6 : B 26 k = s (59 + k) + sn kd w s n k t) (b7 : B 27 k = s (71 + k)) : e_X6_putMatter_19_65_M B t v (nI k) = if gv kd w s q n k t = true then z_row (z_row B 27 (upd (B 27) k 1)) 20 (upd (B 20) 10 (B 20 10 + 1)) else B := by
  have ck : (nI k).toNatClampNeg = k := nI_clamp (by omega)
  unfold e_X6_putMatter_19_65_M gv
  rw [io_28 (s := s) hb hn hk h2 b3 b7, ck, h15, b5, b6]
  by_cases c1 : s (71 + k) = 0 ∧ s (23 + k) = t
  · rw [if_pos c1, if_neg (show ¬ (1 : Int32) = 0 by decide)]
    by_cases c2 : q * s (47 + k) ≤ s (59 + k) + sn kd w s n k t
    · rw [if_neg (i_nlt.mpr c2), if_pos (decide_eq_true ⟨c1.1, c1.2, c2⟩)]
    · rw [if_pos (i_nle.mp c2), if_neg (fun z => c2 (of_decide_eq_true z).2.2)]
  · rw [if_neg c1, if_pos rfl, if_neg (fun z => c1 ⟨(of_decide_eq_true z).1, (of_decide_eq_true z).2.1⟩)]
theorem p66_19 {A : Nat → Nat → Int32} {s w kd : Nat → Int32} {q : Int32} {n : Nat} {t : Int32} (v : Int32) (hn : n ≤ 12) (hb : A 20 1 = nI n) (h2 : 0 < n → A 28 2 = t) (h15 : A 15 0 = q) (b3 : ∀ j, j < n → A 23 j = s (23 + j)) (b5 : ∀ j, j < n → A 25 j = s (47 + j)) (b6 : ∀ j, j < n → A 26 j = s (59 + j) + sn kd w s n j t) (b7 : ∀ j, j < n → A 27 j = s (71 + j)) (k : Nat) (hk : k ≤ n) : (∀ i, i < k → qi_X6_putMatter_19_65 (s_X6_putMatter_19_65 A t v i) t v (nI i)) ∧ (∀ j, j < n → s_X6_putMatter_19_65 A t v k 27 j = if j < k ∧ gv kd w s q n j t = true then 1 else s (71 + j)) ∧ s_X6_putMatter_19_65 A t v k 20 10 = A 20 10 + sm k (fun j => if gv kd w s q n j t = true then 1 else 0) ∧ ∀ j, j ≠ 10 → s_X6_putMatter_19_65 A t v k 20 j = A 20 j := by
  induction k with
  | zero => exact ⟨fun i hi => absurd hi (by omega), fun j hj => by rw [if_neg (by omega)]; exact b7 j hj, (Int32.add_zero _).symm, fun j hj => rfl⟩
  | succ k ih =>
    obtain ⟨i1, i2, i3, i4⟩ := ih (by omega)
    have hs : s_X6_putMatter_19_65 A t v (k + 1) = e_X6_putMatter_19_65_M (s_X6_putMatter_19_65 A t v k) t v (nI k) := rfl
    have fr : ∀ c, c ≠ 20 → c ≠ 27 → s_X6_putMatter_19_65 A t v k c = A c := fun c a b => fr_s_X6_putMatter_19_65 A t v k c a b
    have v12 : z_vin (nI k) 12 = true := vi (by omega) (by decide)
    have e := e66_19 (B := s_X6_putMatter_19_65 A t v k) (s := s) (w := w) (kd := kd) (q := q) (n := n) (t := t) v (k := k) (by rw [i4 1 (by decide)]; exact hb) hn (by omega) (by rw [fr 28 (by decide) (by decide)]; exact h2 (by omega)) (by rw [fr 15 (by decide) (by decide)]; exact h15) (by rw [fr 23 (by decide) (by decide)]; exact b3 k (by omega)) (by rw [fr 25 (by decide) (by decide)]; exact b5 k (by omega)) (by rw [fr 26 (by decide) (by decide)]; exact b6 k (by omega)) (by rw [i2 k (by omega), if_neg (by omega)])
    refine ⟨fun i hi => ?_, ?_⟩
    · by_cases c : i = k
      · subst c
        exact ⟨⟨qho_20 _ (by omega), fun _ => v12, trivial⟩, fun _ => v12, trivial⟩
      · exact i1 i (by omega)
    · rw [hs, e, sm_s]
      by_cases c : gv kd w s q n k t = true
      · rw [if_pos c, if_pos c, z_row_eq]
        refine ⟨fun j hj => ?_, ?_, fun j hj => ?_⟩
        · rw [z_row_ne (by decide), z_row_eq, ud_if]
          by_cases c2 : j = k
          · subst c2
            rw [if_pos rfl, if_pos ⟨by omega, c⟩]
          · rw [if_neg c2, i2 j hj]
            by_cases c3 : j < k ∧ gv kd w s q n j t = true
            · rw [if_pos c3, if_pos ⟨by omega, c3.2⟩]
            · rw [if_neg c3, if_neg (fun z => c3 ⟨by omega, z.2⟩)]
        · rw [ud_eq, i3, Int32.add_assoc]
        · rw [ud_ne hj]; exact i4 j hj
      · rw [if_neg c, if_neg c, Int32.add_zero]
        refine ⟨fun j hj => ?_, i3, i4⟩
        rw [i2 j hj]
        by_cases c3 : j < k ∧ gv kd w s q n j t = true
        · rw [if_pos c3, if_pos ⟨by omega, c3.2⟩]
        · rw [if_neg c3, if_neg]
          intro z
          by_cases c4 : j = k
          · subst c4; exact c z.2
          · exact c3 ⟨by omega, z.2⟩
theorem pl_19 {A : Nat → Nat → Int32} {s w kd : Nat → Int32} {q : Int32} {n mm : Nat} {t : Int32} (dv : DV_28 A s w n mm t) (hc : CS_28 A s kd w q n mm) (v : Int32) : (∀ k, k < n → qi_X6_putMatter_19_26 (s_X6_putMatter_19_26 A t v k) t v (nI k)) ∧ s_X6_putMatter_19_26 A t v n 20 = A 20 ∧ (∀ k, k < n → qi_X6_putMatter_19_65 (s_X6_putMatter_19_65 (s_X6_putMatter_19_26 A t v n) t v k) t v (nI k)) ∧ ∃ C, s_X6_putMatter_19_65 (s_X6_putMatter_19_26 A t v n) t v n = C ∧ (∀ c, c ≠ 20 → c ≠ 26 → c ≠ 27 → C c = A c) ∧ (∀ j, j < n → C 26 j = s (59 + j) + sn kd w s n j t ∧ C 27 j = if gv kd w s q n j t = true then 1 else s (71 + j)) ∧ C 20 10 = A 20 10 + sm n (fun j => if gv kd w s q n j t = true then 1 else 0) ∧ ∀ j, j ≠ 10 → C 20 j = A 20 j := by
  obtain ⟨⟨h1, h2, h3⟩, hk, hr, hw⟩ := hc
  obtain ⟨x1, x2⟩ := p27_19 (kd := kd) v dv h1 (fun j hj => (hk j hj).1) hr hw n (Nat.le_refl n)
  have fr : ∀ c, c ≠ 26 → s_X6_putMatter_19_26 A t v n c = A c := fun c a => fr_s_X6_putMatter_19_26 A t v n c a
  obtain ⟨y1, y2, y3, y4⟩ := p66_19 (A := s_X6_putMatter_19_26 A t v n) (s := s) (w := w) (kd := kd) (q := q) (n := n) (t := t) v hw.2.1 (by rw [fr 20 (by decide)]; exact hr.1.1.trans hw.1) (fun z => by rw [fr 28 (by decide)]; obtain ⟨o, ho, -⟩ := hw.2.2.1 0 z; exact dv.1 (by omega)) (by rw [fr 15 (by decide)]; exact h3) (fun j hj => by rw [fr 23 (by decide)]; exact (hr.2.2 j hj).2.1) (fun j hj => by rw [fr 25 (by decide)]; exact (hr.2.2 j hj).2.2.2.1) (fun j hj => by rw [x2 j hj, if_pos hj]) (fun j hj => by rw [fr 27 (by decide)]; exact (hr.2.2 j hj).2.2.2.2.2) n (Nat.le_refl n)
  refine ⟨x1, fr _ (by decide), y1, _, rfl, ?_, ?_, ?_, ?_⟩
  · intro c a b d
    rw [fr_s_X6_putMatter_19_65 _ t v n c a d, fr c b]
  · intro j hj
    rw [fr_s_X6_putMatter_19_65 _ t v n 26 (by decide) (by decide), x2 j hj, if_pos hj, y2 j hj]
    refine ⟨rfl, ?_⟩
    by_cases c : gv kd w s q n j t = true
    · rw [if_pos c, if_pos ⟨hj, c⟩]
    · rw [if_neg c, if_neg (fun z => c z.2)]
  · rw [y3, fr 20 (by decide)]
  · intro j hj
    rw [y4 j hj, fr 20 (by decide)]
theorem pc_19 {A G : Nat → Nat → Int32} {s w kd : Nat → Int32} {q : Int32} {n mm : Nat} {t : Int32} (hc : CS_28 A s kd w q n mm) (g1 : ∀ c, c < 28 → c ≠ 20 → c ≠ 26 → c ≠ 27 → G c = A c) (g2 : ∀ j, j < n → G 26 j = s (59 + j) + sn kd w s n j t ∧ G 27 j = if gv kd w s q n j t = true then 1 else s (71 + j)) (g3 : G 20 10 = A 20 10 + sm n (fun j => if gv kd w s q n j t = true then 1 else 0)) (g4 : G 20 1 = A 20 1) (g5 : G 20 8 = A 20 8 + 1) (g6 : G 20 9 = if 0 < mg kd w s n mm t then A 20 9 + 1 else A 20 9) (g7 : G 20 11 = A 20 11) : CS_28 G (pt kd w s q n mm t) kd w q n mm := by
  obtain ⟨⟨h1, h2, h3⟩, hk, ⟨⟨r1, r2, r3, r4, r5⟩, r6, r7⟩, hw⟩ := hc
  have hn := hw.2.1
  refine ⟨⟨?_, h2, ?_⟩, ?_, ⟨⟨?_, ?_, ?_, ?_, ?_⟩, ?_, ?_⟩, wf_pt hw h2⟩
  · rw [g1 15 (by decide) (by decide) (by decide) (by decide)]; exact h1
  · rw [g1 15 (by decide) (by decide) (by decide) (by decide)]; exact h3
  · rw [g1 16 (by decide) (by decide) (by decide) (by decide), g1 18 (by decide) (by decide) (by decide) (by decide)]; exact hk
  · rw [g4, r1, pt_st (by omega) (by omega) (by omega)]
  · rw [g5, r2, pt_0]
  · rw [g6, r3, pt_1]
  · rw [g3, r4, pt_2]
  · rw [g7, r5, pt_st (by omega) (by omega) (by omega)]
  · intro k hk'
    rw [g1 21 (by decide) (by decide) (by decide) (by decide), r6 k hk', pt_st (by omega) (by omega) (by omega)]
  · intro k hk'
    obtain ⟨a1, a2, a3, a4, a5, a6⟩ := r7 k hk'
    rw [g1 22 (by decide) (by decide) (by decide) (by decide), g1 23 (by decide) (by decide) (by decide) (by decide), g1 24 (by decide) (by decide) (by decide) (by decide), g1 25 (by decide) (by decide) (by decide) (by decide), a1, a2, a3, a4, (g2 k hk').1, (g2 k hk').2, pt_59 hk', pt_71 hk' hn, pt_st (by omega) (by omega) (by omega), pt_st (by omega) (by omega) (by omega), pt_st (by omega) (by omega) (by omega), pt_st (by omega) (by omega) (by omega)]
    exact ⟨rfl, rfl, rfl, rfl, rfl, rfl⟩
theorem pm_19 {M : Nat → Nat → Int32} {s w kd : Nat → Int32} {q : Int32} {n mm : Nat} (h : CS_28 M s kd w q n mm) (t : Int32) : q_X6_putMatter_19 M t ∧ f_X6_putMatter_19 M t = (if 0 < mg kd w s n mm t then 1 else 0) ∧ CS_28 (g_X6_putMatter_19 M t) (pt kd w s q n mm t) kd w q n mm := by
  obtain ⟨k1, dv, fr, hc⟩ := dv_28 h t
  have hma := ma_28 dv (fun j hj => (hc.2.1 j hj).1) hc.1.1
  have en : (g_X1_take_28 M t 20 1).toNatClampNeg = n := cn_n (hc.2.2.1.1.1.trans hc.2.2.2.1) (by have := hc.2.2.2.2.1; omega)
  unfold q_X6_putMatter_19 f_X6_putMatter_19 g_X6_putMatter_19
  rw [hma.2]
  generalize g_X1_take_28 M t = A at *
  rw [en]
  obtain ⟨a1, a2, a3, C0, e0, a4, a5, a6, a7⟩ := pl_19 dv hc 0
  obtain ⟨b1, b2, b3, C1, e1, b4, b5, b6, b7⟩ := pl_19 dv hc 1
  rw [a2, b2, en, e0, e1]
  have em : ∀ x : Int32, (x ≤ 0) = ¬ 0 < x := fun x => by rw [← i_nlt]
  refine ⟨⟨k1, hma.1, fun _ => a1, fun _ => a3, fun _ => b1, fun _ => b3, trivial⟩, ?_, ?_⟩
  · by_cases c : 0 < mg kd w s n mm t
    · rw [if_neg (i_nle.mpr c), if_pos c]
    · rw [if_pos (i_nlt.mp c), if_neg c]
  · by_cases c : 0 < mg kd w s n mm t
    · rw [if_neg (i_nle.mpr c)]
      refine pc_19 hc (fun c x1 x2 x3 x4 => ?_) (fun j hj => ?_) ?_ ?_ ?_ ?_ ?_
      · rw [z_row_ne x2, z_row_ne x2]; exact b4 c x2 x3 x4
      · rw [z_row_ne (by decide), z_row_ne (by decide), z_row_ne (by decide), z_row_ne (by decide)]; exact b5 j hj
      · rw [z_row_eq, ud_ne (by decide), ud_ne (by decide)]; exact b6
      · rw [z_row_eq, ud_ne (by decide), ud_ne (by decide)]; exact b7 1 (by decide)
      · rw [z_row_eq, ud_ne (by decide), ud_eq, b7 8 (by decide)]
      · rw [z_row_eq, ud_eq, b7 9 (by decide), if_pos c]
      · rw [z_row_eq, ud_ne (by decide), ud_ne (by decide)]; exact b7 11 (by decide)
    · rw [if_pos (i_nlt.mp c)]
      refine pc_19 hc (fun c x1 x2 x3 x4 => ?_) (fun j hj => ?_) ?_ ?_ ?_ ?_ ?_
      · rw [z_row_ne x2]; exact a4 c x2 x3 x4
      · rw [z_row_ne (by decide), z_row_ne (by decide)]; exact a5 j hj
      · rw [z_row_eq, ud_ne (by decide)]; exact a6
      · rw [z_row_eq, ud_ne (by decide)]; exact a7 1 (by decide)
      · rw [z_row_eq, ud_eq, a7 8 (by decide)]
      · rw [z_row_eq, ud_ne (by decide), a7 9 (by decide), if_neg c]
      · rw [z_row_eq, ud_ne (by decide)]; exact a7 11 (by decide)

theorem DV_cong_42 {A A' : Nat → Nat → Int32} {u w : Nat → Int32} {n mm : Nat} {t : Int32} (h : DV_42 A u w n mm t) (f : ∀ c, c = 16 ∨ (42 ≤ c ∧ c ≤ 45) ∨ (268 ≤ c ∧ c ≤ 273) → A' c = A c) : DV_42 A' u w n mm t := by
  unfold DV_42 at *
  rw [f 16 (by omega), f 42 (by omega), f 43 (by omega), f 44 (by omega), f 45 (by omega), f 271 (by omega), f 272 (by omega), f 273 (by omega)]
  exact h
theorem p27_33 {A : Nat → Nat → Int32} {s w kd : Nat → Int32} {n mm : Nat} {t : Int32} (v : Int32) (h : DV_42 A s w n mm t) (h15 : A 15 1 = nI mm) (hkd : ∀ j, j < mm → A 16 j = kd j) (hr : rp A 34 s n mm) (hw : wf s n mm) (k : Nat) (hk : k ≤ n) : (∀ i, i < k → qi_X6_putMatter_33_26 (s_X6_putMatter_33_26 A t v i) t v (nI i)) ∧ ∀ j, j < n → s_X6_putMatter_33_26 A t v k 40 j = if j < k then s (59 + j) + sn kd w s n j t else s (59 + j) := by
  have hn := hw.2.1
  induction k with
  | zero => exact ⟨fun i hi => absurd hi (by omega), fun j hj => by rw [if_neg (by omega)]; exact (hr.2.2 j hj).2.2.2.2.1⟩
  | succ k ih =>
    obtain ⟨ih1, ih2⟩ := ih (by omega)
    have hs : s_X6_putMatter_33_26 A t v (k + 1) = e_X6_putMatter_33_26_M (s_X6_putMatter_33_26 A t v k) t v (nI k) := rfl
    have fr : ∀ c, c ≠ 40 → s_X6_putMatter_33_26 A t v k c = A c := fun c a => fr_s_X6_putMatter_33_26 A t v k c a
    have ck : (nI k).toNatClampNeg = k := nI_clamp (by omega)
    obtain ⟨a1, a2, a3, a4, a5, a6⟩ := hr.2.2 k (by omega)
    obtain ⟨o, ho, eo⟩ := hw.2.2.1 k (by omega)
    have so := so_42 (A := s_X6_putMatter_33_26 A t v k) (DV_cong_42 h (fun c hc => fr c (by omega))) (by rw [fr 15 (by decide)]; exact h15) (by rw [fr 34 (by decide)]; exact hr.1.1.trans hw.1) hn (kd := kd) (fun j hj => by rw [fr 16 (by decide)]; exact hkd j hj) (k := k) (o := o) (by omega) ho (by rw [fr 36 (by decide)]; exact a1) eo (by rw [fr 37 (by decide)]; exact a2) (by rw [fr 38 (by decide)]; exact a3) (by rw [fr 41 (by decide)]; exact a6)
    refine ⟨fun i hi => ?_, fun j hj => ?_⟩
    · by_cases c : i = k
      · subst c
        exact ⟨vi (by omega) (by decide), so.1, trivial⟩
      · exact ih1 i (by omega)
    · rw [hs]
      unfold e_X6_putMatter_33_26_M
      rw [z_row_eq, ck, so.2, ud_if, ih2 k (by omega), ih2 j hj, if_neg (Nat.lt_irrefl k)]
      by_cases c : j = k
      · subst c
        rw [if_pos rfl, if_pos (by omega)]
      · rw [if_neg c]
        by_cases c2 : j < k
        · rw [if_pos c2, if_pos (by omega)]
        · rw [if_neg c2, if_neg (by omega)]
theorem e66_33 {B : Nat → Nat → Int32} {s w kd : Nat → Int32} {q : Int32} {n : Nat} {t : Int32} (v : Int32) {k : Nat} (hb : B 34 1 = nI n) (hn : n ≤ 12) (hk : k < n) (h2 : B 42 2 = t) (h15 : B 15 0 = q) (b3 : B 37 k = s (23 + k)) (b5 : B 39 k = s (47 + k)) (b6 : B 40 k = s (59 + k) + sn kd w s n k t) (b7 : B 41 k = s (71 + k)) : e_X6_putMatter_33_65_M B t v (nI k) = if gv kd w s q n k t = true then z_row (z_row B 41 (upd (B 41) k 1)) 34 (upd (B 34) 10 (B 34 10 + 1)) else B := by
  have ck : (nI k).toNatClampNeg = k := nI_clamp (by omega)
  unfold e_X6_putMatter_33_65_M gv
  rw [io_42 (s := s) hb hn hk h2 b3 b7, ck, h15, b5, b6]
  by_cases c1 : s (71 + k) = 0 ∧ s (23 + k) = t
  · rw [if_pos c1, if_neg (show ¬ (1 : Int32) = 0 by decide)]
    by_cases c2 : q * s (47 + k) ≤ s (59 + k) + sn kd w s n k t
    · rw [if_neg (i_nlt.mpr c2), if_pos (decide_eq_true ⟨c1.1, c1.2, c2⟩)]
    · rw [if_pos (i_nle.mp c2), if_neg (fun z => c2 (of_decide_eq_true z).2.2)]
  · rw [if_neg c1, if_pos rfl, if_neg (fun z => c1 ⟨(of_decide_eq_true z).1, (of_decide_eq_true z).2.1⟩)]
theorem p66_33 {A : Nat → Nat → Int32} {s w kd : Nat → Int32} {q : Int32} {n : Nat} {t : Int32} (v : Int32) (hn : n ≤ 12) (hb : A 34 1 = nI n) (h2 : 0 < n → A 42 2 = t) (h15 : A 15 0 = q) (b3 : ∀ j, j < n → A 37 j = s (23 + j)) (b5 : ∀ j, j < n → A 39 j = s (47 + j)) (b6 : ∀ j, j < n → A 40 j = s (59 + j) + sn kd w s n j t) (b7 : ∀ j, j < n → A 41 j = s (71 + j)) (k : Nat) (hk : k ≤ n) : (∀ i, i < k → qi_X6_putMatter_33_65 (s_X6_putMatter_33_65 A t v i) t v (nI i)) ∧ (∀ j, j < n → s_X6_putMatter_33_65 A t v k 41 j = if j < k ∧ gv kd w s q n j t = true then 1 else s (71 + j)) ∧ s_X6_putMatter_33_65 A t v k 34 10 = A 34 10 + sm k (fun j => if gv kd w s q n j t = true then 1 else 0) ∧ ∀ j, j ≠ 10 → s_X6_putMatter_33_65 A t v k 34 j = A 34 j := by
  induction k with
  | zero => exact ⟨fun i hi => absurd hi (by omega), fun j hj => by rw [if_neg (by omega)]; exact b7 j hj, (Int32.add_zero _).symm, fun j hj => rfl⟩
  | succ k ih =>
    obtain ⟨i1, i2, i3, i4⟩ := ih (by omega)
    have hs : s_X6_putMatter_33_65 A t v (k + 1) = e_X6_putMatter_33_65_M (s_X6_putMatter_33_65 A t v k) t v (nI k) := rfl
    have fr : ∀ c, c ≠ 34 → c ≠ 41 → s_X6_putMatter_33_65 A t v k c = A c := fun c a b => fr_s_X6_putMatter_33_65 A t v k c a b
    have v12 : z_vin (nI k) 12 = true := vi (by omega) (by decide)
    have e := e66_33 (B := s_X6_putMatter_33_65 A t v k) (s := s) (w := w) (kd := kd) (q := q) (n := n) (t := t) v (k := k) (by rw [i4 1 (by decide)]; exact hb) hn (by omega) (by rw [fr 42 (by decide) (by decide)]; exact h2 (by omega)) (by rw [fr 15 (by decide) (by decide)]; exact h15) (by rw [fr 37 (by decide) (by decide)]; exact b3 k (by omega)) (by rw [fr 39 (by decide) (by decide)]; exact b5 k (by omega)) (by rw [fr 40 (by decide) (by decide)]; exact b6 k (by omega)) (by rw [i2 k (by omega), if_neg (by omega)])
    refine ⟨fun i hi => ?_, ?_⟩
    · by_cases c : i = k
      · subst c
        exact ⟨⟨qho_34 _ (by omega), fun _ => v12, trivial⟩, fun _ => v12, trivial⟩
      · exact i1 i (by omega)
    · rw [hs, e, sm_s]
      by_cases c : gv kd w s q n k t = true
      · rw [if_pos c, if_pos c, z_row_eq]
        refine ⟨fun j hj => ?_, ?_, fun j hj => ?_⟩
        · rw [z_row_ne (by decide), z_row_eq, ud_if]
          by_cases c2 : j = k
          · subst c2
            rw [if_pos rfl, if_pos ⟨by omega, c⟩]
          · rw [if_neg c2, i2 j hj]
            by_cases c3 : j < k ∧ gv kd w s q n j t = true
            · rw [if_pos c3, if_pos ⟨by omega, c3.2⟩]
            · rw [if_neg c3, if_neg (fun z => c3 ⟨by omega, z.2⟩)]
        · rw [ud_eq, i3, Int32.add_assoc]
        · rw [ud_ne hj]; exact i4 j hj
      · rw [if_neg c, if_neg c, Int32.add_zero]
        refine ⟨fun j hj => ?_, i3, i4⟩
        rw [i2 j hj]
        by_cases c3 : j < k ∧ gv kd w s q n j t = true
        · rw [if_pos c3, if_pos ⟨by omega, c3.2⟩]
        · rw [if_neg c3, if_neg]
          intro z
          by_cases c4 : j = k
          · subst c4; exact c z.2
          · exact c3 ⟨by omega, z.2⟩
theorem pl_33 {A : Nat → Nat → Int32} {s w kd : Nat → Int32} {q : Int32} {n mm : Nat} {t : Int32} (dv : DV_42 A s w n mm t) (hc : CS_42 A s kd w q n mm) (v : Int32) : (∀ k, k < n → qi_X6_putMatter_33_26 (s_X6_putMatter_33_26 A t v k) t v (nI k)) ∧ s_X6_putMatter_33_26 A t v n 34 = A 34 ∧ (∀ k, k < n → qi_X6_putMatter_33_65 (s_X6_putMatter_33_65 (s_X6_putMatter_33_26 A t v n) t v k) t v (nI k)) ∧ ∃ C, s_X6_putMatter_33_65 (s_X6_putMatter_33_26 A t v n) t v n = C ∧ (∀ c, c ≠ 34 → c ≠ 40 → c ≠ 41 → C c = A c) ∧ (∀ j, j < n → C 40 j = s (59 + j) + sn kd w s n j t ∧ C 41 j = if gv kd w s q n j t = true then 1 else s (71 + j)) ∧ C 34 10 = A 34 10 + sm n (fun j => if gv kd w s q n j t = true then 1 else 0) ∧ ∀ j, j ≠ 10 → C 34 j = A 34 j := by
  obtain ⟨⟨h1, h2, h3⟩, hk, hr, hw⟩ := hc
  obtain ⟨x1, x2⟩ := p27_33 (kd := kd) v dv h1 (fun j hj => (hk j hj).1) hr hw n (Nat.le_refl n)
  have fr : ∀ c, c ≠ 40 → s_X6_putMatter_33_26 A t v n c = A c := fun c a => fr_s_X6_putMatter_33_26 A t v n c a
  obtain ⟨y1, y2, y3, y4⟩ := p66_33 (A := s_X6_putMatter_33_26 A t v n) (s := s) (w := w) (kd := kd) (q := q) (n := n) (t := t) v hw.2.1 (by rw [fr 34 (by decide)]; exact hr.1.1.trans hw.1) (fun z => by rw [fr 42 (by decide)]; obtain ⟨o, ho, -⟩ := hw.2.2.1 0 z; exact dv.1 (by omega)) (by rw [fr 15 (by decide)]; exact h3) (fun j hj => by rw [fr 37 (by decide)]; exact (hr.2.2 j hj).2.1) (fun j hj => by rw [fr 39 (by decide)]; exact (hr.2.2 j hj).2.2.2.1) (fun j hj => by rw [x2 j hj, if_pos hj]) (fun j hj => by rw [fr 41 (by decide)]; exact (hr.2.2 j hj).2.2.2.2.2) n (Nat.le_refl n)
  refine ⟨x1, fr _ (by decide), y1, _, rfl, ?_, ?_, ?_, ?_⟩
  · intro c a b d
    rw [fr_s_X6_putMatter_33_65 _ t v n c a d, fr c b]
  · intro j hj
    rw [fr_s_X6_putMatter_33_65 _ t v n 40 (by decide) (by decide), x2 j hj, if_pos hj, y2 j hj]
    refine ⟨rfl, ?_⟩
    by_cases c : gv kd w s q n j t = true
    · rw [if_pos c, if_pos ⟨hj, c⟩]
    · rw [if_neg c, if_neg (fun z => c z.2)]
  · rw [y3, fr 34 (by decide)]
  · intro j hj
    rw [y4 j hj, fr 34 (by decide)]
theorem pc_33 {A G : Nat → Nat → Int32} {s w kd : Nat → Int32} {q : Int32} {n mm : Nat} {t : Int32} (hc : CS_42 A s kd w q n mm) (g1 : ∀ c, c < 42 → c ≠ 34 → c ≠ 40 → c ≠ 41 → G c = A c) (g2 : ∀ j, j < n → G 40 j = s (59 + j) + sn kd w s n j t ∧ G 41 j = if gv kd w s q n j t = true then 1 else s (71 + j)) (g3 : G 34 10 = A 34 10 + sm n (fun j => if gv kd w s q n j t = true then 1 else 0)) (g4 : G 34 1 = A 34 1) (g5 : G 34 8 = A 34 8 + 1) (g6 : G 34 9 = if 0 < mg kd w s n mm t then A 34 9 + 1 else A 34 9) (g7 : G 34 11 = A 34 11) : CS_42 G (pt kd w s q n mm t) kd w q n mm := by
  obtain ⟨⟨h1, h2, h3⟩, hk, ⟨⟨r1, r2, r3, r4, r5⟩, r6, r7⟩, hw⟩ := hc
  have hn := hw.2.1
  refine ⟨⟨?_, h2, ?_⟩, ?_, ⟨⟨?_, ?_, ?_, ?_, ?_⟩, ?_, ?_⟩, wf_pt hw h2⟩
  · rw [g1 15 (by decide) (by decide) (by decide) (by decide)]; exact h1
  · rw [g1 15 (by decide) (by decide) (by decide) (by decide)]; exact h3
  · rw [g1 16 (by decide) (by decide) (by decide) (by decide), g1 18 (by decide) (by decide) (by decide) (by decide)]; exact hk
  · rw [g4, r1, pt_st (by omega) (by omega) (by omega)]
  · rw [g5, r2, pt_0]
  · rw [g6, r3, pt_1]
  · rw [g3, r4, pt_2]
  · rw [g7, r5, pt_st (by omega) (by omega) (by omega)]
  · intro k hk'
    rw [g1 35 (by decide) (by decide) (by decide) (by decide), r6 k hk', pt_st (by omega) (by omega) (by omega)]
  · intro k hk'
    obtain ⟨a1, a2, a3, a4, a5, a6⟩ := r7 k hk'
    rw [g1 36 (by decide) (by decide) (by decide) (by decide), g1 37 (by decide) (by decide) (by decide) (by decide), g1 38 (by decide) (by decide) (by decide) (by decide), g1 39 (by decide) (by decide) (by decide) (by decide), a1, a2, a3, a4, (g2 k hk').1, (g2 k hk').2, pt_59 hk', pt_71 hk' hn, pt_st (by omega) (by omega) (by omega), pt_st (by omega) (by omega) (by omega), pt_st (by omega) (by omega) (by omega), pt_st (by omega) (by omega) (by omega)]
    exact ⟨rfl, rfl, rfl, rfl, rfl, rfl⟩
theorem pm_33 {M : Nat → Nat → Int32} {s w kd : Nat → Int32} {q : Int32} {n mm : Nat} (h : CS_42 M s kd w q n mm) (t : Int32) : q_X6_putMatter_33 M t ∧ f_X6_putMatter_33 M t = (if 0 < mg kd w s n mm t then 1 else 0) ∧ CS_42 (g_X6_putMatter_33 M t) (pt kd w s q n mm t) kd w q n mm := by
  obtain ⟨k1, dv, fr, hc⟩ := dv_42 h t
  have hma := ma_42 dv (fun j hj => (hc.2.1 j hj).1) hc.1.1
  have en : (g_X1_take_42 M t 34 1).toNatClampNeg = n := cn_n (hc.2.2.1.1.1.trans hc.2.2.2.1) (by have := hc.2.2.2.2.1; omega)
  unfold q_X6_putMatter_33 f_X6_putMatter_33 g_X6_putMatter_33
  rw [hma.2]
  generalize g_X1_take_42 M t = A at *
  rw [en]
  obtain ⟨a1, a2, a3, C0, e0, a4, a5, a6, a7⟩ := pl_33 dv hc 0
  obtain ⟨b1, b2, b3, C1, e1, b4, b5, b6, b7⟩ := pl_33 dv hc 1
  rw [a2, b2, en, e0, e1]
  have em : ∀ x : Int32, (x ≤ 0) = ¬ 0 < x := fun x => by rw [← i_nlt]
  refine ⟨⟨k1, hma.1, fun _ => a1, fun _ => a3, fun _ => b1, fun _ => b3, trivial⟩, ?_, ?_⟩
  · by_cases c : 0 < mg kd w s n mm t
    · rw [if_neg (i_nle.mpr c), if_pos c]
    · rw [if_pos (i_nlt.mp c), if_neg c]
  · by_cases c : 0 < mg kd w s n mm t
    · rw [if_neg (i_nle.mpr c)]
      refine pc_33 hc (fun c x1 x2 x3 x4 => ?_) (fun j hj => ?_) ?_ ?_ ?_ ?_ ?_
      · rw [z_row_ne x2, z_row_ne x2]; exact b4 c x2 x3 x4
      · rw [z_row_ne (by decide), z_row_ne (by decide), z_row_ne (by decide), z_row_ne (by decide)]; exact b5 j hj
      · rw [z_row_eq, ud_ne (by decide), ud_ne (by decide)]; exact b6
      · rw [z_row_eq, ud_ne (by decide), ud_ne (by decide)]; exact b7 1 (by decide)
      · rw [z_row_eq, ud_ne (by decide), ud_eq, b7 8 (by decide)]
      · rw [z_row_eq, ud_eq, b7 9 (by decide), if_pos c]
      · rw [z_row_eq, ud_ne (by decide), ud_ne (by decide)]; exact b7 11 (by decide)
    · rw [if_pos (i_nlt.mp c)]
      refine pc_33 hc (fun c x1 x2 x3 x4 => ?_) (fun j hj => ?_) ?_ ?_ ?_ ?_ ?_
      · rw [z_row_ne x2]; exact a4 c x2 x3 x4
      · rw [z_row_ne (by decide), z_row_ne (by decide)]; exact a5 j hj
      · rw [z_row_eq, ud_ne (by decide)]; exact a6
      · rw [z_row_eq, ud_ne (by decide)]; exact a7 1 (by decide)
      · rw [z_row_eq, ud_eq, a7 8 (by decide)]
      · rw [z_row_eq, ud_ne (by decide), a7 9 (by decide), if_neg c]
      · rw [z_row_eq, ud_ne (by decide)]; exact a7 11 (by decide)
