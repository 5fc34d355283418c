/-! THE FEWEST STRAPS TO LET GO: the class, one member's gains -/
theorem gn_or (kd w s : Nat → Int32) (n m : Nat) (t : Int32) : ∃ g, g ≤ 4 ∧ gn kd w s n m t + 2 = nI g := by
  unfold gn vt
  by_cases c1 : gos w s n m t = 2
  · rw [if_pos c1]; exact ⟨2, by decide, by decide⟩
  · rw [if_neg c1]
    by_cases c2 : gos w s n m t = 1
    · rw [if_pos c2]
      by_cases c3 : kd m = 3 ∧ hng s n m = true
      · rw [if_pos c3]; exact ⟨4, by decide, by decide⟩
      · rw [if_neg c3]; exact ⟨3, by decide, by decide⟩
    · rw [if_neg c2]
      by_cases c3 : kd m = 3 ∧ hng s n m = true
      · rw [if_pos c3]; exact ⟨0, by decide, by decide⟩
      · rw [if_neg c3]; exact ⟨1, by decide, by decide⟩
def ga (kd w s : Nat → Int32) (n : Nat) (t : Int32) (m X : Nat) : Nat := (gn kd w (lrow s X n) n m t + 2).toNatClampNeg
theorem ga_4 (kd w s : Nat → Int32) (n : Nat) (t : Int32) (m X : Nat) : gn kd w (lrow s X n) n m t + 2 = nI (ga kd w s n t m X) ∧ ga kd w s n t m X ≤ 4 := by
  obtain ⟨g, h1, h2⟩ := gn_or kd w (lrow s X n) n m t
  unfold ga
  rw [h2, nI_clamp (by omega)]
  exact ⟨rfl, h1⟩
theorem lr_0 {s : Nat → Int32} {X n k : Nat} (h : k < n) : lrow s X n (71 + k) = 0 ↔ s (71 + k) = 0 ∧ ¬ X.testBit k = true := by
  rw [lrow_71 h]
  by_cases c : X.testBit k = true
  · rw [if_pos c]
    exact ⟨fun z => absurd z (by decide), fun z => absurd c z.2⟩
  · rw [if_neg c]
    exact ⟨fun z => ⟨z, c⟩, fun z => z.1⟩
theorem ga_loc {kd w s : Nat → Int32} {n : Nat} (hn : n ≤ 12) {t : Int32} {m X Y : Nat} (hm : m < 6) (h : ∀ k, k < n → s (71 + k) = 0 → s (11 + k) = nI m → (X.testBit k = true ↔ Y.testBit k = true)) : ga kd w s n t m X = ga kd w s n t m Y := by
  have key : ∀ k, k < n → s (11 + k) = nI m → (lrow s X n (71 + k) = 0 ↔ lrow s Y n (71 + k) = 0) := fun k hk ho => by
    rw [lr_0 hk, lr_0 hk]
    exact ⟨fun z => ⟨z.1, fun y => z.2 ((h k hk z.1 ho).mpr y)⟩, fun z => ⟨z.1, fun y => z.2 ((h k hk z.1 ho).mp y)⟩⟩
  have ep : pul (lrow s X n) n (nI m) t = pul (lrow s Y n) n (nI m) t := sm_congr (fun k hk => by
    unfold wk
    rw [lrow_lo (show 11 + k < 71 by omega), lrow_lo (show 23 + k < 71 by omega), lrow_lo (show 35 + k < 71 by omega), lrow_lo (show 47 + k < 71 by omega), lrow_lo (show 11 + k < 71 by omega), lrow_lo (show 23 + k < 71 by omega), lrow_lo (show 35 + k < 71 by omega), lrow_lo (show 47 + k < 71 by omega)]
    by_cases c : s (11 + k) = nI m
    · have := key k hk c
      by_cases c2 : lrow s X n (71 + k) = 0 ∧ s (11 + k) = nI m ∧ s (23 + k) = t
      · rw [if_pos c2, if_pos (show lrow s Y n (71 + k) = 0 ∧ s (11 + k) = nI m ∧ s (23 + k) = t from ⟨this.mp c2.1, c2.2⟩)]
      · rw [if_neg c2, if_neg (show ¬ (lrow s Y n (71 + k) = 0 ∧ s (11 + k) = nI m ∧ s (23 + k) = t) from fun z => c2 ⟨this.mpr z.1, z.2⟩)]
    · rw [if_neg (fun z => c z.2.1), if_neg (fun z => c z.2.1)])
  have el : lod (lrow s X n) n (nI m) = lod (lrow s Y n) n (nI m) := sm_congr (fun k hk => by
    unfold lk
    rw [lrow_lo (show 11 + k < 71 by omega), lrow_lo (show 47 + k < 71 by omega), lrow_lo (show 11 + k < 71 by omega), lrow_lo (show 47 + k < 71 by omega)]
    by_cases c : s (11 + k) = nI m
    · have := key k hk c
      by_cases c2 : lrow s X n (71 + k) = 0 ∧ s (11 + k) = nI m
      · rw [if_pos c2, if_pos ⟨this.mp c2.1, c2.2⟩]
      · rw [if_neg c2, if_neg (fun z => c2 ⟨this.mpr z.1, z.2⟩)]
    · rw [if_neg (fun z => c z.2), if_neg (fun z => c z.2)])
  unfold ga gn gos vt hng
  rw [ep, el, lrow_lo (show 4 + m < 71 by omega), lrow_lo (show 4 + m < 71 by omega)]
theorem ga1_28 {A : Nat → Nat → Int32} {u w kd : Nat → Int32} {n m : Nat} {t : Int32} (h : O1_28 A u w n m t) (hk : A 16 m = kd m) (hm : m < 6) : f_X1_gainBy_28 A (nI m) = gn kd w u n m t := by
  obtain ⟨e1, e2, e3, e4, e5, e6⟩ := h
  have cj : (nI m).toNatClampNeg = m := nI_clamp (by omega)
  have e7 : vt (A 16) u n m = vt kd u n m := by
    unfold vt
    rw [hk]
  unfold f_X1_gainBy_28 gn
  rw [cj, e3, e6, e7]
  by_cases c1 : gos w u n m t = 2
  · simp [c1]
  · by_cases c2 : gos w u n m t = 1
    · simp [c2]
    · simp [c1, c2]
theorem tkl {A : Nat → Nat → Int32} {s kd w : Nat → Int32} {q : Int32} {n mm m : Nat} (h : CS_28 A s kd w q n mm) (t : Int32) (hm : m < mm) {Y : Nat} (hY : Y < 4096) : q_X1_takeOne_28 A (nI m) t (nI Y) ∧ O1_28 (g_X1_takeOne_28 A (nI m) t (nI Y)) (lrow s Y n) w n m t ∧ (∀ c, (c < 28 ∨ 31 < c) ∧ (c < 268 ∨ 273 < c) → g_X1_takeOne_28 A (nI m) t (nI Y) c = A c) := by
  obtain ⟨⟨h1, h2, h3⟩, hk, ⟨⟨r1, r2, r3, r4, r5⟩, r6, r7⟩, hw⟩ := h
  have hn := hw.2.1
  have tk : TK_28 A (lrow s Y n) n mm (nI Y) := by
    refine ⟨⟨h1, h2, r1.trans hw.1, hn⟩, fun k hk' => by rw [lrow_lo (by omega)]; exact r6 k hk', fun k hk' => ?_, fun k hk' => ?_⟩
    · obtain ⟨o, ho, eo⟩ := hw.2.2.1 k hk'
      exact ⟨o, ho, (r7 k hk').1.trans eo, by rw [lrow_lo (by omega)]; exact eo⟩
    · obtain ⟨a1, a2, a3, a4, a5, a6⟩ := r7 k hk'
      refine ⟨by rw [lrow_lo (by omega)]; exact a2, by rw [lrow_lo (by omega)]; exact a3, by rw [lrow_lo (by omega)]; exact a4, ?_⟩
      rw [lr_0 hk', a6, isIn_tb A (by omega) (by omega)]
      by_cases c : Y.testBit k = true
      · rw [if_pos c]
        exact ⟨fun z => absurd c z.2, fun z => absurd z.2 (by decide)⟩
      · rw [if_neg c]
        exact ⟨fun z => ⟨z.1, rfl⟩, fun z => ⟨z.1, c⟩⟩
  obtain ⟨p1, p2, p3, p4⟩ := one_28 A (lrow s Y n) w n mm m t (nI Y) tk hm (hk m hm).2
  exact ⟨p1, p3, fun c hc => fr_g_X1_takeOne_28 A (nI m) t (nI Y) c (by omega) (by omega) (by omega) (by omega) (by omega) (by omega) (by omega)⟩
theorem fill_48 (M : Nat → Nat → Int32) : q_X7_fill_48 M 1048576 ∧ ∀ g, g < 5 → g_X7_fill_48 M 1048576 48 g = 1048576 := by
  have lp : ∀ k, k ≤ 5 → ∀ g, g < k → s_X7_fill_48_2 M 1048576 k 48 g = 1048576 := by
    intro k
    induction k with
    | zero => intro _ g hg; omega
    | succ k ih =>
      intro hk g hg
      have hs : s_X7_fill_48_2 M 1048576 (k + 1) = e_X7_fill_48_2_M (s_X7_fill_48_2 M 1048576 k) 1048576 (nI k) := rfl
      rw [hs]
      unfold e_X7_fill_48_2_M
      rw [z_row_eq, nI_clamp (by omega), ud_if]
      by_cases c : g = k
      · rw [if_pos c]
      · rw [if_neg c]; exact ih (by omega) g (by omega)
  unfold q_X7_fill_48 g_X7_fill_48
  exact ⟨⟨fun k hk => ⟨vi hk (by decide), trivial⟩, trivial⟩, lp 5 (Nat.le_refl _)⟩
theorem fill_47 (M : Nat → Nat → Int32) : q_X7_fill_47 M 1048576 ∧ ∀ g, g < 25 → g_X7_fill_47 M 1048576 47 g = 1048576 := by
  have lp : ∀ k, k ≤ 25 → ∀ g, g < k → s_X7_fill_47_2 M 1048576 k 47 g = 1048576 := by
    intro k
    induction k with
    | zero => intro _ g hg; omega
    | succ k ih =>
      intro hk g hg
      have hs : s_X7_fill_47_2 M 1048576 (k + 1) = e_X7_fill_47_2_M (s_X7_fill_47_2 M 1048576 k) 1048576 (nI k) := rfl
      rw [hs]
      unfold e_X7_fill_47_2_M
      rw [z_row_eq, nI_clamp (by omega), ud_if]
      by_cases c : g = k
      · rw [if_pos c]
      · rw [if_neg c]; exact ih (by omega) g (by omega)
  unfold q_X7_fill_47 g_X7_fill_47
  exact ⟨⟨fun k hk => ⟨vi hk (by decide), trivial⟩, trivial⟩, lp 25 (Nat.le_refl _)⟩
theorem fill_46 (M : Nat → Nat → Int32) : q_X7_fill_46 M 1048576 ∧ ∀ g, g < 25 → g_X7_fill_46 M 1048576 46 g = 1048576 := by
  have lp : ∀ k, k ≤ 25 → ∀ g, g < k → s_X7_fill_46_2 M 1048576 k 46 g = 1048576 := by
    intro k
    induction k with
    | zero => intro _ g hg; omega
    | succ k ih =>
      intro hk g hg
      have hs : s_X7_fill_46_2 M 1048576 (k + 1) = e_X7_fill_46_2_M (s_X7_fill_46_2 M 1048576 k) 1048576 (nI k) := rfl
      rw [hs]
      unfold e_X7_fill_46_2_M
      rw [z_row_eq, nI_clamp (by omega), ud_if]
      by_cases c : g = k
      · rw [if_pos c]
      · rw [if_neg c]; exact ih (by omega) g (by omega)
  unfold q_X7_fill_46 g_X7_fill_46
  exact ⟨⟨fun k hk => ⟨vi hk (by decide), trivial⟩, trivial⟩, lp 25 (Nat.le_refl _)⟩
def NV : Nat := 1048576
theorem pz_NV {x : Nat} (h : x < 4096) : pz x < NV := by
  have := pc_12 x
  unfold pz NV
  omega
/-- the gains of one member, priced -/
def GP (A : Nat → Nat → Int32) (kd w s : Nat → Int32) (n : Nat) (t : Int32) (m : Nat) (seen : Nat → Prop) (G : Nat → Nat) : Prop := (∀ g, g < 5 → A 48 g = nI (G g) ∧ G g ≤ NV) ∧ (∀ g, g < 5 → G g < NV → ∃ Y, sub Y (bN n (hO s (nI m))) ∧ ga kd w s n t m Y = g ∧ G g = pz Y) ∧ ∀ Y, seen Y → G (ga kd w s n t m Y) ≤ pz Y
theorem pg_c {M : Nat → Nat → Int32} {s kd w : Nat → Int32} {q : Int32} {n mm : Nat} (h : CS_28 M s kd w q n mm) (t : Int32) {m : Nat} (hm : m < mm) : q_X7_priceGains_32 M (nI m) t ∧ CS_28 (g_X7_priceGains_32 M (nI m) t) s kd w q n mm ∧ ∃ G, GP (g_X7_priceGains_32 M (nI m) t) kd w s n t m (fun Y => sub Y (bN n (hO s (nI m)))) G := by
  have hn := h.2.2.2.2.1
  have hm6 : m < 6 := by have := h.1.2.1; omega
  obtain ⟨f1, f2⟩ := fill_48 M
  have fr48 : ∀ c, c ≠ 48 → g_X7_fill_48 M 1048576 c = M c := fun c hc => fr_g_X7_fill_48 M _ c hc
  have hB : CS_28 (g_X7_fill_48 M 1048576) s kd w q n mm := CS_cong_28 h (fun c hc => fr48 c (by omega))
  obtain ⟨o1, o2⟩ := so_c hB (nI m)
  have o3 : f_X0_setHoldingOf_20 (g_X7_fill_48 M 1048576) (nI m) = nI (bN n (hO s (nI m))) := by
    rw [o2, bs_bN hn]; rfl
  have ho := bN_4096 hn (hO s (nI m))
  unfold q_X7_priceGains_32 g_X7_priceGains_32
  rw [o3]
  generalize g_X7_fill_48 M 1048576 = B at *
  rw [bc_c B ho, sh1 _ (by have := pc_12 (bN n (hO s (nI m))); omega)]
  have p12 := pc_12 (bN n (hO s (nI m)))
  have pwr : 2 ^ pc (bN n (hO s (nI m))) ≤ 2 ^ 12 := Nat.pow_le_pow_right (by decide) p12
  have ppc := pcw_pc (bN n (hO s (nI m)))
  generalize eo : bN n (hO s (nI m)) = ow at *
  have c2 : (nI (2 ^ pc ow)).toNatClampNeg = 2 ^ pc ow := nI_clamp (by omega)
  rw [c2]
  generalize hT : 2 ^ pc ow = T at *
  have stp : ∀ (A : Nat → Nat → Int32) (Y : Nat), CS_28 A s kd w q n mm → Y < 4096 → sub Y ow → ∀ v4 i, q_X1_takeOne_28 A (nI m) t (nI Y) ∧ qi_X7_priceGains_32_35 A (nI m) t (nI ow) v4 i (nI Y) ∧ e_X7_priceGains_32_35_c5 A (nI m) t (nI ow) v4 i (nI Y) = nI (nxs 12 ow Y) ∧ CS_28 (e_X7_priceGains_32_35_M A (nI m) t (nI ow) v4 i (nI Y)) s kd w q n mm ∧ ∀ g, e_X7_priceGains_32_35_M A (nI m) t (nI ow) v4 i (nI Y) 48 g = if g = ga kd w s n t m Y then (if nI (pz Y) < A 48 g then nI (pz Y) else A 48 g) else A 48 g := by
    intro A Y hA hY hsub v4 i
    obtain ⟨t1, dv, fr⟩ := tkl hA t hm hY
    have hkd : g_X1_takeOne_28 A (nI m) t (nI Y) 16 m = kd m := by rw [fr 16 (by decide)]; exact (hA.2.1 m hm).1
    have gb := ga1_28 dv hkd hm6
    obtain ⟨g4, g5⟩ := ga_4 kd w s n t m Y
    have qg := qga_28 (g_X1_takeOne_28 A (nI m) t (nI Y)) hm6
    have ep : f_J6_bitCount_0f7a4 (g_X1_takeOne_28 A (nI m) t (nI Y)) (nI Y) * 4096 + nI Y = nI (pz Y) := by
      rw [bc_c _ hY]
      show nI (pc Y) * nI 4096 + nI Y = _
      rw [nI_mul, nI_add, Nat.mul_comm]
      rfl
    have cs : CS_28 (g_X1_takeOne_28 A (nI m) t (nI Y)) s kd w q n mm := CS_cong_28 hA (fun c hc => fr c (by omega))
    have io : f_X8_isOutside (g_X1_takeOne_28 A (nI m) t (nI Y)) (f_X1_gainBy_28 (g_X1_takeOne_28 A (nI m) t (nI Y)) (nI m) + 2) 5 = 0 := by
      rw [gb, g4]
      exact oi_in (N := 5) (by omega) (by decide)
    refine ⟨t1, ⟨t1, qg, fun _ => by rw [gb, g4]; exact vi (by omega) (by decide), trivial⟩, ?_, ?_, fun g => ?_⟩
    · unfold e_X7_priceGains_32_35_c5
      rw [if_neg (not_not_intro io)]
      exact sb_i ho hsub
    · unfold e_X7_priceGains_32_35_M
      rw [if_neg (not_not_intro io)]
      exact CS_cong_28 cs (fun c hc => by rw [z_row_ne (by omega)])
    · unfold e_X7_priceGains_32_35_M
      rw [if_neg (not_not_intro io), z_row_eq, gb, g4, nI_clamp (by omega), ep, fr 48 (by decide), ud_if]
      by_cases c : g = ga kd w s n t m Y
      · rw [if_pos c, if_pos c, c]
      · rw [if_neg c, if_neg c]
  have lp : ∀ k, k ≤ T → (∀ i, i < k → qi_X7_priceGains_32_35 (s_X7_priceGains_32_35 B (nI m) t (nI ow) (nI T) 0 i).2 (nI m) t (nI ow) (nI T) (nI i) (s_X7_priceGains_32_35 B (nI m) t (nI ow) (nI T) 0 i).1) ∧ (s_X7_priceGains_32_35 B (nI m) t (nI ow) (nI T) 0 k).1 = nI (sqs ow k) ∧ CS_28 (s_X7_priceGains_32_35 B (nI m) t (nI ow) (nI T) 0 k).2 s kd w q n mm ∧ ∃ G, GP (s_X7_priceGains_32_35 B (nI m) t (nI ow) (nI T) 0 k).2 kd w s n t m (fun Y => ∃ i, i < k ∧ sqs ow i = Y) G := by
    intro k
    induction k with
    | zero =>
      intro _
      refine ⟨fun i hi => absurd hi (by omega), rfl, hB, fun _ => NV, fun g hg => ⟨f2 g hg, Nat.le_refl _⟩, fun g _ hl => absurd hl (Nat.lt_irrefl _), fun Y hY => ?_⟩
      obtain ⟨i, hi, _⟩ := hY
      omega
    | succ k ih =>
      intro hk
      obtain ⟨i1, i2, i3, G, j1, j2, j3⟩ := ih (by omega)
      obtain ⟨sb, rkk⟩ := sqs_rk ho k (by rw [ppc, hT]; omega)
      have hlt : sqs ow k < 4096 := Nat.lt_of_le_of_lt (sub_leW 12 _ _ ho sb) ho
      have hs : s_X7_priceGains_32_35 B (nI m) t (nI ow) (nI T) 0 (k + 1) = (e_X7_priceGains_32_35_c5 (s_X7_priceGains_32_35 B (nI m) t (nI ow) (nI T) 0 k).2 (nI m) t (nI ow) (nI T) (nI k) (s_X7_priceGains_32_35 B (nI m) t (nI ow) (nI T) 0 k).1, e_X7_priceGains_32_35_M (s_X7_priceGains_32_35 B (nI m) t (nI ow) (nI T) 0 k).2 (nI m) t (nI ow) (nI T) (nI k) (s_X7_priceGains_32_35 B (nI m) t (nI ow) (nI T) 0 k).1) := rfl
      rw [hs]
      clear hs
      generalize hr : s_X7_priceGains_32_35 B (nI m) t (nI ow) (nI T) 0 k = r at *
      rw [i2]
      obtain ⟨t1, t2, t3, t4, t5⟩ := stp r.2 (sqs ow k) i3 hlt sb (nI T) (nI k)
      obtain ⟨g4, g5⟩ := ga_4 kd w s n t m (sqs ow k)
      rw [t3]
      generalize e_X7_priceGains_32_35_M r.2 (nI m) t (nI ow) (nI T) (nI k) (nI (sqs ow k)) = E at *
      dsimp only
      refine ⟨fun i hi => ?_, rfl, t4, fun g => if g = ga kd w s n t m (sqs ow k) ∧ pz (sqs ow k) < G g then pz (sqs ow k) else G g, ?_, ?_, ?_⟩
      · by_cases c : i = k
        · subst c
          rw [hr, i2]; exact t2
        · exact i1 i (by omega)
      · intro g hg
        obtain ⟨u1, u2⟩ := j1 g hg
        have hp := pz_NV hlt
        have lt : (nI (pz (sqs ow k)) < nI (G g)) ↔ pz (sqs ow k) < G g := nI_ltI (by unfold NV at hp; omega) (by unfold NV at u2; omega)
        dsimp only
        rw [t5 g, u1]
        by_cases c : g = ga kd w s n t m (sqs ow k)
        · rw [if_pos c]
          by_cases c2 : pz (sqs ow k) < G g
          · rw [if_pos (lt.mpr c2), if_pos ⟨c, c2⟩]; exact ⟨rfl, Nat.le_of_lt hp⟩
          · rw [if_neg (fun z => c2 (lt.mp z)), if_neg (fun z => c2 z.2)]; exact ⟨rfl, u2⟩
        · rw [if_neg c, if_neg (fun z => c z.1)]; exact ⟨rfl, u2⟩
      · intro g hg hl
        dsimp only at hl ⊢
        by_cases c : g = ga kd w s n t m (sqs ow k) ∧ pz (sqs ow k) < G g
        · rw [if_pos c] at hl ⊢
          exact ⟨sqs ow k, by rw [eo]; exact sb, c.1.symm, rfl⟩
        · rw [if_neg c] at hl ⊢
          exact j2 g hg hl
      · intro Y hY
        obtain ⟨i, hi, ei⟩ := hY
        dsimp only
        by_cases c : i = k
        · subst c
          rw [← ei]
          by_cases c2 : pz (sqs ow i) < G (ga kd w s n t m (sqs ow i))
          · rw [if_pos ⟨rfl, c2⟩]; exact Nat.le_refl _
          · rw [if_neg (fun z => c2 z.2)]; omega
        · have := j3 Y ⟨i, by omega, ei⟩
          by_cases c2 : ga kd w s n t m Y = ga kd w s n t m (sqs ow k) ∧ pz (sqs ow k) < G (ga kd w s n t m Y)
          · rw [if_pos c2]; omega
          · rw [if_neg c2]; exact this
  obtain ⟨i1, i2, i3, G, j1, j2, j3⟩ := lp T (Nat.le_refl T)
  refine ⟨⟨f1, o1, i1, trivial⟩, i3, G, j1, j2, fun Y hY => ?_⟩
  have hY' : sub Y ow := hY
  obtain ⟨i, hi, ei⟩ := sqs_all ho hY'
  rw [ppc, hT] at hi
  exact j3 Y ⟨i, hi, ei⟩
