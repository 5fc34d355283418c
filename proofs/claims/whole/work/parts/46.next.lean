/-! WHO COULD BE MEANT, WHAT TO PUT NEXT -/
def cb (w s : Nat → Int32) (n : Nat) (pp : Nat → Nat → Int32) (m k : Nat) : Bool := Nat.rec (motive := fun _ => Bool) true (fun i r => r && decide (gos w s n m (pp 0 i) = pp 1 i)) k
theorem cb_s (w s : Nat → Int32) (n : Nat) (pp : Nat → Nat → Int32) (m k : Nat) : cb w s n pp m (k + 1) = (cb w s n pp m k && decide (gos w s n m (pp 0 k) = pp 1 k)) := rfl
theorem full6 : ∀ m, m < 7 → ((1 : Int32) <<< (nI m &&& 31)) - 1 = bs m (fun _ => true) := by decide +kernel
theorem sg_c {A : Nat → Nat → Int32} {s w : Nat → Int32} {n mm : Nat} {t : Int32} (h : DV_28 A s w n mm t) (h15 : A 15 1 = nI mm) (way : Int32) : q_X1_setThatGoes_28 A way ∧ f_X1_setThatGoes_28 A way = bs mm (fun m => decide (gos w s n m t = way)) := by
  have hm := h.2.1
  have em : (A 15 1).toNatClampNeg = mm := cn_n h15 (by omega)
  have lp : ∀ k, k ≤ mm → s_X1_setThatGoes_28_4 A way 0 k = bs k (fun m => decide (gos w s n m t = way)) := by
    intro k
    induction k with
    | zero => intro _; rfl
    | succ k ih =>
      intro hk
      have hs : s_X1_setThatGoes_28_4 A way 0 (k + 1) = e_X1_setThatGoes_28_4_c2 A way (nI k) (s_X1_setThatGoes_28_4 A way 0 k) := rfl
      rw [hs, bs_s, ih (by omega)]
      unfold e_X1_setThatGoes_28_4_c2
      rw [nI_clamp (by omega), (h.2.2 k (by omega)).2.2.1]
      by_cases c : gos w s n k t = way <;> simp [c]
  unfold q_X1_setThatGoes_28 f_X1_setThatGoes_28
  rw [em]
  exact ⟨⟨fun k hk => ⟨vi (by omega) (by decide), trivial⟩, trivial⟩, lp mm (Nat.le_refl mm)⟩
theorem cd_c {M : Nat → Nat → Int32} {s kd w : Nat → Int32} {q : Int32} {n mm sc : Nat} {pp : Nat → Nat → Int32} (h : CS_28 M s kd w q n mm) (he : M 243 0 = nI sc ∧ ∀ k, k < sc → M 244 k = pp 0 k ∧ M 245 k = pp 1 k) (h6 : sc ≤ 6) : q_X3_setThatFits_243_19 M ∧ f_X3_setThatFits_243_19 M = bs mm (fun m => cb w s n pp m sc) ∧ CS_28 (g_X3_setThatFits_243_19 M) s kd w q n mm := by
  have hm := h.1.2.1
  have es : (M 243 0).toNatClampNeg = sc := cn_n he.1 (by omega)
  have lp : ∀ k, k ≤ sc → (∀ i, i < k → qi_X3_setThatFits_243_19_7 (s_X3_setThatFits_243_19_7 M (bs mm (fun _ => true)) i).2 (nI i) (s_X3_setThatFits_243_19_7 M (bs mm (fun _ => true)) i).1) ∧ (s_X3_setThatFits_243_19_7 M (bs mm (fun _ => true)) k).1 = bs mm (fun m => cb w s n pp m k) ∧ CS_28 (s_X3_setThatFits_243_19_7 M (bs mm (fun _ => true)) k).2 s kd w q n mm ∧ ∀ c, (c < 28 ∨ 31 < c) ∧ (c < 268 ∨ 273 < c) → (s_X3_setThatFits_243_19_7 M (bs mm (fun _ => true)) k).2 c = M c := by
    intro k
    induction k with
    | zero => intro _; exact ⟨fun i hi => absurd hi (by omega), rfl, h, fun c _ => rfl⟩
    | succ k ih =>
      intro hk
      obtain ⟨i1, i2, i3, i4⟩ := ih (by omega)
      have hs : s_X3_setThatFits_243_19_7 M (bs mm (fun _ => true)) (k + 1) = (e_X3_setThatFits_243_19_7_c2 (s_X3_setThatFits_243_19_7 M (bs mm (fun _ => true)) k).2 (nI k) (s_X3_setThatFits_243_19_7 M (bs mm (fun _ => true)) k).1, e_X3_setThatFits_243_19_7_M (s_X3_setThatFits_243_19_7 M (bs mm (fun _ => true)) k).2 (nI k) (s_X3_setThatFits_243_19_7 M (bs mm (fun _ => true)) k).1) := rfl
      rw [hs]
      clear hs
      generalize hr : s_X3_setThatFits_243_19_7 M (bs mm (fun _ => true)) k = r at *
      have ck : (nI k).toNatClampNeg = k := nI_clamp (by omega)
      have e4 : r.2 244 k = pp 0 k := by rw [i4 244 (by decide)]; exact (he.2 k (by omega)).1
      obtain ⟨k1, dv, fr, hc⟩ := dv_28 i3 (pp 0 k)
      have e5 : g_X1_take_28 r.2 (pp 0 k) 245 k = pp 1 k := by rw [fr 245 (by decide), i4 245 (by decide)]; exact (he.2 k (by omega)).2
      have sg := sg_c dv hc.1.1 (pp 1 k)
      have eM : e_X3_setThatFits_243_19_7_M r.2 (nI k) r.1 = g_X1_take_28 r.2 (pp 0 k) := by unfold e_X3_setThatFits_243_19_7_M; rw [ck, e4]
      dsimp only
      rw [eM]
      refine ⟨fun i hi => ?_, ?_, hc, fun c hc' => (fr c hc').trans (i4 c hc')⟩
      · by_cases c : i = k
        · subst c
          rw [hr]
          unfold qi_X3_setThatFits_243_19_7
          rw [ck, e4, e5]
          exact ⟨vi (by omega) (by decide), k1, sg.1, trivial⟩
        · exact i1 i (by omega)
      · unfold e_X3_setThatFits_243_19_7_c2
        rw [ck, e4, e5, sg.2, i2, bs_and (by omega)]
        rfl
  obtain ⟨i1, i2, i3, i4⟩ := lp sc (Nat.le_refl sc)
  unfold q_X3_setThatFits_243_19 f_X3_setThatFits_243_19 g_X3_setThatFits_243_19
  rw [show f_X6_setOfMembers_19 M = bs mm (fun _ => true) by unfold f_X6_setOfMembers_19; rw [h.1.1, full6 mm (by omega)], es]
  exact ⟨⟨i1, trivial⟩, i2, i3⟩
theorem cd_r {M : Nat → Nat → Int32} {s kd w : Nat → Int32} {q : Int32} {n mm sc : Nat} {pp : Nat → Nat → Int32} (h : RS_279 M s kd w q n mm) (he : M 274 17 = nI sc ∧ ∀ k, k < sc → M 285 (2 * k) = pp 0 k ∧ M 285 (2 * k + 1) = pp 1 k) (h6 : sc ≤ 6) : q_X9_couldBe_274 M ∧ f_X9_couldBe_274 M = bs mm (fun m => cb w s n pp m sc) := by
  have hm := h.1.2.2
  have es : (M 274 17).toNatClampNeg = sc := cn_n he.1 (by omega)
  have ix : ∀ k, k < sc → M 285 ((2 : Int32) * nI k).toNatClampNeg = pp 0 k ∧ M 285 ((2 : Int32) * nI k + 1).toNatClampNeg = pp 1 k := fun k hk => by
    obtain ⟨m0, m1⟩ := m2x (k := k) (by omega)
    rw [m0, m1]
    exact he.2 k hk
  have inn : ∀ (v : Int32) (m : Nat), m < mm → ∀ k, k ≤ sc → s_X9_couldBe_274_17 M v (nI m) 1 k = if cb w s n pp m k = true then 1 else 0 := by
    intro v m hmm k
    induction k with
    | zero => intro _; rfl
    | succ k ih =>
      intro hk
      have hs : s_X9_couldBe_274_17 M v (nI m) 1 (k + 1) = e_X9_couldBe_274_17_c3 M v (nI m) (nI k) (s_X9_couldBe_274_17 M v (nI m) 1 k) := rfl
      rw [hs, ih (by omega), cb_s]
      unfold e_X9_couldBe_274_17_c3
      rw [(ix k (by omega)).1, (ix k (by omega)).2, (go_279 h hmm (pp 0 k)).2]
      by_cases c1 : cb w s n pp m k = true <;> by_cases c2 : gos w s n m (pp 0 k) = pp 1 k <;> simp [c1, c2]
  have lp : ∀ k, k ≤ mm → s_X9_couldBe_274_4 M 0 k = bs k (fun m => cb w s n pp m sc) := by
    intro k
    induction k with
    | zero => intro _; rfl
    | succ k ih =>
      intro hk
      have hs : s_X9_couldBe_274_4 M 0 (k + 1) = e_X9_couldBe_274_4_c1 M (nI k) (s_X9_couldBe_274_4 M 0 k) := rfl
      rw [hs, bs_s, ih (by omega)]
      unfold e_X9_couldBe_274_4_c1
      rw [es, inn _ k (by omega) sc (Nat.le_refl sc)]
      by_cases c1 : cb w s n pp k sc = true <;> simp [c1]
  unfold q_X9_couldBe_274 f_X9_couldBe_274
  rw [rm_279 h]
  refine ⟨⟨fun k hk => ?_, trivial⟩, lp mm (Nat.le_refl mm)⟩
  unfold qi_X9_couldBe_274_4
  rw [es]
  refine ⟨fun i hi => ?_, trivial⟩
  unfold qi_X9_couldBe_274_17
  have e : (2 : Int32) * nI i = nI (2 * i) := nI_mul 2 i
  rw [(ix i hi).1, e, nI_1]
  exact ⟨fun _ => vi (by omega) (by decide), fun _ => (go_279 h hk (pp 0 i)).1, fun _ => vi (by omega) (by decide), trivial⟩
theorem s_couldBe {bd : Nat} {M : Nat → Nat → Int32} {L : Nat → Nat → Int64} (h : RR (bd + 20) M L) : ST bd 95 172 [] M L := by
  have h0 := h
  obtain ⟨s, kd, sd, w, q, n, mm, cnt, e, P, ns, kp, I, nj, sj, seed, len, tx, fl, sc, ec, pp, h1, h2, h3⟩ := h
  have hl : sc ≤ 6 := h3.2.2.2.2.1
  obtain ⟨p1, p2, p3⟩ := cd_c h1.1 h1.2.2.2.2.2.2.2.1 hl
  have fr : ∀ c, (c < 28 ∨ 31 < c) ∧ (c < 268 ∨ 273 < c) → g_X8_couldBe_0 M c = M c := fun c hc => fr_g_X8_couldBe_0 M c (by omega) (by omega) (by omega) (by omega) (by omega) (by omega) (by omega)
  have c8 := c_X8_couldBe_0 (d := 5) (L := L) M ⟨p1, trivial⟩
  have f8 : f_X8_couldBe_0 M = bs mm (fun m => cb w s n pp m sc) := by unfold f_X8_couldBe_0; exact p2
  have h2' := Rr_c (M' := g_X8_couldBe_0 M) h2 (fun c hc => fr c (by omega))
  generalize g_X8_couldBe_0 M = N at *
  obtain ⟨r1, r2⟩ := cd_r h2'.1 h2'.2.2.2.2.2.2.2.1 hl
  exact ST_q h0 c8 (c_X9_couldBe_274 (d := 5) (L := L) N r1) (by rw [f8, r2]) (fun c hc => fr c (by omega)) (fun c _ => rfl)
/-! next -/
def pr3 (w s : Nat → Int32) (n mm : Nat) (p : Nat → Bool) (t way : Int32) : Int32 := sm mm (fun m => if (p m && decide (gos w s n m t = way)) = true then 1 else 0)
def mx3 (w s : Nat → Int32) (n mm : Nat) (p : Nat → Bool) (t : Int32) (k : Nat) : Int32 := Nat.rec (motive := fun _ => Int32) 0 (fun i r => if r < pr3 w s n mm p t (nI i) then pr3 w s n mm p t (nI i) else r) k
def nx8 (w s : Nat → Int32) (n mm : Nat) (p : Nat → Bool) (k : Nat) : Int32 × Int32 := Nat.rec (motive := fun _ => Int32 × Int32) (-1, sm mm (fun m => if p m = true then 1 else 0)) (fun i r => (if r.2 ≤ mx3 w s n mm p (nI i) 3 then r.1 else nI i, if r.2 ≤ mx3 w s n mm p (nI i) 3 then r.2 else mx3 w s n mm p (nI i) 3)) k
theorem mx3_s (w s : Nat → Int32) (n mm : Nat) (p : Nat → Bool) (t : Int32) (k : Nat) : mx3 w s n mm p t (k + 1) = if mx3 w s n mm p t k < pr3 w s n mm p t (nI k) then pr3 w s n mm p t (nI k) else mx3 w s n mm p t k := rfl
theorem nx8_s (w s : Nat → Int32) (n mm : Nat) (p : Nat → Bool) (k : Nat) : nx8 w s n mm p (k + 1) = (if (nx8 w s n mm p k).2 ≤ mx3 w s n mm p (nI k) 3 then (nx8 w s n mm p k).1 else nI k, if (nx8 w s n mm p k).2 ≤ mx3 w s n mm p (nI k) 3 then (nx8 w s n mm p k).2 else mx3 w s n mm p (nI k) 3) := rfl
theorem gp_c {A : Nat → Nat → Int32} {s w : Nat → Int32} {n mm : Nat} {t : Int32} (h : DV_28 A s w n mm t) (h15 : A 15 1 = nI mm) (p : Nat → Bool) : q_X3_greatestPart_28 A (bs mm p) ∧ f_X3_greatestPart_28 A (bs mm p) = mx3 w s n mm p t 3 := by
  have hm := h.2.1
  have pt : ∀ way, f_J6_bitCount_0f7a4 A (bs mm p &&& f_X1_setThatGoes_28 A way) = pr3 w s n mm p t way := fun way => by
    rw [(sg_c h h15 way).2, bs_and (by omega), bs_bN (by omega), bc_c A (bN_4096 (by omega) _), pc_sm (by omega)]
    rfl
  have lp : ∀ k, s_X3_greatestPart_28_4 A (bs mm p) 0 k = mx3 w s n mm p t k := by
    intro k
    induction k with
    | zero => rfl
    | succ k ih =>
      have hs : s_X3_greatestPart_28_4 A (bs mm p) 0 (k + 1) = e_X3_greatestPart_28_4_c2 A (bs mm p) (nI k) (s_X3_greatestPart_28_4 A (bs mm p) 0 k) := rfl
      rw [hs, ih, mx3_s]
      unfold e_X3_greatestPart_28_4_c2
      rw [pt]
  unfold q_X3_greatestPart_28 f_X3_greatestPart_28
  exact ⟨⟨fun k hk => ⟨(sg_c h h15 (nI k)).1, trivial⟩, trivial⟩, lp 3⟩
theorem nx_c {M : Nat → Nat → Int32} {s kd w : Nat → Int32} {q : Int32} {n mm sc : Nat} {pp : Nat → Nat → Int32} (h : CS_28 M s kd w q n mm) (he : M 243 0 = nI sc ∧ ∀ k, k < sc → M 244 k = pp 0 k ∧ M 245 k = pp 1 k) (h6 : sc ≤ 6) : q_X3_bestToPut_243_19 M ∧ f_X3_bestToPut_243_19 M = (nx8 w s n mm (fun m => cb w s n pp m sc) 8).1 := by
  have hm := h.1.2.1
  obtain ⟨p1, p2, p3⟩ := cd_c h he h6
  obtain ⟨p, hp⟩ : ∃ p : Nat → Bool, p = (fun m => cb w s n pp m sc) := ⟨_, rfl⟩
  rw [← hp] at p2 ⊢
  clear hp
  unfold q_X3_bestToPut_243_19 f_X3_bestToPut_243_19
  rw [p2]
  generalize g_X3_setThatFits_243_19 M = A at *
  have eb : f_J6_bitCount_0f7a4 A (bs mm p) = sm mm (fun m => if p m = true then 1 else 0) := by
    rw [bs_bN (by omega), bc_c A (bN_4096 (by omega) _), pc_sm (by omega)]
  rw [eb]
  have lp : ∀ k, (∀ i, i < k → qi_X3_bestToPut_243_19_17 (s_X3_bestToPut_243_19_17 A (bs mm p) (-1) (sm mm (fun m => if p m = true then 1 else 0)) i).2.2 (bs mm p) (nI i) (s_X3_bestToPut_243_19_17 A (bs mm p) (-1) (sm mm (fun m => if p m = true then 1 else 0)) i).1 (s_X3_bestToPut_243_19_17 A (bs mm p) (-1) (sm mm (fun m => if p m = true then 1 else 0)) i).2.1) ∧ (s_X3_bestToPut_243_19_17 A (bs mm p) (-1) (sm mm (fun m => if p m = true then 1 else 0)) k).1 = (nx8 w s n mm p k).1 ∧ (s_X3_bestToPut_243_19_17 A (bs mm p) (-1) (sm mm (fun m => if p m = true then 1 else 0)) k).2.1 = (nx8 w s n mm p k).2 ∧ CS_28 (s_X3_bestToPut_243_19_17 A (bs mm p) (-1) (sm mm (fun m => if p m = true then 1 else 0)) k).2.2 s kd w q n mm := by
    intro k
    induction k with
    | zero => exact ⟨fun i hi => absurd hi (by omega), rfl, rfl, p3⟩
    | succ k ih =>
      obtain ⟨i1, i2, i3, i4⟩ := ih
      generalize hX : sm mm (fun m => if p m = true then 1 else 0) = X at *
      have hs : s_X3_bestToPut_243_19_17 A (bs mm p) (-1) X (k + 1) = (e_X3_bestToPut_243_19_17_c3 (s_X3_bestToPut_243_19_17 A (bs mm p) (-1) X k).2.2 (bs mm p) (nI k) (s_X3_bestToPut_243_19_17 A (bs mm p) (-1) X k).1 (s_X3_bestToPut_243_19_17 A (bs mm p) (-1) X k).2.1, e_X3_bestToPut_243_19_17_c4 (s_X3_bestToPut_243_19_17 A (bs mm p) (-1) X k).2.2 (bs mm p) (nI k) (s_X3_bestToPut_243_19_17 A (bs mm p) (-1) X k).1 (s_X3_bestToPut_243_19_17 A (bs mm p) (-1) X k).2.1, e_X3_bestToPut_243_19_17_M (s_X3_bestToPut_243_19_17 A (bs mm p) (-1) X k).2.2 (bs mm p) (nI k) (s_X3_bestToPut_243_19_17 A (bs mm p) (-1) X k).1 (s_X3_bestToPut_243_19_17 A (bs mm p) (-1) X k).2.1) := rfl
      rw [hs]
      clear hs
      generalize hr : s_X3_bestToPut_243_19_17 A (bs mm p) (-1) X k = r at *
      obtain ⟨k1, dv, fr, hc⟩ := dv_28 i4 (nI k)
      have gp := gp_c dv hc.1.1 p
      have eM : e_X3_bestToPut_243_19_17_M r.2.2 (bs mm p) (nI k) r.1 r.2.1 = g_X1_take_28 r.2.2 (nI k) := by unfold e_X3_bestToPut_243_19_17_M; rfl
      dsimp only
      rw [eM, nx8_s]
      refine ⟨fun i hi => ?_, ?_, ?_, hc⟩
      · by_cases c : i = k
        · subst c
          rw [hr]
          exact ⟨k1, gp.1, trivial⟩
        · exact i1 i (by omega)
      · unfold e_X3_bestToPut_243_19_17_c3
        rw [gp.2, i2, i3]
      · unfold e_X3_bestToPut_243_19_17_c4
        rw [gp.2, i3]
  obtain ⟨i1, i2, i3, i4⟩ := lp 8
  exact ⟨⟨p1, i1, trivial⟩, i2⟩
theorem nx_r {M : Nat → Nat → Int32} {s kd w : Nat → Int32} {q : Int32} {n mm sc : Nat} {pp : Nat → Nat → Int32} (h : RS_279 M s kd w q n mm) (he : M 274 17 = nI sc ∧ ∀ k, k < sc → M 285 (2 * k) = pp 0 k ∧ M 285 (2 * k + 1) = pp 1 k) (h6 : sc ≤ 6) : q_X9_next_274 M ∧ f_X9_next_274 M = (nx8 w s n mm (fun m => cb w s n pp m sc) 8).1 := by
  have hm := h.1.2.2
  obtain ⟨p1, p2⟩ := cd_r h he h6
  unfold q_X9_next_274 f_X9_next_274
  rw [p2]
  generalize (fun m => cb w s n pp m sc) = p at *
  have b4 := bN_4096 (show mm ≤ 12 by omega) p
  have hb := bc_r M b4
  rw [← bs_bN (by omega), pc_sm (by omega)] at hb
  have h40 : ∀ (v2 v3 v5 t way : Int32) k, k ≤ mm → s_X9_next_274_40 M (bs mm p) v2 v3 t v5 way 0 k = sm k (fun m => if (p m && decide (gos w s n m t = way)) = true then 1 else 0) := by
    intro v2 v3 v5 t way k
    induction k with
    | zero => intro _; rfl
    | succ k ih =>
      intro hk
      have hs : s_X9_next_274_40 M (bs mm p) v2 v3 t v5 way 0 (k + 1) = e_X9_next_274_40_c7 M (bs mm p) v2 v3 t v5 way (nI k) (s_X9_next_274_40 M (bs mm p) v2 v3 t v5 way 0 k) := rfl
      rw [hs, sm_s, ih (by omega)]
      unfold e_X9_next_274_40_c7
      rw [bs_bN (by omega), hasr_tb M (by omega) (by omega), bN_tb, decide_eq_true (show k < mm by omega), Bool.true_and, (go_279 h (show k < mm by omega) t).2]
      by_cases c1 : p k = true <;> by_cases c2 : gos w s n k t = way <;> simp [c1, c2]
  have h28 : ∀ (v2 v3 t : Int32) k, s_X9_next_274_28 M (bs mm p) v2 v3 t 0 k = mx3 w s n mm p t k := by
    intro v2 v3 t k
    induction k with
    | zero => rfl
    | succ k ih =>
      have hs : s_X9_next_274_28 M (bs mm p) v2 v3 t 0 (k + 1) = e_X9_next_274_28_c5 M (bs mm p) v2 v3 t (nI k) (s_X9_next_274_28 M (bs mm p) v2 v3 t 0 k) := rfl
      rw [hs, ih, mx3_s]
      unfold e_X9_next_274_28_c5
      rw [rm_279 h, h40 _ _ _ _ _ mm (Nat.le_refl mm)]
      show (if pr3 w s n mm p t (nI k) ≤ mx3 w s n mm p t k then mx3 w s n mm p t k else pr3 w s n mm p t (nI k)) = _
      by_cases c : mx3 w s n mm p t k < pr3 w s n mm p t (nI k)
      · rw [if_pos c, if_neg (i_nle.mpr c)]
      · rw [if_neg c, if_pos (i_nlt.mp c)]
  have h15 : ∀ k, s_X9_next_274_15 M (bs mm p) (-1) (sm mm (fun m => if p m = true then 1 else 0)) k = nx8 w s n mm p k := by
    intro k
    induction k with
    | zero => rfl
    | succ k ih =>
      have hs : s_X9_next_274_15 M (bs mm p) (-1) (sm mm (fun m => if p m = true then 1 else 0)) (k + 1) = (e_X9_next_274_15_c2 M (bs mm p) (nI k) (s_X9_next_274_15 M (bs mm p) (-1) (sm mm (fun m => if p m = true then 1 else 0)) k).1 (s_X9_next_274_15 M (bs mm p) (-1) (sm mm (fun m => if p m = true then 1 else 0)) k).2, e_X9_next_274_15_c3 M (bs mm p) (nI k) (s_X9_next_274_15 M (bs mm p) (-1) (sm mm (fun m => if p m = true then 1 else 0)) k).1 (s_X9_next_274_15 M (bs mm p) (-1) (sm mm (fun m => if p m = true then 1 else 0)) k).2) := rfl
      rw [hs, ih, nx8_s]
      unfold e_X9_next_274_15_c2 e_X9_next_274_15_c3
      rw [h28]
  rw [hb.2, h15 8]
  refine ⟨⟨p1, hb.1, fun k hk => ?_, trivial⟩, rfl⟩
  refine ⟨fun i hi => ⟨fun j hj => ⟨fun _ => ?_, trivial⟩, trivial⟩, trivial⟩
  rw [rm_279 h] at hj
  exact (go_279 h hj _).1
theorem s_next {bd : Nat} {M : Nat → Nat → Int32} {L : Nat → Nat → Int64} (h : RR (bd + 20) M L) : ST bd 96 173 [] M L := by
  have h0 := h
  obtain ⟨s, kd, sd, w, q, n, mm, cnt, e, P, ns, kp, I, nj, sj, seed, len, tx, fl, sc, ec, pp, h1, h2, h3⟩ := h
  have hl : sc ≤ 6 := h3.2.2.2.2.1
  obtain ⟨p1, p2⟩ := nx_c h1.1 h1.2.2.2.2.2.2.2.1 hl
  have fr : ∀ c, (c < 28 ∨ 31 < c) ∧ (c < 268 ∨ 273 < c) → g_X8_next_0 M c = M c := fun c hc => fr_g_X8_next_0 M c (by omega) (by omega) (by omega) (by omega) (by omega) (by omega) (by omega)
  have c8 := c_X8_next_0 (d := 4) (L := L) M ⟨p1, trivial⟩
  have f8 : f_X8_next_0 M = (nx8 w s n mm (fun m => cb w s n pp m sc) 8).1 := by unfold f_X8_next_0; exact p2
  have h2' := Rr_c (M' := g_X8_next_0 M) h2 (fun c hc => fr c (by omega))
  generalize g_X8_next_0 M = N at *
  obtain ⟨r1, r2⟩ := nx_r h2'.1 h2'.2.2.2.2.2.2.2.1 hl
  exact ST_q h0 c8 (c_X9_next_274 (d := 4) (L := L) N r1) (by rw [f8, r2]) (fun c hc => fr c (by omega)) (fun c _ => rfl)
