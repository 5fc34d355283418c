/-! WHO TURNS THE ORDERS: the class -/
def vS (v : Nat → Int32) (mm A : Nat) : Int32 := sm mm (fun j => if A.testBit j = true then v j else 0)
def v8 (kd w s : Nat → Int32) (n : Nat) (t : Int32) (j : Nat) : Int32 := if gos w s n j t = 2 then 0 else vt kd s n j
def ps (v : Nat → Int32) (mm : Nat) (al his : Int32) (A : Nat) : Int32 := if al < 2 * vS v mm A then 0 else if 2 * (vS v mm A + his) ≤ al then 0 else 1
def Fs (w s : Nat → Int32) (n mm : Nat) (t : Int32) : Nat := bN mm (fun j => decide (gos w s n j t = 1))
theorem vs_28 {A : Nat → Nat → Int32} {s w kd : Nat → Int32} {n mm : Nat} {t : Int32} (h : DV_28 A s w n mm t) (h15 : A 15 1 = nI mm) (hk : ∀ j, j < mm → A 16 j = kd j) {x : Nat} (hx : x < 64) : q_X1_votesOfSet_28 A (nI x) ∧ f_X1_votesOfSet_28 A (nI x) = vS (v8 kd w s n t) mm x := by
  have hm := h.2.1
  have l : ∀ k, k ≤ mm → s_X1_votesOfSet_28_4 A (nI x) 0 k = sm k (fun j => if x.testBit j = true then v8 kd w s n t j else 0) := by
    intro k
    induction k with
    | zero => exact fun _ => rfl
    | succ k ih =>
      intro hk2
      have hs : s_X1_votesOfSet_28_4 A (nI x) 0 (k + 1) = e_X1_votesOfSet_28_4_c2 A (nI x) (nI k) (s_X1_votesOfSet_28_4 A (nI x) 0 k) := rfl
      rw [hs, ih (by omega), sm_s]
      unfold e_X1_votesOfSet_28_4_c2
      rw [isIn_tb A (by omega) (by omega), nI_clamp (by omega), vo_28 h hk (by omega)]
      by_cases c : x.testBit k = true
      · rw [if_pos c, if_neg c10, if_pos c]; rfl
      · rw [if_neg c, if_pos rfl, if_neg c]; exact (Int32.add_zero _).symm
  unfold q_X1_votesOfSet_28 f_X1_votesOfSet_28
  rw [h15, nI_clamp (by omega)]
  exact ⟨⟨fun k hk2 => ⟨fun _ => vi (by omega) (by decide), trivial⟩, trivial⟩, l mm (Nat.le_refl _)⟩
theorem all6 : ∀ m, m < 7 → ((1 : Int32) <<< (nI m &&& 31)) - 1 = nI (2 ^ m - 1) ∧ 2 ^ m - 1 < 64 ∧ ∀ j, j < m → (2 ^ m - 1).testBit j = true := by decide +kernel
theorem av_28 {A : Nat → Nat → Int32} {s w kd : Nat → Int32} {n mm : Nat} {t : Int32} (h : DV_28 A s w n mm t) (h15 : A 15 1 = nI mm) (hk : ∀ j, j < mm → A 16 j = kd j) : q_X1_votesOfSet_28 A (f_X6_setOfMembers_19 A) ∧ f_X1_votesOfSet_28 A (f_X6_setOfMembers_19 A) = sm mm (v8 kd w s n t) := by
  have hm := h.2.1
  obtain ⟨a1, a2, a3⟩ := all6 mm (by omega)
  have e : f_X6_setOfMembers_19 A = nI (2 ^ mm - 1) := by
    unfold f_X6_setOfMembers_19
    rw [h15]
    exact a1
  obtain ⟨v1, v2⟩ := vs_28 h h15 hk a2
  rw [e]
  refine ⟨v1, v2.trans ?_⟩
  unfold vS
  exact sm_congr (fun j hj => if_pos (a3 j hj))
theorem dif_64 {a b : Nat} (h : a < 64) : dif a b < 64 := Nat.lt_of_le_of_lt Nat.and_le_left h
theorem ot_i {A : Nat → Nat → Int32} {s w kd : Nat → Int32} {n mm : Nat} {t : Int32} (h : DV_28 A s w n mm t) (h15 : A 15 1 = nI mm) (hk : ∀ j, j < mm → A 16 j = kd j) {o : Nat} (ho : o < 64) (m t' al his v6 : Int32) : ∀ i, i ≤ 2 ^ pc o → (∀ j, j < i → qi_X7_ordersTurnedBy_32_98 A m t' al his (nI o) v6 (nI j) (s_X7_ordersTurnedBy_32_98 A m t' al his (nI o) v6 0 0 j).1 (s_X7_ordersTurnedBy_32_98 A m t' al his (nI o) v6 0 0 j).2) ∧ (s_X7_ordersTurnedBy_32_98 A m t' al his (nI o) v6 0 0 i).1 = sm i (fun j => nI (fct (pc (sqs o j)) * fct (pc (dif o (sqs o j)))) * ps (v8 kd w s n t) mm al his (sqs o j)) ∧ (s_X7_ordersTurnedBy_32_98 A m t' al his (nI o) v6 0 0 i).2 = nI (sqs o i) := by
  intro i
  induction i with
  | zero => exact fun _ => ⟨fun j hj => absurd hj (by omega), rfl, rfl⟩
  | succ i ih =>
    intro hi
    obtain ⟨i0, i1, i2⟩ := ih (by omega)
    have h1 := (sqs_rk (o := o) (by omega) i (by rw [pcw_pc]; exact hi)).1
    have h2 : sqs o i < 64 := Nat.lt_of_le_of_lt (sub_leW 6 _ o ho h1) ho
    obtain ⟨v1, v2⟩ := vs_28 h h15 hk h2
    have p1 := pc6 _ h2
    have p2 := pc6 _ (dif_64 (b := sqs o i) ho)
    have hs : s_X7_ordersTurnedBy_32_98 A m t' al his (nI o) v6 0 0 (i + 1) = (e_X7_ordersTurnedBy_32_98_c7 A m t' al his (nI o) v6 (nI i) (s_X7_ordersTurnedBy_32_98 A m t' al his (nI o) v6 0 0 i).1 (s_X7_ordersTurnedBy_32_98 A m t' al his (nI o) v6 0 0 i).2, f_X7_subsetBehind A (s_X7_ordersTurnedBy_32_98 A m t' al his (nI o) v6 0 0 i).2 (nI o)) := rfl
    have hq : qi_X7_ordersTurnedBy_32_98 A m t' al his (nI o) v6 (nI i) (s_X7_ordersTurnedBy_32_98 A m t' al his (nI o) v6 0 0 i).1 (s_X7_ordersTurnedBy_32_98 A m t' al his (nI o) v6 0 0 i).2 := by
      unfold qi_X7_ordersTurnedBy_32_98
      rw [i2, i_dif (by omega) (by omega), bc_c A (by omega), bc_c A (by have := dif_64 (b := sqs o i) ho; omega)]
      exact ⟨v1, fun _ _ => (oo_c A p1).1, fun _ _ => (oo_c A p2).1, trivial⟩
    refine ⟨fun j hj => ?_, ?_⟩
    · by_cases c : j = i
      · subst c; exact hq
      · exact i0 j (by omega)
    · rw [hs, sm_s, ← i1]
      clear hs hq i0 i1
      generalize s_X7_ordersTurnedBy_32_98 A m t' al his (nI o) v6 0 0 i = r at *
      (try dsimp only)
      rw [i2, sb_i (by omega) h1, sqs_s]
      refine ⟨?_, rfl⟩
      unfold e_X7_ordersTurnedBy_32_98_c7 ps
      rw [v2, i_dif (by omega) (by omega), bc_c A (by omega), bc_c A (by have := dif_64 (b := sqs o i) ho; omega), (oo_c A p1).2, (oo_c A p2).2, nI_mul]
      by_cases c1 : al < 2 * vS (v8 kd w s n t) mm (sqs o i)
      · rw [if_pos c1, if_pos c1, Int32.mul_zero, Int32.add_zero]
      · rw [if_neg c1, if_neg c1]
        by_cases c2 : 2 * (vS (v8 kd w s n t) mm (sqs o i) + his) ≤ al
        · rw [if_pos c2, if_pos c2, Int32.mul_zero, Int32.add_zero]
        · rw [if_neg c2, if_neg c2, Int32.mul_one]
def pwr (kd w s : Nat → Int32) (n mm : Nat) (t : Int32) (m : Nat) : Int32 := if gos w s n m t = 1 then sm 64 (fun A => nI (wtA (Fs w s n mm t) m A) * ps (v8 kd w s n t) mm (sm mm (v8 kd w s n t)) (v8 kd w s n t m) A) else 0
theorem Fs_lt (w s : Nat → Int32) (n : Nat) {mm : Nat} (hm : mm ≤ 6) (t : Int32) : Fs w s n mm t < 64 := Nat.lt_of_lt_of_le (bN_lt mm _) (Nat.pow_le_pow_right (by decide) hm)
theorem p2_6 : ∀ m, m < 6 → 2 ^ m < 4096 := by decide
theorem p2_7 : ∀ m, m < 7 → 2 ^ m ≤ 64 := by decide
theorem po_c {M : Nat → Nat → Int32} {s kd w : Nat → Int32} {q : Int32} {n mm : Nat} (h : CS_28 M s kd w q n mm) {m : Nat} (hm : m < mm) (t : Int32) : q_X7_ordersTurnedBy_32 M (nI m) t ∧ f_X7_ordersTurnedBy_32 M (nI m) t = pwr kd w s n mm t m := by
  obtain ⟨q1, hd, _, hc⟩ := dv_28 h t
  unfold q_X7_ordersTurnedBy_32 f_X7_ordersTurnedBy_32
  generalize g_X1_take_28 M t = A at *
  have h15 := hc.1.1
  have hk : ∀ j, j < mm → A 16 j = kd j := fun j hj => (hc.2.1 j hj).1
  have h6 := hd.2.1
  have eg : A 31 m = gos w s n m t := (hd.2.2 m hm).2.2.1
  obtain ⟨g1, g2⟩ := sg_c hd h15 1
  obtain ⟨a1, a2⟩ := av_28 hd h15 hk
  have e1 : f_X1_setThatGoes_28 A 1 = nI (Fs w s n mm t) := by rw [g2, bs_bN (by omega)]; rfl
  have hF := Fs_lt w s n h6 t
  have ho : dif (Fs w s n mm t) (2 ^ m) < 64 := dif_64 hF
  have e2 : f_X1_setThatGoes_28 A 1 &&& (((1 : Int32) <<< (nI m &&& 31)) ^^^ (-1)) = nI (dif (Fs w s n mm t) (2 ^ m)) := by rw [e1, sh1 m (by omega), i_dif (by omega) (p2_6 m (by omega))]
  have e3 : A 270 m = v8 kd w s n t m := vo_28 hd hk hm
  have p1 := pc6 _ ho
  have p3 := p2_7 _ p1
  rw [e2, bc_c A (by omega), sh1 _ (by omega), nI_clamp (by omega), nI_clamp (by omega), eg, a2, e3]
  unfold pwr
  generalize hoe : dif (Fs w s n mm t) (2 ^ m) = o at *
  obtain ⟨k0, k1, _⟩ := ot_i hd h15 hk ho (nI m) t (sm mm (v8 kd w s n t)) (v8 kd w s n t m) (nI (2 ^ pc o)) (2 ^ pc o) (Nat.le_refl _)
  refine ⟨⟨q1, vi (by omega) (by decide), fun _ => a1, fun _ => g1, fun _ => k0, trivial⟩, ?_⟩
  by_cases c : gos w s n m t = 1
  · rw [if_pos c, if_pos c, k1, cls_eq ho]
    unfold wtA
    rw [hoe]
  · rw [if_neg c, if_neg c]
