/-! THE CLASS: take -/
theorem ho_20 {A : Nat → Nat → Int32} {n k : Nat} (h1 : A 20 1 = nI n) (hk : k < n) (hn : n ≤ 12) : f_X0_holds_20 A (nI k) = if A 27 k = 0 then 1 else 0 := by
  have ck : (nI k).toNatClampNeg = k := nI_clamp (by omega)
  unfold f_X0_holds_20
  rw [h1, if_neg (nI_pos (by omega)), if_neg (i_nle.mpr (nI_lt hk (by omega))), ck]
  by_cases c : A 27 k = 0 <;> simp [c]
theorem qho_20 (A : Nat → Nat → Int32) {k : Nat} (hk : k < 12) : q_X0_holds_20 A (nI k) := ⟨fun _ _ => vi hk (by decide), trivial⟩
theorem pb_28 (A : Nat → Nat → Int32) (f : Nat → Int32) (t : Int32) (k : Nat) (u : Nat → Int32) (hk : k < 12) (h2 : A 28 2 = t) (e23 : A 23 k = u (23 + k)) (e35 : A 24 k = u (35 + k)) (e47 : A 25 k = u (47 + k)) : f_X1_pullBy_28 (z_row A 30 f) (nI k) = if u (23 + k) = t then (if u (35 + k) = 1 then u (47 + k) else -u (47 + k)) else 0 := by
  have ck : (nI k).toNatClampNeg = k := nI_clamp (by omega)
  unfold f_X1_pullBy_28
  rw [show z_row A 30 f 23 = A 23 from z_row_ne (by decide), show z_row A 30 f 28 = A 28 from z_row_ne (by decide), show z_row A 30 f 24 = A 24 from z_row_ne (by decide), show z_row A 30 f 25 = A 25 from z_row_ne (by decide), ck, e23, h2, e35, e47]
  by_cases c3 : u (23 + k) = t <;> by_cases c4 : u (35 + k) = 1 <;> simp [c3, c4]
theorem to_step_28 (A : Nat → Nat → Int32) (t l : Int32) (k m n o : Nat) (u : Nat → Int32) (hn : n ≤ 12) (hk : k < n) (hm : m < 6) (ho6 : o < 6) (h1 : A 20 1 = nI n) (h2 : A 28 2 = t) (f11 : A 22 k = nI o) (e11 : u (11 + k) = nI o) (e23 : A 23 k = u (23 + k)) (e35 : A 24 k = u (35 + k)) (e47 : A 25 k = u (47 + k)) (e71 : u (71 + k) = 0 ↔ (A 27 k = 0 ∧ f_X8_isIn A l (nI k) = 0)) (j : Nat) : e_X1_takeOne_28_22_M A (nI m) t l (nI k) 29 j = (if j = m then A 29 j + wk u k (nI m) t else A 29 j) ∧ e_X1_takeOne_28_22_M A (nI m) t l (nI k) 30 j = (if j = m then A 30 j + lk u k (nI m) else A 30 j) := by
  have hoj : (nI o = nI m) ↔ o = m := nI_eq (by omega) (by omega)
  have ck : (nI k).toNatClampNeg = k := nI_clamp (by omega)
  have cm : (nI m).toNatClampNeg = m := nI_clamp (by omega)
  have r := fun f => pb_28 A f t k u (by omega) h2 e23 e35 e47
  unfold e_X1_takeOne_28_22_M wk lk
  rw [ho_20 h1 hk hn]
  simp only [ck, cm, f11, e11, hoj, r]
  by_cases c1 : A 27 k = 0
  · by_cases c5 : o = m
    · by_cases c2 : f_X8_isIn A l (nI k) = 0
      · have c0 : u (71 + k) = 0 := e71.mpr ⟨c1, c2⟩
        by_cases c6 : j = m
        · subst c6
          by_cases c3 : u (23 + k) = t <;> simp [c0, c1, c2, c3, c5, zr_if, ud_if, e47]
        · simp [c0, c1, c2, c5, c6, zr_if, ud_if]
      · have c0 : ¬ u (71 + k) = 0 := fun q => c2 (e71.mp q).2
        by_cases c6 : j = m <;> simp [c0, c1, c2, c5, c6]
    · by_cases c6 : j = m <;> simp [c1, c5, c6]
  · have c0 : ¬ u (71 + k) = 0 := fun q => c1 (e71.mp q).1
    by_cases c6 : j = m <;> simp [c0, c1, c6]
def TK_28 (M : Nat → Nat → Int32) (u : Nat → Int32) (n mm : Nat) (l : Int32) : Prop := (M 15 1 = nI mm ∧ mm ≤ 6 ∧ M 20 1 = nI n ∧ n ≤ 12) ∧ (∀ k, k < mm → M 21 k = u (4 + k)) ∧ (∀ k, k < n → ∃ o, o < mm ∧ M 22 k = nI o ∧ u (11 + k) = nI o) ∧ (∀ k, k < n → M 23 k = u (23 + k) ∧ M 24 k = u (35 + k) ∧ M 25 k = u (47 + k) ∧ (u (71 + k) = 0 ↔ (M 27 k = 0 ∧ f_X8_isIn M l (nI k) = 0)))
theorem TK_cong_28 {M M' : Nat → Nat → Int32} {u : Nat → Int32} {n mm : Nat} {l : Int32} (h : TK_28 M u n mm l) (f : ∀ c, c < 28 → M' c = M c) : TK_28 M' u n mm l := by
  unfold TK_28 at h ⊢
  rw [f 15 (by decide), f 20 (by decide), f 21 (by decide), f 22 (by decide), f 23 (by decide), f 24 (by decide), f 25 (by decide), f 27 (by decide)]
  exact h
theorem to22_28 (M : Nat → Nat → Int32) (t l : Int32) (u : Nat → Int32) (n mm m : Nat) (h : TK_28 M u n mm l) (hm : m < mm) (h2 : M 28 2 = t) (hz : M 29 m = 0 ∧ M 30 m = 0) (k : Nat) (hk : k ≤ n) : (s_X1_takeOne_28_22 M (nI m) t l k 29 m = pul u k (nI m) t ∧ s_X1_takeOne_28_22 M (nI m) t l k 30 m = lod u k (nI m)) ∧ ∀ j, j ≠ m → s_X1_takeOne_28_22 M (nI m) t l k 29 j = M 29 j ∧ s_X1_takeOne_28_22 M (nI m) t l k 30 j = M 30 j := by
  obtain ⟨⟨h15, hm6, hn, hn12⟩, hwt, how, hst⟩ := h
  induction k with
  | zero => exact ⟨hz, fun j _ => ⟨rfl, rfl⟩⟩
  | succ k ih =>
    have hs : s_X1_takeOne_28_22 M (nI m) t l (k + 1) = e_X1_takeOne_28_22_M (s_X1_takeOne_28_22 M (nI m) t l k) (nI m) t l (nI k) := rfl
    have fr : ∀ c, c ≠ 29 → c ≠ 30 → s_X1_takeOne_28_22 M (nI m) t l k c = M c := fun c a b => fr_s_X1_takeOne_28_22 M (nI m) t l k c a b
    obtain ⟨o, ho, e1, e2⟩ := how k (by omega)
    obtain ⟨e3, e4, e5, e6⟩ := hst k (by omega)
    obtain ⟨⟨i1, i2⟩, i3⟩ := ih (by omega)
    rw [hs]
    have r := fun j => to_step_28 (s_X1_takeOne_28_22 M (nI m) t l k) t l k m n o u hn12 (by omega) (by omega) (by omega) (by rw [fr _ (by decide) (by decide)]; exact hn) (by rw [fr _ (by decide) (by decide)]; exact h2) (by rw [fr _ (by decide) (by decide)]; exact e1) e2 (by rw [fr _ (by decide) (by decide)]; exact e3) (by rw [fr _ (by decide) (by decide)]; exact e4) (by rw [fr _ (by decide) (by decide)]; exact e5) (by rw [fr _ (by decide) (by decide)]; exact e6) j
    refine ⟨?_, fun j hj => ?_⟩
    · rw [(r m).1, (r m).2, if_pos rfl, if_pos rfl, i1, i2]
      exact ⟨rfl, rfl⟩
    · rw [(r j).1, (r j).2, if_neg hj, if_neg hj]
      exact i3 j hj
/-- behind the weighing: what is set of member m, hanging being x -/
def tG_28 (x : Int32) (A : Nat → Nat → Int32) (m : Int32) : Nat → Nat → Int32 := z_row (z_row (z_row (z_row A 268 (upd (A 268) (m.toNatClampNeg) x)) 269 (upd (A 269) (m.toNatClampNeg) ((A 18 (m.toNatClampNeg) >>> (A 28 2 &&& 31)) &&& 1))) 31 (upd (A 31) (m.toNatClampNeg) (f_X1_wayOf_28 (z_row (z_row A 268 (upd (A 268) (m.toNatClampNeg) x)) 269 (upd (A 269) (m.toNatClampNeg) ((A 18 (m.toNatClampNeg) >>> (A 28 2 &&& 31)) &&& 1))) m))) 270 (upd (A 270) (m.toNatClampNeg) (f_X1_votesOf_28 (z_row (z_row (z_row A 268 (upd (A 268) (m.toNatClampNeg) x)) 269 (upd (A 269) (m.toNatClampNeg) ((A 18 (m.toNatClampNeg) >>> (A 28 2 &&& 31)) &&& 1))) 31 (upd (A 31) (m.toNatClampNeg) (f_X1_wayOf_28 (z_row (z_row A 268 (upd (A 268) (m.toNatClampNeg) x)) 269 (upd (A 269) (m.toNatClampNeg) ((A 18 (m.toNatClampNeg) >>> (A 28 2 &&& 31)) &&& 1))) m))) m))
theorem tG_n_28 (x : Int32) (A : Nat → Nat → Int32) (m j : Nat) (hm : m < 6) : tG_28 x A (nI m) 268 j = if j = m then x else A 268 j := by
  have cm : (nI m).toNatClampNeg = m := nI_clamp (by omega)
  unfold tG_28
  rw [z_row_ne (by decide), z_row_ne (by decide), z_row_ne (by decide), z_row_eq, cm, ud_if]
theorem tG_o_28 (x : Int32) (A : Nat → Nat → Int32) (m j : Nat) (hm : m < 6) : tG_28 x A (nI m) 269 j = if j = m then (A 18 m >>> (A 28 2 &&& 31)) &&& 1 else A 269 j := by
  have cm : (nI m).toNatClampNeg = m := nI_clamp (by omega)
  unfold tG_28
  rw [z_row_ne (by decide), z_row_ne (by decide), z_row_eq, cm, ud_if]
theorem tG_w_28 (x : Int32) (A : Nat → Nat → Int32) (m j : Nat) (hm : m < 6) : tG_28 x A (nI m) 31 j = if j = m then (if A 29 m = 0 then (if x = 0 then (A 18 m >>> (A 28 2 &&& 31)) &&& 1 else 2) else if A 29 m ≤ 0 then 0 else 1) else A 31 j := by
  have cm : (nI m).toNatClampNeg = m := nI_clamp (by omega)
  unfold tG_28 f_X1_wayOf_28
  rw [z_row_ne (by decide), z_row_eq, cm, ud_if]
  simp [zr_if, ud_if]
theorem tG_v_28 (x : Int32) (A : Nat → Nat → Int32) (m j : Nat) (hm : m < 6) : tG_28 x A (nI m) 270 j = if j = m then (if tG_28 x A (nI m) 31 m = 2 then 0 else if A 16 m = 3 then (if x = 0 then 1 else 2) else 1) else A 270 j := by
  have cm : (nI m).toNatClampNeg = m := nI_clamp (by omega)
  rw [tG_w_28 x A m m hm, if_pos rfl]
  unfold tG_28
  rw [z_row_eq, cm, ud_if]
  by_cases c : j = m
  · rw [if_pos c, if_pos c]
    unfold f_X1_votesOf_28 f_X1_wayOf_28
    simp [cm, zr_if, ud_if]
  · rw [if_neg c, if_neg c]
theorem tG_fr_28 (x : Int32) (A : Nat → Nat → Int32) (m : Int32) (c : Nat) (h1 : c ≠ 268) (h2 : c ≠ 269) (h3 : c ≠ 31) (h4 : c ≠ 270) : tG_28 x A m c = A c := by
  unfold tG_28
  rw [z_row_ne h4, z_row_ne h3, z_row_ne h2, z_row_ne h1]
/-- ONE MEMBER, taken -/
def O1_28 (A : Nat → Nat → Int32) (u w : Nat → Int32) (n m : Nat) (t : Int32) : Prop := A 29 m = pul u n (nI m) t ∧ A 30 m = lod u n (nI m) ∧ A 31 m = gos w u n m t ∧ A 268 m = (if hng u n m = true then 1 else 0) ∧ A 269 m = ow w m t ∧ A 270 m = if gos w u n m t = 2 then 0 else vt (A 16) u n m
theorem one_28 (M : Nat → Nat → Int32) (u w : Nat → Int32) (n mm m : Nat) (t l : Int32) (h : TK_28 M u n mm l) (hm : m < mm) (hw : M 18 m = w m) : q_X1_takeOne_28 M (nI m) t l ∧ g_X1_takeOne_28 M (nI m) t l 28 2 = t ∧ O1_28 (g_X1_takeOne_28 M (nI m) t l) u w n m t ∧ ∀ j, j ≠ m → ∀ c, c ≠ 28 → g_X1_takeOne_28 M (nI m) t l c j = M c j := by
  have h0 := h
  obtain ⟨⟨h15, hm6, hn, hn12⟩, hwt, how, hst⟩ := h0
  have cm : (nI m).toNatClampNeg = m := nI_clamp (by omega)
  have cn : (nI n).toNatClampNeg = n := nI_clamp (by omega)
  have v6 : z_vin (nI m) 6 = true := vi (by omega) (by decide)
  unfold q_X1_takeOne_28 g_X1_takeOne_28
  obtain ⟨M1, hM1⟩ : ∃ x, x = z_row (z_row (z_row M 28 (upd (M 28) 2 t)) 29 (upd (M 29) ((nI m).toNatClampNeg) ((0 : Int32)))) 30 (upd (M 30) ((nI m).toNatClampNeg) ((0 : Int32))) := ⟨_, rfl⟩
  have f1 : ∀ c, c ≠ 28 → c ≠ 29 → c ≠ 30 → M1 c = M c := fun c x y z => by rw [hM1, z_row_ne z, z_row_ne y, z_row_ne x]
  have t1 : M1 28 2 = t := by rw [hM1, z_row_ne (by decide), z_row_ne (by decide), z_row_eq, ud_eq]
  have z1 : M1 29 m = 0 ∧ M1 30 m = 0 := by
    rw [hM1]
    refine ⟨?_, ?_⟩
    · rw [z_row_ne (by decide), z_row_eq, cm, ud_eq]
    · rw [z_row_eq, cm, ud_eq]
  have y1 : ∀ j, j ≠ m → M1 29 j = M 29 j ∧ M1 30 j = M 30 j := by
    intro j hj
    rw [hM1]
    refine ⟨?_, ?_⟩
    · rw [z_row_ne (by decide), z_row_eq, cm, ud_ne hj]
    · rw [z_row_eq, cm, ud_ne hj]
  rw [← hM1]
  have e0 : (M1 20 1).toNatClampNeg = n := by rw [f1 _ (by decide) (by decide) (by decide), hn, cn]
  rw [e0]
  have h1 : TK_28 M1 u n mm l := TK_cong_28 h (fun c hc => f1 c (by omega) (by omega) (by omega))
  have fk : ∀ k c, c ≠ 29 → c ≠ 30 → s_X1_takeOne_28_22 M1 (nI m) t l k c = M1 c := fun k c a b => fr_s_X1_takeOne_28_22 M1 (nI m) t l k c a b
  have L := to22_28 M1 t l u n mm m h1 hm t1 z1
  obtain ⟨M2, hM2⟩ : ∃ x, x = s_X1_takeOne_28_22 M1 (nI m) t l n := ⟨_, rfl⟩
  have f2 : ∀ c, c ≠ 29 → c ≠ 30 → M2 c = M1 c := fun c a b => by rw [hM2]; exact fk n c a b
  obtain ⟨⟨p1, p2⟩, p3⟩ := L n (Nat.le_refl _)
  rw [← hM2] at p1 p2 p3 ⊢
  have e18 : M2 18 m = w m := by rw [f2 _ (by decide) (by decide), f1 _ (by decide) (by decide) (by decide), hw]
  have eD : M2 28 2 = t := by rw [f2 _ (by decide) (by decide)]; exact t1
  have e21 : M2 21 m = u (4 + m) := by rw [f2 _ (by decide) (by decide)]; exact h1.2.1 m hm
  refine ⟨⟨v6, fun k hk => ?_, fun _ => ⟨v6, trivial⟩, fun _ => ⟨v6, trivial⟩, fun _ => ⟨v6, trivial⟩, fun _ => ⟨v6, trivial⟩, trivial⟩, ?_⟩
  · have v12 : z_vin (nI k) 12 = true := vi (by omega) (by decide)
    exact ⟨qho_20 _ (by omega), fun _ => v12, fun _ _ _ => v6, fun _ _ _ => ⟨v12, trivial⟩, trivial⟩
  · have key : ∀ x : Int32, x = (if hng u n m = true then 1 else 0) → tG_28 x M2 (nI m) 28 2 = t ∧ O1_28 (tG_28 x M2 (nI m)) u w n m t ∧ ∀ j, j ≠ m → ∀ c, c ≠ 28 → tG_28 x M2 (nI m) c j = M c j := by
      intro x hx
      have eo : (M2 18 m >>> (M2 28 2 &&& 31)) &&& 1 = ow w m t := by rw [e18, eD]; rfl
      have ew : tG_28 x M2 (nI m) 31 m = gos w u n m t := by
        rw [tG_w_28 x M2 m m (by omega), if_pos rfl, eo, p1, gos_way, hx]
        cases hng u n m <;> simp
      refine ⟨by rw [tG_fr_28 x M2 (nI m) 28 (by decide) (by decide) (by decide) (by decide)]; exact eD, ⟨?_, ?_, ew, ?_, ?_, ?_⟩, fun j hj c hc => ?_⟩
      · rw [tG_fr_28 x M2 (nI m) 29 (by decide) (by decide) (by decide) (by decide)]; exact p1
      · rw [tG_fr_28 x M2 (nI m) 30 (by decide) (by decide) (by decide) (by decide)]; exact p2
      · rw [tG_n_28 x M2 m m (by omega), if_pos rfl, hx]
      · rw [tG_o_28 x M2 m m (by omega), if_pos rfl, eo]
      · rw [tG_v_28 x M2 m m (by omega), if_pos rfl, ew, tG_fr_28 x M2 (nI m) 16 (by decide) (by decide) (by decide) (by decide)]
        unfold vt
        rw [hx]
        by_cases c1 : gos w u n m t = 2
        · rw [if_pos c1, if_pos c1]
        · rw [if_neg c1, if_neg c1]
          by_cases c2 : M2 16 m = 3 <;> cases hng u n m <;> simp [c2]
      · by_cases a1 : c = 268
        · subst a1
          rw [tG_n_28 x M2 m j (by omega), if_neg hj, f2 _ (by decide) (by decide), f1 _ (by decide) (by decide) (by decide)]
        · by_cases a2 : c = 269
          · subst a2
            rw [tG_o_28 x M2 m j (by omega), if_neg hj, f2 _ (by decide) (by decide), f1 _ (by decide) (by decide) (by decide)]
          · by_cases a3 : c = 31
            · subst a3
              rw [tG_w_28 x M2 m j (by omega), if_neg hj, f2 _ (by decide) (by decide), f1 _ (by decide) (by decide) (by decide)]
            · by_cases a4 : c = 270
              · subst a4
                rw [tG_v_28 x M2 m j (by omega), if_neg hj, f2 _ (by decide) (by decide), f1 _ (by decide) (by decide) (by decide)]
              · rw [tG_fr_28 x M2 (nI m) c a1 a2 a3 a4]
                by_cases b1 : c = 29
                · subst b1
                  rw [(p3 j hj).1, (y1 j hj).1]
                · by_cases b2 : c = 30
                  · subst b2
                    rw [(p3 j hj).2, (y1 j hj).2]
                  · rw [f2 c b1 b2, f1 c hc b1 b2]
    rw [cm, p2, e21]
    by_cases c : lod u n (nI m) ≤ u (4 + m)
    · have hh : hng u n m = false := decide_eq_false (i_nlt.mpr c)
      rw [if_pos c]
      have k0 := key 0 (by rw [hh]; rfl)
      unfold tG_28 at k0
      rw [cm] at k0
      exact k0
    · have hh : hng u n m = true := decide_eq_true (i_nle.mp c)
      rw [if_neg c]
      have k0 := key 1 (by rw [hh]; rfl)
      unfold tG_28 at k0
      rw [cm] at k0
      exact k0
/-- ALL MEMBERS, taken -/
theorem tks_28 (M : Nat → Nat → Int32) (u w : Nat → Int32) (n mm : Nat) (t : Int32) (h : TK_28 M u n mm 0) (hw : ∀ k, k < mm → M 18 k = w k) : ∀ k, k ≤ mm → (∀ i, i < k → qi_X1_take_28_2 (s_X1_take_28_2 M t i) t (nI i)) ∧ (0 < k → s_X1_take_28_2 M t k 28 2 = t) ∧ ∀ j, j < k → O1_28 (s_X1_take_28_2 M t k) u w n j t := by
  intro k
  induction k with
  | zero => intro _; exact ⟨fun i hi => absurd hi (by omega), fun z => absurd z (by omega), fun j hj => absurd hj (by omega)⟩
  | succ k ih =>
    intro hk
    obtain ⟨i1, i2, i3⟩ := ih (by omega)
    have fr : ∀ c, c ≠ 28 → c ≠ 29 → c ≠ 30 → c ≠ 31 → c ≠ 268 → c ≠ 269 → c ≠ 270 → s_X1_take_28_2 M t k c = M c := fun c a1 a2 a3 a4 a5 a6 a7 => fr_s_X1_take_28_2 M t k c a1 a2 a3 a4 a5 a6 a7
    have hs : s_X1_take_28_2 M t (k + 1) = g_X1_takeOne_28 (s_X1_take_28_2 M t k) (nI k) t 0 := rfl
    obtain ⟨o1, o2, o3, o4⟩ := one_28 (s_X1_take_28_2 M t k) u w n mm k t 0 (TK_cong_28 h (fun c hc => fr c (by omega) (by omega) (by omega) (by omega) (by omega) (by omega) (by omega))) (by omega) (by rw [fr 18 (by decide) (by decide) (by decide) (by decide) (by decide) (by decide) (by decide)]; exact hw k (by omega))
    refine ⟨fun i hi => ?_, fun _ => by rw [hs]; exact o2, fun j hj => ?_⟩
    · by_cases c : i < k
      · exact i1 i c
      · obtain rfl : i = k := by omega
        exact ⟨o1, trivial⟩
    · rw [hs]
      by_cases c : j = k
      · subst c
        exact o3
      · obtain ⟨a1, a2, a3, a4, a5, a6⟩ := i3 j (by omega)
        have e16 : g_X1_takeOne_28 (s_X1_take_28_2 M t k) (nI k) t 0 16 = s_X1_take_28_2 M t k 16 := fr_g_X1_takeOne_28 _ _ _ _ 16 (by decide) (by decide) (by decide) (by decide) (by decide) (by decide) (by decide)
        unfold O1_28
        rw [o4 j c 29 (by decide), o4 j c 30 (by decide), o4 j c 31 (by decide), o4 j c 268 (by decide), o4 j c 269 (by decide), o4 j c 270 (by decide), e16]
        exact ⟨a1, a2, a3, a4, a5, a6⟩
theorem tk_28 (M : Nat → Nat → Int32) (u w : Nat → Int32) (n mm : Nat) (t : Int32) (h : TK_28 M u n mm 0) (hw : ∀ k, k < mm → M 18 k = w k) : q_X1_take_28 M t ∧ (0 < mm → g_X1_take_28 M t 28 2 = t) ∧ ∀ j, j < mm → O1_28 (g_X1_take_28 M t) u w n j t := by
  have cm : (M 15 1).toNatClampNeg = mm := by rw [h.1.1]; exact nI_clamp (by have := h.1.2.1; omega)
  unfold q_X1_take_28 g_X1_take_28
  rw [cm]
  obtain ⟨a, b, c⟩ := tks_28 M u w n mm t h hw mm (Nat.le_refl _)
  exact ⟨⟨a, trivial⟩, b, c⟩

theorem ho_34 {A : Nat → Nat → Int32} {n k : Nat} (h1 : A 34 1 = nI n) (hk : k < n) (hn : n ≤ 12) : f_X0_holds_34 A (nI k) = if A 41 k = 0 then 1 else 0 := by
  have ck : (nI k).toNatClampNeg = k := nI_clamp (by omega)
  unfold f_X0_holds_34
  rw [h1, if_neg (nI_pos (by omega)), if_neg (i_nle.mpr (nI_lt hk (by omega))), ck]
  by_cases c : A 41 k = 0 <;> simp [c]
theorem qho_34 (A : Nat → Nat → Int32) {k : Nat} (hk : k < 12) : q_X0_holds_34 A (nI k) := ⟨fun _ _ => vi hk (by decide), trivial⟩
theorem pb_42 (A : Nat → Nat → Int32) (f : Nat → Int32) (t : Int32) (k : Nat) (u : Nat → Int32) (hk : k < 12) (h2 : A 42 2 = t) (e23 : A 37 k = u (23 + k)) (e35 : A 38 k = u (35 + k)) (e47 : A 39 k = u (47 + k)) : f_X1_pullBy_42 (z_row A 44 f) (nI k) = if u (23 + k) = t then (if u (35 + k) = 1 then u (47 + k) else -u (47 + k)) else 0 := by
  have ck : (nI k).toNatClampNeg = k := nI_clamp (by omega)
  unfold f_X1_pullBy_42
  rw [show z_row A 44 f 37 = A 37 from z_row_ne (by decide), show z_row A 44 f 42 = A 42 from z_row_ne (by decide), show z_row A 44 f 38 = A 38 from z_row_ne (by decide), show z_row A 44 f 39 = A 39 from z_row_ne (by decide), ck, e23, h2, e35, e47]
  by_cases c3 : u (23 + k) = t <;> by_cases c4 : u (35 + k) = 1 <;> simp [c3, c4]
theorem to_step_42 (A : Nat → Nat → Int32) (t l : Int32) (k m n o : Nat) (u : Nat → Int32) (hn : n ≤ 12) (hk : k < n) (hm : m < 6) (ho6 : o < 6) (h1 : A 34 1 = nI n) (h2 : A 42 2 = t) (f11 : A 36 k = nI o) (e11 : u (11 + k) = nI o) (e23 : A 37 k = u (23 + k)) (e35 : A 38 k = u (35 + k)) (e47 : A 39 k = u (47 + k)) (e71 : u (71 + k) = 0 ↔ (A 41 k = 0 ∧ f_X8_isIn A l (nI k) = 0)) (j : Nat) : e_X1_takeOne_42_22_M A (nI m) t l (nI k) 43 j = (if j = m then A 43 j + wk u k (nI m) t else A 43 j) ∧ e_X1_takeOne_42_22_M A (nI m) t l (nI k) 44 j = (if j = m then A 44 j + lk u k (nI m) else A 44 j) := by
  have hoj : (nI o = nI m) ↔ o = m := nI_eq (by omega) (by omega)
  have ck : (nI k).toNatClampNeg = k := nI_clamp (by omega)
  have cm : (nI m).toNatClampNeg = m := nI_clamp (by omega)
  have r := fun f => pb_42 A f t k u (by omega) h2 e23 e35 e47
  unfold e_X1_takeOne_42_22_M wk lk
  rw [ho_34 h1 hk hn]
  simp only [ck, cm, f11, e11, hoj, r]
  by_cases c1 : A 41 k = 0
  · by_cases c5 : o = m
    · by_cases c2 : f_X8_isIn A l (nI k) = 0
      · have c0 : u (71 + k) = 0 := e71.mpr ⟨c1, c2⟩
        by_cases c6 : j = m
        · subst c6
          by_cases c3 : u (23 + k) = t <;> simp [c0, c1, c2, c3, c5, zr_if, ud_if, e47]
        · simp [c0, c1, c2, c5, c6, zr_if, ud_if]
      · have c0 : ¬ u (71 + k) = 0 := fun q => c2 (e71.mp q).2
        by_cases c6 : j = m <;> simp [c0, c1, c2, c5, c6]
    · by_cases c6 : j = m <;> simp [c1, c5, c6]
  · have c0 : ¬ u (71 + k) = 0 := fun q => c1 (e71.mp q).1
    by_cases c6 : j = m <;> simp [c0, c1, c6]
def TK_42 (M : Nat → Nat → Int32) (u : Nat → Int32) (n mm : Nat) (l : Int32) : Prop := (M 15 1 = nI mm ∧ mm ≤ 6 ∧ M 34 1 = nI n ∧ n ≤ 12) ∧ (∀ k, k < mm → M 35 k = u (4 + k)) ∧ (∀ k, k < n → ∃ o, o < mm ∧ M 36 k = nI o ∧ u (11 + k) = nI o) ∧ (∀ k, k < n → M 37 k = u (23 + k) ∧ M 38 k = u (35 + k) ∧ M 39 k = u (47 + k) ∧ (u (71 + k) = 0 ↔ (M 41 k = 0 ∧ f_X8_isIn M l (nI k) = 0)))
theorem TK_cong_42 {M M' : Nat → Nat → Int32} {u : Nat → Int32} {n mm : Nat} {l : Int32} (h : TK_42 M u n mm l) (f : ∀ c, c < 42 → M' c = M c) : TK_42 M' u n mm l := by
  unfold TK_42 at h ⊢
  rw [f 15 (by decide), f 34 (by decide), f 35 (by decide), f 36 (by decide), f 37 (by decide), f 38 (by decide), f 39 (by decide), f 41 (by decide)]
  exact h
theorem to22_42 (M : Nat → Nat → Int32) (t l : Int32) (u : Nat → Int32) (n mm m : Nat) (h : TK_42 M u n mm l) (hm : m < mm) (h2 : M 42 2 = t) (hz : M 43 m = 0 ∧ M 44 m = 0) (k : Nat) (hk : k ≤ n) : (s_X1_takeOne_42_22 M (nI m) t l k 43 m = pul u k (nI m) t ∧ s_X1_takeOne_42_22 M (nI m) t l k 44 m = lod u k (nI m)) ∧ ∀ j, j ≠ m → s_X1_takeOne_42_22 M (nI m) t l k 43 j = M 43 j ∧ s_X1_takeOne_42_22 M (nI m) t l k 44 j = M 44 j := by
  obtain ⟨⟨h15, hm6, hn, hn12⟩, hwt, how, hst⟩ := h
  induction k with
  | zero => exact ⟨hz, fun j _ => ⟨rfl, rfl⟩⟩
  | succ k ih =>
    have hs : s_X1_takeOne_42_22 M (nI m) t l (k + 1) = e_X1_takeOne_42_22_M (s_X1_takeOne_42_22 M (nI m) t l k) (nI m) t l (nI k) := rfl
    have fr : ∀ c, c ≠ 43 → c ≠ 44 → s_X1_takeOne_42_22 M (nI m) t l k c = M c := fun c a b => fr_s_X1_takeOne_42_22 M (nI m) t l k c a b
    obtain ⟨o, ho, e1, e2⟩ := how k (by omega)
    obtain ⟨e3, e4, e5, e6⟩ := hst k (by omega)
    obtain ⟨⟨i1, i2⟩, i3⟩ := ih (by omega)
    rw [hs]
    have r := fun j => to_step_42 (s_X1_takeOne_42_22 M (nI m) t l k) t l k m n o u hn12 (by omega) (by omega) (by omega) (by rw [fr _ (by decide) (by decide)]; exact hn) (by rw [fr _ (by decide) (by decide)]; exact h2) (by rw [fr _ (by decide) (by decide)]; exact e1) e2 (by rw [fr _ (by decide) (by decide)]; exact e3) (by rw [fr _ (by decide) (by decide)]; exact e4) (by rw [fr _ (by decide) (by decide)]; exact e5) (by rw [fr _ (by decide) (by decide)]; exact e6) j
    refine ⟨?_, fun j hj => ?_⟩
    · rw [(r m).1, (r m).2, if_pos rfl, if_pos rfl, i1, i2]
      exact ⟨rfl, rfl⟩
    · rw [(r j).1, (r j).2, if_neg hj, if_neg hj]
      exact i3 j hj
/-- behind the weighing: what is set of member m, hanging being x -/
def tG_42 (x : Int32) (A : Nat → Nat → Int32) (m : Int32) : Nat → Nat → Int32 := z_row (z_row (z_row (z_row A 271 (upd (A 271) (m.toNatClampNeg) x)) 272 (upd (A 272) (m.toNatClampNeg) ((A 18 (m.toNatClampNeg) >>> (A 42 2 &&& 31)) &&& 1))) 45 (upd (A 45) (m.toNatClampNeg) (f_X1_wayOf_42 (z_row (z_row A 271 (upd (A 271) (m.toNatClampNeg) x)) 272 (upd (A 272) (m.toNatClampNeg) ((A 18 (m.toNatClampNeg) >>> (A 42 2 &&& 31)) &&& 1))) m))) 273 (upd (A 273) (m.toNatClampNeg) (f_X1_votesOf_42 (z_row (z_row (z_row A 271 (upd (A 271) (m.toNatClampNeg) x)) 272 (upd (A 272) (m.toNatClampNeg) ((A 18 (m.toNatClampNeg) >>> (A 42 2 &&& 31)) &&& 1))) 45 (upd (A 45) (m.toNatClampNeg) (f_X1_wayOf_42 (z_row (z_row A 271 (upd (A 271) (m.toNatClampNeg) x)) 272 (upd (A 272) (m.toNatClampNeg) ((A 18 (m.toNatClampNeg) >>> (A 42 2 &&& 31)) &&& 1))) m))) m))
theorem tG_n_42 (x : Int32) (A : Nat → Nat → Int32) (m j : Nat) (hm : m < 6) : tG_42 x A (nI m) 271 j = if j = m then x else A 271 j := by
  have cm : (nI m).toNatClampNeg = m := nI_clamp (by omega)
  unfold tG_42
  rw [z_row_ne (by decide), z_row_ne (by decide), z_row_ne (by decide), z_row_eq, cm, ud_if]
theorem tG_o_42 (x : Int32) (A : Nat → Nat → Int32) (m j : Nat) (hm : m < 6) : tG_42 x A (nI m) 272 j = if j = m then (A 18 m >>> (A 42 2 &&& 31)) &&& 1 else A 272 j := by
  have cm : (nI m).toNatClampNeg = m := nI_clamp (by omega)
  unfold tG_42
  rw [z_row_ne (by decide), z_row_ne (by decide), z_row_eq, cm, ud_if]
theorem tG_w_42 (x : Int32) (A : Nat → Nat → Int32) (m j : Nat) (hm : m < 6) : tG_42 x A (nI m) 45 j = if j = m then (if A 43 m = 0 then (if x = 0 then (A 18 m >>> (A 42 2 &&& 31)) &&& 1 else 2) else if A 43 m ≤ 0 then 0 else 1) else A 45 j := by
  have cm : (nI m).toNatClampNeg = m := nI_clamp (by omega)
  unfold tG_42 f_X1_wayOf_42
  rw [z_row_ne (by decide), z_row_eq, cm, ud_if]
  simp [zr_if, ud_if]
theorem tG_v_42 (x : Int32) (A : Nat → Nat → Int32) (m j : Nat) (hm : m < 6) : tG_42 x A (nI m) 273 j = if j = m then (if tG_42 x A (nI m) 45 m = 2 then 0 else if A 16 m = 3 then (if x = 0 then 1 else 2) else 1) else A 273 j := by
  have cm : (nI m).toNatClampNeg = m := nI_clamp (by omega)
  rw [tG_w_42 x A m m hm, if_pos rfl]
  unfold tG_42
  rw [z_row_eq, cm, ud_if]
  by_cases c : j = m
  · rw [if_pos c, if_pos c]
    unfold f_X1_votesOf_42 f_X1_wayOf_42
    simp [cm, zr_if, ud_if]
  · rw [if_neg c, if_neg c]
theorem tG_fr_42 (x : Int32) (A : Nat → Nat → Int32) (m : Int32) (c : Nat) (h1 : c ≠ 271) (h2 : c ≠ 272) (h3 : c ≠ 45) (h4 : c ≠ 273) : tG_42 x A m c = A c := by
  unfold tG_42
  rw [z_row_ne h4, z_row_ne h3, z_row_ne h2, z_row_ne h1]
/-- ONE MEMBER, taken -/
def O1_42 (A : Nat → Nat → Int32) (u w : Nat → Int32) (n m : Nat) (t : Int32) : Prop := A 43 m = pul u n (nI m) t ∧ A 44 m = lod u n (nI m) ∧ A 45 m = gos w u n m t ∧ A 271 m = (if hng u n m = true then 1 else 0) ∧ A 272 m = ow w m t ∧ A 273 m = if gos w u n m t = 2 then 0 else vt (A 16) u n m
theorem one_42 (M : Nat → Nat → Int32) (u w : Nat → Int32) (n mm m : Nat) (t l : Int32) (h : TK_42 M u n mm l) (hm : m < mm) (hw : M 18 m = w m) : q_X1_takeOne_42 M (nI m) t l ∧ g_X1_takeOne_42 M (nI m) t l 42 2 = t ∧ O1_42 (g_X1_takeOne_42 M (nI m) t l) u w n m t ∧ ∀ j, j ≠ m → ∀ c, c ≠ 42 → g_X1_takeOne_42 M (nI m) t l c j = M c j := by
  have h0 := h
  obtain ⟨⟨h15, hm6, hn, hn12⟩, hwt, how, hst⟩ := h0
  have cm : (nI m).toNatClampNeg = m := nI_clamp (by omega)
  have cn : (nI n).toNatClampNeg = n := nI_clamp (by omega)
  have v6 : z_vin (nI m) 6 = true := vi (by omega) (by decide)
  unfold q_X1_takeOne_42 g_X1_takeOne_42
  obtain ⟨M1, hM1⟩ : ∃ x, x = z_row (z_row (z_row M 42 (upd (M 42) 2 t)) 43 (upd (M 43) ((nI m).toNatClampNeg) ((0 : Int32)))) 44 (upd (M 44) ((nI m).toNatClampNeg) ((0 : Int32))) := ⟨_, rfl⟩
  have f1 : ∀ c, c ≠ 42 → c ≠ 43 → c ≠ 44 → M1 c = M c := fun c x y z => by rw [hM1, z_row_ne z, z_row_ne y, z_row_ne x]
  have t1 : M1 42 2 = t := by rw [hM1, z_row_ne (by decide), z_row_ne (by decide), z_row_eq, ud_eq]
  have z1 : M1 43 m = 0 ∧ M1 44 m = 0 := by
    rw [hM1]
    refine ⟨?_, ?_⟩
    · rw [z_row_ne (by decide), z_row_eq, cm, ud_eq]
    · rw [z_row_eq, cm, ud_eq]
  have y1 : ∀ j, j ≠ m → M1 43 j = M 43 j ∧ M1 44 j = M 44 j := by
    intro j hj
    rw [hM1]
    refine ⟨?_, ?_⟩
    · rw [z_row_ne (by decide), z_row_eq, cm, ud_ne hj]
    · rw [z_row_eq, cm, ud_ne hj]
  rw [← hM1]
  have e0 : (M1 34 1).toNatClampNeg = n := by rw [f1 _ (by decide) (by decide) (by decide), hn, cn]
  rw [e0]
  have h1 : TK_42 M1 u n mm l := TK_cong_42 h (fun c hc => f1 c (by omega) (by omega) (by omega))
  have fk : ∀ k c, c ≠ 43 → c ≠ 44 → s_X1_takeOne_42_22 M1 (nI m) t l k c = M1 c := fun k c a b => fr_s_X1_takeOne_42_22 M1 (nI m) t l k c a b
  have L := to22_42 M1 t l u n mm m h1 hm t1 z1
  obtain ⟨M2, hM2⟩ : ∃ x, x = s_X1_takeOne_42_22 M1 (nI m) t l n := ⟨_, rfl⟩
  have f2 : ∀ c, c ≠ 43 → c ≠ 44 → M2 c = M1 c := fun c a b => by rw [hM2]; exact fk n c a b
  obtain ⟨⟨p1, p2⟩, p3⟩ := L n (Nat.le_refl _)
  rw [← hM2] at p1 p2 p3 ⊢
  have e18 : M2 18 m = w m := by rw [f2 _ (by decide) (by decide), f1 _ (by decide) (by decide) (by decide), hw]
  have eD : M2 42 2 = t := by rw [f2 _ (by decide) (by decide)]; exact t1
  have e21 : M2 35 m = u (4 + m) := by rw [f2 _ (by decide) (by decide)]; exact h1.2.1 m hm
  refine ⟨⟨v6, fun k hk => ?_, fun _ => ⟨v6, trivial⟩, fun _ => ⟨v6, trivial⟩, fun _ => ⟨v6, trivial⟩, fun _ => ⟨v6, trivial⟩, trivial⟩, ?_⟩
  · have v12 : z_vin (nI k) 12 = true := vi (by omega) (by decide)
    exact ⟨qho_34 _ (by omega), fun _ => v12, fun _ _ _ => v6, fun _ _ _ => ⟨v12, trivial⟩, trivial⟩
  · have key : ∀ x : Int32, x = (if hng u n m = true then 1 else 0) → tG_42 x M2 (nI m) 42 2 = t ∧ O1_42 (tG_42 x M2 (nI m)) u w n m t ∧ ∀ j, j ≠ m → ∀ c, c ≠ 42 → tG_42 x M2 (nI m) c j = M c j := by
      intro x hx
      have eo : (M2 18 m >>> (M2 42 2 &&& 31)) &&& 1 = ow w m t := by rw [e18, eD]; rfl
      have ew : tG_42 x M2 (nI m) 45 m = gos w u n m t := by
        rw [tG_w_42 x M2 m m (by omega), if_pos rfl, eo, p1, gos_way, hx]
        cases hng u n m <;> simp
      refine ⟨by rw [tG_fr_42 x M2 (nI m) 42 (by decide) (by decide) (by decide) (by decide)]; exact eD, ⟨?_, ?_, ew, ?_, ?_, ?_⟩, fun j hj c hc => ?_⟩
      · rw [tG_fr_42 x M2 (nI m) 43 (by decide) (by decide) (by decide) (by decide)]; exact p1
      · rw [tG_fr_42 x M2 (nI m) 44 (by decide) (by decide) (by decide) (by decide)]; exact p2
      · rw [tG_n_42 x M2 m m (by omega), if_pos rfl, hx]
      · rw [tG_o_42 x M2 m m (by omega), if_pos rfl, eo]
      · rw [tG_v_42 x M2 m m (by omega), if_pos rfl, ew, tG_fr_42 x M2 (nI m) 16 (by decide) (by decide) (by decide) (by decide)]
        unfold vt
        rw [hx]
        by_cases c1 : gos w u n m t = 2
        · rw [if_pos c1, if_pos c1]
        · rw [if_neg c1, if_neg c1]
          by_cases c2 : M2 16 m = 3 <;> cases hng u n m <;> simp [c2]
      · by_cases a1 : c = 271
        · subst a1
          rw [tG_n_42 x M2 m j (by omega), if_neg hj, f2 _ (by decide) (by decide), f1 _ (by decide) (by decide) (by decide)]
        · by_cases a2 : c = 272
          · subst a2
            rw [tG_o_42 x M2 m j (by omega), if_neg hj, f2 _ (by decide) (by decide), f1 _ (by decide) (by decide) (by decide)]
          · by_cases a3 : c = 45
            · subst a3
              rw [tG_w_42 x M2 m j (by omega), if_neg hj, f2 _ (by decide) (by decide), f1 _ (by decide) (by decide) (by decide)]
            · by_cases a4 : c = 273
              · subst a4
                rw [tG_v_42 x M2 m j (by omega), if_neg hj, f2 _ (by decide) (by decide), f1 _ (by decide) (by decide) (by decide)]
              · rw [tG_fr_42 x M2 (nI m) c a1 a2 a3 a4]
                by_cases b1 : c = 43
                · subst b1
                  rw [(p3 j hj).1, (y1 j hj).1]
                · by_cases b2 : c = 44
                  · subst b2
                    rw [(p3 j hj).2, (y1 j hj).2]
                  · rw [f2 c b1 b2, f1 c hc b1 b2]
    rw [cm, p2, e21]
    by_cases c : lod u n (nI m) ≤ u (4 + m)
    · have hh : hng u n m = false := decide_eq_false (i_nlt.mpr c)
      rw [if_pos c]
      have k0 := key 0 (by rw [hh]; rfl)
      unfold tG_42 at k0
      rw [cm] at k0
      exact k0
    · have hh : hng u n m = true := decide_eq_true (i_nle.mp c)
      rw [if_neg c]
      have k0 := key 1 (by rw [hh]; rfl)
      unfold tG_42 at k0
      rw [cm] at k0
      exact k0
/-- ALL MEMBERS, taken -/
theorem tks_42 (M : Nat → Nat → Int32) (u w : Nat → Int32) (n mm : Nat) (t : Int32) (h : TK_42 M u n mm 0) (hw : ∀ k, k < mm → M 18 k = w k) : ∀ k, k ≤ mm → (∀ i, i < k → qi_X1_take_42_2 (s_X1_take_42_2 M t i) t (nI i)) ∧ (0 < k → s_X1_take_42_2 M t k 42 2 = t) ∧ ∀ j, j < k → O1_42 (s_X1_take_42_2 M t k) u w n j t := by
  intro k
  induction k with
  | zero => intro _; exact ⟨fun i hi => absurd hi (by omega), fun z => absurd z (by omega), fun j hj => absurd hj (by omega)⟩
  | succ k ih =>
    intro hk
    obtain ⟨i1, i2, i3⟩ := ih (by omega)
    have fr : ∀ c, c ≠ 42 → c ≠ 43 → c ≠ 44 → c ≠ 45 → c ≠ 271 → c ≠ 272 → c ≠ 273 → s_X1_take_42_2 M t k c = M c := fun c a1 a2 a3 a4 a5 a6 a7 => fr_s_X1_take_42_2 M t k c a1 a2 a3 a4 a5 a6 a7
    have hs : s_X1_take_42_2 M t (k + 1) = g_X1_takeOne_42 (s_X1_take_42_2 M t k) (nI k) t 0 := rfl
    obtain ⟨o1, o2, o3, o4⟩ := one_42 (s_X1_take_42_2 M t k) u w n mm k t 0 (TK_cong_42 h (fun c hc => fr c (by omega) (by omega) (by omega) (by omega) (by omega) (by omega) (by omega))) (by omega) (by rw [fr 18 (by decide) (by decide) (by decide) (by decide) (by decide) (by decide) (by decide)]; exact hw k (by omega))
    refine ⟨fun i hi => ?_, fun _ => by rw [hs]; exact o2, fun j hj => ?_⟩
    · by_cases c : i < k
      · exact i1 i c
      · obtain rfl : i = k := by omega
        exact ⟨o1, trivial⟩
    · rw [hs]
      by_cases c : j = k
      · subst c
        exact o3
      · obtain ⟨a1, a2, a3, a4, a5, a6⟩ := i3 j (by omega)
        have e16 : g_X1_takeOne_42 (s_X1_take_42_2 M t k) (nI k) t 0 16 = s_X1_take_42_2 M t k 16 := fr_g_X1_takeOne_42 _ _ _ _ 16 (by decide) (by decide) (by decide) (by decide) (by decide) (by decide) (by decide)
        unfold O1_42
        rw [o4 j c 43 (by decide), o4 j c 44 (by decide), o4 j c 45 (by decide), o4 j c 271 (by decide), o4 j c 272 (by decide), o4 j c 273 (by decide), e16]
        exact ⟨a1, a2, a3, a4, a5, a6⟩
theorem tk_42 (M : Nat → Nat → Int32) (u w : Nat → Int32) (n mm : Nat) (t : Int32) (h : TK_42 M u n mm 0) (hw : ∀ k, k < mm → M 18 k = w k) : q_X1_take_42 M t ∧ (0 < mm → g_X1_take_42 M t 42 2 = t) ∧ ∀ j, j < mm → O1_42 (g_X1_take_42 M t) u w n j t := by
  have cm : (M 15 1).toNatClampNeg = mm := by rw [h.1.1]; exact nI_clamp (by have := h.1.2.1; omega)
  unfold q_X1_take_42 g_X1_take_42
  rw [cm]
  obtain ⟨a, b, c⟩ := tks_42 M u w n mm t h hw mm (Nat.le_refl _)
  exact ⟨⟨a, trivial⟩, b, c⟩
