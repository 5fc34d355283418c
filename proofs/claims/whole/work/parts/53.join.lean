/-! THE FEWEST STRAPS TO LET GO: the class, members joined -/
def JP (A : Nat → Nat → Int32) (P G : Nat → Nat) (i k : Nat) (J : Nat → Nat) : Prop := (∀ j, j < 25 → A 47 j = nI (J j) ∧ J j ≤ NV) ∧ (∀ j, j < 25 → J j < NV → ∃ a b, a < 25 ∧ b < 5 ∧ P a < NV ∧ G b < NV ∧ a + b = j + 2 ∧ J j = P a + G b) ∧ ∀ a b, b < 5 → (a < i ∨ (a = i ∧ b < k)) → P a < NV → G b < NV → 2 ≤ a + b → a + b < 27 → J (a + b - 2) ≤ P a + G b
theorem j19_1 {A : Nat → Nat → Int32} {P G J : Nat → Nat} {i k : Nat} (hi : i < 25) (hk : k < 5) (hP : ∀ j, j < 25 → A 46 j = nI (P j) ∧ P j ≤ NV) (hG : ∀ g, g < 5 → A 48 g = nI (G g) ∧ G g ≤ NV) (h : JP A P G i k J) : qi_X7_joinGains_32_19 A (nI i) (nI k) ∧ ∃ J', JP (e_X7_joinGains_32_19_M A (nI i) (nI k)) P G i (k + 1) J' := by
  obtain ⟨p1, p2⟩ := hP i hi
  obtain ⟨g1', g2⟩ := hG k hk
  obtain ⟨j1, j2, j3⟩ := h
  have ci : (nI i).toNatClampNeg = i := nI_clamp (by omega)
  have ck : (nI k).toNatClampNeg = k := nI_clamp (by omega)
  have lP : ((1048576 : Int32) ≤ nI (P i)) ↔ NV ≤ P i := nI_leI (a := NV) (by decide) (by unfold NV at p2; omega)
  have lG : ((1048576 : Int32) ≤ nI (G k)) ↔ NV ≤ G k := nI_leI (a := NV) (by decide) (by unfold NV at g2; omega)
  have es : nI i + nI k = nI (i + k) := nI_add i k
  have stay : (P i < NV → G k < NV → 2 ≤ i + k → i + k < 27 → False) → JP A P G i (k + 1) J := fun no => ⟨j1, j2, fun a b hb hab h1 h2 h3 h4 => by
    by_cases c : a = i ∧ b = k
    · obtain ⟨rfl, rfl⟩ := c
      exact absurd h4 (fun _ => no h1 h2 h3 h4)
    · exact j3 a b hb (by omega) h1 h2 h3 h4⟩
  unfold qi_X7_joinGains_32_19 e_X7_joinGains_32_19_M
  rw [ci, ck, p1, g1', es]
  by_cases c1 : NV ≤ P i
  · rw [if_pos (lP.mpr c1)]
    exact ⟨⟨vi hi (by decide), fun z => absurd (lP.mpr c1) z, fun z => absurd (lP.mpr c1) z, trivial⟩, J, stay (fun z => absurd z (by omega))⟩
  · rw [if_neg (fun z => c1 (lP.mp z))]
    by_cases c2 : NV ≤ G k
    · rw [if_pos (lG.mpr c2)]
      exact ⟨⟨vi hi (by decide), fun _ => vi hk (by decide), fun _ z => absurd (lG.mpr c2) z, trivial⟩, J, stay (fun _ z => absurd z (by omega))⟩
    · rw [if_neg (fun z => c2 (lG.mp z))]
      by_cases c3 : 2 ≤ i + k ∧ i + k < 27
      · have e2 : nI (i + k) - 2 = nI (i + k - 2) := pk_sub (b := 2) c3.1
        have o0 : f_X8_isOutside A (nI (i + k - 2)) 25 = 0 := oi_in (N := 25) (by omega) (by decide)
        rw [e2, o0, if_neg (not_not_intro rfl), nI_clamp (by omega)]
        obtain ⟨q1, q2⟩ := j1 (i + k - 2) (by omega)
        refine ⟨⟨vi hi (by decide), fun _ => vi hk (by decide), fun _ _ _ => vi (by omega) (by decide), trivial⟩, fun j => if j = i + k - 2 ∧ P i + G k < J j then P i + G k else J j, ?_, ?_, ?_⟩
        · intro j hj
          obtain ⟨u1, u2⟩ := j1 j hj
          dsimp only
          rw [z_row_eq, ud_if, q1, nI_add]
          have lt : (nI (P i + G k) < nI (J (i + k - 2))) ↔ P i + G k < J (i + k - 2) := nI_ltI (by unfold NV at *; omega) (by unfold NV at *; omega)
          by_cases c : j = i + k - 2
          · rw [if_pos c, c]
            by_cases d : P i + G k < J (i + k - 2)
            · rw [if_pos (lt.mpr d), if_pos ⟨rfl, d⟩]; exact ⟨rfl, by omega⟩
            · rw [if_neg (fun z => d (lt.mp z)), if_neg (fun z => d z.2)]; exact ⟨rfl, q2⟩
          · rw [if_neg c, if_neg (fun z => c z.1)]; exact ⟨u1, u2⟩
        · intro j hj hl
          dsimp only at hl ⊢
          by_cases c : j = i + k - 2 ∧ P i + G k < J j
          · rw [if_pos c] at hl ⊢
            exact ⟨i, k, hi, hk, by omega, by omega, by omega, rfl⟩
          · rw [if_neg c] at hl ⊢
            exact j2 j hj hl
        · intro a b hb hab h1 h2 h3 h4
          dsimp only
          by_cases c : a = i ∧ b = k
          · obtain ⟨rfl, rfl⟩ := c
            by_cases d : P a + G b < J (a + b - 2)
            · rw [if_pos ⟨rfl, d⟩]; exact Nat.le_refl _
            · rw [if_neg (fun z => d z.2)]; omega
          · have := j3 a b hb (by omega) h1 h2 h3 h4
            by_cases d : a + b - 2 = i + k - 2 ∧ P i + G k < J (a + b - 2)
            · rw [if_pos d]; omega
            · rw [if_neg d]; exact this
      · have o1 : f_X8_isOutside A (nI (i + k) - 2) 25 = 1 := by
          by_cases c4 : 2 ≤ i + k
          · have e2 : nI (i + k) - 2 = nI (i + k - 2) := pk_sub (b := 2) c4
            rw [e2]
            exact oi_out (Or.inr (nI_le (a := 25) (by omega) (by omega)))
          · exact oi_out (Or.inl (pk_sneg (b := 2) (by decide) (by omega)))
        rw [o1, if_pos c10]
        exact ⟨⟨vi hi (by decide), fun _ => vi hk (by decide), fun _ _ z => absurd z c10, trivial⟩, J, stay (fun _ _ h3 h4 => c3 ⟨h3, h4⟩)⟩
theorem j11 {A : Nat → Nat → Int32} {P G J : Nat → Nat} (hP : ∀ j, j < 25 → A 46 j = nI (P j) ∧ P j ≤ NV) (hG : ∀ g, g < 5 → A 48 g = nI (G g) ∧ G g ≤ NV) (h : JP A P G 0 0 J) (i : Nat) (hi : i ≤ 25) : (∀ j, j < i → qi_X7_joinGains_32_11 (s_X7_joinGains_32_11 A j) (nI j)) ∧ ∃ J', JP (s_X7_joinGains_32_11 A i) P G i 0 J' := by
  induction i with
  | zero => exact ⟨fun j hj => absurd hj (by omega), J, h⟩
  | succ i ih =>
    obtain ⟨i1, J1, i2⟩ := ih (by omega)
    have hs : s_X7_joinGains_32_11 A (i + 1) = s_X7_joinGains_32_19 (s_X7_joinGains_32_11 A i) (nI i) 5 := rfl
    have fr : ∀ c, c ≠ 47 → s_X7_joinGains_32_11 A i c = A c := fun c hc => fr_s_X7_joinGains_32_11 A i c hc
    rw [hs]
    clear hs
    generalize hr : s_X7_joinGains_32_11 A i = B at *
    have hP' : ∀ j, j < 25 → B 46 j = nI (P j) ∧ P j ≤ NV := by rw [fr 46 (by decide)]; exact hP
    have hG' : ∀ g, g < 5 → B 48 g = nI (G g) ∧ G g ≤ NV := by rw [fr 48 (by decide)]; exact hG
    have inn : ∀ k, k ≤ 5 → (∀ j, j < k → qi_X7_joinGains_32_19 (s_X7_joinGains_32_19 B (nI i) j) (nI i) (nI j)) ∧ ∃ J', JP (s_X7_joinGains_32_19 B (nI i) k) P G i k J' := by
      intro k
      induction k with
      | zero => intro _; exact ⟨fun j hj => absurd hj (by omega), J1, i2⟩
      | succ k ihk =>
        intro hk
        obtain ⟨k1, J2, k2⟩ := ihk (by omega)
        have hs : s_X7_joinGains_32_19 B (nI i) (k + 1) = e_X7_joinGains_32_19_M (s_X7_joinGains_32_19 B (nI i) k) (nI i) (nI k) := rfl
        have fr2 : ∀ c, c ≠ 47 → s_X7_joinGains_32_19 B (nI i) k c = B c := fun c hc => fr_s_X7_joinGains_32_19 B (nI i) k c hc
        obtain ⟨q1, J3, q2⟩ := j19_1 (show i < 25 by omega) (show k < 5 by omega) (by rw [fr2 46 (by decide)]; exact hP') (by rw [fr2 48 (by decide)]; exact hG') k2
        rw [hs]
        refine ⟨fun j hj => ?_, J3, q2⟩
        by_cases c : j = k
        · subst c; exact q1
        · exact k1 j (by omega)
    obtain ⟨k1, J2, k2⟩ := inn 5 (Nat.le_refl _)
    refine ⟨fun j hj => ?_, J2, k2.1, k2.2.1, fun a b hb hab => k2.2.2 a b hb (by omega)⟩
    by_cases c : j = i
    · subst c
      rw [hr]
      exact ⟨k1, trivial⟩
    · exact i1 j (by omega)
theorem jg_c {A : Nat → Nat → Int32} {P G : Nat → Nat} (hP : ∀ j, j < 25 → A 46 j = nI (P j) ∧ P j ≤ NV) (hG : ∀ g, g < 5 → A 48 g = nI (G g) ∧ G g ≤ NV) : q_X7_joinGains_32 A ∧ ∃ J : Nat → Nat, (∀ j, j < 25 → g_X7_joinGains_32 A 46 j = nI (J j) ∧ J j ≤ NV) ∧ (∀ j, j < 25 → J j < NV → ∃ a b, a < 25 ∧ b < 5 ∧ P a < NV ∧ G b < NV ∧ a + b = j + 2 ∧ J j = P a + G b) ∧ ∀ a b, a < 25 → b < 5 → P a < NV → G b < NV → 2 ≤ a + b → a + b < 27 → J (a + b - 2) ≤ P a + G b := by
  obtain ⟨f1, f2⟩ := fill_47 A
  have fr : ∀ c, c ≠ 47 → g_X7_fill_47 A 1048576 c = A c := fun c hc => fr_g_X7_fill_47 A _ c hc
  unfold q_X7_joinGains_32 g_X7_joinGains_32
  generalize g_X7_fill_47 A 1048576 = B at *
  have h0 : JP B P G 0 0 (fun _ => NV) := ⟨fun j hj => ⟨f2 j hj, Nat.le_refl _⟩, fun j _ hl => absurd hl (Nat.lt_irrefl _), fun a b _ hab => absurd hab (by omega)⟩
  obtain ⟨i1, J, j1, j2, j3⟩ := j11 (A := B) (by rw [fr 46 (by decide)]; exact hP) (by rw [fr 48 (by decide)]; exact hG) h0 25 (Nat.le_refl _)
  refine ⟨⟨f1, i1, trivial⟩, J, fun j hj => ?_, j2, fun a b ha hb => j3 a b hb (Or.inl ha)⟩
  rw [z_row_eq, cy_in hj]
  exact j1 j hj
def owU (s : Nat → Int32) (n m : Nat) : Nat := bN n (fun k => decide (s (71 + k) = 0 ∧ (s (11 + k)).toNatClampNeg < m))
theorem owU_b {s : Nat → Int32} {n m k : Nat} : (owU s n m).testBit k = true ↔ k < n ∧ s (71 + k) = 0 ∧ (s (11 + k)).toNatClampNeg < m := by
  unfold owU
  rw [bN_tb, Bool.and_eq_true, decide_eq_true_eq, decide_eq_true_eq]
def xi (kd w s : Nat → Int32) (n : Nat) (t : Int32) (m X : Nat) : Nat := 12 + sN m (fun j => ga kd w s n t j X) - 2 * m
theorem sga (kd w s : Nat → Int32) (n : Nat) (t : Int32) (m X : Nat) : sN m (fun j => ga kd w s n t j X) ≤ 4 * m := by
  have := sN_bd (n := m) (B := 4) (f := fun j => ga kd w s n t j X) (fun j _ => (ga_4 kd w s n t j X).2)
  omega
def DPI (A : Nat → Nat → Int32) (kd w s : Nat → Int32) (n : Nat) (t : Int32) (m : Nat) : Prop := ∃ P : Nat → Nat, (∀ i, i < 25 → A 46 i = nI (P i) ∧ P i ≤ NV) ∧ (∀ i, i < 25 → P i < NV → ∃ X, sub X (owU s n m) ∧ xi kd w s n t m X = i ∧ P i = pz X) ∧ ∀ X, sub X (owU s n m) → P (xi kd w s n t m X) ≤ pz X
theorem pz_or {X Y : Nat} (hX : X < 4096) (hY : Y < 4096) (hd : ∀ k, ¬ (X.testBit k = true ∧ Y.testBit k = true)) : pz (X ||| Y) = pz X + pz Y := by
  rw [pz_sN (Nat.or_lt_two_pow (n := 12) hX hY), pz_sN hX, pz_sN hY, ← sN_add]
  refine sN_congr (fun k _ => ?_)
  rw [Nat.testBit_or]
  have := hd k
  cases hx : X.testBit k <;> cases hy : Y.testBit k
  · rfl
  · simp
  · simp
  · exact absurd ⟨hx, hy⟩ this
theorem dp_step {A B C : Nat → Nat → Int32} {kd w s : Nat → Int32} {n mm : Nat} (hn : n ≤ 12) {t : Int32} {m : Nat} (hm : m < 6) (ho : ∀ k, k < n → ∃ o, o < 6 ∧ s (11 + k) = nI o) (h : DPI A kd w s n t m) (e46 : B 46 = A 46) {G : Nat → Nat} (hG : GP B kd w s n t m (fun Y => sub Y (bN n (hO s (nI m)))) G) (hC : C = g_X7_joinGains_32 B) : q_X7_joinGains_32 B ∧ DPI C kd w s n t (m + 1) := by
  obtain ⟨P, p1, p2, p3⟩ := h
  obtain ⟨q1, q2, q3⟩ := hG
  obtain ⟨k1, J, j1, j2, j3⟩ := jg_c (A := B) (P := P) (G := G) (by rw [e46]; exact p1) q1
  have oc : ∀ k, k < n → ∀ o, o < 6 → ((s (11 + k)).toNatClampNeg = o ↔ s (11 + k) = nI o) := fun k hk o h6 => by
    obtain ⟨o', h1, h2⟩ := ho k hk
    rw [h2, nI_clamp (by omega)]
    exact ⟨fun z => by rw [z], fun z => (nI_eq (by omega) (by omega)).mp z⟩
  have hUlt : ∀ X m, sub X (owU s n m) → X < 4096 := fun X m hX => Nat.lt_of_le_of_lt (sub_leW 12 _ _ (bN_4096 hn _) hX) (bN_4096 hn _)
  have hOlt : ∀ Y, sub Y (bN n (hO s (nI m))) → Y < 4096 := fun Y hY => Nat.lt_of_le_of_lt (sub_leW 12 _ _ (bN_4096 hn _) hY) (bN_4096 hn _)
  -- what a set is made of
  have parts : ∀ X' Y, sub X' (owU s n m) → sub Y (bN n (hO s (nI m))) → (∀ k, ¬ (X'.testBit k = true ∧ Y.testBit k = true)) ∧ sub (X' ||| Y) (owU s n (m + 1)) ∧ (∀ j, j < m → ga kd w s n t j (X' ||| Y) = ga kd w s n t j X') ∧ ga kd w s n t m (X' ||| Y) = ga kd w s n t m Y := by
    intro X' Y hX hY
    have notb : ∀ k, X'.testBit k = true → Y.testBit k = true → False := fun k hx hy => by
      obtain ⟨a1, a2, a3⟩ := owU_b.mp (hX k hx)
      obtain ⟨b1, b2, b3⟩ := hO_b.mp (hY k hy)
      have := (oc k a1 m hm).mpr b3
      omega
    refine ⟨fun k z => notb k z.1 z.2, fun k hk => ?_, fun j hj => ?_, ?_⟩
    · rw [Nat.testBit_or, Bool.or_eq_true] at hk
      rcases hk with z | z
      · obtain ⟨a1, a2, a3⟩ := owU_b.mp (hX k z)
        exact owU_b.mpr ⟨a1, a2, by omega⟩
      · obtain ⟨b1, b2, b3⟩ := hO_b.mp (hY k z)
        exact owU_b.mpr ⟨b1, b2, by have := (oc k b1 m hm).mpr b3; omega⟩
    · refine ga_loc hn (by omega) (fun k hk _ eo => ?_)
      rw [Nat.testBit_or, Bool.or_eq_true]
      refine ⟨fun z => z.resolve_right (fun y => ?_), Or.inl⟩
      obtain ⟨b1, b2, b3⟩ := hO_b.mp (hY k y)
      rw [eo] at b3
      have := (nI_eq (by omega) (by omega)).mp b3
      omega
    · refine ga_loc hn hm (fun k hk _ eo => ?_)
      rw [Nat.testBit_or, Bool.or_eq_true]
      refine ⟨fun z => z.resolve_left (fun y => ?_), Or.inr⟩
      obtain ⟨a1, a2, a3⟩ := owU_b.mp (hX k y)
      have := (oc k hk m hm).mpr eo
      omega
  have xi_s : ∀ X' Y, sub X' (owU s n m) → sub Y (bN n (hO s (nI m))) → xi kd w s n t (m + 1) (X' ||| Y) + 2 = xi kd w s n t m X' + ga kd w s n t m Y := by
    intro X' Y hX hY
    obtain ⟨_, _, e1, e2⟩ := parts X' Y hX hY
    unfold xi
    rw [sN_s, sN_congr e1, e2]
    have := sga kd w s n t m X'
    have := (ga_4 kd w s n t m Y).2
    omega
  have xi24 : ∀ X, xi kd w s n t m X < 25 := fun X => by
    have := sga kd w s n t m X
    unfold xi
    omega
  refine ⟨k1, J, by rw [hC]; exact j1, fun j hj hl => ?_, fun X hX => ?_⟩
  · obtain ⟨a, b, ha, hb, l1, l2, es, ej⟩ := j2 j hj hl
    obtain ⟨X', x1, x2, x3⟩ := p2 a ha l1
    obtain ⟨Y, y1, y2, y3⟩ := q2 b hb l2
    obtain ⟨dj, su, _, _⟩ := parts X' Y x1 y1
    refine ⟨X' ||| Y, su, ?_, ?_⟩
    · have := xi_s X' Y x1 y1
      omega
    · rw [ej, pz_or (hUlt X' m x1) (hOlt Y y1) dj, x3, y3]
  · obtain ⟨X', hX'⟩ : ∃ X', X' = X &&& owU s n m := ⟨_, rfl⟩
    obtain ⟨Y, hY⟩ : ∃ Y, Y = X &&& bN n (hO s (nI m)) := ⟨_, rfl⟩
    have sX : sub X' (owU s n m) := fun k hk => by rw [hX', Nat.testBit_and, Bool.and_eq_true] at hk; exact hk.2
    have sY : sub Y (bN n (hO s (nI m))) := fun k hk => by rw [hY, Nat.testBit_and, Bool.and_eq_true] at hk; exact hk.2
    have eX : X = X' ||| Y := by
      apply Nat.eq_of_testBit_eq
      intro k
      rw [Nat.testBit_or, hX', hY, Nat.testBit_and, Nat.testBit_and]
      cases hx : X.testBit k
      · rfl
      · obtain ⟨a1, a2, a3⟩ := owU_b.mp (hX k hx)
        by_cases c : (s (11 + k)).toNatClampNeg < m
        · rw [owU_b.mpr ⟨a1, a2, c⟩]; rfl
        · have : (bN n (hO s (nI m))).testBit k = true := hO_b.mpr ⟨a1, a2, (oc k a1 m hm).mp (by omega)⟩
          rw [this]; simp
    obtain ⟨dj, su, _, _⟩ := parts X' Y sX sY
    have hx := xi_s X' Y sX sY
    rw [← eX] at hx
    have pX := p3 X' sX
    have pY := q3 Y sY
    have nX := pz_NV (hUlt X' m sX)
    have nY := pz_NV (hOlt Y sY)
    have hg := (ga_4 kd w s n t m Y).2
    have := j3 _ _ (xi24 X') (show ga kd w s n t m Y < 5 by omega) (by omega) (by omega) (by omega) (by have := xi24 X'; have := sga kd w s n t (m + 1) X; unfold xi at hx ⊢; omega)
    rw [← hx, Nat.add_sub_cancel] at this
    have ez : pz X = pz X' + pz Y := by
      have := pz_or (hUlt X' m sX) (hOlt Y sY) dj
      rwa [← eX] at this
    omega
