/-! THE TEXT: the loops of both readers -/
theorem shC (M : Nat → Nat → Int32) (a c : Int32) (i : Nat) : s_X5_readText_2_48 M a c (i + 1) = s_X5_readText_2_48 (e_X5_readText_2_48_M M a c) a (e_X5_readText_2_48_c2 M a c) i := by
  induction i with
  | zero => rfl
  | succ i ih =>
    have h1 : s_X5_readText_2_48 M a c (i + 1 + 1) = (e_X5_readText_2_48_c2 (s_X5_readText_2_48 M a c (i + 1)).2 a (s_X5_readText_2_48 M a c (i + 1)).1, e_X5_readText_2_48_M (s_X5_readText_2_48 M a c (i + 1)).2 a (s_X5_readText_2_48 M a c (i + 1)).1) := rfl
    rw [h1, ih]
    rfl
theorem shR (M : Nat → Nat → Int32) (i : Nat) : s_X9_readHouse_274_45 M (i + 1) = s_X9_readHouse_274_45 (e_X9_readHouse_274_45_M M) i := by
  induction i with
  | zero => rfl
  | succ i ih =>
    have h1 : s_X9_readHouse_274_45 M (i + 1 + 1) = e_X9_readHouse_274_45_M (s_X9_readHouse_274_45 M (i + 1)) := rfl
    rw [h1, ih]
    rfl
/-- both have read, to the end or to the first fault -/
def EN (M G : Nat → Nat → Int32) (tx : Nat → Int32) (len : Nat) : Prop := ∃ t' : Nat × Int32 × Int32, C3 M tx len t' ∧ X3 G tx len t' ∧ (t'.2.1 = 0 → t'.2.2 = -1 ∧ ∃ (s kd sd w : Nat → Int32) (q : Int32) (n mm : Nat), HC M s kd sd w q n mm ∧ HX G s kd sd w q mm ∧ HW s q n mm)
theorem tC_end {M : Nat → Nat → Int32} {a c : Int32} (h : M 2 1 ≤ M 2 2 ∨ ¬ M 2 3 = 0) : t_X5_readText_2_48 M a c = false := by
  unfold t_X5_readText_2_48
  by_cases c1 : (240 : Int32) ≤ c
  · rw [if_pos c1]
  · rw [if_neg c1]
    by_cases c2 : M 2 1 ≤ M 2 2
    · rw [if_pos c2]
    · rw [if_neg c2, if_pos (h.resolve_left c2)]
theorem tR_end {M : Nat → Nat → Int32} (h : M 274 1 ≤ M 274 20 ∨ ¬ M 274 21 = 0) : t_X9_readHouse_274_45 M = false := by
  unfold t_X9_readHouse_274_45
  by_cases c1 : M 274 21 = 0
  · rw [if_neg (not_not_intro c1), if_pos (h.resolve_right (not_not_intro c1))]
  · rw [if_pos c1]
theorem loops (tx : Nat → Int32) (len : Nat) (a : Int32) (j : Nat) : ∀ (M G : Nat → Nat → Int32) (c p : Nat) (s kd sd w : Nat → Int32) (q : Int32) (n mm : Nat), 240 ≤ p + j → c ≤ p → C3 M tx len (p, 0, -1) → X3 G tx len (p, 0, -1) → HC M s kd sd w q n mm → HX G s kd sd w q mm → HW s q n mm →
    ∃ N, c + N ≤ 240 ∧ (∀ i, i < N → t_X5_readText_2_48 (s_X5_readText_2_48 M a (nI c) i).2 a (s_X5_readText_2_48 M a (nI c) i).1 = true ∧ qi_X5_readText_2_48 (s_X5_readText_2_48 M a (nI c) i).2 a (s_X5_readText_2_48 M a (nI c) i).1 ∧ t_X9_readHouse_274_45 (s_X9_readHouse_274_45 G i) = true ∧ qi_X9_readHouse_274_45 (s_X9_readHouse_274_45 G i)) ∧ t_X5_readText_2_48 (s_X5_readText_2_48 M a (nI c) N).2 a (s_X5_readText_2_48 M a (nI c) N).1 = false ∧ t_X9_readHouse_274_45 (s_X9_readHouse_274_45 G N) = false ∧ EN (s_X5_readText_2_48 M a (nI c) N).2 (s_X9_readHouse_274_45 G N) tx len := by
  induction j with
  | zero =>
    intro M G c p s kd sd w q n mm hj hc h1 h2 h3 h4 h5
    have hp : p ≤ 240 := h1.2
    have hl : len ≤ 240 := h1.1.2.1
    refine ⟨0, by omega, fun i hi => absurd hi (by omega), ?_, ?_, (p, 0, -1), h1, h2, fun _ => ⟨rfl, s, kd, sd, w, q, n, mm, h3, h4, h5⟩⟩
    · refine tC_end (Or.inl ?_)
      show M 2 1 ≤ M 2 2
      rw [h1.1.2.2.1, h1.1.2.2.2.1]
      exact nI_le (by omega) (by omega)
    · refine tR_end (Or.inl ?_)
      show G 274 1 ≤ G 274 20
      rw [h2.1.2.2.1, h2.1.2.2.2.1 rfl]
      exact nI_le (by omega) (by omega)
  | succ j ih =>
    intro M G c p s kd sd w q n mm hj hc h1 h2 h3 h4 h5
    have hp : p ≤ 240 := h1.2
    have hl : len ≤ 240 := h1.1.2.1
    have m21 : M 2 1 = nI len := h1.1.2.2.1
    have m22 : M 2 2 = nI p := h1.1.2.2.2.1
    have m23 : M 2 3 = 0 := h1.1.2.2.2.2.1
    have g1' : G 274 1 = nI len := h2.1.2.2.1
    have g20 : G 274 20 = nI p := h2.1.2.2.2.1 rfl
    have g21 : G 274 21 = 0 := h2.1.2.2.2.2.1
    by_cases cp : len ≤ p
    · refine ⟨0, by omega, fun i hi => absurd hi (by omega), ?_, ?_, (p, 0, -1), h1, h2, fun _ => ⟨rfl, s, kd, sd, w, q, n, mm, h3, h4, h5⟩⟩
      · refine tC_end (Or.inl ?_)
        show M 2 1 ≤ M 2 2
        rw [m21, m22]
        exact nI_le (by omega) (by omega)
      · refine tR_end (Or.inl ?_)
        show G 274 1 ≤ G 274 20
        rw [g1', g20]
        exact nI_le (by omega) (by omega)
    · obtain ⟨q1, q2, ⟨p', e', l'⟩, k1, k2, k3, k4⟩ := clause h1 h2 (by omega) h3 h4 h5
      have nl : ¬ M 2 1 ≤ M 2 2 := by rw [m21, m22]; exact nI_ge (by omega) (by omega)
      have nl' : ¬ G 274 1 ≤ G 274 20 := by rw [g1', g20]; exact nI_ge (by omega) (by omega)
      have nc : ¬ (240 : Int32) ≤ nI c := nI_ge (b := 240) (by omega) (by decide)
      have t1 : t_X5_readText_2_48 M a (nI c) = true := by
        unfold t_X5_readText_2_48
        rw [if_neg nc, if_neg nl, if_neg (not_not_intro m23)]
      have t2 : t_X9_readHouse_274_45 G = true := by
        unfold t_X9_readHouse_274_45
        rw [if_neg (not_not_intro g21), if_neg nl']
      obtain ⟨s1', s2', s3'⟩ := sk_c k2.1 k2.2
      have bb := sk_b tx hl k2.2
      have qc : qi_X5_readText_2_48 M a (nI c) := ⟨fun _ _ _ => q1, fun _ _ _ => s1', trivial⟩
      have eC : e_X5_readText_2_48_M M a (nI c) = g_X5_skipBlanks_2 (g_X5_readClause_2 M (M 2 2)) := rfl
      have ec : e_X5_readText_2_48_c2 M a (nI c) = nI (c + 1) := nI_1 c
      have eR : e_X9_readHouse_274_45_M G = if ¬ (g_X9_readClause_274 G) 274 21 = (0 : Int32) then (g_X9_readClause_274 G) else (g_X9_skips_274 (g_X9_readClause_274 G)) := rfl
      have r21 : g_X9_readClause_274 G 274 21 = e' := k3.1.2.2.2.2.1
      rw [r21] at eR
      by_cases ce : e' = 0
      · subst ce
        rw [if_neg (not_not_intro rfl)] at eR
        obtain ⟨u1, u2, u3⟩ := sk_r (RX_D k3.1) k3.2
        obtain ⟨el, s', kd', sd', w', q', n', mm', v1, v2, v3⟩ := k4 rfl
        have el' : l' = -1 := el
        subst el'
        have qr : qi_X9_readHouse_274_45 G := ⟨fun _ _ => q2, fun _ _ _ => u1, trivial⟩
        have kp : p < p' := k1
        have kb : p' ≤ sk tx len p' := bb.1
        obtain ⟨N, n1, n2, n3, n4, n5⟩ := ih (g_X5_skipBlanks_2 (g_X5_readClause_2 M (M 2 2))) (g_X9_skips_274 (g_X9_readClause_274 G)) (c + 1) (sk tx len p') s' kd' sd' w' q' n' mm' (by omega) (by omega) ⟨s2', bb.2.1⟩ ⟨RD_X u2 (fun z => absurd rfl z), bb.2.1⟩ (HC_c v1 s3') (HX_c v2 u3) v3
        refine ⟨N + 1, by omega, fun i hi => ?_, ?_, ?_, ?_⟩
        · match i, hi with
          | 0, _ => exact ⟨t1, qc, t2, qr⟩
          | i + 1, hi =>
            rw [shC, shR, eC, ec, eR]
            exact n2 i (by omega)
        · rw [shC, eC, ec]; exact n3
        · rw [shR, eR]; exact n4
        · rw [shC, shR, eC, ec, eR]; exact n5
      · rw [if_pos ce] at eR
        have qr : qi_X9_readHouse_274_45 G := ⟨fun _ _ => q2, fun _ _ z => absurd (r21.symm.trans z) ce, trivial⟩
        refine ⟨1, by omega, fun i hi => ?_, ?_, ?_, ?_⟩
        · obtain rfl : i = 0 := by omega
          exact ⟨t1, qc, t2, qr⟩
        · rw [shC, eC, ec]
          refine tC_end (Or.inr ?_)
          show ¬ g_X5_skipBlanks_2 (g_X5_readClause_2 M (M 2 2)) 2 3 = 0
          rw [s2'.2.2.2.2.1]
          exact ce
        · rw [shR, eR]
          refine tR_end (Or.inr ?_)
          show ¬ g_X9_readClause_274 G 274 21 = 0
          rw [r21]
          exact ce
        · rw [shC, shR, eC, ec, eR]
          exact ⟨(sk tx len p', e', l'), ⟨s2', bb.2.1⟩, ⟨⟨k3.1.1, k3.1.2.1, k3.1.2.2.1, fun z => absurd z ce, k3.1.2.2.2.2.1, k3.1.2.2.2.2.2⟩, bb.2.1⟩, fun z => absurd z ce⟩
