/-! THE TEXT: one clause of both -/
def CL (M G : Nat → Nat → Int32) (tx : Nat → Int32) (len p : Nat) (l : Int32) : Prop := ∃ t' : Nat × Int32 × Int32, p < t'.1 ∧ C3 M tx len t' ∧ X3 G tx len t' ∧ (t'.2.1 = 0 → t'.2.2 = l ∧ ∃ (s kd sd w : Nat → Int32) (q : Int32) (n mm : Nat), HC M s kd sd w q n mm ∧ HX G s kd sd w q mm ∧ HW s q n mm)
theorem lt_l0 {e f l x : Int32} (h : lt_e e f = 0) : lt_l e f l x = l := by
  unfold lt_l
  rw [if_pos (lt_e0 h).1, if_pos (lt_e0 h).2]
theorem s1_l {tx : Nat → Int32} {len : Nat} {t : Nat × Int32 × Int32} (h : (s1 tx len t).2.1 = 0) : (s1 tx len t).2.2 = t.2.2 := (lt_l0 h).trans (lt_l0 (lt_e0 h).1)
theorem sNu_l {tx : Nat → Int32} {len : Nat} {a b : Int32} {t : Nat × Int32 × Int32} (h : (sNu tx len a b t).2.1 = 0) : (sNu tx len a b t).2.2 = t.2.2 ∧ t.2.1 = 0 := by
  obtain ⟨p, e, l⟩ := t
  exact ⟨lt_l0 h, (lt_e0 h).1⟩
theorem sEd_l {tx : Nat → Int32} {len : Nat} {t : Nat × Int32 × Int32} (h : (sEd tx len t).2.1 = 0) : (sEd tx len t).2.2 = t.2.2 ∧ t.2.1 = 0 := by
  obtain ⟨p, e, l⟩ := t
  exact ⟨lt_l0 h, (lt_e0 h).1⟩
theorem s4_l {tx : Nat → Int32} {len : Nat} {a1 b1 a2 b2 a3 b3 a4 b4 : Int32} {t : Nat × Int32 × Int32} (h : (s4 tx len a1 b1 a2 b2 a3 b3 a4 b4 t).2.1 = 0) : (s4 tx len a1 b1 a2 b2 a3 b3 a4 b4 t).2.2 = t.2.2 := by
  unfold s4 at h
  unfold s4
  generalize h1 : sNu tx len a1 b1 t = t1 at *
  generalize h2 : sNu tx len a2 b2 t1 = t2 at *
  generalize h3 : sNu tx len a3 b3 t2 = t3 at *
  generalize h4 : sNu tx len a4 b4 t3 = t4 at *
  obtain ⟨e5, z4⟩ := sEd_l h
  subst h4
  obtain ⟨e4, z3⟩ := sNu_l z4
  subst h3
  obtain ⟨e3, z2⟩ := sNu_l z3
  subst h2
  obtain ⟨e2, z1⟩ := sNu_l z2
  subst h1
  obtain ⟨e1, _⟩ := sNu_l z1
  rw [e5, e4, e3, e2, e1]
theorem HC_c {M M' : Nat → Nat → Int32} {s kd sd w : Nat → Int32} {q : Int32} {n mm : Nat} (h : HC M s kd sd w q n mm) (f : ∀ c, c ≠ 2 → M' c = M c) : HC M' s kd sd w q n mm := by
  unfold HC rp
  rw [f 3 (by decide), f 4 (by decide), f 5 (by decide), f 6 (by decide), f 7 (by decide), f (7 + 1) (by decide), f (7 + 2) (by decide), f (7 + 3) (by decide), f (7 + 4) (by decide), f (7 + 5) (by decide), f (7 + 6) (by decide), f (7 + 7) (by decide)]
  exact h
theorem HX_c {M M' : Nat → Nat → Int32} {s kd sd w : Nat → Int32} {q : Int32} {mm : Nat} (h : HX M s kd sd w q mm) (f : R8 M M') : HX M' s kd sd w q mm := by
  unfold HX
  rw [f.2 23 (by decide) (by decide) (by decide), f.2 24 (by decide) (by decide) (by decide), f.1 287 (by decide), f.1 288 (by decide), f.1 289 (by decide), f.1 290 (by decide)]
  exact h
theorem clause {M G : Nat → Nat → Int32} {tx : Nat → Int32} {len p : Nat} {l : Int32} {s kd sd w : Nat → Int32} {q : Int32} {n mm : Nat} (hC : C3 M tx len (p, 0, l)) (hX : X3 G tx len (p, 0, l)) (hp : p < len) (h1 : HC M s kd sd w q n mm) (h2 : HX G s kd sd w q mm) (h3 : HW s q n mm) : q_X5_readClause_2 M (M 2 2) ∧ q_X9_readClause_274 G ∧ CL (g_X5_readClause_2 M (M 2 2)) (g_X9_readClause_274 G) tx len p l := by
  have hl := hC.1.2.1
  have m22 : M 2 2 = nI p := hC.1.2.2.2.1
  have eW : M 1 (M 2 2).toNatClampNeg = tx p := by rw [m22, nI_clamp (by omega)]; exact hC.1.1 p hp
  obtain ⟨qh, fh⟩ := he_q (RX_D hX.1) (by omega)
  rw [if_pos hp] at fh
  obtain ⟨cP, fP⟩ := C3_at hC hp
  obtain ⟨xP, rP⟩ := X3_at hX hp
  have h1P := HC_c h1 fP
  have h2P := HX_c h2 rP
  have vp : z_vin (M 2 2) 240 = true := by rw [m22]; exact vi (by omega) (by decide)
  have fl : ∀ k : Int32, ¬ k = 0 → CL (g_X5_blame_2 (z_row M 2 (upd (M 2) 2 (M 2 2 + 1))) k (nI p)) (g_X9_fails_274 G k) tx len p l := fun k hk => ⟨(p + 1, k, nI p), Nat.lt_succ_self p, (C3_bl cP k).1, (X3_f hX hp k hk).1, fun z => absurd z hk⟩
  unfold q_X5_readClause_2 q_X9_readClause_274 g_X5_readClause_2 g_X9_readClause_274
  rw [eW, fh, h2.1, h2.2.1, h2.2.2.2 10 (by decide)]
  generalize z_row M 2 (upd (M 2) 2 (M 2 2 + 1)) = A at *
  generalize z_row G 274 (upd (G 274) 20 (G 274 20 + 1)) = B at *
  rw [m22]
  rw [m22] at vp
  have w1 := h3.1
  have w2 := h3.2.1
  obtain ⟨qn, hq, eq⟩ := h3.2.2.2
  have q0 : (q = 0) ↔ qn = 0 := by rw [eq]; exact nI_eq (b := 0) (by omega) (by decide)
  have st : f_X2_stands_3 A = 0 ↔ q = 0 := by
    unfold f_X2_stands_3
    rw [h1P.1, q0]
    have le : q ≤ 0 ↔ qn ≤ 0 := by rw [eq]; exact nI_leI (b := 0) (by omega) (by decide)
    by_cases c : qn ≤ 0
    · rw [if_pos (le.mpr c)]; exact ⟨fun _ => by omega, fun _ => rfl⟩
    · rw [if_neg (fun z => c (le.mp z))]; exact ⟨fun z => absurd z c10, fun z => absurd z (by omega)⟩
  have m6 : (nI mm = 6) ↔ mm = 6 := nI_eq (b := 6) (by omega) (by decide)
  have n12 : (s 10 = 12) ↔ n = 12 := by rw [w2.1]; exact nI_eq (b := 12) (by have := w2.2.1; omega) (by decide)
  have hn := w2.2.1
  by_cases cq : tx p = 113
  · rw [if_neg (not_not_intro cq), if_neg (not_not_intro cq), if_neg (not_not_intro cq)]
    by_cases c0 : q = 0
    · obtain ⟨y1', y2', y3', y4'⟩ := C_q cP (by rw [h1P.1]; exact c0) (nI p)
      obtain ⟨u1, u2, u3, u4, u5, u6⟩ := X_q xP
      rw [if_neg (not_not_intro c0)]
      refine ⟨⟨vp, fun z => absurd cq z, fun z => absurd cq z, fun _ => y1', trivial⟩, ⟨qh, fun z => absurd c0 z, fun z => absurd c0 z, fun _ _ => u1, fun _ _ => u2, trivial⟩, s1 tx len (p + 1, 0, l), Nat.lt_of_lt_of_le (Nat.lt_succ_self p) (s1_b hl cP.2), y2', u3, fun hz => ?_⟩
      obtain ⟨_, g1', g2'⟩ := s1_0 hz
      have e3 := y4' hz
      have x23 := u6 hz
      obtain ⟨k, hk, ek⟩ := btw (b := 9) (by decide) (fun z => g1' (Int32.lt_trans z (by decide))) g2'
      refine ⟨s1_l hz, s, kd, sd, w, vv tx len (p + 1), n, mm, ⟨by rw [e3]; rfl, ?_, ?_, ?_⟩, ⟨x23, ?_, ?_, ?_⟩, w1, w2, h3.2.2.1, k, hk, ek⟩
      · rw [e3, ud_if, if_neg (by decide)]; exact h1P.2.1
      · rw [y3' 4 (by decide) (by decide), y3' 5 (by decide) (by decide), y3' 6 (by decide) (by decide)]; exact h1P.2.2.1
      · unfold rp
        rw [y3' 7 (by decide) (by decide), y3' (7 + 1) (by decide) (by decide), y3' (7 + 2) (by decide) (by decide), y3' (7 + 3) (by decide) (by decide), y3' (7 + 4) (by decide) (by decide), y3' (7 + 5) (by decide) (by decide), y3' (7 + 6) (by decide) (by decide), y3' (7 + 7) (by decide) (by decide)]; exact h1P.2.2.2
      · rw [u5 24 (by decide) (by decide) (by decide) (by decide)]; exact h2P.2.1
      · rw [u4 287 (by decide), u4 288 (by decide), u4 289 (by decide)]; exact h2P.2.2.1
      · rw [u4 290 (by decide)]; exact h2P.2.2.2
    · have ns : ¬ f_X2_stands_3 A = 0 := fun z => c0 (st.mp z)
      rw [if_pos c0]
      refine ⟨⟨vp, fun z => absurd cq z, fun z => absurd cq z, fun _ => ⟨fun z => absurd z ns, fun z => absurd z ns, trivial⟩, trivial⟩, ⟨qh, fun _ z => absurd cq z, fun _ z => absurd cq z, fun z => absurd z c0, fun z => absurd z c0, trivial⟩, ?_⟩
      unfold g_X5_readStrains_2
      rw [if_neg ns]
      exact fl 3 (by decide)
  · rw [if_pos cq, if_pos cq, if_pos cq]
    by_cases c0 : q = 0
    · have ns : f_X2_stands_3 A = 0 := st.mpr c0
      rw [if_neg (not_not_intro c0), if_pos ns, if_pos ns]
      refine ⟨⟨vp, fun _ _ _ z => absurd ns z, fun _ _ z => absurd ns z, fun z => absurd z cq, trivial⟩, ⟨qh, fun z => absurd c0 z, fun z => absurd c0 z, fun _ z => absurd z cq, fun _ z => absurd z cq, trivial⟩, ?_⟩
      have := fl 1 c10
      split
      · split <;> exact this
      · exact this
    · have ns : ¬ f_X2_stands_3 A = 0 := fun z => c0 (st.mp z)
      rw [if_pos c0, if_neg ns, if_neg ns]
      by_cases cm : tx p = 109
      · rw [if_neg (not_not_intro cm), if_neg (not_not_intro cm)]
        by_cases c6 : mm = 6
        · rw [if_neg (not_not_intro (m6.mpr c6))]
          have n6 : ¬ A 3 1 < 6 := by rw [h1P.2.1, c6]; decide
          refine ⟨⟨vp, fun _ z => absurd cm z, fun _ _ _ => ⟨fun z => absurd z n6, fun z => absurd z n6, fun z => absurd z n6, fun z => absurd z n6, fun z => absurd z n6, fun z => absurd z n6, trivial⟩, fun z => absurd z cq, trivial⟩, ⟨qh, fun _ _ z => absurd cm z, fun _ _ _ z => absurd (m6.mpr c6) z, fun z => absurd z c0, fun z => absurd z c0, trivial⟩, ?_⟩
          unfold g_X5_readMember_2
          rw [if_neg n6]
          exact fl 3 (by decide)
        · obtain ⟨y1', y2', y3', y4', y5'⟩ := C_mem cP h1P.2.1 (by omega) (nI p)
          obtain ⟨u1, u2, u3, u4, u5, u6⟩ := X_mem xP h2P.2.1 (by omega)
          rw [if_pos (fun z => c6 (m6.mp z))]
          refine ⟨⟨vp, fun _ z => absurd cm z, fun _ _ _ => y1', fun z => absurd z cq, trivial⟩, ⟨qh, fun _ _ z => absurd cm z, fun _ _ _ _ => u1, fun z => absurd z c0, fun z => absurd z c0, trivial⟩, s4 tx len 0 3 0 1 1 99 0 255 (p + 1, 0, l), Nat.lt_of_lt_of_le (Nat.lt_succ_self p) (s4_b hl cP.2), y2', u2, fun hz => ?_⟩
          obtain ⟨e4, e5, e8, e6⟩ := y5' hz
          obtain ⟨x1, x2, x4, x3⟩ := u6 hz
          obtain ⟨_, _, _, _, _, _, g3, _⟩ := s4_0 hz
          exact ⟨s4_l hz, _, _, _, _, q, n, mm + 1, H_mem h1P h2P h3 (by omega) y4' e4 e5 e8 e6 y3' u4 (u5 23 (by decide) (by decide) (by decide) (by decide)) x1 x2 x4 x3 (Int32.not_lt.mp g3.1)⟩
      · rw [if_pos cm, if_pos cm]
        by_cases cs : tx p = 115
        · rw [if_neg (not_not_intro cs), if_neg (not_not_intro cs)]
          have a71 : A 7 1 = nI n := by rw [h1P.2.2.2.1.1]; exact w2.1
          by_cases c12 : n = 12
          · rw [if_neg (not_not_intro (n12.mpr c12))]
            have n12' : ¬ A 7 1 < 12 := by rw [a71, c12]; decide
            refine ⟨⟨vp, fun _ _ _ _ => ⟨fun z => absurd z n12', fun z => absurd z n12', fun z => absurd z n12', fun z => absurd z n12', fun z => absurd z n12', fun z => absurd z n12', trivial⟩, fun _ z => absurd z cm, fun z => absurd z cq, trivial⟩, ⟨qh, fun _ _ _ _ z => absurd (n12.mpr c12) z, fun _ _ z => absurd z cm, fun z => absurd z c0, fun z => absurd z c0, trivial⟩, ?_⟩
            unfold g_X5_readStrap_2
            rw [if_neg n12']
            exact fl 3 (by decide)
          · obtain ⟨y1', y2', y3', y4'⟩ := C_str cP h1P.2.1 a71 (by omega) (nI p)
            obtain ⟨u1, u2, u3, u4, u5⟩ := X_str xP h2P.2.1 ((h2P.2.2.2 10 (by decide)).trans w2.1) (by omega)
            rw [if_pos (fun z => c12 (n12.mp z))]
            refine ⟨⟨vp, fun _ _ _ _ => y1', fun _ z => absurd z cm, fun z => absurd z cq, trivial⟩, ⟨qh, fun _ _ _ _ _ => u1, fun _ _ z => absurd z cm, fun z => absurd z c0, fun z => absurd z c0, trivial⟩, s4 tx len 0 (nI mm - 1) 0 7 0 1 1 9 (p + 1, 0, l), Nat.lt_of_lt_of_le (Nat.lt_succ_self p) (s4_b hl cP.2), y2', u2, fun hz => ?_⟩
            obtain ⟨e7, e9, e10, e11, e12, e13, e14⟩ := y4' hz
            obtain ⟨_, _, _, _, g1', g2', g3', _⟩ := s4_0 hz
            have o1 : ∃ o, o < mm ∧ y1 tx len (p + 1) = nI o := by
              by_cases cz : mm = 0
              · exfalso
                have := g1'.2
                rw [cz] at this
                exact g1'.1 (Int32.lt_of_le_of_lt this (by decide))
              · obtain ⟨k, hk, ek⟩ := btw (x := y1 tx len (p + 1)) (b := mm - 1) (by omega) g1'.1 (by have := g1'.2; rwa [show nI mm - 1 = nI (mm - 1) from pk_sub (b := 1) (by omega)] at this)
                exact ⟨k, by omega, ek⟩
            obtain ⟨k2, hk2, ek2⟩ := btw (x := y2 tx len (p + 1)) (b := 7) (by decide) g2'.1 g2'.2
            obtain ⟨k3, hk3, ek3⟩ := btw (x := y3 tx len (p + 1)) (b := 1) (by decide) g3'.1 g3'.2
            have o3 : y3 tx len (p + 1) = 0 ∨ y3 tx len (p + 1) = 1 := by
              match k3, hk3, ek3 with
              | 0, _, ek3 => exact Or.inl ek3
              | 1, _, ek3 => exact Or.inr ek3
              | _ + 2, hk3, _ => exact absurd hk3 (by omega)
            exact ⟨s4_l hz, _, kd, sd, w, q, n + 1, mm, H_str h1P h2P h3 (by omega) e7 e9 e10 e11 e12 e13 e14 y3' (u4 24 (by decide) (by decide) (by decide)) (u4 23 (by decide) (by decide) (by decide)) u3 (u5 hz) o1 ⟨k2, hk2, ek2⟩ o3⟩
        · rw [if_pos cs, if_pos cs]
          exact ⟨⟨vp, fun _ _ z => absurd z cs, fun _ z => absurd z cm, fun z => absurd z cq, trivial⟩, ⟨qh, fun _ _ _ z => absurd z cs, fun _ _ z => absurd z cm, fun z => absurd z c0, fun z => absurd z c0, trivial⟩, fl 1 c10⟩
