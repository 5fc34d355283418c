/-! THE FEWEST STRAPS TO LET GO SO THAT IT PASSES: the reference -/
def lrow (s : Nat → Int32) (X n : Nat) : Nat → Int32 := fun j => if 71 ≤ j ∧ j < 71 + n ∧ X.testBit (j - 71) = true then 2 else s j
theorem lrow_lo {s : Nat → Int32} {X n j : Nat} (h : j < 71) : lrow s X n j = s j := if_neg (by omega)
theorem lrow_71 {s : Nat → Int32} {X n k : Nat} (h : k < n) : lrow s X n (71 + k) = if X.testBit k = true then 2 else s (71 + k) := by
  unfold lrow
  rw [Nat.add_sub_cancel_left]
  by_cases c : X.testBit k = true
  · rw [if_pos ⟨by omega, by omega, c⟩, if_pos c]
  · rw [if_neg (fun z => c z.2.2), if_neg c]
def alS (s : Nat → Int32) (n : Nat) : Nat := bN n (fun k => decide (s (71 + k) = 0))
theorem alS_b {s : Nat → Int32} {n k : Nat} : (alS s n).testBit k = true ↔ k < n ∧ s (71 + k) = 0 := by
  unfold alS
  rw [bN_tb, Bool.and_eq_true, decide_eq_true_eq, decide_eq_true_eq]
theorem wf_lrow {s : Nat → Int32} {X n mm : Nat} (h : wf s n mm) (hm : mm ≤ 6) (hX : sub X (alS s n)) : wf (lrow s X n) n mm := by
  refine wf_mod h hm (fun j hj => lrow_lo (by omega)) (fun k hk => ?_)
  unfold g1
  rw [lrow_71 hk]
  by_cases c : X.testBit k = true
  · have := (alS_b.mp (hX k c)).2
    rw [if_pos c, this]; decide
  · rw [if_neg c]
theorem lr_r {M : Nat → Nat → Int32} {s kd w : Nat → Int32} {q : Int32} {n mm : Nat} (h : RS_279 M s kd w q n mm) (t v2 c3 : Int32) {X : Nat} (hX : X < 4096) (hs : sub X (alS s n)) : q_X9_asItIs_274 M ∧ (g_X9_asItIs_274 M 280 10).toNatClampNeg = n ∧ (∀ k, k < n → qi_X9_leastOf_274_52 (s_X9_leastOf_274_52 (g_X9_asItIs_274 M) t v2 c3 (nI X) k) t v2 c3 (nI X) (nI k)) ∧ (∀ k, k < n → ¬ s_X9_leastOf_274_52 (g_X9_asItIs_274 M) t v2 c3 (nI X) k 280 10 ≤ nI k) ∧ s_X9_leastOf_274_52 (g_X9_asItIs_274 M) t v2 c3 (nI X) n 280 10 ≤ nI n ∧ q_X9_marginOf_274_280 (s_X9_leastOf_274_52 (g_X9_asItIs_274 M) t v2 c3 (nI X) n) t ∧ f_X9_marginOf_274_280 (s_X9_leastOf_274_52 (g_X9_asItIs_274 M) t v2 c3 (nI X) n) t = mg kd w (lrow s X n) n mm t := by
  obtain ⟨qa, hA⟩ := RS_as h
  have hn := h.2.2.2.2.1
  generalize g_X9_asItIs_274 M = A at *
  have lp : ∀ k, k ≤ n → ∀ j, j < 83 → s_X9_leastOf_274_52 A t v2 c3 (nI X) k 280 j = lrow s X k j := by
    intro k
    induction k with
    | zero =>
      intro _ j hj
      unfold lrow
      rw [if_neg (by omega)]
      exact hA.2.2.1 j hj
    | succ k ih =>
      intro hk j hj
      have hs : s_X9_leastOf_274_52 A t v2 c3 (nI X) (k + 1) = e_X9_leastOf_274_52_M (s_X9_leastOf_274_52 A t v2 c3 (nI X) k) t v2 c3 (nI X) (nI k) := rfl
      have i1 := ih (by omega)
      rw [hs]
      unfold e_X9_leastOf_274_52_M
      rw [hasr_tb _ (by omega) (by omega), ix_71 (by omega)]
      have e : lrow s X (k + 1) j = if j = 71 + k ∧ X.testBit k = true then 2 else lrow s X k j := by
        unfold lrow
        by_cases c : j = 71 + k
        · subst c
          rw [Nat.add_sub_cancel_left]
          by_cases c2 : X.testBit k = true
          · rw [if_pos ⟨by omega, by omega, c2⟩, if_pos ⟨rfl, c2⟩]
          · rw [if_neg (fun z => c2 z.2.2), if_neg (fun z => c2 z.2), if_neg (by omega)]
        · rw [if_neg (show ¬ (j = 71 + k ∧ X.testBit k = true) from fun z => c z.1)]
          by_cases c3 : 71 ≤ j ∧ j < 71 + k ∧ X.testBit (j - 71) = true
          · rw [if_pos c3, if_pos ⟨c3.1, by omega, c3.2.2⟩]
          · rw [if_neg c3, if_neg (fun z => c3 ⟨z.1, by omega, z.2.2⟩)]
      rw [e]
      by_cases c : X.testBit k = true
      · rw [if_pos c, if_neg c10, z_row_eq, ud_if, i1 j hj]
        by_cases c2 : j = 71 + k
        · rw [if_pos c2, if_pos ⟨c2, c⟩]
        · rw [if_neg c2, if_neg (fun z => c2 z.1)]
      · rw [if_neg c, if_pos rfl, z_row_eq, ud_if, i1 j hj, i1 (71 + k) (by omega), if_neg (show ¬ (j = 71 + k ∧ X.testBit k = true) from fun z => c z.2)]
        by_cases c2 : j = 71 + k
        · rw [if_pos c2, c2]
        · rw [if_neg c2]
  have e10 : ∀ k, k ≤ n → s_X9_leastOf_274_52 A t v2 c3 (nI X) k 280 10 = nI n := fun k hk => by
    rw [lp k hk 10 (by decide), lrow_lo (by decide)]; exact hA.2.2.2.1
  have fr : ∀ c, c ≠ 280 → s_X9_leastOf_274_52 A t v2 c3 (nI X) n c = A c := fun c hc => fr_s_X9_leastOf_274_52 A t v2 c3 (nI X) n c hc
  have hR : RS_280 (s_X9_leastOf_274_52 A t v2 c3 (nI X) n) (lrow s X n) kd w q n mm := by
    refine ⟨?_, ?_, lp n (Nat.le_refl n), wf_lrow hA.2.2.2 hA.1.2.2 hs⟩
    · rw [fr 274 (by decide)]; exact hA.1
    · rw [fr 276 (by decide), fr 278 (by decide)]; exact hA.2.1
  have mr := mr_280 hR t
  refine ⟨qa, rn_280 hA, fun k hk => ⟨fun _ => vx_71 (by omega), fun _ => vx_71 (by omega), trivial⟩, fun k hk => ?_, ?_, mr.1, mr.2⟩
  · rw [e10 k (by omega)]; exact nI_ge hk (by omega)
  · rw [e10 n (Nat.le_refl n)]; exact Int32.le_refl _
def lsV (kd w s : Nat → Int32) (n mm : Nat) (t : Int32) (X : Nat) : Bool := decide (dif X (alS s n) = 0 ∧ 0 < mg kd w (lrow s X n) n mm t)
def oI (o : Option Nat) : Int32 := match o with
  | none => -1
  | some x => nI x
theorem le_r {M : Nat → Nat → Int32} {s kd w : Nat → Int32} {q : Int32} {n mm : Nat} (h : RS_279 M s kd w q n mm) (t : Int32) : q_X9_leastOf_274 M t ∧ f_X9_leastOf_274 M t = oI (lpb (lsV kd w s n mm t) (alS s n) none (alS s n + 1)) := by
  have hn := h.2.2.2.2.1
  obtain ⟨d1, d2⟩ := st_r h (-1)
  have e : f_X9_strapsThat_279 M (-1) = nI (alS s n) := by
    rw [d2, bs_bN hn]
    unfold alS
    congr 2
    funext j
    by_cases c : s (71 + j) = 0
    · rw [decide_eq_true c, decide_eq_true ⟨c, Or.inl (by decide)⟩]
    · rw [decide_eq_false c, decide_eq_false (fun z => c z.1)]
  have ha : alS s n < 4096 := bN_4096 hn _
  unfold q_X9_leastOf_274 f_X9_leastOf_274
  rw [e]
  have hRS : ∀ i, RS_279 (s_X9_leastOf_274_14 M t (nI (alS s n)) (-1) (nI (alS s n)) i).2.2 s kd w q n mm := fun i => by
    have fr : ∀ c, c ≠ 280 → (s_X9_leastOf_274_14 M t (nI (alS s n)) (-1) (nI (alS s n)) i).2.2 c = M c := fun c hc => fr_s_X9_leastOf_274_14 M t _ _ _ i c hc
    exact RS_cong_279 h (by rw [fr 274 (by decide)]) (by rw [fr 274 (by decide)]) (fr _ (by decide)) (fr _ (by decide)) (fr _ (by decide))
  have hal : alS s n = alS s n := rfl
  generalize ea : alS s n = al at *
  have lb : ∀ i, i ≤ al + 1 → ∀ x, lpb (lsV kd w s n mm t) al none i = some x → x ≤ al := fun i hi x hx => ((lpb_inv ha (Or.inl rfl) (V := lsV kd w s n mm t) i hi).1 x hx).2.2
  have ne1 : ∀ x, x < 4096 → ¬ nI x = -1 := fun x hx z => by
    have := nI_pos (n := x) (by omega)
    rw [z] at this
    exact this (by decide)
  have V0 : ∀ X, lsV kd w s n mm t X = decide (dif X al = 0 ∧ 0 < mg kd w (lrow s X n) n mm t) := fun X => by unfold lsV; rw [ea]
  have lp : ∀ i, i ≤ al + 1 → (s_X9_leastOf_274_14 M t (nI al) (-1) (nI al) i).1 = oI (lpb (lsV kd w s n mm t) al none i) ∧ (s_X9_leastOf_274_14 M t (nI al) (-1) (nI al) i).2.1 = if i ≤ al then nI (al - i) else -1 := by
    intro i
    induction i with
    | zero => intro _; exact ⟨rfl, by rw [if_pos (by omega)]; rfl⟩
    | succ i ih =>
      intro hi
      obtain ⟨e1, e2⟩ := ih (by omega)
      rw [if_pos (show i ≤ al by omega)] at e2
      have hs : s_X9_leastOf_274_14 M t (nI al) (-1) (nI al) (i + 1) = (e_X9_leastOf_274_14_c3 (s_X9_leastOf_274_14 M t (nI al) (-1) (nI al) i).2.2 t (nI al) (s_X9_leastOf_274_14 M t (nI al) (-1) (nI al) i).1 (s_X9_leastOf_274_14 M t (nI al) (-1) (nI al) i).2.1, e_X9_leastOf_274_14_c4 (s_X9_leastOf_274_14 M t (nI al) (-1) (nI al) i).2.2 t (nI al) (s_X9_leastOf_274_14 M t (nI al) (-1) (nI al) i).1 (s_X9_leastOf_274_14 M t (nI al) (-1) (nI al) i).2.1, e_X9_leastOf_274_14_M (s_X9_leastOf_274_14 M t (nI al) (-1) (nI al) i).2.2 t (nI al) (s_X9_leastOf_274_14 M t (nI al) (-1) (nI al) i).1 (s_X9_leastOf_274_14 M t (nI al) (-1) (nI al) i).2.1) := rfl
      rw [hs, e1, e2, lpb_s]
      have hR := hRS i
      generalize (s_X9_leastOf_274_14 M t (nI al) (-1) (nI al) i).2.2 = B at *
      dsimp only
      constructor
      · have hd2 := dif_lt (a := al - i) (b := al) (by omega)
        have q1 := nI_0iff (show dif (al - i) al < 2147483648 by omega)
        unfold e_X9_leastOf_274_14_c3
        rw [i_dif (by omega) (by omega)]
        by_cases u1 : dif (al - i) al = 0
        · rw [if_neg (not_not_intro (q1.mpr u1))]
          have sb : sub (al - i) (alS s n) := by rw [ea]; exact fun k hk => (dif_0 (by omega)).mp u1 k hk
          cases hr : lpb (lsV kd w s n mm t) al none i with
          | none =>
            obtain ⟨l1, l2, l3, l4, l5, l6, l7⟩ := lr_r hR t (nI al) (-1) (show al - i < 4096 by omega) sb
            have e : stp (lsV kd w s n mm t) none (al - i) = if lsV kd w s n mm t (al - i) = true then some (al - i) else none := rfl
            rw [e]
            show (if (-1 : Int32) = -1 then _ else _) = _
            rw [if_pos rfl]
            unfold oI
            rw [l2, l7, V0]
            by_cases c : 0 < mg kd w (lrow s (al - i) n) n mm t
            · rw [if_neg (i_nle.mpr c), if_pos (decide_eq_true ⟨u1, c⟩)]
            · rw [if_pos (i_nlt.mp c), if_neg (fun z => c (of_decide_eq_true z).2)]
          | some x =>
            have hx := lb i (by omega) x hr
            obtain ⟨l1, l2, l3, l4, l5, l6, l7⟩ := lr_r hR t (nI al) (nI x) (show al - i < 4096 by omega) sb
            have e : stp (lsV kd w s n mm t) (some x) (al - i) = if lsV kd w s n mm t (al - i) = true ∧ pc (al - i) ≤ pc x then some (al - i) else some x := rfl
            rw [e]
            show (if nI x = -1 then _ else _) = _
            have p1 := pc_12 x
            have p2 := pc_12 (al - i)
            have l8 : (nI (pc x) < nI (pc (al - i))) ↔ pc x < pc (al - i) := nI_ltI (by omega) (by omega)
            rw [if_neg (ne1 x (by omega)), show f_X9_bits B (oI (some x)) = nI (pc x) from (bc_r B (show x < 4096 by omega)).2, (bc_r B (show al - i < 4096 by omega)).2]
            unfold oI
            rw [l2, l7, V0]
            by_cases u2 : pc x < pc (al - i)
            · rw [if_pos (l8.mpr u2), if_neg (fun z => absurd z.2 (by omega))]
            · rw [if_neg (fun z => u2 (l8.mp z))]
              by_cases c : 0 < mg kd w (lrow s (al - i) n) n mm t
              · rw [if_neg (i_nle.mpr c), if_pos ⟨decide_eq_true ⟨u1, c⟩, by omega⟩]
              · rw [if_pos (i_nlt.mp c), if_neg (fun z => c (of_decide_eq_true z.1).2)]
        · rw [if_pos (fun z => u1 (q1.mp z))]
          have nv : ¬ lsV kd w s n mm t (al - i) = true := fun z => by rw [V0] at z; exact u1 (of_decide_eq_true z).1
          cases hr : lpb (lsV kd w s n mm t) al none i with
          | none =>
            have e : stp (lsV kd w s n mm t) none (al - i) = if lsV kd w s n mm t (al - i) = true then some (al - i) else none := rfl
            rw [e, if_neg nv]
          | some x =>
            have e : stp (lsV kd w s n mm t) (some x) (al - i) = if lsV kd w s n mm t (al - i) = true ∧ pc (al - i) ≤ pc x then some (al - i) else some x := rfl
            rw [e, if_neg (fun z => nv z.1)]
      · unfold e_X9_leastOf_274_14_c4
        by_cases c : i + 1 ≤ al
        · rw [if_pos c, show al - i = (al - (i + 1)) + 1 by omega, pk_m1]
        · rw [if_neg c, show al - i = 0 by omega]; decide
  have tt : ∀ i, i ≤ al + 1 → t_X9_leastOf_274_14 (s_X9_leastOf_274_14 M t (nI al) (-1) (nI al) i).2.2 t (nI al) (s_X9_leastOf_274_14 M t (nI al) (-1) (nI al) i).1 (s_X9_leastOf_274_14 M t (nI al) (-1) (nI al) i).2.1 = decide (i ≤ al) := fun i hi => by
    obtain ⟨e1, e2⟩ := lp i hi
    unfold t_X9_leastOf_274_14
    rw [e2]
    by_cases c : i ≤ al
    · rw [if_pos c, if_neg (nI_pos (by omega)), decide_eq_true c]
    · rw [if_neg c, if_pos (by decide), decide_eq_false c]
  have eN : n_X9_leastOf_274_14 M t (nI al) (-1) (nI al) = al + 1 := z_fst_eq (by omega) (fun k hk => by rw [tt k (by omega)]; exact decide_eq_true (by omega)) (by rw [tt _ (Nat.le_refl _)]; exact decide_eq_false (by omega))
  rw [eN]
  obtain ⟨e1, e2⟩ := lp (al + 1) (Nat.le_refl _)
  rw [if_neg (by omega)] at e2
  have hC4 : (s_X9_leastOf_274_14 M t (nI al) (-1) (nI al) (al + 1)).2.1 < 0 := by rw [e2]; decide
  refine ⟨⟨d1, fun k hk => ?_, ?_, fun z => absurd hC4 z, fun z => absurd hC4 z, fun z => absurd hC4 z, fun z => absurd hC4 z, fun z => absurd hC4 z, fun z => absurd hC4 z, fun z => absurd hC4 z, fun z => absurd hC4 z, fun z => absurd hC4 z, fun z => absurd hC4 z, fun z => absurd hC4 z, fun z => absurd hC4 z, trivial⟩, e1⟩
  · obtain ⟨f1, f2⟩ := lp k (by omega)
    rw [if_pos (show k ≤ al by omega)] at f2
    have hR := hRS k
    unfold qi_X9_leastOf_274_14
    rw [f1, f2, i_dif (by omega) (by omega)]
    generalize (s_X9_leastOf_274_14 M t (nI al) (-1) (nI al) k).2.2 = B at *
    have hd2 := dif_lt (a := al - k) (b := al) (by omega)
    have q1 := nI_0iff (show dif (al - k) al < 2147483648 by omega)
    have L : ∀ (c3 : Int32), nI (dif (al - k) al) = 0 → _ := fun c3 z => lr_r hR t (nI al) c3 (show al - k < 4096 by omega) (by rw [ea]; exact fun j hj => (dif_0 (by omega)).mp (q1.mp z) j hj)
    have b1 := (bc_r B (show al - k < 4096 by omega)).1
    have b2 : ∀ o, lpb (lsV kd w s n mm t) al none k = o → ¬ oI o = -1 → q_X9_bits B (oI o) := fun o ho hne => by
      cases o with
      | none => exact absurd rfl hne
      | some x => exact (bc_r B (show x < 4096 by have := lb k (by omega) x ho; omega)).1
    refine ⟨fun _ z _ => (L (-1) z).1, fun _ z _ => ?_, fun _ z _ => ?_, fun _ z _ => ?_, fun _ z _ => ?_, fun _ _ _ => b1, fun _ _ hne => b2 _ rfl hne, fun _ z _ _ => (L (-1) z).1, fun _ z _ _ => ?_, fun _ z _ _ => ?_, fun _ z _ _ => ?_, fun _ z _ _ => ?_, trivial⟩
    · rw [(L (-1) z).2.1]; exact (L _ z).2.2.1
    · rw [(L (-1) z).2.1]; exact (L _ z).2.2.2.1
    · rw [(L (-1) z).2.1]; exact (L _ z).2.2.2.2.1
    · rw [(L (-1) z).2.1]; exact (L _ z).2.2.2.2.2.1
    · rw [(L (-1) z).2.1]; exact (L _ z).2.2.1
    · rw [(L (-1) z).2.1]; exact (L _ z).2.2.2.1
    · rw [(L (-1) z).2.1]; exact (L _ z).2.2.2.2.1
    · rw [(L (-1) z).2.1]; exact (L _ z).2.2.2.2.2.1
  · have key : ∀ d, al + 1 + d ≤ 4096 → (s_X9_leastOf_274_14 M t (nI al) (-1) (nI al) (al + 1 + d)).2.1 = -1 - nI d := by
      intro d
      induction d with
      | zero => intro _; rw [Nat.add_zero, e2]; decide
      | succ d ih =>
        intro hd
        have hs : (s_X9_leastOf_274_14 M t (nI al) (-1) (nI al) (al + 1 + (d + 1))).2.1 = (s_X9_leastOf_274_14 M t (nI al) (-1) (nI al) (al + 1 + d)).2.1 + (-1) := rfl
        rw [hs, ih (by omega), ← nI_1]
        simp only [Int32.sub_eq_add_neg, Int32.neg_add, Int32.add_assoc]
    have k2 := key (4096 - (al + 1)) (by omega)
    rw [show al + 1 + (4096 - (al + 1)) = 4096 by omega] at k2
    unfold t_X9_leastOf_274_14
    rw [k2, if_pos]
    have tI : (-1 - nI (4096 - (al + 1))).toInt = -1 - ((4096 - (al + 1) : Nat) : Int) := by
      rw [Int32.toInt_sub, nI_toInt (by omega)]
      have : (-1 : Int32).toInt = -1 := by decide
      rw [this]
      exact Int.bmod_eq_of_le (by omega) (by omega)
    refine Int32.lt_iff_toInt_lt.mpr ?_
    rw [tI]
    have : (0 : Int32).toInt = 0 := by decide
    rw [this]
    omega
