/-! THE REFERENCE: its words are those of the row -/
theorem ix_4 {k : Nat} (h : k < 1000) : ((4 : Int32) + nI k).toNatClampNeg = 4 + k := cl_add (a := 4) (by omega)
theorem vx_4 {k : Nat} (h : k < 12) : z_vin ((4 : Int32) + nI k) 83 = true := by
  show z_vin (nI 4 + nI k) 83 = true
  rw [nI_add]
  exact vi (by omega) (by decide)
theorem ix_11 {k : Nat} (h : k < 1000) : ((11 : Int32) + nI k).toNatClampNeg = 11 + k := cl_add (a := 11) (by omega)
theorem vx_11 {k : Nat} (h : k < 12) : z_vin ((11 : Int32) + nI k) 83 = true := by
  show z_vin (nI 11 + nI k) 83 = true
  rw [nI_add]
  exact vi (by omega) (by decide)
theorem ix_23 {k : Nat} (h : k < 1000) : ((23 : Int32) + nI k).toNatClampNeg = 23 + k := cl_add (a := 23) (by omega)
theorem vx_23 {k : Nat} (h : k < 12) : z_vin ((23 : Int32) + nI k) 83 = true := by
  show z_vin (nI 23 + nI k) 83 = true
  rw [nI_add]
  exact vi (by omega) (by decide)
theorem ix_35 {k : Nat} (h : k < 1000) : ((35 : Int32) + nI k).toNatClampNeg = 35 + k := cl_add (a := 35) (by omega)
theorem vx_35 {k : Nat} (h : k < 12) : z_vin ((35 : Int32) + nI k) 83 = true := by
  show z_vin (nI 35 + nI k) 83 = true
  rw [nI_add]
  exact vi (by omega) (by decide)
theorem ix_47 {k : Nat} (h : k < 1000) : ((47 : Int32) + nI k).toNatClampNeg = 47 + k := cl_add (a := 47) (by omega)
theorem vx_47 {k : Nat} (h : k < 12) : z_vin ((47 : Int32) + nI k) 83 = true := by
  show z_vin (nI 47 + nI k) 83 = true
  rw [nI_add]
  exact vi (by omega) (by decide)
theorem ix_59 {k : Nat} (h : k < 1000) : ((59 : Int32) + nI k).toNatClampNeg = 59 + k := cl_add (a := 59) (by omega)
theorem vx_59 {k : Nat} (h : k < 12) : z_vin ((59 : Int32) + nI k) 83 = true := by
  show z_vin (nI 59 + nI k) 83 = true
  rw [nI_add]
  exact vi (by omega) (by decide)
theorem ix_71 {k : Nat} (h : k < 1000) : ((71 : Int32) + nI k).toNatClampNeg = 71 + k := cl_add (a := 71) (by omega)
theorem vx_71 {k : Nat} (h : k < 12) : z_vin ((71 : Int32) + nI k) 83 = true := by
  show z_vin (nI 71 + nI k) 83 = true
  rw [nI_add]
  exact vi (by omega) (by decide)
theorem wo_r {M : Nat → Nat → Int32} {w : Nat → Int32} {m : Nat} (hm : m < 6) (hw : M 278 m = w m) (t : Int32) : q_X9_wouldOf_274 M (nI m) t ∧ f_X9_wouldOf_274 M (nI m) t = ow w m t := by
  have cm : (nI m).toNatClampNeg = m := nI_clamp (by omega)
  refine ⟨⟨vi hm (by decide), trivial⟩, ?_⟩
  unfold f_X9_wouldOf_274 f_X9_has ow
  rw [cm, hw]
  rcases and1 (w m >>> (t &&& 31)) with c | c
  · rw [c]; decide
  · rw [c]; decide
/-- the row part of the way through the straps -/
def ptk (kd w s : Nat → Int32) (q : Int32) (n k : Nat) (t : Int32) : Nat → Int32 := fun j =>
  if j = 2 then s 2 + sm k (fun i => if gv kd w s q n i t = true then 1 else 0)
  else if 59 ≤ j ∧ j < 59 + k then s j + sn kd w s n (j - 59) t else if 71 ≤ j ∧ j < 71 + k then (if gv kd w s q n (j - 71) t = true then 1 else s j) else s j
theorem ptk_st {kd w s : Nat → Int32} {q : Int32} {n k : Nat} {t : Int32} {j : Nat} (h : ¬ j = 2) (h2 : ¬ (59 ≤ j ∧ j < 59 + k)) (h3 : ¬ (71 ≤ j ∧ j < 71 + k)) : ptk kd w s q n k t j = s j := by
  unfold ptk
  rw [if_neg h, if_neg h2, if_neg h3]
theorem ptk_pt {kd w s : Nat → Int32} {q : Int32} {n mm : Nat} {t : Int32} {j : Nat} (h0 : ¬ j = 0) (h1 : ¬ j = 1) : ptk kd w s q n n t j = pt kd w s q n mm t j := by
  unfold ptk pt
  rw [if_neg h0, if_neg h1]

def RS_279 (M : Nat → Nat → Int32) (s kd w : Nat → Int32) (q : Int32) (n mm : Nat) : Prop := (M 274 3 = q ∧ M 274 4 = nI mm ∧ mm ≤ 6) ∧ (∀ k, k < mm → M 276 k = kd k ∧ M 278 k = w k) ∧ (∀ j, j < 83 → M 279 j = s j) ∧ wf s n mm
theorem RS_cong_279 {M M' : Nat → Nat → Int32} {s kd w : Nat → Int32} {q : Int32} {n mm : Nat} (h : RS_279 M s kd w q n mm) (f1 : M' 274 3 = M 274 3) (f2 : M' 274 4 = M 274 4) (f3 : M' 276 = M 276) (f4 : M' 278 = M 278) (f5 : M' 279 = M 279) : RS_279 M' s kd w q n mm := by
  unfold RS_279 at *
  rw [f1, f2, f3, f4, f5]
  exact h
theorem rn_279 {M : Nat → Nat → Int32} {s kd w : Nat → Int32} {q : Int32} {n mm : Nat} (h : RS_279 M s kd w q n mm) : (M 279 10).toNatClampNeg = n := by
  have h1 := h.2.2.1 10 (by decide)
  rw [h1, h.2.2.2.1, nI_clamp (by have := h.2.2.2.2.1; omega)]
theorem rm_279 {M : Nat → Nat → Int32} {s kd w : Nat → Int32} {q : Int32} {n mm : Nat} (h : RS_279 M s kd w q n mm) : (M 274 4).toNatClampNeg = mm := by
  rw [h.1.2.1, nI_clamp (by have := h.1.2.2; omega)]
theorem rh_279 {M : Nat → Nat → Int32} {s : Nat → Int32} {k : Nat} (hk : k < 12) (e : M 279 (71 + k) = s (71 + k)) : q_X9_holds_279 M (nI k) ∧ f_X9_holds_279 M (nI k) = if s (71 + k) = 0 then 1 else 0 := by
  refine ⟨⟨vx_71 hk, trivial⟩, ?_⟩
  unfold f_X9_holds_279
  rw [ix_71 (by omega), e]
  by_cases c : s (71 + k) = 0 <;> simp [c]
theorem pu_279 {M : Nat → Nat → Int32} {s kd w : Nat → Int32} {q : Int32} {n mm : Nat} (h : RS_279 M s kd w q n mm) (o t : Int32) : q_X9_pullOf_279 M o t ∧ f_X9_pullOf_279 M o t = pul s n o t := by
  have hn := h.2.2.2.2.1
  have hr := h.2.2.1
  have lp : ∀ k, k ≤ n → s_X9_pullOf_279_5 M o t 0 k = pul s k o t := by
    intro k
    induction k with
    | zero => intro _; rfl
    | succ k ih =>
      intro hk
      have hs : s_X9_pullOf_279_5 M o t 0 (k + 1) = e_X9_pullOf_279_5_c3 M o t (nI k) (s_X9_pullOf_279_5 M o t 0 k) := rfl
      have hp : pul s (k + 1) o t = pul s k o t + wk s k o t := rfl
      rw [hs, hp, ih (by omega)]
      unfold e_X9_pullOf_279_5_c3 wk
      rw [(rh_279 (s := s) (show k < 12 by omega) (hr _ (by omega))).2, ix_11 (by omega), ix_23 (by omega), ix_35 (by omega), ix_47 (by omega), hr _ (by omega), hr _ (by omega), hr _ (by omega), hr _ (by omega)]
      by_cases c1 : s (71 + k) = 0 <;> by_cases c2 : s (11 + k) = o <;> by_cases c3 : s (23 + k) = t <;> by_cases c4 : s (35 + k) = 1 <;> simp [c1, c2, c3, c4]
  unfold q_X9_pullOf_279 f_X9_pullOf_279
  rw [rn_279 h]
  refine ⟨⟨fun k hk => ?_, trivial⟩, lp n (Nat.le_refl n)⟩
  have v1 := vx_11 (show k < 12 by omega)
  have v2 := vx_23 (show k < 12 by omega)
  have v3 := vx_35 (show k < 12 by omega)
  have v4 := vx_47 (show k < 12 by omega)
  exact ⟨⟨vx_71 (by omega), trivial⟩, fun _ => v1, fun _ _ => v2, fun _ _ _ => v3, fun _ _ _ _ => v4, fun _ _ _ _ => v4, trivial⟩
theorem no_279 {M : Nat → Nat → Int32} {s kd w : Nat → Int32} {q : Int32} {n mm : Nat} (h : RS_279 M s kd w q n mm) (o : Int32) : q_X9_notchesOf_279 M o ∧ f_X9_notchesOf_279 M o = lod s n o := by
  have hn := h.2.2.2.2.1
  have hr := h.2.2.1
  have lp : ∀ k, k ≤ n → s_X9_notchesOf_279_4 M o 0 k = lod s k o := by
    intro k
    induction k with
    | zero => intro _; rfl
    | succ k ih =>
      intro hk
      have hs : s_X9_notchesOf_279_4 M o 0 (k + 1) = e_X9_notchesOf_279_4_c2 M o (nI k) (s_X9_notchesOf_279_4 M o 0 k) := rfl
      have hp : lod s (k + 1) o = lod s k o + lk s k o := rfl
      rw [hs, hp, ih (by omega)]
      unfold e_X9_notchesOf_279_4_c2 lk
      rw [(rh_279 (s := s) (show k < 12 by omega) (hr _ (by omega))).2, ix_11 (by omega), ix_47 (by omega), hr _ (by omega), hr _ (by omega)]
      by_cases c1 : s (71 + k) = 0 <;> by_cases c2 : s (11 + k) = o <;> simp [c1, c2]
  unfold q_X9_notchesOf_279 f_X9_notchesOf_279
  rw [rn_279 h]
  refine ⟨⟨fun k hk => ?_, trivial⟩, lp n (Nat.le_refl n)⟩
  have v1 := vx_11 (show k < 12 by omega)
  have v4 := vx_47 (show k < 12 by omega)
  exact ⟨⟨vx_71 (by omega), trivial⟩, fun _ => v1, fun _ _ => v4, trivial⟩
theorem hg_279 {M : Nat → Nat → Int32} {s kd w : Nat → Int32} {q : Int32} {n mm : Nat} (h : RS_279 M s kd w q n mm) {m : Nat} (hm : m < 6) : q_X9_hangs_279 M (nI m) ∧ f_X9_hangs_279 M (nI m) = if hng s n m = true then 1 else 0 := by
  refine ⟨⟨(no_279 h _).1, vx_4 (by omega), trivial⟩, ?_⟩
  unfold f_X9_hangs_279 hng
  rw [(no_279 h _).2, ix_4 (by omega), h.2.2.1 _ (by omega)]
  by_cases c : lod s n (nI m) ≤ s (4 + m)
  · rw [if_pos c, decide_eq_false (i_nlt.mpr c)]; rfl
  · rw [if_neg c, decide_eq_true (i_nle.mp c)]; rfl
theorem go_279 {M : Nat → Nat → Int32} {s kd w : Nat → Int32} {q : Int32} {n mm : Nat} (h : RS_279 M s kd w q n mm) {m : Nat} (hm : m < mm) (t : Int32) : q_X9_goesOf_274_279 M (nI m) t ∧ f_X9_goesOf_274_279 M (nI m) t = gos w s n m t := by
  have hm6 : m < 6 := by have := h.1.2.2; omega
  have p1 := pu_279 h (nI m) t
  have p2 := hg_279 h hm6
  have p3 := wo_r hm6 (h.2.1 m hm).2 t
  refine ⟨⟨p1.1, fun _ _ => p2.1, fun _ _ _ => p3.1, trivial⟩, ?_⟩
  unfold f_X9_goesOf_274_279 gos
  rw [p1.2, p2.2, p3.2]
  generalize pul s n (nI m) t = x
  rcases i_tri x with c | c | c
  · rw [if_pos (Int32.le_of_lt c), if_neg (i_nle.mpr c), if_neg (i_nlt.mpr (Int32.le_of_lt c)), if_pos c]
  · subst c
    cases hng s n m <;> simp
  · rw [if_neg (i_nle.mpr c), if_pos c]
theorem he_279 {M : Nat → Nat → Int32} {s kd w : Nat → Int32} {q : Int32} {n mm : Nat} (h : RS_279 M s kd w q n mm) {m : Nat} (hm : m < mm) (t : Int32) : q_X9_isHeld_274_279 M (nI m) t ∧ f_X9_isHeld_274_279 M (nI m) t = if hel w s n m t = true then 1 else 0 := by
  have hm6 : m < 6 := by have := h.1.2.2; omega
  have p1 := go_279 h hm t
  have p3 := wo_r hm6 (h.2.1 m hm).2 t
  refine ⟨⟨p1.1, fun _ => p3.1, trivial⟩, ?_⟩
  unfold f_X9_isHeld_274_279 hel
  rw [p1.2, p3.2]
  by_cases c1 : gos w s n m t = 2 <;> by_cases c2 : gos w s n m t = ow w m t <;> simp [c1, c2]
theorem vo_279 {M : Nat → Nat → Int32} {s kd w : Nat → Int32} {q : Int32} {n mm : Nat} (h : RS_279 M s kd w q n mm) {m : Nat} (hm : m < mm) : q_X9_votesOf_274_279 M (nI m) ∧ f_X9_votesOf_274_279 M (nI m) = vt kd s n m := by
  have hm6 : m < 6 := by have := h.1.2.2; omega
  have cm : (nI m).toNatClampNeg = m := nI_clamp (by omega)
  have p2 := hg_279 h hm6
  refine ⟨⟨vi hm6 (by decide), fun _ => p2.1, trivial⟩, ?_⟩
  unfold f_X9_votesOf_274_279 vt
  rw [p2.2, cm, (h.2.1 m hm).1]
  by_cases c1 : kd m = 3 <;> cases hng s n m <;> simp [c1]
theorem mr_279 {M : Nat → Nat → Int32} {s kd w : Nat → Int32} {q : Int32} {n mm : Nat} (h : RS_279 M s kd w q n mm) (t : Int32) : q_X9_marginOf_274_279 M t ∧ f_X9_marginOf_274_279 M t = mg kd w s n mm t := by
  have lp : ∀ k, k ≤ mm → s_X9_marginOf_274_279_5 M t 0 k = mg kd w s n k t := by
    intro k
    induction k with
    | zero => intro _; rfl
    | succ k ih =>
      intro hk
      have hs : s_X9_marginOf_274_279_5 M t 0 (k + 1) = e_X9_marginOf_274_279_5_c3 M t (nI k) (s_X9_marginOf_274_279_5 M t 0 k) := rfl
      have hp : mg kd w s n (k + 1) t = mg kd w s n k t + gn kd w s n k t := rfl
      rw [hs, hp, ih (by omega)]
      unfold e_X9_marginOf_274_279_5_c3 gn
      rw [(go_279 h (show k < mm by omega) t).2, (vo_279 h (show k < mm by omega)).2]
      by_cases c1 : gos w s n k t = 2 <;> by_cases c2 : gos w s n k t = 1 <;> simp [c1, c2]
  unfold q_X9_marginOf_274_279 f_X9_marginOf_274_279
  rw [rm_279 h]
  refine ⟨⟨fun k hk => ?_, trivial⟩, lp mm (Nat.le_refl mm)⟩
  exact ⟨(go_279 h hk t).1, fun _ _ => (vo_279 h hk).1, fun _ _ => (vo_279 h hk).1, trivial⟩
theorem sb_279 {M : Nat → Nat → Int32} {s kd w : Nat → Int32} {q : Int32} {n mm : Nat} (h : RS_279 M s kd w q n mm) {k : Nat} (hk : k < n) (t : Int32) : q_X9_strainBy_274_279 M (nI k) t ∧ f_X9_strainBy_274_279 M (nI k) t = sn kd w s n k t := by
  have hn := h.2.2.2.2.1
  have hr := h.2.2.1
  obtain ⟨o, ho, eo⟩ := h.2.2.2.2.2.1 k hk
  have hm6 : o < 6 := by have := h.1.2.2; omega
  have co : (nI o).toNatClampNeg = o := nI_clamp (by omega)
  have p0 := rh_279 (s := s) (show k < 12 by omega) (hr _ (by omega))
  have p1 := go_279 h ho t
  have p2 := he_279 h ho t
  have p3 := hg_279 h hm6
  have v1 := vx_11 (show k < 12 by omega)
  have v2 := vx_23 (show k < 12 by omega)
  have v3 := vx_35 (show k < 12 by omega)
  have v6 : z_vin (nI o) 6 = true := vi hm6 (by decide)
  constructor
  · unfold q_X9_strainBy_274_279
    rw [ix_11 (by omega), hr (11 + k) (by omega), eo]
    refine ⟨p0.1, fun _ => v2, fun _ _ => v1, fun _ _ => p1.1, fun _ _ _ => v3, fun _ _ _ _ => p2.1, ?_⟩
    (repeat' apply And.intro) <;> intros <;> first | exact trivial | assumption | exact p3.1
  · unfold f_X9_strainBy_274_279 sn
    rw [p0.2, ix_11 (by omega), ix_23 (by omega), ix_35 (by omega), hr (11 + k) (by omega), hr (23 + k) (by omega), hr (35 + k) (by omega), eo, co, p1.2, p2.2, p3.2, (h.2.1 o ho).1]
    by_cases c1 : s (71 + k) = 0 <;> by_cases c2 : s (23 + k) = t <;> by_cases c3 : gos w s n o t = 2 <;> by_cases c4 : gos w s n o t = s (35 + k) <;> cases hel w s n o t <;> by_cases c5 : kd o = 1 <;> by_cases c6 : kd o = 2 <;> cases hng s n o <;> simp [c1, c2, c3, c4, c5, c6]
theorem q18_279 {M : Nat → Nat → Int32} {s kd w : Nat → Int32} {q : Int32} {n mm : Nat} (h : RS_279 M s kd w q n mm) (t v : Int32) (k : Nat) (hk : k ≤ n) : (∀ i, i < k → qi_X9_puts_274_279_18 (s_X9_puts_274_279_18 M t v i) t v (nI i)) ∧ ∀ j, j < k → s_X9_puts_274_279_18 M t v k 291 j = sn kd w s n j t := by
  have hn := h.2.2.2.2.1
  induction k with
  | zero => exact ⟨fun i hi => absurd hi (by omega), fun j hj => absurd hj (by omega)⟩
  | succ k ih =>
    obtain ⟨i1, i2⟩ := ih (by omega)
    have hs : s_X9_puts_274_279_18 M t v (k + 1) = e_X9_puts_274_279_18_M (s_X9_puts_274_279_18 M t v k) t v (nI k) := rfl
    have fr : ∀ c, c ≠ 291 → s_X9_puts_274_279_18 M t v k c = M c := fun c a => fr_s_X9_puts_274_279_18 M t v k c a
    have hc : RS_279 (s_X9_puts_274_279_18 M t v k) s kd w q n mm := RS_cong_279 h (by rw [fr 274 (by decide)]) (by rw [fr 274 (by decide)]) (fr _ (by decide)) (fr _ (by decide)) (fr _ (by decide))
    have p := sb_279 hc (show k < n by omega) t
    have ck : (nI k).toNatClampNeg = k := nI_clamp (by omega)
    refine ⟨fun i hi => ?_, fun j hj => ?_⟩
    · by_cases c : i = k
      · subst c
        exact ⟨p.1, vi (by omega) (by decide), trivial⟩
      · exact i1 i (by omega)
    · rw [hs]
      unfold e_X9_puts_274_279_18_M
      rw [z_row_eq, ck, p.2, ud_if]
      by_cases c : j = k
      · subst c
        rw [if_pos rfl]
      · rw [if_neg c]
        exact i2 j (by omega)
theorem q51_279 {A : Nat → Nat → Int32} {s kd w : Nat → Int32} {q : Int32} {n : Nat} {t : Int32} (v : Int32) (hn : n ≤ 12) (hr : ∀ j, j < 83 → A 279 j = s j) (hq : A 274 3 = q) (h5 : ∀ j, j < n → A 291 j = sn kd w s n j t) (k : Nat) (hk : k ≤ n) : (∀ i, i < k → qi_X9_puts_274_279_51 (s_X9_puts_274_279_51 A t v i) t v (nI i)) ∧ ∀ j, j < 83 → s_X9_puts_274_279_51 A t v k 279 j = ptk kd w s q n k t j := by
  induction k with
  | zero =>
    refine ⟨fun i hi => absurd hi (by omega), fun j hj => ?_⟩
    unfold ptk
    rw [if_neg (show ¬ (59 ≤ j ∧ j < 59 + 0) by omega), if_neg (show ¬ (71 ≤ j ∧ j < 71 + 0) by omega), sm_0, Int32.add_zero]
    show A 279 j = _
    rw [hr j hj]
    by_cases c : j = 2
    · subst c; rfl
    · rw [if_neg c]
  | succ k ih =>
    obtain ⟨i1, i2⟩ := ih (by omega)
    have hs : s_X9_puts_274_279_51 A t v (k + 1) = e_X9_puts_274_279_51_M (s_X9_puts_274_279_51 A t v k) t v (nI k) := rfl
    have fr : ∀ c, c ≠ 279 → s_X9_puts_274_279_51 A t v k c = A c := fun c a => fr_s_X9_puts_274_279_51 A t v k c a
    have ck : (nI k).toNatClampNeg = k := nI_clamp (by omega)
    have v12 : z_vin (nI k) 12 = true := vi (by omega) (by decide)
    have v2 := vx_23 (show k < 12 by omega)
    have v4 := vx_47 (show k < 12 by omega)
    have v5 := vx_59 (show k < 12 by omega)
    have v7 := vx_71 (show k < 12 by omega)
    have b2 : s_X9_puts_274_279_51 A t v k 279 (23 + k) = s (23 + k) := by rw [i2 _ (by omega), ptk_st (by omega) (by omega) (by omega)]
    have b4 : s_X9_puts_274_279_51 A t v k 279 (47 + k) = s (47 + k) := by rw [i2 _ (by omega), ptk_st (by omega) (by omega) (by omega)]
    have b5 : s_X9_puts_274_279_51 A t v k 279 (59 + k) = s (59 + k) := by rw [i2 _ (by omega), ptk_st (by omega) (by omega) (by omega)]
    have b7 : s_X9_puts_274_279_51 A t v k 279 (71 + k) = s (71 + k) := by rw [i2 _ (by omega), ptk_st (by omega) (by omega) (by omega)]
    have b8 : s_X9_puts_274_279_51 A t v k 291 k = sn kd w s n k t := by rw [fr _ (by decide)]; exact h5 k (by omega)
    have b9 : s_X9_puts_274_279_51 A t v k 274 3 = q := by rw [fr _ (by decide)]; exact hq
    refine ⟨fun i hi => ?_, fun j hj => ?_⟩
    · by_cases c : i = k
      · subst c
        unfold qi_X9_puts_274_279_51 q_X9_holds_279
        (repeat' apply And.intro) <;> intros <;> first | exact trivial | assumption | (exact vi (by omega) (by decide)) | decide
      · exact i1 i (by omega)
    · have i3 := i2 j hj
      rw [hs]
      generalize s_X9_puts_274_279_51 A t v k = B at *
      have p0 : f_X9_holds_279 (z_row B 279 (upd (B 279) (59 + k) (s (59 + k) + sn kd w s n k t))) (nI k) = if s (71 + k) = 0 then 1 else 0 := (rh_279 (by omega) (by rw [z_row_eq, ud_ne (by omega)]; exact b7)).2
      have e : e_X9_puts_274_279_51_M B t v (nI k) 279 j = if gv kd w s q n k t = true then upd (upd (upd (B 279) (59 + k) (s (59 + k) + sn kd w s n k t)) (71 + k) 1) 2 (B 279 2 + 1) j else upd (B 279) (59 + k) (s (59 + k) + sn kd w s n k t) j := by
        unfold e_X9_puts_274_279_51_M gv
        rw [ix_23 (by omega), ix_47 (by omega), ix_59 (by omega), ix_71 (by omega), ck, b5, b8, p0, b9, ud_ne (show ¬ 23 + k = 59 + k by omega), ud_eq, ud_ne (show ¬ 47 + k = 59 + k by omega), b2, b4, ud_ne (show ¬ 2 = 71 + k by omega), ud_ne (show ¬ 2 = 59 + k by omega)]
        by_cases c1 : s (71 + k) = 0 ∧ s (23 + k) = t
        · by_cases c2 : q * s (47 + k) ≤ s (59 + k) + sn kd w s n k t
          · rw [if_pos c1.1, if_neg (show ¬ (1 : Int32) = 0 by decide), if_neg (not_not_intro c1.2), if_neg (i_nlt.mpr c2), if_pos (decide_eq_true ⟨c1.1, c1.2, c2⟩), z_row_eq]
          · rw [if_pos c1.1, if_neg (show ¬ (1 : Int32) = 0 by decide), if_neg (not_not_intro c1.2), if_pos (i_nle.mp c2), if_neg (fun z => c2 (of_decide_eq_true z).2.2), z_row_eq]
        · rw [decide_eq_false (p := s (71 + k) = 0 ∧ s (23 + k) = t ∧ q * s (47 + k) ≤ s (59 + k) + sn kd w s n k t) (fun z => c1 ⟨z.1, z.2.1⟩), if_neg Bool.false_ne_true]
          by_cases c3 : s (71 + k) = 0
          · rw [if_pos c3, if_neg (show ¬ (1 : Int32) = 0 by decide), if_pos (fun z => c1 ⟨c3, z⟩), z_row_eq]
          · rw [if_neg c3, if_pos rfl, z_row_eq]
      rw [e]
      have i4 := i2 2 (by decide)
      have e2 : ptk kd w s q n k t 2 = s 2 + sm k (fun i => if gv kd w s q n i t = true then 1 else 0) := if_pos rfl
      rw [e2] at i4
      unfold ptk at i3 ⊢
      rw [sm_s]
      by_cases c : gv kd w s q n k t = true
      · rw [if_pos c, if_pos c]
        by_cases c2 : j = 2
        · subst c2
          rw [ud_eq, i4, if_pos rfl, Int32.add_assoc]
        · rw [ud_ne c2, if_neg c2, ud_if, ud_if, i3, if_neg c2]
          by_cases c7 : j = 71 + k
          · subst c7
            rw [if_pos rfl, if_neg (by omega), if_pos (by omega), Nat.add_sub_cancel_left, if_pos c]
          · rw [if_neg c7]
            by_cases c5 : j = 59 + k
            · subst c5
              rw [if_pos rfl, if_pos (by omega), Nat.add_sub_cancel_left]
            · rw [if_neg c5]
              by_cases c8 : 59 ≤ j ∧ j < 59 + k
              · rw [if_pos c8, if_pos (by omega)]
              · rw [if_neg c8, if_neg (show ¬ (59 ≤ j ∧ j < 59 + (k + 1)) by omega)]
                by_cases c9 : 71 ≤ j ∧ j < 71 + k
                · rw [if_pos c9, if_pos (show 71 ≤ j ∧ j < 71 + (k + 1) by omega)]
                · rw [if_neg c9, if_neg (show ¬ (71 ≤ j ∧ j < 71 + (k + 1)) by omega)]
      · rw [if_neg c, if_neg c, Int32.add_zero, ud_if, i3]
        by_cases c2 : j = 2
        · subst c2
          rw [if_neg (by omega), if_pos rfl, if_pos rfl]
        · rw [if_neg c2, if_neg c2]
          by_cases c5 : j = 59 + k
          · subst c5
            rw [if_pos rfl, if_pos (by omega), Nat.add_sub_cancel_left]
          · rw [if_neg c5]
            by_cases c8 : 59 ≤ j ∧ j < 59 + k
            · rw [if_pos c8, if_pos (by omega)]
            · rw [if_neg c8, if_neg (show ¬ (59 ≤ j ∧ j < 59 + (k + 1)) by omega)]
              by_cases c7 : j = 71 + k
              · subst c7
                rw [if_neg (by omega), if_pos (by omega), Nat.add_sub_cancel_left, if_neg c]
              · by_cases c9 : 71 ≤ j ∧ j < 71 + k
                · rw [if_pos c9, if_pos (show 71 ≤ j ∧ j < 71 + (k + 1) by omega)]
                · rw [if_neg c9, if_neg (show ¬ (71 ≤ j ∧ j < 71 + (k + 1)) by omega)]
theorem ql_279 {M : Nat → Nat → Int32} {s kd w : Nat → Int32} {q : Int32} {n mm : Nat} (h : RS_279 M s kd w q n mm) (t v : Int32) : (∀ k, k < n → qi_X9_puts_274_279_18 (s_X9_puts_274_279_18 M t v k) t v (nI k)) ∧ (s_X9_puts_274_279_18 M t v n 279 10).toNatClampNeg = n ∧ (∀ k, k < n → qi_X9_puts_274_279_51 (s_X9_puts_274_279_51 (s_X9_puts_274_279_18 M t v n) t v k) t v (nI k)) ∧ (∀ k, k < n → ¬ s_X9_puts_274_279_51 (s_X9_puts_274_279_18 M t v n) t v k 279 10 ≤ nI k) ∧ s_X9_puts_274_279_51 (s_X9_puts_274_279_18 M t v n) t v n 279 10 ≤ nI n ∧ ∀ j, j < 83 → s_X9_puts_274_279_51 (s_X9_puts_274_279_18 M t v n) t v n 279 j = ptk kd w s q n n t j := by
  have hn := h.2.2.2.2.1
  have fr : ∀ c, c ≠ 291 → s_X9_puts_274_279_18 M t v n c = M c := fun c a => fr_s_X9_puts_274_279_18 M t v n c a
  obtain ⟨a1, a2⟩ := q18_279 h t v n (Nat.le_refl n)
  have b := fun k hk => q51_279 (A := s_X9_puts_274_279_18 M t v n) (s := s) (kd := kd) (w := w) (q := q) (n := n) (t := t) v hn (by rw [fr 279 (by decide)]; exact h.2.2.1) (by rw [fr 274 (by decide)]; exact h.1.1) a2 k hk
  have e10 : ∀ k, k ≤ n → s_X9_puts_274_279_51 (s_X9_puts_274_279_18 M t v n) t v k 279 10 = nI n := fun k hk => by
    rw [(b k hk).2 10 (by decide), ptk_st (by decide) (by omega) (by omega), h.2.2.2.1]
  refine ⟨a1, by rw [fr 279 (by decide)]; exact rn_279 h, (b n (Nat.le_refl n)).1, fun k hk => ?_, ?_, (b n (Nat.le_refl n)).2⟩
  · rw [e10 k (by omega)]
    exact nI_ge hk (by omega)
  · rw [e10 n (Nat.le_refl n)]
    exact Int32.le_refl _
theorem pr_279 {M : Nat → Nat → Int32} {s kd w : Nat → Int32} {q : Int32} {n mm : Nat} (h : RS_279 M s kd w q n mm) (t : Int32) : q_X9_puts_274_279 M t ∧ f_X9_puts_274_279 M t = (if 0 < mg kd w s n mm t then 1 else 0) ∧ RS_279 (g_X9_puts_274_279 M t) (pt kd w s q n mm t) kd w q n mm := by
  have hma := mr_279 h t
  have f0 : ∀ c, c ≠ 279 → c ≠ 291 → g_X9_puts_274_279 M t c = M c := fun c a b => fr_g_X9_puts_274_279 M t c a b
  obtain ⟨a1, a2, a3, a4, a5, a6⟩ := ql_279 h t 0
  obtain ⟨b1, b2, b3, b4, b5, b6⟩ := ql_279 h t 1
  have en := rn_279 h
  refine ⟨?_, ?_, ⟨?_, ?_, ?_, wf_pt h.2.2.2 h.1.2.2⟩⟩
  · unfold q_X9_puts_274_279
    rw [en, a2, b2]
    exact ⟨hma.1, fun _ => a1, fun _ => a3, fun _ => a4, fun _ => a5, fun _ => b1, fun _ => b3, fun _ => b4, fun _ => b5, trivial⟩
  · unfold f_X9_puts_274_279
    rw [hma.2]
    by_cases c : 0 < mg kd w s n mm t
    · rw [if_neg (i_nle.mpr c), if_pos c]
    · rw [if_pos (i_nlt.mp c), if_neg c]
  · rw [f0 274 (by decide) (by decide)]; exact h.1
  · rw [f0 276 (by decide) (by decide), f0 278 (by decide) (by decide)]; exact h.2.1
  · intro j hj
    unfold g_X9_puts_274_279
    rw [hma.2, en, a2, b2]
    by_cases c : 0 < mg kd w s n mm t
    · rw [if_neg (i_nle.mpr c), z_row_eq, ud_if, ud_if, b6 j hj, b6 0 (by decide), b6 1 (by decide)]
      by_cases c1 : j = 1
      · subst c1
        rw [if_pos rfl, pt_1, if_pos c, ptk_st (by decide) (by omega) (by omega)]
      · rw [if_neg c1]
        by_cases c0 : j = 0
        · subst c0
          rw [if_pos rfl, pt_0, ptk_st (by decide) (by omega) (by omega)]
        · rw [if_neg c0, ptk_pt c0 c1]
    · rw [if_pos (i_nlt.mp c), z_row_eq, ud_if, ud_if, a6 j hj, a6 0 (by decide), a6 1 (by decide), Int32.add_zero]
      by_cases c1 : j = 1
      · subst c1
        rw [if_pos rfl, pt_1, if_neg c, ptk_st (by decide) (by omega) (by omega)]
      · rw [if_neg c1]
        by_cases c0 : j = 0
        · subst c0
          rw [if_pos rfl, pt_0, ptk_st (by decide) (by omega) (by omega)]
        · rw [if_neg c0, ptk_pt c0 c1]

def RS_280 (M : Nat → Nat → Int32) (s kd w : Nat → Int32) (q : Int32) (n mm : Nat) : Prop := (M 274 3 = q ∧ M 274 4 = nI mm ∧ mm ≤ 6) ∧ (∀ k, k < mm → M 276 k = kd k ∧ M 278 k = w k) ∧ (∀ j, j < 83 → M 280 j = s j) ∧ wf s n mm
theorem RS_cong_280 {M M' : Nat → Nat → Int32} {s kd w : Nat → Int32} {q : Int32} {n mm : Nat} (h : RS_280 M s kd w q n mm) (f1 : M' 274 3 = M 274 3) (f2 : M' 274 4 = M 274 4) (f3 : M' 276 = M 276) (f4 : M' 278 = M 278) (f5 : M' 280 = M 280) : RS_280 M' s kd w q n mm := by
  unfold RS_280 at *
  rw [f1, f2, f3, f4, f5]
  exact h
theorem rn_280 {M : Nat → Nat → Int32} {s kd w : Nat → Int32} {q : Int32} {n mm : Nat} (h : RS_280 M s kd w q n mm) : (M 280 10).toNatClampNeg = n := by
  have h1 := h.2.2.1 10 (by decide)
  rw [h1, h.2.2.2.1, nI_clamp (by have := h.2.2.2.2.1; omega)]
theorem rm_280 {M : Nat → Nat → Int32} {s kd w : Nat → Int32} {q : Int32} {n mm : Nat} (h : RS_280 M s kd w q n mm) : (M 274 4).toNatClampNeg = mm := by
  rw [h.1.2.1, nI_clamp (by have := h.1.2.2; omega)]
theorem rh_280 {M : Nat → Nat → Int32} {s : Nat → Int32} {k : Nat} (hk : k < 12) (e : M 280 (71 + k) = s (71 + k)) : q_X9_holds_280 M (nI k) ∧ f_X9_holds_280 M (nI k) = if s (71 + k) = 0 then 1 else 0 := by
  refine ⟨⟨vx_71 hk, trivial⟩, ?_⟩
  unfold f_X9_holds_280
  rw [ix_71 (by omega), e]
  by_cases c : s (71 + k) = 0 <;> simp [c]
theorem pu_280 {M : Nat → Nat → Int32} {s kd w : Nat → Int32} {q : Int32} {n mm : Nat} (h : RS_280 M s kd w q n mm) (o t : Int32) : q_X9_pullOf_280 M o t ∧ f_X9_pullOf_280 M o t = pul s n o t := by
  have hn := h.2.2.2.2.1
  have hr := h.2.2.1
  have lp : ∀ k, k ≤ n → s_X9_pullOf_280_5 M o t 0 k = pul s k o t := by
    intro k
    induction k with
    | zero => intro _; rfl
    | succ k ih =>
      intro hk
      have hs : s_X9_pullOf_280_5 M o t 0 (k + 1) = e_X9_pullOf_280_5_c3 M o t (nI k) (s_X9_pullOf_280_5 M o t 0 k) := rfl
      have hp : pul s (k + 1) o t = pul s k o t + wk s k o t := rfl
      rw [hs, hp, ih (by omega)]
      unfold e_X9_pullOf_280_5_c3 wk
      rw [(rh_280 (s := s) (show k < 12 by omega) (hr _ (by omega))).2, ix_11 (by omega), ix_23 (by omega), ix_35 (by omega), ix_47 (by omega), hr _ (by omega), hr _ (by omega), hr _ (by omega), hr _ (by omega)]
      by_cases c1 : s (71 + k) = 0 <;> by_cases c2 : s (11 + k) = o <;> by_cases c3 : s (23 + k) = t <;> by_cases c4 : s (35 + k) = 1 <;> simp [c1, c2, c3, c4]
  unfold q_X9_pullOf_280 f_X9_pullOf_280
  rw [rn_280 h]
  refine ⟨⟨fun k hk => ?_, trivial⟩, lp n (Nat.le_refl n)⟩
  have v1 := vx_11 (show k < 12 by omega)
  have v2 := vx_23 (show k < 12 by omega)
  have v3 := vx_35 (show k < 12 by omega)
  have v4 := vx_47 (show k < 12 by omega)
  exact ⟨⟨vx_71 (by omega), trivial⟩, fun _ => v1, fun _ _ => v2, fun _ _ _ => v3, fun _ _ _ _ => v4, fun _ _ _ _ => v4, trivial⟩
theorem no_280 {M : Nat → Nat → Int32} {s kd w : Nat → Int32} {q : Int32} {n mm : Nat} (h : RS_280 M s kd w q n mm) (o : Int32) : q_X9_notchesOf_280 M o ∧ f_X9_notchesOf_280 M o = lod s n o := by
  have hn := h.2.2.2.2.1
  have hr := h.2.2.1
  have lp : ∀ k, k ≤ n → s_X9_notchesOf_280_4 M o 0 k = lod s k o := by
    intro k
    induction k with
    | zero => intro _; rfl
    | succ k ih =>
      intro hk
      have hs : s_X9_notchesOf_280_4 M o 0 (k + 1) = e_X9_notchesOf_280_4_c2 M o (nI k) (s_X9_notchesOf_280_4 M o 0 k) := rfl
      have hp : lod s (k + 1) o = lod s k o + lk s k o := rfl
      rw [hs, hp, ih (by omega)]
      unfold e_X9_notchesOf_280_4_c2 lk
      rw [(rh_280 (s := s) (show k < 12 by omega) (hr _ (by omega))).2, ix_11 (by omega), ix_47 (by omega), hr _ (by omega), hr _ (by omega)]
      by_cases c1 : s (71 + k) = 0 <;> by_cases c2 : s (11 + k) = o <;> simp [c1, c2]
  unfold q_X9_notchesOf_280 f_X9_notchesOf_280
  rw [rn_280 h]
  refine ⟨⟨fun k hk => ?_, trivial⟩, lp n (Nat.le_refl n)⟩
  have v1 := vx_11 (show k < 12 by omega)
  have v4 := vx_47 (show k < 12 by omega)
  exact ⟨⟨vx_71 (by omega), trivial⟩, fun _ => v1, fun _ _ => v4, trivial⟩
theorem hg_280 {M : Nat → Nat → Int32} {s kd w : Nat → Int32} {q : Int32} {n mm : Nat} (h : RS_280 M s kd w q n mm) {m : Nat} (hm : m < 6) : q_X9_hangs_280 M (nI m) ∧ f_X9_hangs_280 M (nI m) = if hng s n m = true then 1 else 0 := by
  refine ⟨⟨(no_280 h _).1, vx_4 (by omega), trivial⟩, ?_⟩
  unfold f_X9_hangs_280 hng
  rw [(no_280 h _).2, ix_4 (by omega), h.2.2.1 _ (by omega)]
  by_cases c : lod s n (nI m) ≤ s (4 + m)
  · rw [if_pos c, decide_eq_false (i_nlt.mpr c)]; rfl
  · rw [if_neg c, decide_eq_true (i_nle.mp c)]; rfl
theorem go_280 {M : Nat → Nat → Int32} {s kd w : Nat → Int32} {q : Int32} {n mm : Nat} (h : RS_280 M s kd w q n mm) {m : Nat} (hm : m < mm) (t : Int32) : q_X9_goesOf_274_280 M (nI m) t ∧ f_X9_goesOf_274_280 M (nI m) t = gos w s n m t := by
  have hm6 : m < 6 := by have := h.1.2.2; omega
  have p1 := pu_280 h (nI m) t
  have p2 := hg_280 h hm6
  have p3 := wo_r hm6 (h.2.1 m hm).2 t
  refine ⟨⟨p1.1, fun _ _ => p2.1, fun _ _ _ => p3.1, trivial⟩, ?_⟩
  unfold f_X9_goesOf_274_280 gos
  rw [p1.2, p2.2, p3.2]
  generalize pul s n (nI m) t = x
  rcases i_tri x with c | c | c
  · rw [if_pos (Int32.le_of_lt c), if_neg (i_nle.mpr c), if_neg (i_nlt.mpr (Int32.le_of_lt c)), if_pos c]
  · subst c
    cases hng s n m <;> simp
  · rw [if_neg (i_nle.mpr c), if_pos c]
theorem he_280 {M : Nat → Nat → Int32} {s kd w : Nat → Int32} {q : Int32} {n mm : Nat} (h : RS_280 M s kd w q n mm) {m : Nat} (hm : m < mm) (t : Int32) : q_X9_isHeld_274_280 M (nI m) t ∧ f_X9_isHeld_274_280 M (nI m) t = if hel w s n m t = true then 1 else 0 := by
  have hm6 : m < 6 := by have := h.1.2.2; omega
  have p1 := go_280 h hm t
  have p3 := wo_r hm6 (h.2.1 m hm).2 t
  refine ⟨⟨p1.1, fun _ => p3.1, trivial⟩, ?_⟩
  unfold f_X9_isHeld_274_280 hel
  rw [p1.2, p3.2]
  by_cases c1 : gos w s n m t = 2 <;> by_cases c2 : gos w s n m t = ow w m t <;> simp [c1, c2]
theorem vo_280 {M : Nat → Nat → Int32} {s kd w : Nat → Int32} {q : Int32} {n mm : Nat} (h : RS_280 M s kd w q n mm) {m : Nat} (hm : m < mm) : q_X9_votesOf_274_280 M (nI m) ∧ f_X9_votesOf_274_280 M (nI m) = vt kd s n m := by
  have hm6 : m < 6 := by have := h.1.2.2; omega
  have cm : (nI m).toNatClampNeg = m := nI_clamp (by omega)
  have p2 := hg_280 h hm6
  refine ⟨⟨vi hm6 (by decide), fun _ => p2.1, trivial⟩, ?_⟩
  unfold f_X9_votesOf_274_280 vt
  rw [p2.2, cm, (h.2.1 m hm).1]
  by_cases c1 : kd m = 3 <;> cases hng s n m <;> simp [c1]
theorem mr_280 {M : Nat → Nat → Int32} {s kd w : Nat → Int32} {q : Int32} {n mm : Nat} (h : RS_280 M s kd w q n mm) (t : Int32) : q_X9_marginOf_274_280 M t ∧ f_X9_marginOf_274_280 M t = mg kd w s n mm t := by
  have lp : ∀ k, k ≤ mm → s_X9_marginOf_274_280_5 M t 0 k = mg kd w s n k t := by
    intro k
    induction k with
    | zero => intro _; rfl
    | succ k ih =>
      intro hk
      have hs : s_X9_marginOf_274_280_5 M t 0 (k + 1) = e_X9_marginOf_274_280_5_c3 M t (nI k) (s_X9_marginOf_274_280_5 M t 0 k) := rfl
      have hp : mg kd w s n (k + 1) t = mg kd w s n k t + gn kd w s n k t := rfl
      rw [hs, hp, ih (by omega)]
      unfold e_X9_marginOf_274_280_5_c3 gn
      rw [(go_280 h (show k < mm by omega) t).2, (vo_280 h (show k < mm by omega)).2]
      by_cases c1 : gos w s n k t = 2 <;> by_cases c2 : gos w s n k t = 1 <;> simp [c1, c2]
  unfold q_X9_marginOf_274_280 f_X9_marginOf_274_280
  rw [rm_280 h]
  refine ⟨⟨fun k hk => ?_, trivial⟩, lp mm (Nat.le_refl mm)⟩
  exact ⟨(go_280 h hk t).1, fun _ _ => (vo_280 h hk).1, fun _ _ => (vo_280 h hk).1, trivial⟩
theorem sb_280 {M : Nat → Nat → Int32} {s kd w : Nat → Int32} {q : Int32} {n mm : Nat} (h : RS_280 M s kd w q n mm) {k : Nat} (hk : k < n) (t : Int32) : q_X9_strainBy_274_280 M (nI k) t ∧ f_X9_strainBy_274_280 M (nI k) t = sn kd w s n k t := by
  have hn := h.2.2.2.2.1
  have hr := h.2.2.1
  obtain ⟨o, ho, eo⟩ := h.2.2.2.2.2.1 k hk
  have hm6 : o < 6 := by have := h.1.2.2; omega
  have co : (nI o).toNatClampNeg = o := nI_clamp (by omega)
  have p0 := rh_280 (s := s) (show k < 12 by omega) (hr _ (by omega))
  have p1 := go_280 h ho t
  have p2 := he_280 h ho t
  have p3 := hg_280 h hm6
  have v1 := vx_11 (show k < 12 by omega)
  have v2 := vx_23 (show k < 12 by omega)
  have v3 := vx_35 (show k < 12 by omega)
  have v6 : z_vin (nI o) 6 = true := vi hm6 (by decide)
  constructor
  · unfold q_X9_strainBy_274_280
    rw [ix_11 (by omega), hr (11 + k) (by omega), eo]
    refine ⟨p0.1, fun _ => v2, fun _ _ => v1, fun _ _ => p1.1, fun _ _ _ => v3, fun _ _ _ _ => p2.1, ?_⟩
    (repeat' apply And.intro) <;> intros <;> first | exact trivial | assumption | exact p3.1
  · unfold f_X9_strainBy_274_280 sn
    rw [p0.2, ix_11 (by omega), ix_23 (by omega), ix_35 (by omega), hr (11 + k) (by omega), hr (23 + k) (by omega), hr (35 + k) (by omega), eo, co, p1.2, p2.2, p3.2, (h.2.1 o ho).1]
    by_cases c1 : s (71 + k) = 0 <;> by_cases c2 : s (23 + k) = t <;> by_cases c3 : gos w s n o t = 2 <;> by_cases c4 : gos w s n o t = s (35 + k) <;> cases hel w s n o t <;> by_cases c5 : kd o = 1 <;> by_cases c6 : kd o = 2 <;> cases hng s n o <;> simp [c1, c2, c3, c4, c5, c6]
theorem q18_280 {M : Nat → Nat → Int32} {s kd w : Nat → Int32} {q : Int32} {n mm : Nat} (h : RS_280 M s kd w q n mm) (t v : Int32) (k : Nat) (hk : k ≤ n) : (∀ i, i < k → qi_X9_puts_274_280_18 (s_X9_puts_274_280_18 M t v i) t v (nI i)) ∧ ∀ j, j < k → s_X9_puts_274_280_18 M t v k 291 j = sn kd w s n j t := by
  have hn := h.2.2.2.2.1
  induction k with
  | zero => exact ⟨fun i hi => absurd hi (by omega), fun j hj => absurd hj (by omega)⟩
  | succ k ih =>
    obtain ⟨i1, i2⟩ := ih (by omega)
    have hs : s_X9_puts_274_280_18 M t v (k + 1) = e_X9_puts_274_280_18_M (s_X9_puts_274_280_18 M t v k) t v (nI k) := rfl
    have fr : ∀ c, c ≠ 291 → s_X9_puts_274_280_18 M t v k c = M c := fun c a => fr_s_X9_puts_274_280_18 M t v k c a
    have hc : RS_280 (s_X9_puts_274_280_18 M t v k) s kd w q n mm := RS_cong_280 h (by rw [fr 274 (by decide)]) (by rw [fr 274 (by decide)]) (fr _ (by decide)) (fr _ (by decide)) (fr _ (by decide))
    have p := sb_280 hc (show k < n by omega) t
    have ck : (nI k).toNatClampNeg = k := nI_clamp (by omega)
    refine ⟨fun i hi => ?_, fun j hj => ?_⟩
    · by_cases c : i = k
      · subst c
        exact ⟨p.1, vi (by omega) (by decide), trivial⟩
      · exact i1 i (by omega)
    · rw [hs]
      unfold e_X9_puts_274_280_18_M
      rw [z_row_eq, ck, p.2, ud_if]
      by_cases c : j = k
      · subst c
        rw [if_pos rfl]
      · rw [if_neg c]
        exact i2 j (by omega)
theorem q51_280 {A : Nat → Nat → Int32} {s kd w : Nat → Int32} {q : Int32} {n : Nat} {t : Int32} (v : Int32) (hn : n ≤ 12) (hr : ∀ j, j < 83 → A 280 j = s j) (hq : A 274 3 = q) (h5 : ∀ j, j < n → A 291 j = sn kd w s n j t) (k : Nat) (hk : k ≤ n) : (∀ i, i < k → qi_X9_puts_274_280_51 (s_X9_puts_274_280_51 A t v i) t v (nI i)) ∧ ∀ j, j < 83 → s_X9_puts_274_280_51 A t v k 280 j = ptk kd w s q n k t j := by
  induction k with
  | zero =>
    refine ⟨fun i hi => absurd hi (by omega), fun j hj => ?_⟩
    unfold ptk
    rw [if_neg (show ¬ (59 ≤ j ∧ j < 59 + 0) by omega), if_neg (show ¬ (71 ≤ j ∧ j < 71 + 0) by omega), sm_0, Int32.add_zero]
    show A 280 j = _
    rw [hr j hj]
    by_cases c : j = 2
    · subst c; rfl
    · rw [if_neg c]
  | succ k ih =>
    obtain ⟨i1, i2⟩ := ih (by omega)
    have hs : s_X9_puts_274_280_51 A t v (k + 1) = e_X9_puts_274_280_51_M (s_X9_puts_274_280_51 A t v k) t v (nI k) := rfl
    have fr : ∀ c, c ≠ 280 → s_X9_puts_274_280_51 A t v k c = A c := fun c a => fr_s_X9_puts_274_280_51 A t v k c a
    have ck : (nI k).toNatClampNeg = k := nI_clamp (by omega)
    have v12 : z_vin (nI k) 12 = true := vi (by omega) (by decide)
    have v2 := vx_23 (show k < 12 by omega)
    have v4 := vx_47 (show k < 12 by omega)
    have v5 := vx_59 (show k < 12 by omega)
    have v7 := vx_71 (show k < 12 by omega)
    have b2 : s_X9_puts_274_280_51 A t v k 280 (23 + k) = s (23 + k) := by rw [i2 _ (by omega), ptk_st (by omega) (by omega) (by omega)]
    have b4 : s_X9_puts_274_280_51 A t v k 280 (47 + k) = s (47 + k) := by rw [i2 _ (by omega), ptk_st (by omega) (by omega) (by omega)]
    have b5 : s_X9_puts_274_280_51 A t v k 280 (59 + k) = s (59 + k) := by rw [i2 _ (by omega), ptk_st (by omega) (by omega) (by omega)]
    have b7 : s_X9_puts_274_280_51 A t v k 280 (71 + k) = s (71 + k) := by rw [i2 _ (by omega), ptk_st (by omega) (by omega) (by omega)]
    have b8 : s_X9_puts_274_280_51 A t v k 291 k = sn kd w s n k t := by rw [fr _ (by decide)]; exact h5 k (by omega)
    have b9 : s_X9_puts_274_280_51 A t v k 274 3 = q := by rw [fr _ (by decide)]; exact hq
    refine ⟨fun i hi => ?_, fun j hj => ?_⟩
    · by_cases c : i = k
      · subst c
        unfold qi_X9_puts_274_280_51 q_X9_holds_280
        (repeat' apply And.intro) <;> intros <;> first | exact trivial | assumption | (exact vi (by omega) (by decide)) | decide
      · exact i1 i (by omega)
    · have i3 := i2 j hj
      rw [hs]
      generalize s_X9_puts_274_280_51 A t v k = B at *
      have p0 : f_X9_holds_280 (z_row B 280 (upd (B 280) (59 + k) (s (59 + k) + sn kd w s n k t))) (nI k) = if s (71 + k) = 0 then 1 else 0 := (rh_280 (by omega) (by rw [z_row_eq, ud_ne (by omega)]; exact b7)).2
      have e : e_X9_puts_274_280_51_M B t v (nI k) 280 j = if gv kd w s q n k t = true then upd (upd (upd (B 280) (59 + k) (s (59 + k) + sn kd w s n k t)) (71 + k) 1) 2 (B 280 2 + 1) j else upd (B 280) (59 + k) (s (59 + k) + sn kd w s n k t) j := by
        unfold e_X9_puts_274_280_51_M gv
        rw [ix_23 (by omega), ix_47 (by omega), ix_59 (by omega), ix_71 (by omega), ck, b5, b8, p0, b9, ud_ne (show ¬ 23 + k = 59 + k by omega), ud_eq, ud_ne (show ¬ 47 + k = 59 + k by omega), b2, b4, ud_ne (show ¬ 2 = 71 + k by omega), ud_ne (show ¬ 2 = 59 + k by omega)]
        by_cases c1 : s (71 + k) = 0 ∧ s (23 + k) = t
        · by_cases c2 : q * s (47 + k) ≤ s (59 + k) + sn kd w s n k t
          · rw [if_pos c1.1, if_neg (show ¬ (1 : Int32) = 0 by decide), if_neg (not_not_intro c1.2), if_neg (i_nlt.mpr c2), if_pos (decide_eq_true ⟨c1.1, c1.2, c2⟩), z_row_eq]
          · rw [if_pos c1.1, if_neg (show ¬ (1 : Int32) = 0 by decide), if_neg (not_not_intro c1.2), if_pos (i_nle.mp c2), if_neg (fun z => c2 (of_decide_eq_true z).2.2), z_row_eq]
        · rw [decide_eq_false (p := s (71 + k) = 0 ∧ s (23 + k) = t ∧ q * s (47 + k) ≤ s (59 + k) + sn kd w s n k t) (fun z => c1 ⟨z.1, z.2.1⟩), if_neg Bool.false_ne_true]
          by_cases c3 : s (71 + k) = 0
          · rw [if_pos c3, if_neg (show ¬ (1 : Int32) = 0 by decide), if_pos (fun z => c1 ⟨c3, z⟩), z_row_eq]
          · rw [if_neg c3, if_pos rfl, z_row_eq]
      rw [e]
      have i4 := i2 2 (by decide)
      have e2 : ptk kd w s q n k t 2 = s 2 + sm k (fun i => if gv kd w s q n i t = true then 1 else 0) := if_pos rfl
      rw [e2] at i4
      unfold ptk at i3 ⊢
      rw [sm_s]
      by_cases c : gv kd w s q n k t = true
      · rw [if_pos c, if_pos c]
        by_cases c2 : j = 2
        · subst c2
          rw [ud_eq, i4, if_pos rfl, Int32.add_assoc]
        · rw [ud_ne c2, if_neg c2, ud_if, ud_if, i3, if_neg c2]
          by_cases c7 : j = 71 + k
          · subst c7
            rw [if_pos rfl, if_neg (by omega), if_pos (by omega), Nat.add_sub_cancel_left, if_pos c]
          · rw [if_neg c7]
            by_cases c5 : j = 59 + k
            · subst c5
              rw [if_pos rfl, if_pos (by omega), Nat.add_sub_cancel_left]
            · rw [if_neg c5]
              by_cases c8 : 59 ≤ j ∧ j < 59 + k
              · rw [if_pos c8, if_pos (by omega)]
              · rw [if_neg c8, if_neg (show ¬ (59 ≤ j ∧ j < 59 + (k + 1)) by omega)]
                by_cases c9 : 71 ≤ j ∧ j < 71 + k
                · rw [if_pos c9, if_pos (show 71 ≤ j ∧ j < 71 + (k + 1) by omega)]
                · rw [if_neg c9, if_neg (show ¬ (71 ≤ j ∧ j < 71 + (k + 1)) by omega)]
      · rw [if_neg c, if_neg c, Int32.add_zero, ud_if, i3]
        by_cases c2 : j = 2
        · subst c2
          rw [if_neg (by omega), if_pos rfl, if_pos rfl]
        · rw [if_neg c2, if_neg c2]
          by_cases c5 : j = 59 + k
          · subst c5
            rw [if_pos rfl, if_pos (by omega), Nat.add_sub_cancel_left]
          · rw [if_neg c5]
            by_cases c8 : 59 ≤ j ∧ j < 59 + k
            · rw [if_pos c8, if_pos (by omega)]
            · rw [if_neg c8, if_neg (show ¬ (59 ≤ j ∧ j < 59 + (k + 1)) by omega)]
              by_cases c7 : j = 71 + k
              · subst c7
                rw [if_neg (by omega), if_pos (by omega), Nat.add_sub_cancel_left, if_neg c]
              · by_cases c9 : 71 ≤ j ∧ j < 71 + k
                · rw [if_pos c9, if_pos (show 71 ≤ j ∧ j < 71 + (k + 1) by omega)]
                · rw [if_neg c9, if_neg (show ¬ (71 ≤ j ∧ j < 71 + (k + 1)) by omega)]
theorem ql_280 {M : Nat → Nat → Int32} {s kd w : Nat → Int32} {q : Int32} {n mm : Nat} (h : RS_280 M s kd w q n mm) (t v : Int32) : (∀ k, k < n → qi_X9_puts_274_280_18 (s_X9_puts_274_280_18 M t v k) t v (nI k)) ∧ (s_X9_puts_274_280_18 M t v n 280 10).toNatClampNeg = n ∧ (∀ k, k < n → qi_X9_puts_274_280_51 (s_X9_puts_274_280_51 (s_X9_puts_274_280_18 M t v n) t v k) t v (nI k)) ∧ (∀ k, k < n → ¬ s_X9_puts_274_280_51 (s_X9_puts_274_280_18 M t v n) t v k 280 10 ≤ nI k) ∧ s_X9_puts_274_280_51 (s_X9_puts_274_280_18 M t v n) t v n 280 10 ≤ nI n ∧ ∀ j, j < 83 → s_X9_puts_274_280_51 (s_X9_puts_274_280_18 M t v n) t v n 280 j = ptk kd w s q n n t j := by
  have hn := h.2.2.2.2.1
  have fr : ∀ c, c ≠ 291 → s_X9_puts_274_280_18 M t v n c = M c := fun c a => fr_s_X9_puts_274_280_18 M t v n c a
  obtain ⟨a1, a2⟩ := q18_280 h t v n (Nat.le_refl n)
  have b := fun k hk => q51_280 (A := s_X9_puts_274_280_18 M t v n) (s := s) (kd := kd) (w := w) (q := q) (n := n) (t := t) v hn (by rw [fr 280 (by decide)]; exact h.2.2.1) (by rw [fr 274 (by decide)]; exact h.1.1) a2 k hk
  have e10 : ∀ k, k ≤ n → s_X9_puts_274_280_51 (s_X9_puts_274_280_18 M t v n) t v k 280 10 = nI n := fun k hk => by
    rw [(b k hk).2 10 (by decide), ptk_st (by decide) (by omega) (by omega), h.2.2.2.1]
  refine ⟨a1, by rw [fr 280 (by decide)]; exact rn_280 h, (b n (Nat.le_refl n)).1, fun k hk => ?_, ?_, (b n (Nat.le_refl n)).2⟩
  · rw [e10 k (by omega)]
    exact nI_ge hk (by omega)
  · rw [e10 n (Nat.le_refl n)]
    exact Int32.le_refl _
theorem pr_280 {M : Nat → Nat → Int32} {s kd w : Nat → Int32} {q : Int32} {n mm : Nat} (h : RS_280 M s kd w q n mm) (t : Int32) : q_X9_puts_274_280 M t ∧ f_X9_puts_274_280 M t = (if 0 < mg kd w s n mm t then 1 else 0) ∧ RS_280 (g_X9_puts_274_280 M t) (pt kd w s q n mm t) kd w q n mm := by
  have hma := mr_280 h t
  have f0 : ∀ c, c ≠ 280 → c ≠ 291 → g_X9_puts_274_280 M t c = M c := fun c a b => fr_g_X9_puts_274_280 M t c a b
  obtain ⟨a1, a2, a3, a4, a5, a6⟩ := ql_280 h t 0
  obtain ⟨b1, b2, b3, b4, b5, b6⟩ := ql_280 h t 1
  have en := rn_280 h
  refine ⟨?_, ?_, ⟨?_, ?_, ?_, wf_pt h.2.2.2 h.1.2.2⟩⟩
  · unfold q_X9_puts_274_280
    rw [en, a2, b2]
    exact ⟨hma.1, fun _ => a1, fun _ => a3, fun _ => a4, fun _ => a5, fun _ => b1, fun _ => b3, fun _ => b4, fun _ => b5, trivial⟩
  · unfold f_X9_puts_274_280
    rw [hma.2]
    by_cases c : 0 < mg kd w s n mm t
    · rw [if_neg (i_nle.mpr c), if_pos c]
    · rw [if_pos (i_nlt.mp c), if_neg c]
  · rw [f0 274 (by decide) (by decide)]; exact h.1
  · rw [f0 276 (by decide) (by decide), f0 278 (by decide) (by decide)]; exact h.2.1
  · intro j hj
    unfold g_X9_puts_274_280
    rw [hma.2, en, a2, b2]
    by_cases c : 0 < mg kd w s n mm t
    · rw [if_neg (i_nle.mpr c), z_row_eq, ud_if, ud_if, b6 j hj, b6 0 (by decide), b6 1 (by decide)]
      by_cases c1 : j = 1
      · subst c1
        rw [if_pos rfl, pt_1, if_pos c, ptk_st (by decide) (by omega) (by omega)]
      · rw [if_neg c1]
        by_cases c0 : j = 0
        · subst c0
          rw [if_pos rfl, pt_0, ptk_st (by decide) (by omega) (by omega)]
        · rw [if_neg c0, ptk_pt c0 c1]
    · rw [if_pos (i_nlt.mp c), z_row_eq, ud_if, ud_if, a6 j hj, a6 0 (by decide), a6 1 (by decide), Int32.add_zero]
      by_cases c1 : j = 1
      · subst c1
        rw [if_pos rfl, pt_1, if_neg c, ptk_st (by decide) (by omega) (by omega)]
      · rw [if_neg c1]
        by_cases c0 : j = 0
        · subst c0
          rw [if_pos rfl, pt_0, ptk_st (by decide) (by omega) (by omega)]
        · rw [if_neg c0, ptk_pt c0 c1]
