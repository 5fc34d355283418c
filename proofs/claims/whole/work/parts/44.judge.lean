/-! THE FIRST TWANG, DIVISION LISTS -/
theorem z_fst_le {p : Nat → Bool} {B : Nat} : z_fst p B ≤ B := by
  have := List.findIdx_le_length (xs := List.range B) (p := fun k => !p k)
  rwa [List.length_range] at this
theorem z_fst_eq {p : Nat → Bool} {B N : Nat} (hN : N ≤ B) (h1 : ∀ k, k < N → p k = true) (h2 : p N = false) : z_fst p B = N := by
  rcases Nat.lt_trichotomy (z_fst p B) N with c | c | c
  · exfalso
    have hB : z_fst p B < B := by omega
    have h3 : (List.range B).findIdx (fun k => !p k) < (List.range B).length := by rw [List.length_range]; exact hB
    have h4 := List.findIdx_getElem (w := h3)
    rw [List.getElem_range] at h4
    have h5 := h1 _ c
    unfold z_fst at h5
    rw [h5] at h4
    exact absurd h4 (by decide)
  · exact c
  · have := z_fst_t c
    rw [h2] at this
    exact absurd this (by decide)
def ptn (kd w s : Nat → Int32) (q : Int32) (n mm : Nat) (t : Int32) (k : Nat) : Nat → Int32 := Nat.rec (motive := fun _ => Nat → Int32) s (fun _ r => pt kd w r q n mm t) k
theorem ptn_s (kd w s : Nat → Int32) (q : Int32) (n mm : Nat) (t : Int32) (k : Nat) : ptn kd w s q n mm t (k + 1) = pt kd w (ptn kd w s q n mm t k) q n mm t := rfl
theorem wf_ptn {kd w s : Nat → Int32} {q : Int32} {n mm : Nat} {t : Int32} (h : wf s n mm) (hm : mm ≤ 6) (k : Nat) : wf (ptn kd w s q n mm t k) n mm := by
  induction k with
  | zero => exact h
  | succ k ih => rw [ptn_s]; exact wf_pt ih hm
theorem sm_cnt (n : Nat) (f : Nat → Int32) (h : ∀ k, k < n → f k = 0 ∨ f k = 1) : ∃ a, a ≤ n ∧ sm n f = nI a := by
  induction n with
  | zero => exact ⟨0, Nat.le_refl _, rfl⟩
  | succ n ih =>
    obtain ⟨a, ha, e⟩ := ih (fun k hk => h k (by omega))
    rw [sm_s, e]
    rcases h n (by omega) with c | c
    · exact ⟨a, by omega, by rw [c, Int32.add_zero]⟩
    · exact ⟨a + 1, by omega, by rw [c, nI_1]⟩
theorem pt_2le {kd w s : Nat → Int32} {q : Int32} {n mm : Nat} {t : Int32} (h : wf s n mm) : s 2 ≤ pt kd w s q n mm t 2 := by
  have hn := h.2.1
  obtain ⟨a, ha, ea⟩ := sm_cnt n (g1 s) (fun k _ => by unfold g1; by_cases c : s (71 + k) = 1 <;> simp [c])
  obtain ⟨b, hb, eb⟩ := sm_cnt n (fun k => if gv kd w s q n k t = true then 1 else 0) (fun k _ => by by_cases c : gv kd w s q n k t = true <;> simp [c])
  rw [pt_2, eb, h.2.2.2.2.2.2, ea, nI_add]
  exact nI_le (by omega) (by omega)
theorem tw_eq {a : Nat → Int32} (h0 : ∀ k, a k ≤ a (k + 1)) {pc pr : Nat → Bool} (hc : ∀ k, k ≤ 99 → pc k = if 99 < nI (k + 1) then false else if a (k + 1) ≤ a 0 then true else false) (hr : ∀ k, k ≤ 99 → pr k = if 100 ≤ nI (k + 1) then false else if a (k + 1) ≤ a k then true else false) : z_fst pc 99 = z_fst pr 99 := by
  have hN : z_fst pc 99 ≤ 99 := z_fst_le
  have ht : ∀ k, k < z_fst pc 99 → pc k = true := fun k hk => z_fst_t hk
  have hf : pc (z_fst pc 99) = false := z_fst_f (by rw [hc 99 (by decide), if_pos (by decide)])
  have hlt : ∀ k, k ≤ 99 → ((99 : Int32) < nI (k + 1) ↔ (100 : Int32) ≤ nI (k + 1)) := fun k hk => by
    have e1 : ((99 : Int32) < nI (k + 1)) ↔ 99 < k + 1 := nI_ltI (a := 99) (by decide) (by omega)
    have e2 : ((100 : Int32) ≤ nI (k + 1)) ↔ 100 ≤ k + 1 := nI_leI (a := 100) (by decide) (by omega)
    rw [e1, e2]
    omega
  generalize z_fst pc 99 = N at *
  have ha : ∀ k, k ≤ N → a k = a 0 := by
    intro k
    induction k with
    | zero => intro _; rfl
    | succ k ih =>
      intro hk
      have i := ih (by omega)
      have t1 := ht k (by omega)
      rw [hc k (by omega)] at t1
      by_cases c : 99 < nI (k + 1)
      · rw [if_pos c] at t1; exact absurd t1 (by decide)
      · rw [if_neg c] at t1
        by_cases c2 : a (k + 1) ≤ a 0
        · exact Int32.le_antisymm c2 (by have := h0 k; rwa [i] at this)
        · rw [if_neg c2] at t1; exact absurd t1 (by decide)
  refine (z_fst_eq hN (fun k hk => ?_) ?_).symm
  · have t1 := ht k hk
    rw [hc k (by omega)] at t1
    rw [hr k (by omega), ha k (by omega)]
    by_cases c : 99 < nI (k + 1)
    · rw [if_pos c] at t1; exact absurd t1 (by decide)
    · rw [if_neg c] at t1
      rw [if_neg (fun z => c ((hlt k (by omega)).mpr z))]; exact t1
  · have t1 := hf
    rw [hc N hN] at t1
    rw [hr N hN, ha N (Nat.le_refl N)]
    by_cases c : 99 < nI (N + 1)
    · rw [if_pos ((hlt N hN).mp c)]
    · rw [if_neg c] at t1
      rw [if_neg (fun z => c ((hlt N hN).mpr z))]; exact t1
theorem CS_34 {M : Nat → Nat → Int32} {s kd w : Nat → Int32} {q : Int32} {n mm : Nat} (h : CS_28 M s kd w q n mm) : CS_42 (g_X0_copyFrom_34_20 M) s kd w q n mm ∧ ∀ c, c < 34 ∨ 41 < c → g_X0_copyFrom_34_20 M c = M c := by
  have e : g_X0_copyFrom_34_20 M = cpB 34 20 M := rfl
  have fr : ∀ c, c < 34 ∨ 41 < c → cpB 34 20 M c = M c := fun c hc => cpB_fr (by omega)
  rw [e]
  refine ⟨⟨?_, ?_, cpB_rp h.2.2.1 h.2.2.2.2.1 h.1.2.1, h.2.2.2⟩, fr⟩
  · rw [fr 15 (by decide)]; exact h.1
  · rw [fr 16 (by decide), fr 18 (by decide)]; exact h.2.1
theorem RS_as {M : Nat → Nat → Int32} {s kd w : Nat → Int32} {q : Int32} {n mm : Nat} (h : RS_279 M s kd w q n mm) : q_X9_asItIs_274 M ∧ RS_280 (g_X9_asItIs_274 M) s kd w q n mm := by
  have b := br_279_280 (M := M) (a := 0) (b := 0) (N := 83) (by omega) (by omega)
  have fr : ∀ c, c ≠ 280 → g_X9_asItIs_274 M c = M c := fun c hc => fr_g_X9_asItIs_274 M c hc
  refine ⟨⟨b.1, trivial⟩, ?_, ?_, fun j hj => ?_, h.2.2.2⟩
  · rw [fr 274 (by decide)]; exact h.1
  · rw [fr 276 (by decide), fr 278 (by decide)]; exact h.2.1
  · have e : g_X9_asItIs_274 M 280 j = g_X9_bring_279_280 M (nI 0) (nI 0) (nI 83) 280 j := rfl
    rw [e, b.2, if_pos (by omega), Nat.sub_zero, Nat.zero_add]
    exact h.2.2.1 j hj
theorem tl_c {A : Nat → Nat → Int32} {s kd w : Nat → Int32} {q : Int32} {n mm : Nat} (h : CS_42 A s kd w q n mm) (t v : Int32) (k : Nat) : (s_X7_firstTwang_32_30 A t v 1 k).1 = nI (k + 1) ∧ CS_42 (s_X7_firstTwang_32_30 A t v 1 k).2 (ptn kd w s q n mm t k) kd w q n mm := by
  induction k with
  | zero => exact ⟨rfl, h⟩
  | succ k ih =>
    have hs : s_X7_firstTwang_32_30 A t v 1 (k + 1) = (e_X7_firstTwang_32_30_c3 (s_X7_firstTwang_32_30 A t v 1 k).2 t v (s_X7_firstTwang_32_30 A t v 1 k).1, e_X7_firstTwang_32_30_M (s_X7_firstTwang_32_30 A t v 1 k).2 t v (s_X7_firstTwang_32_30 A t v 1 k).1) := rfl
    rw [hs]
    clear hs
    generalize s_X7_firstTwang_32_30 A t v 1 k = r at *
    dsimp only
    unfold e_X7_firstTwang_32_30_c3 e_X7_firstTwang_32_30_M
    rw [ih.1, nI_1, ptn_s]
    exact ⟨rfl, (pm_33 ih.2 t).2.2⟩
theorem tl_r {A : Nat → Nat → Int32} {s kd w : Nat → Int32} {q : Int32} {n mm : Nat} (h : RS_280 A s kd w q n mm) (t : Int32) (k : Nat) : (s_X9_twangOf_274_6 A t 1 k).1 = nI (k + 1) ∧ RS_280 (s_X9_twangOf_274_6 A t 1 k).2 (ptn kd w s q n mm t k) kd w q n mm := by
  induction k with
  | zero => exact ⟨rfl, h⟩
  | succ k ih =>
    have hs : s_X9_twangOf_274_6 A t 1 (k + 1) = (e_X9_twangOf_274_6_c2 (s_X9_twangOf_274_6 A t 1 k).2 t (s_X9_twangOf_274_6 A t 1 k).1, e_X9_twangOf_274_6_M (s_X9_twangOf_274_6 A t 1 k).2 t (s_X9_twangOf_274_6 A t 1 k).1) := rfl
    rw [hs]
    clear hs
    generalize s_X9_twangOf_274_6 A t 1 k = r at *
    dsimp only
    unfold e_X9_twangOf_274_6_c2 e_X9_twangOf_274_6_M
    rw [ih.1, nI_1, ptn_s]
    exact ⟨rfl, (pr_280 ih.2 t).2.2⟩
def twN (kd w s : Nat → Int32) (q : Int32) (n mm : Nat) (t : Int32) : Nat := z_fst (fun k => if 99 < nI (k + 1) then false else if ptn kd w s q n mm t (k + 1) 2 ≤ ptn kd w s q n mm t 0 2 then true else false) 99
theorem z_fst_congr {p p' : Nat → Bool} {B : Nat} (h : ∀ k, p k = p' k) : z_fst p B = z_fst p' B := by
  have : p = p' := funext h
  rw [this]
theorem tw_c {M : Nat → Nat → Int32} {s kd w : Nat → Int32} {q : Int32} {n mm : Nat} (h : CS_28 M s kd w q n mm) (t : Int32) : q_X7_firstTwang_32 M t ∧ f_X7_firstTwang_32 M t = if 99 < nI (twN kd w s q n mm t + 1) then -1 else nI (twN kd w s q n mm t + 1) := by
  obtain ⟨hA, fr⟩ := CS_34 h
  have e2 : g_X0_copyFrom_34_20 M 20 10 = s 2 := by rw [fr 20 (by decide)]; exact h.2.2.1.1.2.2.2.1
  unfold q_X7_firstTwang_32 f_X7_firstTwang_32
  rw [e2]
  generalize g_X0_copyFrom_34_20 M = A at *
  have tl := tl_c hA t (s 2)
  have tt : ∀ k, t_X7_firstTwang_32_30 (s_X7_firstTwang_32_30 A t (s 2) 1 k).2 t (s 2) (s_X7_firstTwang_32_30 A t (s 2) 1 k).1 = if 99 < nI (k + 1) then false else if ptn kd w s q n mm t (k + 1) 2 ≤ ptn kd w s q n mm t 0 2 then true else false := fun k => by
    unfold t_X7_firstTwang_32_30
    have e : g_X6_putMatter_33 (s_X7_firstTwang_32_30 A t (s 2) 1 k).2 t 34 10 = ptn kd w s q n mm t (k + 1) 2 := (pm_33 (tl k).2 t).2.2.2.2.1.1.2.2.2.1
    rw [(tl k).1, e]
    rfl
  have eN : n_X7_firstTwang_32_30 A t (s 2) 1 = twN kd w s q n mm t := z_fst_congr tt
  rw [eN]
  refine ⟨⟨fun k _ => ⟨fun _ => (pm_33 (tl k).2 t).1, trivial⟩, by rw [tt 99, if_pos (by decide)], fun _ => (pm_33 (tl _).2 t).1, trivial⟩, ?_⟩
  rw [(tl _).1]
theorem tw_r {M : Nat → Nat → Int32} {s kd w : Nat → Int32} {q : Int32} {n mm : Nat} (h : RS_279 M s kd w q n mm) (t : Int32) : q_X9_twangOf_274 M t ∧ f_X9_twangOf_274 M t = if 100 ≤ nI (twN kd w s q n mm t + 1) then -1 else nI (twN kd w s q n mm t + 1) := by
  obtain ⟨qa, hA⟩ := RS_as h
  unfold q_X9_twangOf_274 f_X9_twangOf_274
  generalize g_X9_asItIs_274 M = A at *
  have tl := tl_r hA t
  have tt : ∀ k, t_X9_twangOf_274_6 (s_X9_twangOf_274_6 A t 1 k).2 t (s_X9_twangOf_274_6 A t 1 k).1 = if 100 ≤ nI (k + 1) then false else if ptn kd w s q n mm t (k + 1) 2 ≤ ptn kd w s q n mm t k 2 then true else false := fun k => by
    unfold t_X9_twangOf_274_6
    have e : g_X9_puts_274_280 (s_X9_twangOf_274_6 A t 1 k).2 t 280 2 = ptn kd w s q n mm t (k + 1) 2 := (pr_280 (tl k).2 t).2.2.2.2.1 2 (by decide)
    rw [(tl k).1, e, (tl k).2.2.2.1 2 (by decide)]
  have eN : n_X9_twangOf_274_6 A t 1 = twN kd w s q n mm t := by
    unfold n_X9_twangOf_274_6 twN
    exact (tw_eq (a := fun k => ptn kd w s q n mm t k 2) (fun k => pt_2le (wf_ptn h.2.2.2 h.1.2.2 k)) (fun k _ => rfl) (fun k _ => tt k)).symm
  rw [eN]
  refine ⟨⟨qa, fun k _ => ⟨fun _ => (pr_280 (tl k).2 t).1, trivial⟩, by rw [tt 99, if_pos (by decide)], fun _ => (pr_280 (tl _).2 t).1, trivial⟩, ?_⟩
  rw [(tl _).1]
theorem s_matter_4 {bd : Nat} {M : Nat → Nat → Int32} {L : Nat → Nat → Int64} (h : RR (bd + 20) M L) (t : Int32) : ST bd 90 165 [.int t, .int 4] M L := by
  have h0 := h
  obtain ⟨s, kd, sd, w, q, n, mm, cnt, e, P, ns, kp, I, nj, sj, seed, len, tx, fl, sc, ec, pp, h1, h2, h3⟩ := h
  have i2 := mt_eq M M t
  by_cases a1 : f_X8_isOutside M t 8 = 0
  · obtain ⟨p1, p2⟩ := tw_c h1.1 t
    have fr : ∀ c, (c < 34 ∨ 45 < c) ∧ (c < 268 ∨ 273 < c) → g_X8_matter_w4 M t c = M c := fun c hc => fr_g_X8_matter_w4 M t c (by omega) (by omega) (by omega) (by omega) (by omega) (by omega) (by omega) (by omega) (by omega) (by omega) (by omega) (by omega) (by omega) (by omega) (by omega)
    have c8 := c_X8_matter_w4 (d := 4) (L := L) M t ⟨fun _ => p1, trivial⟩
    have h2' := Rr_c (M' := g_X8_matter_w4 M t) h2 (fun c hc => fr c (by omega))
    generalize g_X8_matter_w4 M t = N at *
    obtain ⟨r1, r2⟩ := tw_r h2'.1 t
    refine ST_q h0 c8 (c_X9_matter_w4 (d := 1) (L := L) N t ⟨fun _ => r1, trivial⟩) ?_ (fun c hc => fr c (by omega)) (fun c hc => fr_g_X9_matter_w4 N t c (by omega) (by omega))
    unfold f_X8_matter_w4 f_X9_matter_w4
    rw [if_pos a1, mt_eq N M t, if_pos a1, if_pos c10, p2, r2]
    have hN : twN kd w s q n mm t ≤ 99 := z_fst_le
    generalize twN kd w s q n mm t = K at *
    have e1 : ((99 : Int32) < nI (K + 1)) ↔ 99 < K + 1 := nI_ltI (a := 99) (by decide) (by omega)
    have e2 : ((100 : Int32) ≤ nI (K + 1)) ↔ 100 ≤ K + 1 := nI_leI (a := 100) (by decide) (by omega)
    by_cases c : 99 < K + 1
    · rw [if_pos (e1.mpr c), if_pos (e2.mpr c)]
    · rw [if_neg (fun z => c (e1.mp z)), if_neg (fun z => c (e2.mp z))]
  · have i0 : f_X9_isMatter M t = 0 := by rw [i2, if_neg a1]
    have c8 := c_X8_matter_w4 (d := 4) (L := L) M t ⟨fun z => absurd z a1, trivial⟩
    have c9 := c_X9_matter_w4 (d := 1) (L := L) M t ⟨fun z => absurd i0 z, trivial⟩
    have g8 : g_X8_matter_w4 M t = M := by unfold g_X8_matter_w4; rw [if_neg a1]
    have g9 : g_X9_matter_w4 M t = M := by unfold g_X9_matter_w4; rw [i0, if_neg (not_not_intro rfl)]
    rw [g8] at c8
    rw [g9] at c9
    refine ST_q h0 c8 c9 ?_ (fun c _ => rfl) (fun c _ => rfl)
    unfold f_X8_matter_w4 f_X9_matter_w4
    rw [if_neg a1, i0, if_neg (not_not_intro rfl)]
/-! division lists judged -/
def jP (w s : Nat → Int32) (n ec : Nat) (pp : Nat → Nat → Int32) (k : Nat) : Bool := if nI ec ≤ nI k then false else if gos w s n (pp 2 k).toNatClampNeg (pp 3 k) = pp 4 k then true else false
theorem jl_c {M : Nat → Nat → Int32} {s kd w : Nat → Int32} {q : Int32} {n mm : Nat} (h : CS_28 M s kd w q n mm) (k : Nat) : (s_X3_firstWrong_243_19_2 M 0 k).1 = nI k ∧ CS_28 (s_X3_firstWrong_243_19_2 M 0 k).2 s kd w q n mm ∧ ∀ c, (c < 28 ∨ 31 < c) ∧ (c < 268 ∨ 273 < c) → (s_X3_firstWrong_243_19_2 M 0 k).2 c = M c := by
  induction k with
  | zero => exact ⟨rfl, h, fun c _ => rfl⟩
  | succ k ih =>
    have hs : s_X3_firstWrong_243_19_2 M 0 (k + 1) = (e_X3_firstWrong_243_19_2_c2 (s_X3_firstWrong_243_19_2 M 0 k).2 (s_X3_firstWrong_243_19_2 M 0 k).1, e_X3_firstWrong_243_19_2_M (s_X3_firstWrong_243_19_2 M 0 k).2 (s_X3_firstWrong_243_19_2 M 0 k).1) := rfl
    rw [hs]
    clear hs
    generalize s_X3_firstWrong_243_19_2 M 0 k = r at *
    obtain ⟨i1, i2, i3⟩ := ih
    dsimp only
    unfold e_X3_firstWrong_243_19_2_c2 e_X3_firstWrong_243_19_2_M
    obtain ⟨k1, dv, fr, hc⟩ := dv_28 i2 (r.2 247 r.1.toNatClampNeg)
    exact ⟨by rw [i1, nI_1], hc, fun c hc' => (fr c hc').trans (i3 c hc')⟩
theorem ju_c {M : Nat → Nat → Int32} {s kd w : Nat → Int32} {q : Int32} {n mm ec : Nat} {pp : Nat → Nat → Int32} (h : CS_28 M s kd w q n mm) (he : M 243 3 = nI ec ∧ ∀ k, k < ec → M 246 k = pp 2 k ∧ M 247 k = pp 3 k ∧ M 248 k = pp 4 k) (h20 : ec ≤ 20) (ho : ∀ k, k < ec → ∃ o, o < mm ∧ pp 2 k = nI o) : q_X8_judge_0 M ∧ f_X8_judge_0 M = if nI ec ≤ nI (z_fst (jP w s n ec pp) 20) then -1 else nI (z_fst (jP w s n ec pp) 20) := by
  have hm := h.1.2.1
  have jl := jl_c h
  have lt : ∀ k, k ≤ 20 → (nI ec ≤ nI k ↔ ec ≤ k) := fun k hk => nI_leI (by omega) (by omega)
  have e243 : ∀ k, (s_X3_firstWrong_243_19_2 M 0 k).2 243 3 = nI ec := fun k => by rw [(jl k).2.2 243 (by decide)]; exact he.1
  have in_ : ∀ k, k < ec → ∃ A, g_X1_take_28 (s_X3_firstWrong_243_19_2 M 0 k).2 ((s_X3_firstWrong_243_19_2 M 0 k).2 247 (nI k).toNatClampNeg) = A ∧ q_X1_take_28 (s_X3_firstWrong_243_19_2 M 0 k).2 ((s_X3_firstWrong_243_19_2 M 0 k).2 247 (nI k).toNatClampNeg) ∧ (A 246 k = pp 2 k ∧ f_X8_isOutside A (pp 2 k) (A 15 1) = 0) ∧ A 248 k = pp 4 k ∧ A 31 (pp 2 k).toNatClampNeg = gos w s n (pp 2 k).toNatClampNeg (pp 3 k) := fun k hk => by
    obtain ⟨i1, i2, i3⟩ := jl k
    obtain ⟨k1, dv, fr, hc⟩ := dv_28 i2 ((s_X3_firstWrong_243_19_2 M 0 k).2 247 (nI k).toNatClampNeg)
    have e7 : (s_X3_firstWrong_243_19_2 M 0 k).2 247 (nI k).toNatClampNeg = pp 3 k := by rw [nI_clamp (by omega), i3 247 (by decide)]; exact (he.2 k hk).2.1
    obtain ⟨o, ho1, ho2⟩ := ho k hk
    refine ⟨_, rfl, k1, ?_, ?_, ?_⟩
    · refine ⟨by rw [fr 246 (by decide), i3 246 (by decide)]; exact (he.2 k hk).1, ?_⟩
      rw [hc.1.1, ho2]
      exact oi_in ho1 (by omega)
    · rw [fr 248 (by decide), i3 248 (by decide)]; exact (he.2 k hk).2.2
    · have co : (nI o).toNatClampNeg = o := nI_clamp (by omega)
      rw [ho2, co, (dv.2.2 o ho1).2.2.1, e7]
  have tt : ∀ k, k ≤ 20 → t_X3_firstWrong_243_19_2 (s_X3_firstWrong_243_19_2 M 0 k).2 (s_X3_firstWrong_243_19_2 M 0 k).1 = jP w s n ec pp k := fun k hk => by
    unfold t_X3_firstWrong_243_19_2 jP
    rw [e243, (jl k).1]
    by_cases c : nI ec ≤ nI k
    · rw [if_pos c, if_pos c]
    · rw [if_neg c, if_neg c]
      have hk : k < ec := Nat.lt_of_not_le (fun z => c ((lt k hk).mpr z))
      obtain ⟨A, eA, -, ⟨a2, a5⟩, a3, a4⟩ := in_ k hk
      rw [eA, nI_clamp (by omega), a2, a5, if_neg (not_not_intro rfl), a3, a4]
  have t20 : jP w s n ec pp 20 = false := by unfold jP; rw [if_pos ((lt 20 (by decide)).mpr h20)]
  have eN : n_X3_firstWrong_243_19_2 M 0 = z_fst (jP w s n ec pp) 20 := by
    have hN : z_fst (jP w s n ec pp) 20 ≤ 20 := z_fst_le
    have hf : jP w s n ec pp (z_fst (jP w s n ec pp) 20) = false := z_fst_f t20
    have ht : ∀ k, k < z_fst (jP w s n ec pp) 20 → jP w s n ec pp k = true := fun k hk => z_fst_t hk
    generalize z_fst (jP w s n ec pp) 20 = N at *
    exact z_fst_eq hN (fun k hk => by rw [tt k (by omega)]; exact ht k hk) (by rw [tt N hN]; exact hf)
  have hN : z_fst (jP w s n ec pp) 20 ≤ 20 := z_fst_le
  unfold q_X8_judge_0 f_X8_judge_0 q_X3_firstWrong_243_19 f_X3_firstWrong_243_19
  rw [eN]
  generalize z_fst (jP w s n ec pp) 20 = N at *
  have qq : ∀ k, k ≤ 20 → ¬ nI ec ≤ nI k → z_vin (nI k) 20 = true ∧ q_X1_take_28 (s_X3_firstWrong_243_19_2 M 0 k).2 ((s_X3_firstWrong_243_19_2 M 0 k).2 247 (nI k).toNatClampNeg) ∧ z_vin (g_X1_take_28 (s_X3_firstWrong_243_19_2 M 0 k).2 ((s_X3_firstWrong_243_19_2 M 0 k).2 247 (nI k).toNatClampNeg) 246 (nI k).toNatClampNeg) 6 = true := fun k hk c => by
    have hk2 : k < ec := Nat.lt_of_not_le (fun z => c ((lt k hk).mpr z))
    obtain ⟨A, eA, a1, ⟨a2, a5⟩, a3, a4⟩ := in_ k hk2
    obtain ⟨o, ho1, ho2⟩ := ho k hk2
    refine ⟨vi (by omega) (by decide), a1, ?_⟩
    rw [eA, nI_clamp (by omega), a2, ho2]
    exact vi (by omega) (by decide)
  rw [e243, (jl N).1]
  refine ⟨⟨⟨fun k hk => ?_, ?_, fun c => (qq N hN c).1, fun c => (qq N hN c).2.1, fun c _ => (qq N hN c).2.2, trivial⟩, trivial⟩, rfl⟩
  · unfold qi_X3_firstWrong_243_19_2
    rw [e243, (jl k).1]
    exact ⟨fun c => (qq k (by omega) c).1, fun c => (qq k (by omega) c).2.1, fun c _ => (qq k (by omega) c).2.2, trivial⟩
  · rw [tt 20 (Nat.le_refl _)]; exact t20
theorem ju_r {M : Nat → Nat → Int32} {s kd w : Nat → Int32} {q : Int32} {n mm ec : Nat} {pp : Nat → Nat → Int32} (h : RS_279 M s kd w q n mm) (he : M 274 19 = nI ec ∧ ∀ k, k < ec → M 286 (3 * k) = pp 2 k ∧ M 286 (3 * k + 1) = pp 3 k ∧ M 286 (3 * k + 2) = pp 4 k) (h20 : ec ≤ 20) (ho : ∀ k, k < ec → ∃ o, o < mm ∧ pp 2 k = nI o) : q_X9_judge_274 M ∧ f_X9_judge_274 M = if nI ec ≤ nI (z_fst (jP w s n ec pp) 20) then -1 else nI (z_fst (jP w s n ec pp) 20) := by
  have hm := h.1.2.2
  have jl : ∀ k, s_X9_judge_274_2 M 0 k = nI k := by
    intro k
    induction k with
    | zero => rfl
    | succ k ih =>
      have hs : s_X9_judge_274_2 M 0 (k + 1) = e_X9_judge_274_2_c1 M (s_X9_judge_274_2 M 0 k) := rfl
      rw [hs, ih]
      unfold e_X9_judge_274_2_c1
      rw [nI_1]
  have lt : ∀ k, k ≤ 20 → (nI ec ≤ nI k ↔ ec ≤ k) := fun k hk => nI_leI (by omega) (by omega)
  have go : ∀ k, k < ec → q_X9_goesOf_274_279 M (pp 2 k) (pp 3 k) ∧ f_X9_goesOf_274_279 M (pp 2 k) (pp 3 k) = gos w s n (pp 2 k).toNatClampNeg (pp 3 k) := fun k hk => by
    obtain ⟨o, ho1, ho2⟩ := ho k hk
    rw [ho2, nI_clamp (by omega)]
    exact go_279 h ho1 (pp 3 k)
  have ix : ∀ k, k < ec → M 286 ((3 : Int32) * nI k).toNatClampNeg = pp 2 k ∧ M 286 ((3 : Int32) * nI k + 1).toNatClampNeg = pp 3 k ∧ M 286 ((3 : Int32) * nI k + 2).toNatClampNeg = pp 4 k := fun k hk => by
    obtain ⟨m0, m1, m2⟩ := m3x (k := k) (by omega)
    rw [m0, m1, m2]
    exact he.2 k hk
  have tt : ∀ k, k ≤ 20 → t_X9_judge_274_2 M (s_X9_judge_274_2 M 0 k) = jP w s n ec pp k := fun k hk => by
    unfold t_X9_judge_274_2 jP
    rw [he.1, jl]
    by_cases c : nI ec ≤ nI k
    · rw [if_pos c, if_pos c]
    · rw [if_neg c, if_neg c]
      have hk : k < ec := Nat.lt_of_not_le (fun z => c ((lt k hk).mpr z))
      rw [(ix k hk).1, (ix k hk).2.1, (ix k hk).2.2, (go k hk).2]
  have t20 : jP w s n ec pp 20 = false := by unfold jP; rw [if_pos ((lt 20 (by decide)).mpr h20)]
  have eN : n_X9_judge_274_2 M 0 = z_fst (jP w s n ec pp) 20 := by
    have hN : z_fst (jP w s n ec pp) 20 ≤ 20 := z_fst_le
    have hf : jP w s n ec pp (z_fst (jP w s n ec pp) 20) = false := z_fst_f t20
    have ht : ∀ k, k < z_fst (jP w s n ec pp) 20 → jP w s n ec pp k = true := fun k hk => z_fst_t hk
    generalize z_fst (jP w s n ec pp) 20 = N at *
    exact z_fst_eq hN (fun k hk => by rw [tt k (by omega)]; exact ht k hk) (by rw [tt N hN]; exact hf)
  have hN : z_fst (jP w s n ec pp) 20 ≤ 20 := z_fst_le
  unfold q_X9_judge_274 f_X9_judge_274
  rw [eN]
  generalize z_fst (jP w s n ec pp) 20 = N at *
  have qq : ∀ k, k ≤ 20 → ¬ nI ec ≤ nI k → z_vin ((3 : Int32) * nI k) 60 = true ∧ z_vin ((3 : Int32) * nI k + 1) 60 = true ∧ q_X9_goesOf_274_279 M (M 286 ((3 : Int32) * nI k).toNatClampNeg) (M 286 ((3 : Int32) * nI k + 1).toNatClampNeg) ∧ z_vin ((3 : Int32) * nI k + 2) 60 = true := fun k hk c => by
    have hk2 : k < ec := Nat.lt_of_not_le (fun z => c ((lt k hk).mpr z))
    have e : (3 : Int32) * nI k = nI (3 * k) := nI_mul 3 k
    have e2 : nI (3 * k) + 2 = nI (3 * k + 2) := nI_add (3 * k) 2
    rw [(ix k hk2).1, (ix k hk2).2.1, e, nI_1, e2]
    exact ⟨vi (by omega) (by decide), vi (by omega) (by decide), (go k hk2).1, vi (by omega) (by decide)⟩
  rw [he.1, jl N]
  refine ⟨⟨fun k hk => ?_, ?_, fun c => (qq N hN c).1, fun c => (qq N hN c).2.1, fun c => (qq N hN c).2.2.1, fun c => (qq N hN c).2.2.2, trivial⟩, rfl⟩
  · unfold qi_X9_judge_274_2
    rw [he.1, jl]
    exact ⟨fun c => (qq k (by omega) c).1, fun c => (qq k (by omega) c).2.1, fun c => (qq k (by omega) c).2.2.1, fun c => (qq k (by omega) c).2.2.2, trivial⟩
  · rw [tt 20 (Nat.le_refl _)]; exact t20
theorem s_judge {bd : Nat} {M : Nat → Nat → Int32} {L : Nat → Nat → Int64} (h : RR (bd + 20) M L) : ST bd 98 175 [] M L := by
  have h0 := h
  obtain ⟨s, kd, sd, w, q, n, mm, cnt, e, P, ns, kp, I, nj, sj, seed, len, tx, fl, sc, ec, pp, h1, h2, h3⟩ := h
  have hl : ec ≤ 20 := h3.2.2.2.2.2.1
  obtain ⟨p1, p2⟩ := ju_c h1.1 h1.2.2.2.2.2.2.2.2 hl h3.2.2.2.2.2.2.1
  have fr : ∀ c, (c < 28 ∨ 31 < c) ∧ (c < 268 ∨ 273 < c) → g_X8_judge_0 M c = M c := fun c hc => fr_g_X8_judge_0 M c (by omega) (by omega) (by omega) (by omega) (by omega) (by omega) (by omega)
  have c8 := c_X8_judge_0 (d := 5) (L := L) M p1
  have h2' := Rr_c (M' := g_X8_judge_0 M) h2 (fun c hc => fr c (by omega))
  generalize g_X8_judge_0 M = N at *
  obtain ⟨r1, r2⟩ := ju_r h2'.1 h2'.2.2.2.2.2.2.2.2 hl h3.2.2.2.2.2.2.1
  exact ST_q h0 c8 (c_X9_judge_274 (d := 5) (L := L) N r1) (by rw [p2, r2]) (fun c hc => fr c (by omega)) (fun c _ => rfl)
