/-! AGENDAS: the reference -/
theorem gl_app : ∀ (l : List Nat) (x j : Nat), j < l.length → gl (l ++ [x]) j = gl l j
  | [], _, _, h => absurd h (Nat.not_lt_zero _)
  | _ :: _, _, 0, _ => rfl
  | _ :: l, x, j + 1, h => gl_app l x j (Nat.lt_of_succ_lt_succ h)
theorem gl_apl : ∀ (l : List Nat) (x : Nat), gl (l ++ [x]) l.length = x
  | [], _ => rfl
  | _ :: l, x => gl_apl l x
theorem ascl_s (st k : Nat) : ascl st (k + 1) = if st.testBit k = true then ascl st k ++ [k] else ascl st k := by
  unfold ascl
  rw [List.range_succ, List.filter_append]
  by_cases c : st.testBit k = true
  · rw [if_pos c, List.filter_cons_of_pos c]; rfl
  · rw [if_neg c, List.filter_cons_of_neg c]; exact List.append_nil _
theorem rk_r (M : Nat → Nat → Int32) {st : Nat} (hst : st < 256) : ∀ k, k ≤ 8 → (∀ i, i < k → qi_X9_ranks_274_4 (s_X9_ranks_274_4 M (nI st) 0 i).2 (nI st) (nI i) (s_X9_ranks_274_4 M (nI st) 0 i).1) ∧ (ascl st k).length ≤ k ∧ (s_X9_ranks_274_4 M (nI st) 0 k).1 = nI (ascl st k).length ∧ ∀ j, j < (ascl st k).length → (s_X9_ranks_274_4 M (nI st) 0 k).2 292 j = nI (gl (ascl st k) j) := by
  intro k
  induction k with
  | zero => exact fun _ => ⟨fun i hi => absurd hi (by omega), Nat.le_refl _, rfl, fun j hj => absurd hj (Nat.not_lt_zero _)⟩
  | succ k ih =>
    intro hk
    obtain ⟨i0, i1, i2, i3⟩ := ih (by omega)
    have hs : s_X9_ranks_274_4 M (nI st) 0 (k + 1) = (e_X9_ranks_274_4_c2 (s_X9_ranks_274_4 M (nI st) 0 k).2 (nI st) (nI k) (s_X9_ranks_274_4 M (nI st) 0 k).1, e_X9_ranks_274_4_M (s_X9_ranks_274_4 M (nI st) 0 k).2 (nI st) (nI k) (s_X9_ranks_274_4 M (nI st) 0 k).1) := rfl
    have hq : qi_X9_ranks_274_4 (s_X9_ranks_274_4 M (nI st) 0 k).2 (nI st) (nI k) (s_X9_ranks_274_4 M (nI st) 0 k).1 := ⟨fun _ => by rw [i2]; exact vi (by omega) (by decide), trivial⟩
    refine ⟨fun i hi => ?_, ?_⟩
    · by_cases c : i = k
      · subst c; exact hq
      · exact i0 i (by omega)
    · rw [hs]
      clear hs hq i0
      generalize s_X9_ranks_274_4 M (nI st) 0 k = r at *
      unfold e_X9_ranks_274_4_c2 e_X9_ranks_274_4_M
      rw [hasr_tb _ (by omega) (by omega), ascl_s, i2]
      by_cases c : st.testBit k = true
      · rw [if_pos c, if_pos c, if_neg (by decide), if_neg (by decide), List.length_append, nI_clamp (by omega), nI_1]
        refine ⟨by simp only [List.length_singleton]; omega, rfl, fun j hj => ?_⟩
        dsimp only
        rw [z_row_eq, ud_if]
        by_cases cj : j = (ascl st k).length
        · rw [if_pos cj, cj, gl_apl]
        · rw [if_neg cj]
          simp only [List.length_singleton] at hj
          rw [gl_app _ _ _ (by omega)]
          exact i3 j (by omega)
      · rw [if_neg c, if_neg c, if_pos rfl, if_pos rfl]
        exact ⟨by omega, rfl, i3⟩
theorem ag_64 {A : Nat → Nat → Int32} {s kd w0 : Nat → Int32} {q : Int32} {n mm : Nat} (h : RS_280 A s kd w0 q n mm) {N : Nat} {l : Nat → Nat} (hN : N < 6) (hr : ∀ j, j < N → A 292 j = nI (l j)) (a w v3 v4 v5 : Int32) : ∀ k, k ≤ N → (∀ i, i < k → qi_X9_agenda_274_64 (s_X9_agenda_274_64 A a w v3 v4 v5 0 0 i).2.2 a w v3 v4 v5 (nI i) (s_X9_agenda_274_64 A a w v3 v4 v5 0 0 i).1 (s_X9_agenda_274_64 A a w v3 v4 v5 0 0 i).2.1) ∧ (s_X9_agenda_274_64 A a w v3 v4 v5 0 0 k).1 = (fs kd w0 q n mm l s k).2.1 ∧ (s_X9_agenda_274_64 A a w v3 v4 v5 0 0 k).2.1 = (fs kd w0 q n mm l s k).1 ∧ RS_280 (s_X9_agenda_274_64 A a w v3 v4 v5 0 0 k).2.2 (fs kd w0 q n mm l s k).2.2 kd w0 q n mm := by
  intro k
  induction k with
  | zero => exact fun _ => ⟨fun i hi => absurd hi (by omega), rfl, rfl, h⟩
  | succ k ih =>
    intro hk
    obtain ⟨i0, i1, i2, i3⟩ := ih (by omega)
    have f6 := fr_s_X9_agenda_274_64 A a w v3 v4 v5 0 0 k 292 (by decide) (by decide)
    have hs : s_X9_agenda_274_64 A a w v3 v4 v5 0 0 (k + 1) = (e_X9_agenda_274_64_c7 (s_X9_agenda_274_64 A a w v3 v4 v5 0 0 k).2.2 a w v3 v4 v5 (nI k) (s_X9_agenda_274_64 A a w v3 v4 v5 0 0 k).1 (s_X9_agenda_274_64 A a w v3 v4 v5 0 0 k).2.1, e_X9_agenda_274_64_c8 (s_X9_agenda_274_64 A a w v3 v4 v5 0 0 k).2.2 a w v3 v4 v5 (nI k) (s_X9_agenda_274_64 A a w v3 v4 v5 0 0 k).1 (s_X9_agenda_274_64 A a w v3 v4 v5 0 0 k).2.1, e_X9_agenda_274_64_M (s_X9_agenda_274_64 A a w v3 v4 v5 0 0 k).2.2 a w v3 v4 v5 (nI k) (s_X9_agenda_274_64 A a w v3 v4 v5 0 0 k).1 (s_X9_agenda_274_64 A a w v3 v4 v5 0 0 k).2.1) := rfl
    have r6 : (s_X9_agenda_274_64 A a w v3 v4 v5 0 0 k).2.2 292 (nI k).toNatClampNeg = nI (l k) := by rw [nI_clamp (by omega), f6]; exact hr k (by omega)
    obtain ⟨p1, p2, p3⟩ := pr_280 i3 (nI (l k))
    have hq : qi_X9_agenda_274_64 (s_X9_agenda_274_64 A a w v3 v4 v5 0 0 k).2.2 a w v3 v4 v5 (nI k) (s_X9_agenda_274_64 A a w v3 v4 v5 0 0 k).1 (s_X9_agenda_274_64 A a w v3 v4 v5 0 0 k).2.1 := by
      unfold qi_X9_agenda_274_64
      rw [r6]
      exact ⟨vi (by omega) (by decide), p1, trivial⟩
    refine ⟨fun i hi => ?_, ?_⟩
    · by_cases c : i = k
      · subst c; exact hq
      · exact i0 i (by omega)
    · rw [hs]
      clear hs hq i0 f6
      generalize s_X9_agenda_274_64 A a w v3 v4 v5 0 0 k = r at *
      unfold e_X9_agenda_274_64_c7 e_X9_agenda_274_64_c8 e_X9_agenda_274_64_M
      have g6 : g_X9_puts_274_280 r.2.2 (nI (l k)) 292 = r.2.2 292 := fr_g_X9_puts_274_280 _ _ 292 (by decide) (by decide)
      rw [r6, p2, g6, r6, fs_s, i1, i2]
      refine ⟨?_, ?_, p3⟩
      · by_cases c : 0 < mg kd w0 (fs kd w0 q n mm l s k).2.2 n mm (nI (l k))
        · rw [if_pos c, if_pos c, if_neg (by decide)]
        · rw [if_neg c, if_neg c, if_pos rfl]; exact Int32.add_zero _
      · exact congrArg (fun z => z + nI (l k) + 1) (Int32.mul_comm 10 _)
theorem okS_h {st : Nat} (h : okS st = true) : (ascl st 8).length = pc st ∧ ascl st 8 = unr (pc st) st 0 ∧ dsc (pc st) (unr (pc st) st (fct (pc st) - 1)) = true ∧ ∀ K, K < fct (pc st) - 1 → chkk (pc st) (unr (pc st) st K) (unr (pc st) st (K + 1)) (pvt (unr (pc st) st K) (pc st)) (scc (unr (pc st) st K) (pc st) (pvt (unr (pc st) st K) (pc st))) = true := by
  unfold okS at h
  rw [Bool.and_eq_true, Bool.and_eq_true, Bool.and_eq_true, decide_eq_true_eq, decide_eq_true_eq, List.all_eq_true] at h
  exact ⟨h.1, h.2.1, h.2.2.1, fun K hK => h.2.2.2 K (List.mem_range.mpr hK)⟩
theorem no_k {M : Nat → Nat → Int32} {l l' : List Nat} {n k i : Nat} (hn : n ≤ 8) (hr : ∀ j, j < n → M 292 j = nI (gl l j)) (h : chkk n l l' k i = true) : q_X9_nextOrder_274 M (nI n) ∧ f_X9_nextOrder_274 M (nI n) = 1 ∧ ∀ j, j < n → g_X9_nextOrder_274 M (nI n) 292 j = nI (gl l' j) := by
  unfold chkk at h
  simp only [Bool.and_eq_true, decide_eq_true_eq, List.all_eq_true, List.mem_range, Bool.or_eq_true, Bool.not_eq_true', decide_eq_false_iff_not, Bool.and_eq_false_iff] at h
  obtain ⟨a1, a2, a3, a4, a5, a6⟩ := h
  obtain ⟨r1, r2, r3⟩ := no_step (M := M) (l := gl l) hn hr (fun j hj => (a6 j hj).1) a1 (fun j h1 h2 => by have := (a6 j (by omega)).2.1; omega) a4 ⟨a2, a3⟩ a5 (fun j h1 h2 => by have := (a6 j h2).2.2.1; omega)
  exact ⟨r1, r2, fun j hj => by rw [r3 j hj, (a6 j hj).2.2.2]⟩
theorem no_d {M : Nat → Nat → Int32} {l : List Nat} {n : Nat} (hn : n ≤ 8) (hr : ∀ j, j < n → M 292 j = nI (gl l j)) (h : dsc n l = true) : q_X9_nextOrder_274 M (nI n) ∧ f_X9_nextOrder_274 M (nI n) = 0 ∧ g_X9_nextOrder_274 M (nI n) = M := by
  unfold dsc at h
  simp only [Bool.and_eq_true, decide_eq_true_eq, List.all_eq_true, List.mem_range, Bool.or_eq_true, Bool.not_eq_true', decide_eq_false_iff_not] at h
  exact no_end (l := gl l) hn hr (fun j hj => (h j hj).1) (fun j hj => by have := (h j (by omega)).2; omega)
