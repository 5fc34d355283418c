/-! THE OTHER DEEDS: straps let out, let go, given; a session's end -/
theorem i_one {x : Int32} (h : 1 ≤ x) : ∃ j : Nat, j < 2147483648 ∧ 1 ≤ j ∧ x = nI j := by
  have h0 : ¬ x < 0 := fun z => absurd (Int32.lt_of_le_of_lt h z) (by decide)
  obtain ⟨j, hj, rfl⟩ := nI_of h0
  exact ⟨j, hj, (nI_leI (a := 1) (by decide) hj).mp h, rfl⟩
theorem nI_lt1 {j : Nat} (hj : j < 2147483648) : ((1 : Int32) < nI j) ↔ 1 < j := nI_ltI (a := 1) (by decide) hj
theorem mx1 {x : Int32} (h : 1 ≤ x) : (if 1 < x - 1 then x - 1 else 1) = if 1 < x then x - 1 else x := by
  obtain ⟨j, hj, h1, rfl⟩ := i_one h
  obtain ⟨i, rfl⟩ : ∃ i, j = i + 1 := ⟨j - 1, by omega⟩
  rw [nI_pred]
  by_cases c : 1 < i
  · rw [if_pos ((nI_lt1 (by omega)).mpr c), if_pos ((nI_lt1 hj).mpr (by omega))]
  · rw [if_neg (fun z => c ((nI_lt1 (by omega)).mp z))]
    by_cases c2 : 1 < i + 1
    · rw [if_pos ((nI_lt1 hj).mpr c2)]
      have : i = 1 := by omega
      subst this
      rfl
    · rw [if_neg (fun z => c2 ((nI_lt1 hj).mp z))]
      have : i = 0 := by omega
      subst this
      rfl
theorem wg1 {x : Int32} (h : 1 < x) : 1 ≤ x - 1 := by
  obtain ⟨j, hj, h1, rfl⟩ := i_one (Int32.le_of_lt h)
  obtain ⟨i, rfl⟩ : ∃ i, j = i + 1 := ⟨j - 1, by omega⟩
  rw [nI_pred]
  have := (nI_lt1 hj).mp h
  exact (nI_leI (a := 1) (by decide) (by omega)).mpr (by omega)
theorem ud_cong {f g : Nat → Int32} {N k : Nat} {x : Int32} (h : ∀ j, j < N → f j = g j) : ∀ j, j < N → upd f k x j = upd g k x j := by
  intro j hj
  rw [ud_if, ud_if, h j hj]
def lo (s : Nat → Int32) (k : Nat) : Nat → Int32 := upd (upd s (47 + k) (s (47 + k) - 1)) (71 + k) (if s (47 + k) - 1 = 0 then 2 else 0)
def lg (s : Nat → Int32) (k : Nat) : Nat → Int32 := upd s (71 + k) 2
def bt (s : Nat → Int32) (n : Nat) (m t b x : Int32) : Nat → Int32 := upd (upd (upd (upd (upd (upd (upd s (11 + n) m) (23 + n) t) (35 + n) b) (47 + n) x) (59 + n) 0) (71 + n) 0) 10 (nI (n + 1))
def ss (kd s : Nat → Int32) (n mm : Nat) : Nat → Int32 := fun j => if j = 3 then s 3 + 1 else if 4 ≤ j ∧ j < 4 + mm then (if kd (j - 4) = 1 ∧ 1 < s j then s j - 1 else s j) else if 59 ≤ j ∧ j < 59 + n then s j / 2 else s j
theorem wf_mod {s s' : Nat → Int32} {n mm : Nat} (h : wf s n mm) (hm : mm ≤ 6) (e : ∀ j, j < 47 → s' j = s j) (g : ∀ k, k < n → g1 s' k = g1 s k) : wf s' n mm := by
  obtain ⟨h1, h2, h3, h4, h5, h6, h7⟩ := h
  refine ⟨(e 10 (by decide)).trans h1, h2, ?_, ?_, ?_, ?_, (e 2 (by decide)).trans (h7.trans (sm_congr (fun k hk => (g k hk).symm)))⟩
  · intro k hk; rw [e _ (by omega)]; exact h3 k hk
  · intro k hk; rw [e _ (by omega)]; exact h4 k hk
  · intro k hk; rw [e _ (by omega)]; exact h5 k hk
  · intro k hk; rw [e _ (by omega)]; exact h6 k hk
theorem wf_lo {s : Nat → Int32} {n mm k : Nat} (h : wf s n mm) (hm : mm ≤ 6) (hk : k < n) (h0 : s (71 + k) = 0) : wf (lo s k) n mm := by
  have hn := h.2.1
  refine wf_mod h hm (fun j hj => ?_) (fun j hj => ?_)
  · unfold lo
    rw [ud_ne (by omega), ud_ne (by omega)]
  · unfold g1 lo
    rw [ud_if]
    by_cases c : 71 + j = 71 + k
    · rw [if_pos c, c, h0]
      by_cases c2 : s (47 + k) - 1 = 0
      · rw [if_pos c2]; decide
      · rw [if_neg c2]
    · rw [if_neg c, ud_ne (by omega)]
theorem wf_lg {s : Nat → Int32} {n mm k : Nat} (h : wf s n mm) (hm : mm ≤ 6) (hk : k < n) (h0 : s (71 + k) = 0) : wf (lg s k) n mm := by
  have hn := h.2.1
  refine wf_mod h hm (fun j hj => ?_) (fun j hj => ?_)
  · unfold lg
    rw [ud_ne (by omega)]
  · unfold g1 lg
    rw [ud_if]
    by_cases c : 71 + j = 71 + k
    · rw [if_pos c, c, h0]; decide
    · rw [if_neg c]
theorem wf_ss {kd s : Nat → Int32} {n mm : Nat} (h : wf s n mm) (hm : mm ≤ 6) : wf (ss kd s n mm) n mm := by
  obtain ⟨h1, h2, h3, h4, h5, h6, h7⟩ := h
  have e : ∀ j, 9 < j → j < 59 → ss kd s n mm j = s j := by
    intro j a b
    unfold ss
    rw [if_neg (by omega), if_neg (by omega), if_neg (by omega)]
  refine ⟨(e 10 (by decide) (by decide)).trans h1, h2, ?_, ?_, ?_, ?_, ?_⟩
  · intro k hk; rw [e _ (by omega) (by omega)]; exact h3 k hk
  · intro k hk; rw [e _ (by omega) (by omega)]; exact h4 k hk
  · intro k hk; rw [e _ (by omega) (by omega)]; exact h5 k hk
  · intro k hk
    unfold ss
    rw [if_neg (by omega), if_pos (by omega)]
    by_cases c : kd (4 + k - 4) = 1 ∧ 1 < s (4 + k)
    · rw [if_pos c]; exact wg1 c.2
    · rw [if_neg c]; exact h6 k hk
  · have e2 : ss kd s n mm 2 = s 2 := by
      unfold ss
      rw [if_neg (by omega), if_neg (by omega), if_neg (by omega)]
    rw [e2, h7]
    refine sm_congr (fun k hk => ?_)
    unfold g1 ss
    rw [if_neg (show ¬ 71 + k = 3 by omega), if_neg (show ¬ (4 ≤ 71 + k ∧ 71 + k < 4 + mm) by omega), if_neg (show ¬ (59 ≤ 71 + k ∧ 71 + k < 59 + n) by omega)]
theorem wf_bt {s : Nat → Int32} {n mm m t : Nat} {b x : Int32} (h : wf s n mm) (hm : mm ≤ 6) (hn : n < 12) (hmm : m < mm) (ht : t < 8) (hb : b = 0 ∨ b = 1) : wf (bt s n (nI m) (nI t) b x) (n + 1) mm := by
  obtain ⟨h1, h2, h3, h4, h5, h6, h7⟩ := h
  unfold bt
  refine ⟨ud_eq, hn, ?_, ?_, ?_, ?_, ?_⟩
  · intro k hk
    rw [ud_ne (by omega), ud_ne (by omega), ud_ne (by omega), ud_ne (by omega), ud_ne (by omega), ud_ne (by omega), ud_if]
    by_cases c : 11 + k = 11 + n
    · rw [if_pos c]; exact ⟨m, hmm, rfl⟩
    · rw [if_neg c]; exact h3 k (by omega)
  · intro k hk
    rw [ud_ne (by omega), ud_ne (by omega), ud_ne (by omega), ud_ne (by omega), ud_ne (by omega), ud_if]
    by_cases c : 23 + k = 23 + n
    · rw [if_pos c]; exact ⟨t, ht, rfl⟩
    · rw [if_neg c, ud_ne (by omega)]; exact h4 k (by omega)
  · intro k hk
    rw [ud_ne (by omega), ud_ne (by omega), ud_ne (by omega), ud_ne (by omega), ud_if]
    by_cases c : 35 + k = 35 + n
    · rw [if_pos c]; exact hb
    · rw [if_neg c, ud_ne (by omega), ud_ne (by omega)]; exact h5 k (by omega)
  · intro k hk
    rw [ud_ne (by omega), ud_ne (by omega), ud_ne (by omega), ud_ne (by omega), ud_ne (by omega), ud_ne (by omega), ud_ne (by omega)]
    exact h6 k hk
  · rw [ud_ne (by omega), ud_ne (by omega), ud_ne (by omega), ud_ne (by omega), ud_ne (by omega), ud_ne (by omega), ud_ne (by omega), h7, sm_s]
    have e0 : g1 (upd (upd (upd (upd (upd (upd (upd s (11 + n) (nI m)) (23 + n) (nI t)) (35 + n) b) (47 + n) x) (59 + n) 0) (71 + n) 0) 10 (nI (n + 1))) n = 0 := by
      unfold g1
      rw [ud_ne (by omega), ud_eq]; decide
    rw [e0, Int32.add_zero]
    refine sm_congr (fun k hk => ?_)
    unfold g1
    rw [ud_ne (by omega), ud_ne (by omega), ud_ne (by omega), ud_ne (by omega), ud_ne (by omega), ud_ne (by omega), ud_ne (by omega)]
/-! the class -/
theorem CS_mod {M G : Nat → Nat → Int32} {s s' kd w : Nat → Int32} {q : Int32} {n mm : Nat} (h : CS_28 M s kd w q n mm) (g1 : ∀ c, c < 28 → c ≠ 25 → c ≠ 27 → G c = M c) (g5 : ∀ j, j < n → G 25 j = s' (47 + j)) (g7 : ∀ j, j < n → G 27 j = s' (71 + j)) (e : ∀ j, j < 71 → ¬ (47 ≤ j ∧ j < 59) → s' j = s j) (hw' : wf s' n mm) : CS_28 G s' kd w q n mm := by
  obtain ⟨⟨h1, h2, h3⟩, hk, ⟨⟨r1, r2, r3, r4, r5⟩, r6, r7⟩, hw⟩ := h
  have hn := hw.2.1
  refine ⟨⟨?_, h2, ?_⟩, ?_, ⟨⟨?_, ?_, ?_, ?_, ?_⟩, ?_, ?_⟩, hw'⟩
  · rw [g1 15 (by decide) (by decide) (by decide)]; exact h1
  · rw [g1 15 (by decide) (by decide) (by decide)]; exact h3
  · rw [g1 16 (by decide) (by decide) (by decide), g1 18 (by decide) (by decide) (by decide)]; exact hk
  · rw [g1 20 (by decide) (by decide) (by decide), r1, e _ (by omega) (by omega)]
  · rw [g1 20 (by decide) (by decide) (by decide), r2, e _ (by omega) (by omega)]
  · rw [g1 20 (by decide) (by decide) (by decide), r3, e _ (by omega) (by omega)]
  · rw [g1 20 (by decide) (by decide) (by decide), r4, e _ (by omega) (by omega)]
  · rw [g1 20 (by decide) (by decide) (by decide), r5, e _ (by omega) (by omega)]
  · intro k hk'
    rw [g1 21 (by decide) (by decide) (by decide), r6 k hk', e _ (by omega) (by omega)]
  · intro k hk'
    obtain ⟨a1, a2, a3, a4, a5, a6⟩ := r7 k hk'
    refine ⟨?_, ?_, ?_, g5 k hk', ?_, g7 k hk'⟩
    · rw [g1 22 (by decide) (by decide) (by decide), a1, e _ (by omega) (by omega)]
    · rw [g1 23 (by decide) (by decide) (by decide), a2, e _ (by omega) (by omega)]
    · rw [g1 24 (by decide) (by decide) (by decide), a3, e _ (by omega) (by omega)]
    · rw [g1 26 (by decide) (by decide) (by decide), a5, e _ (by omega) (by omega)]
theorem lz_28 {M : Nat → Nat → Int32} {s kd w : Nat → Int32} {q : Int32} {n mm : Nat} (h : CS_28 M s kd w q n mm) {k : Nat} (hk : k < n) (h0 : s (71 + k) = 0) : q_X0_loosen_20 M (nI k) ∧ g_X0_loosen_20 M (nI k) 25 k = s (47 + k) - 1 ∧ CS_28 (g_X0_loosen_20 M (nI k)) (lo s k) kd w q n mm := by
  have hn := h.2.2.2.2.1
  have ck : (nI k).toNatClampNeg = k := nI_clamp (by omega)
  have a4 : M 25 k = s (47 + k) := (h.2.2.1.2.2 k hk).2.2.2.1
  have e5 : g_X0_loosen_20 M (nI k) 25 = upd (M 25) k (s (47 + k) - 1) := by
    unfold g_X0_loosen_20
    rw [ck, a4, ud_eq]
    by_cases c : s (47 + k) - 1 = 0
    · rw [if_neg (not_not_intro c), z_row_ne (by decide), z_row_eq]
    · rw [if_pos c, z_row_eq]
  have e7 : g_X0_loosen_20 M (nI k) 27 = if s (47 + k) - 1 = 0 then upd (M 27) k 2 else M 27 := by
    unfold g_X0_loosen_20
    rw [ck, a4, ud_eq]
    by_cases c : s (47 + k) - 1 = 0
    · rw [if_neg (not_not_intro c), if_pos c, z_row_eq]
    · rw [if_pos c, if_neg c, z_row_ne (by decide)]
  refine ⟨⟨vi (by omega) (by decide), trivial⟩, by rw [e5, ud_eq], CS_mod h (fun c x1 x2 x3 => ?_) (fun j hj => ?_) (fun j hj => ?_) (fun j x1 x2 => ?_) (wf_lo h.2.2.2 h.1.2.1 hk h0)⟩
  · unfold g_X0_loosen_20
    split
    · rw [z_row_ne x2]
    · rw [z_row_ne x3, z_row_ne x2]
  · unfold lo
    rw [e5, ud_ne (show ¬ 47 + j = 71 + k by omega), ud_if, ud_if, (h.2.2.1.2.2 j hj).2.2.2.1]
    by_cases c : j = k
    · rw [if_pos c, if_pos (by omega)]
    · rw [if_neg c, if_neg (by omega)]
  · unfold lo
    rw [e7, ud_if]
    have a6 := (h.2.2.1.2.2 j hj).2.2.2.2.2
    by_cases c : j = k
    · subst c
      rw [if_pos rfl]
      by_cases c2 : s (47 + j) - 1 = 0
      · rw [if_pos c2, if_pos c2, ud_eq]
      · rw [if_neg c2, if_neg c2, a6, h0]
    · rw [if_neg (show ¬ 71 + j = 71 + k by omega), ud_ne (by omega)]
      by_cases c2 : s (47 + k) - 1 = 0
      · rw [if_pos c2, ud_ne c, a6]
      · rw [if_neg c2, a6]
  · unfold lo
    rw [ud_ne (by omega), ud_ne (by omega)]
theorem lgo_28 {M : Nat → Nat → Int32} {s kd w : Nat → Int32} {q : Int32} {n mm : Nat} (h : CS_28 M s kd w q n mm) {k : Nat} (hk : k < n) (h0 : s (71 + k) = 0) : CS_28 (z_row M 27 (upd (M 27) k 2)) (lg s k) kd w q n mm := by
  refine CS_mod h (fun c x1 x2 x3 => z_row_ne x3) (fun j hj => ?_) (fun j hj => ?_) (fun j x1 x2 => ?_) (wf_lg h.2.2.2 h.1.2.1 hk h0)
  · unfold lg
    have hn := h.2.2.2.2.1
    rw [z_row_ne (by decide), ud_ne (by omega)]
    exact (h.2.2.1.2.2 j hj).2.2.2.1
  · unfold lg
    rw [z_row_eq, ud_if, ud_if, (h.2.2.1.2.2 j hj).2.2.2.2.2]
    by_cases c : j = k
    · rw [if_pos c, if_pos (by omega)]
    · rw [if_neg c, if_neg (by omega)]
  · unfold lg
    rw [ud_ne (by omega)]
theorem bu_28 {M : Nat → Nat → Int32} {s kd w : Nat → Int32} {q : Int32} {n mm : Nat} (h : CS_28 M s kd w q n mm) (hn : n < 12) {m t : Nat} (hm : m < mm) (ht : t < 8) {b : Int32} (hb : b = 0 ∨ b = 1) (x : Int32) : q_X0_button_20 M (nI m) (nI t) b x ∧ g_X0_button_20 M (nI m) (nI t) b x 20 1 = nI (n + 1) ∧ CS_28 (g_X0_button_20 M (nI m) (nI t) b x) (bt s n (nI m) (nI t) b x) kd w q (n + 1) mm := by
  obtain ⟨⟨h1, h2, h3⟩, hk, ⟨⟨r1, r2, r3, r4, r5⟩, r6, r7⟩, hw⟩ := h
  have e1 : M 20 1 = nI n := r1.trans hw.1
  have c1 : (M 20 1).toNatClampNeg = n := cn_n e1 (by omega)
  have lt : M 20 1 < 12 := by rw [e1]; exact nI_lt (b := 12) hn (by decide)
  have hw2 := wf_bt (x := x) hw h2 hn hm ht hb
  refine ⟨⟨fun _ => by rw [e1]; exact vi hn (by decide), trivial⟩, ?_⟩
  unfold g_X0_button_20
  rw [if_pos lt, c1, e1, nI_1]
  refine ⟨by rw [z_row_eq, ud_eq], ⟨?_, h2, ?_⟩, ?_, ⟨⟨?_, ?_, ?_, ?_, ?_⟩, ?_, ?_⟩, hw2⟩
  · exact h1
  · exact h3
  · exact hk
  · rw [z_row_eq, ud_eq]; unfold bt; rw [ud_eq]
  · rw [z_row_eq, ud_ne (by decide), r2]; unfold bt; rw [ud_ne (by omega), ud_ne (by omega), ud_ne (by omega), ud_ne (by omega), ud_ne (by omega), ud_ne (by omega), ud_ne (by omega)]
  · rw [z_row_eq, ud_ne (by decide), r3]; unfold bt; rw [ud_ne (by omega), ud_ne (by omega), ud_ne (by omega), ud_ne (by omega), ud_ne (by omega), ud_ne (by omega), ud_ne (by omega)]
  · rw [z_row_eq, ud_ne (by decide), r4]; unfold bt; rw [ud_ne (by omega), ud_ne (by omega), ud_ne (by omega), ud_ne (by omega), ud_ne (by omega), ud_ne (by omega), ud_ne (by omega)]
  · rw [z_row_eq, ud_ne (by decide), r5]; unfold bt; rw [ud_ne (by omega), ud_ne (by omega), ud_ne (by omega), ud_ne (by omega), ud_ne (by omega), ud_ne (by omega), ud_ne (by omega)]
  · intro k hk'
    show M 21 k = _
    rw [r6 k hk']; unfold bt; rw [ud_ne (by omega), ud_ne (by omega), ud_ne (by omega), ud_ne (by omega), ud_ne (by omega), ud_ne (by omega), ud_ne (by omega)]
  · intro k hk'
    show upd (M 22) n (nI m) k = _ ∧ upd (M 23) n (nI t) k = _ ∧ upd (M 24) n b k = _ ∧ upd (M 25) n x k = _ ∧ upd (M 26) n 0 k = _ ∧ upd (M 27) n 0 k = _
    unfold bt
    by_cases c : k = n
    · subst c
      rw [ud_eq, ud_eq, ud_eq, ud_eq, ud_eq, ud_eq]
      refine ⟨?_, ?_, ?_, ?_, ?_, ?_⟩
      · rw [ud_ne (by omega), ud_ne (by omega), ud_ne (by omega), ud_ne (by omega), ud_ne (by omega), ud_ne (by omega), ud_eq]
      · rw [ud_ne (by omega), ud_ne (by omega), ud_ne (by omega), ud_ne (by omega), ud_ne (by omega), ud_eq]
      · rw [ud_ne (by omega), ud_ne (by omega), ud_ne (by omega), ud_ne (by omega), ud_eq]
      · rw [ud_ne (by omega), ud_ne (by omega), ud_ne (by omega), ud_eq]
      · rw [ud_ne (by omega), ud_ne (by omega), ud_eq]
      · rw [ud_ne (by omega), ud_eq]
    · obtain ⟨a1, a2, a3, a4, a5, a6⟩ := r7 k (by omega)
      rw [ud_ne c, ud_ne c, ud_ne c, ud_ne c, ud_ne c, ud_ne c, a1, a2, a3, a4, a5, a6]
      refine ⟨?_, ?_, ?_, ?_, ?_, ?_⟩ <;> rw [ud_ne (by omega), ud_ne (by omega), ud_ne (by omega), ud_ne (by omega), ud_ne (by omega), ud_ne (by omega), ud_ne (by omega)]
theorem es2_28 {M : Nat → Nat → Int32} {s kd : Nat → Int32} {mm : Nat} (hm : mm ≤ 6) (h16 : ∀ k, k < mm → M 16 k = kd k) (h21 : ∀ k, k < mm → M 21 k = s (4 + k)) (h1 : ∀ k, k < mm → (1 : Int32) ≤ s (4 + k)) (k : Nat) (hk : k ≤ mm) : ∀ j, j < mm → s_X6_endSession_19_2 M k 21 j = if j < k ∧ kd j = 1 ∧ 1 < s (4 + j) then s (4 + j) - 1 else s (4 + j) := by
  induction k with
  | zero => intro j hj; rw [if_neg (by omega)]; exact h21 j hj
  | succ k ih =>
    intro j hj
    have hs : s_X6_endSession_19_2 M (k + 1) = e_X6_endSession_19_2_M (s_X6_endSession_19_2 M k) (nI k) := rfl
    have fr : ∀ c, c ≠ 21 → s_X6_endSession_19_2 M k c = M c := fun c a => fr_s_X6_endSession_19_2 M k c a
    have ck : (nI k).toNatClampNeg = k := nI_clamp (by omega)
    have i1 := ih (by omega) j hj
    have i2 := ih (by omega) k (by omega)
    rw [if_neg (show ¬ (k < k ∧ kd k = 1 ∧ 1 < s (4 + k)) from fun z => absurd z.1 (Nat.lt_irrefl k))] at i2
    rw [hs]
    unfold e_X6_endSession_19_2_M
    rw [ck, fr 16 (by decide), h16 k (by omega), i2, mx1 (h1 k (by omega))]
    by_cases c : kd k = 1
    · rw [if_neg (not_not_intro c), z_row_eq, ud_if, i1]
      by_cases c2 : j = k
      · subst c2
        rw [if_pos rfl]
        by_cases c3 : 1 < s (4 + j)
        · rw [if_pos c3, if_pos ⟨by omega, c, c3⟩]
        · rw [if_neg c3, if_neg (fun z => c3 z.2.2)]
      · rw [if_neg c2]
        by_cases c3 : j < k ∧ kd j = 1 ∧ 1 < s (4 + j)
        · rw [if_pos c3, if_pos ⟨by omega, c3.2⟩]
        · rw [if_neg c3, if_neg (fun z => c3 ⟨by omega, z.2⟩)]
    · rw [if_pos c, i1]
      by_cases c3 : j < k ∧ kd j = 1 ∧ 1 < s (4 + j)
      · rw [if_pos c3, if_pos ⟨by omega, c3.2⟩]
      · rw [if_neg c3, if_neg]
        intro z
        by_cases c4 : j = k
        · subst c4; exact c z.2.1
        · exact c3 ⟨by omega, z.2⟩
theorem es58_28 {M : Nat → Nat → Int32} {s : Nat → Int32} {n : Nat} (hn : n ≤ 12) (h26 : ∀ k, k < n → M 26 k = s (59 + k)) (k : Nat) (hk : k ≤ n) : ∀ j, j < n → s_X6_endSession_19_58 M k 26 j = if j < k then s (59 + j) / 2 else s (59 + j) := by
  induction k with
  | zero => intro j hj; rw [if_neg (by omega)]; exact h26 j hj
  | succ k ih =>
    intro j hj
    have hs : s_X6_endSession_19_58 M (k + 1) = e_X6_endSession_19_58_M (s_X6_endSession_19_58 M k) (nI k) := rfl
    have ck : (nI k).toNatClampNeg = k := nI_clamp (by omega)
    have i1 := ih (by omega) j hj
    have i2 := ih (by omega) k (by omega)
    rw [if_neg (Nat.lt_irrefl k)] at i2
    rw [hs]
    unfold e_X6_endSession_19_58_M
    rw [ck, z_row_eq, ud_if, i1, i2]
    by_cases c : j = k
    · subst c
      rw [if_pos rfl, if_pos (by omega)]
    · rw [if_neg c]
      by_cases c2 : j < k
      · rw [if_pos c2, if_pos (by omega)]
      · rw [if_neg c2, if_neg (by omega)]
theorem es_28 {M : Nat → Nat → Int32} {s kd w : Nat → Int32} {q : Int32} {n mm : Nat} (h : CS_28 M s kd w q n mm) : q_X6_endSession_19 M ∧ g_X6_endSession_19 M 20 11 = s 3 + 1 ∧ CS_28 (g_X6_endSession_19 M) (ss kd s n mm) kd w q n mm := by
  obtain ⟨⟨h1, h2, h3⟩, hk, ⟨⟨r1, r2, r3, r4, r5⟩, r6, r7⟩, hw⟩ := h
  have hn := hw.2.1
  have em : (M 15 1).toNatClampNeg = mm := cn_n h1 (by omega)
  have fr1 : ∀ c, c ≠ 21 → s_X6_endSession_19_2 M mm c = M c := fun c a => fr_s_X6_endSession_19_2 M mm c a
  have en : (s_X6_endSession_19_2 M mm 20 1).toNatClampNeg = n := by rw [fr1 20 (by decide)]; exact cn_n (r1.trans hw.1) (by omega)
  have fr2 : ∀ c, c ≠ 26 → s_X6_endSession_19_58 (s_X6_endSession_19_2 M mm) n c = s_X6_endSession_19_2 M mm c := fun c a => fr_s_X6_endSession_19_58 _ n c a
  have w1 := es2_28 (s := s) (kd := kd) h2 (fun k hk' => (hk k hk').1) r6 hw.2.2.2.2.2.1 mm (Nat.le_refl mm)
  have w2 := es58_28 (M := s_X6_endSession_19_2 M mm) (s := s) hn (fun k hk' => by rw [fr1 26 (by decide)]; exact (r7 k hk').2.2.2.2.1) n (Nat.le_refl n)
  unfold q_X6_endSession_19 g_X6_endSession_19
  rw [em, en]
  refine ⟨⟨fun k hk' => ?_, fun k hk' => ?_, trivial⟩, ?_, ⟨?_, h2, ?_⟩, ?_, ⟨⟨?_, ?_, ?_, ?_, ?_⟩, ?_, ?_⟩, wf_ss hw h2⟩
  · have v6 : z_vin (nI k) 6 = true := vi (by omega) (by decide)
    unfold qi_X6_endSession_19_2
    (repeat' apply And.intro) <;> intros <;> first | exact trivial | assumption
  · exact ⟨vi (by omega) (by decide), trivial⟩
  · rw [z_row_eq, ud_eq, fr2 20 (by decide), fr1 20 (by decide), r5]
  · rw [z_row_ne (by decide), fr2 15 (by decide), fr1 15 (by decide)]; exact h1
  · rw [z_row_ne (by decide), fr2 15 (by decide), fr1 15 (by decide)]; exact h3
  · rw [z_row_ne (by decide), z_row_ne (by decide), fr2 16 (by decide), fr1 16 (by decide), fr2 18 (by decide), fr1 18 (by decide)]; exact hk
  · rw [z_row_eq, ud_ne (by decide), fr2 20 (by decide), fr1 20 (by decide), r1]; unfold ss; rw [if_neg (by omega), if_neg (by omega), if_neg (by omega)]
  · rw [z_row_eq, ud_ne (by decide), fr2 20 (by decide), fr1 20 (by decide), r2]; rfl
  · rw [z_row_eq, ud_ne (by decide), fr2 20 (by decide), fr1 20 (by decide), r3]; rfl
  · rw [z_row_eq, ud_ne (by decide), fr2 20 (by decide), fr1 20 (by decide), r4]; rfl
  · rw [z_row_eq, ud_eq, fr2 20 (by decide), fr1 20 (by decide), r5]; rfl
  · intro k hk'
    rw [z_row_ne (by decide), fr2 21 (by decide), w1 k hk']
    unfold ss
    rw [if_neg (show ¬ 4 + k = 3 by omega), if_pos (show 4 ≤ 4 + k ∧ 4 + k < 4 + mm by omega), Nat.add_sub_cancel_left]
    by_cases c : kd k = 1 ∧ 1 < s (4 + k)
    · rw [if_pos c, if_pos ⟨hk', c⟩]
    · rw [if_neg c, if_neg (fun z => c z.2)]
  · intro k hk'
    obtain ⟨a1, a2, a3, a4, a5, a6⟩ := r7 k hk'
    rw [z_row_ne (by decide), z_row_ne (by decide), z_row_ne (by decide), z_row_ne (by decide), z_row_ne (by decide), z_row_ne (by decide), w2 k hk', if_pos hk', fr2 22 (by decide), fr2 23 (by decide), fr2 24 (by decide), fr2 25 (by decide), fr2 27 (by decide), fr1 22 (by decide), fr1 23 (by decide), fr1 24 (by decide), fr1 25 (by decide), fr1 27 (by decide), a1, a2, a3, a4, a6]
    unfold ss
    refine ⟨?_, ?_, ?_, ?_, ?_, ?_⟩
    · rw [if_neg (by omega), if_neg (by omega), if_neg (by omega)]
    · rw [if_neg (by omega), if_neg (by omega), if_neg (by omega)]
    · rw [if_neg (by omega), if_neg (by omega), if_neg (by omega)]
    · rw [if_neg (by omega), if_neg (by omega), if_neg (by omega)]
    · rw [if_neg (by omega), if_neg (by omega), if_pos (by omega)]
    · rw [if_neg (by omega), if_neg (by omega), if_neg (by omega)]
/-! the reference -/
theorem RS_row {M G : Nat → Nat → Int32} {s s' kd w : Nat → Int32} {q : Int32} {n n' mm : Nat} (h : RS_279 M s kd w q n mm) (g1 : G 274 3 = M 274 3) (g2 : G 274 4 = M 274 4) (g3 : G 276 = M 276) (g4 : G 278 = M 278) (e : ∀ j, j < 83 → G 279 j = s' j) (hw : wf s' n' mm) : RS_279 G s' kd w q n' mm := by
  refine ⟨⟨g1.trans h.1.1, g2.trans h.1.2.1, h.1.2.2⟩, ?_, e, hw⟩
  rw [g3, g4]
  exact h.2.1
theorem lz_279 {M : Nat → Nat → Int32} {s kd w : Nat → Int32} {q : Int32} {n mm : Nat} (h : RS_279 M s kd w q n mm) {k : Nat} (hk : k < n) (h0 : s (71 + k) = 0) : q_X9_lets_279 M (nI k) ∧ g_X9_lets_279 M (nI k) 279 (47 + k) = s (47 + k) - 1 ∧ RS_279 (g_X9_lets_279 M (nI k)) (lo s k) kd w q n mm := by
  have hn := h.2.2.2.2.1
  have v4 := vx_47 (show k < 12 by omega)
  have v7 := vx_71 (show k < 12 by omega)
  have e : g_X9_lets_279 M (nI k) = z_row (z_row M 279 (upd (M 279) (47 + k) (s (47 + k) - 1))) 279 (upd (upd (M 279) (47 + k) (s (47 + k) - 1)) (71 + k) (if s (47 + k) - 1 = 0 then 2 else 0)) := by
    unfold g_X9_lets_279
    rw [ix_47 (by omega), ix_71 (by omega), h.2.2.1 _ (by omega), ud_eq]
    by_cases c : s (47 + k) - 1 = 0
    · rw [if_neg (not_not_intro c), if_pos c]
    · rw [if_pos c, if_neg c]
  refine ⟨⟨v4, fun _ => v7, fun _ => v7, trivial⟩, ?_, ?_⟩
  · rw [e, z_row_eq, ud_ne (by omega), ud_eq]
  · rw [e]
    refine RS_row h rfl rfl rfl rfl (fun j hj => ?_) (wf_lo h.2.2.2 h.1.2.2 hk h0)
    rw [z_row_eq]
    exact ud_cong (ud_cong h.2.2.1) j hj
theorem es2_279 {M : Nat → Nat → Int32} {s kd : Nat → Int32} {mm : Nat} (hm : mm ≤ 6) (h16 : ∀ k, k < mm → M 276 k = kd k) (hr : ∀ j, j < 83 → M 279 j = s j) (k : Nat) (hk : k ≤ mm) : ∀ j, j < 83 → s_X9_sessionOn_274_279_2 M k 279 j = if (4 ≤ j ∧ j < 4 + k) ∧ kd (j - 4) = 1 ∧ 1 < s j then s j - 1 else s j := by
  induction k with
  | zero => intro j hj; rw [if_neg (by omega)]; exact hr j hj
  | succ k ih =>
    intro j hj
    have hs : s_X9_sessionOn_274_279_2 M (k + 1) = e_X9_sessionOn_274_279_2_M (s_X9_sessionOn_274_279_2 M k) (nI k) := rfl
    have fr : ∀ c, c ≠ 279 → s_X9_sessionOn_274_279_2 M k c = M c := fun c a => fr_s_X9_sessionOn_274_279_2 M k c a
    have ck : (nI k).toNatClampNeg = k := nI_clamp (by omega)
    have i1 := ih (by omega) j hj
    have i2 := ih (by omega) (4 + k) (by omega)
    rw [if_neg (show ¬ ((4 ≤ 4 + k ∧ 4 + k < 4 + k) ∧ kd (4 + k - 4) = 1 ∧ 1 < s (4 + k)) from fun z => absurd z.1.2 (Nat.lt_irrefl _))] at i2
    rw [hs]
    unfold e_X9_sessionOn_274_279_2_M
    rw [ck, ix_4 (by omega), fr 276 (by decide), h16 k (by omega), i2, Int32.sub_zero]
    have e : (if ¬ kd k = 1 then z_row (s_X9_sessionOn_274_279_2 M k) 279 (upd (s_X9_sessionOn_274_279_2 M k 279) (4 + k) (s (4 + k))) else if s (4 + k) ≤ 1 then z_row (s_X9_sessionOn_274_279_2 M k) 279 (upd (s_X9_sessionOn_274_279_2 M k 279) (4 + k) (s (4 + k))) else z_row (s_X9_sessionOn_274_279_2 M k) 279 (upd (s_X9_sessionOn_274_279_2 M k 279) (4 + k) (s (4 + k) - 1))) 279 j = upd (s_X9_sessionOn_274_279_2 M k 279) (4 + k) (if kd k = 1 ∧ 1 < s (4 + k) then s (4 + k) - 1 else s (4 + k)) j := by
      by_cases c1 : kd k = 1
      · rw [if_neg (not_not_intro c1)]
        by_cases c2 : 1 < s (4 + k)
        · rw [if_neg (i_nle.mpr c2), if_pos ⟨c1, c2⟩, z_row_eq]
        · rw [if_pos (i_nlt.mp c2), if_neg (fun z => c2 z.2), z_row_eq]
      · rw [if_pos c1, if_neg (fun z => c1 z.1), z_row_eq]
    rw [e, ud_if, i1]
    by_cases c : j = 4 + k
    · subst c
      rw [if_pos rfl, Nat.add_sub_cancel_left]
      by_cases c2 : kd k = 1 ∧ 1 < s (4 + k)
      · rw [if_pos c2, if_pos ⟨by omega, c2⟩]
      · rw [if_neg c2, if_neg (fun z => c2 z.2)]
    · rw [if_neg c]
      by_cases c2 : (4 ≤ j ∧ j < 4 + k) ∧ kd (j - 4) = 1 ∧ 1 < s j
      · rw [if_pos c2, if_pos ⟨by omega, c2.2⟩]
      · rw [if_neg c2, if_neg (fun z => c2 ⟨by omega, z.2⟩)]
theorem es50_279 {M : Nat → Nat → Int32} {s : Nat → Int32} {n : Nat} (hn : n ≤ 12) (hr : ∀ j, j < 83 → M 279 j = s j) (k : Nat) (hk : k ≤ n) : ∀ j, j < 83 → s_X9_sessionOn_274_279_50 M k 279 j = if 59 ≤ j ∧ j < 59 + k then s j / 2 else s j := by
  induction k with
  | zero => intro j hj; rw [if_neg (by omega)]; exact hr j hj
  | succ k ih =>
    intro j hj
    have hs : s_X9_sessionOn_274_279_50 M (k + 1) = e_X9_sessionOn_274_279_50_M (s_X9_sessionOn_274_279_50 M k) (nI k) := rfl
    have i1 := ih (by omega) j hj
    have i2 := ih (by omega) (59 + k) (by omega)
    rw [if_neg (by omega)] at i2
    rw [hs]
    unfold e_X9_sessionOn_274_279_50_M
    rw [ix_59 (by omega), z_row_eq, ud_if, i1, i2]
    by_cases c : j = 59 + k
    · subst c
      rw [if_pos rfl, if_pos (by omega)]
    · rw [if_neg c]
      by_cases c2 : 59 ≤ j ∧ j < 59 + k
      · rw [if_pos c2, if_pos (by omega)]
      · rw [if_neg c2, if_neg (by omega)]
theorem es_279 {M : Nat → Nat → Int32} {s kd w : Nat → Int32} {q : Int32} {n mm : Nat} (h : RS_279 M s kd w q n mm) : q_X9_sessionOn_274_279 M ∧ RS_279 (g_X9_sessionOn_274_279 M) (ss kd s n mm) kd w q n mm := by
  have hn := h.2.2.2.2.1
  have hm := h.1.2.2
  have em := rm_279 h
  have fr1 : ∀ c, c ≠ 279 → s_X9_sessionOn_274_279_2 M mm c = M c := fun c a => fr_s_X9_sessionOn_274_279_2 M mm c a
  have w1 := es2_279 (s := s) (kd := kd) hm (fun k hk' => (h.2.1 k hk').1) h.2.2.1 mm (Nat.le_refl mm)
  have e10 : s_X9_sessionOn_274_279_2 M mm 279 10 = nI n := by rw [w1 10 (by decide), if_neg (by omega)]; exact h.2.2.2.1
  have en : (s_X9_sessionOn_274_279_2 M mm 279 10).toNatClampNeg = n := by rw [e10, nI_clamp (by omega)]
  have fr2 : ∀ k c, c ≠ 279 → s_X9_sessionOn_274_279_50 (s_X9_sessionOn_274_279_2 M mm) k c = s_X9_sessionOn_274_279_2 M mm c := fun k c a => fr_s_X9_sessionOn_274_279_50 _ k c a
  have w2 := fun k hk => es50_279 (M := s_X9_sessionOn_274_279_2 M mm) (s := fun j => if (4 ≤ j ∧ j < 4 + mm) ∧ kd (j - 4) = 1 ∧ 1 < s j then s j - 1 else s j) hn w1 k hk
  have f10 : ∀ k, k ≤ n → s_X9_sessionOn_274_279_50 (s_X9_sessionOn_274_279_2 M mm) k 279 10 = nI n := fun k hk => by
    rw [w2 k hk 10 (by decide), if_neg (by omega)]
    show (if (4 ≤ 10 ∧ 10 < 4 + mm) ∧ kd (10 - 4) = 1 ∧ 1 < s 10 then s 10 - 1 else s 10) = nI n
    rw [if_neg (by omega)]; exact h.2.2.2.1
  unfold q_X9_sessionOn_274_279 g_X9_sessionOn_274_279
  rw [em, en]
  refine ⟨⟨fun k hk' => ⟨vx_4 (by omega), vi (by omega) (by decide), trivial⟩, fun k hk' => ⟨vx_59 (by omega), trivial⟩, fun k hk' => ?_, ?_, trivial⟩, ?_⟩
  · rw [f10 k (by omega)]; exact nI_ge hk' (by omega)
  · rw [f10 n (Nat.le_refl n)]; exact Int32.le_refl _
  · refine RS_row h ?_ ?_ ?_ ?_ (fun j hj => ?_) (wf_ss h.2.2.2 hm)
    · rw [z_row_ne (by decide), fr2 n _ (by decide), fr1 _ (by decide)]
    · rw [z_row_ne (by decide), fr2 n _ (by decide), fr1 _ (by decide)]
    · rw [z_row_ne (by decide), fr2 n _ (by decide), fr1 _ (by decide)]
    · rw [z_row_ne (by decide), fr2 n _ (by decide), fr1 _ (by decide)]
    · rw [z_row_eq, ud_if, w2 n (Nat.le_refl n) j hj, w2 n (Nat.le_refl n) 3 (by decide)]
      unfold ss
      by_cases c3 : j = 3
      · subst c3
        rw [if_pos rfl, if_pos rfl, if_neg (by omega)]
        show (if (4 ≤ 3 ∧ 3 < 4 + mm) ∧ kd (3 - 4) = 1 ∧ 1 < s 3 then s 3 - 1 else s 3) + 1 = _
        rw [if_neg (by omega)]
      · rw [if_neg c3, if_neg c3]
        by_cases c4 : 4 ≤ j ∧ j < 4 + mm
        · rw [if_pos c4, if_neg (show ¬ (59 ≤ j ∧ j < 59 + n) by omega)]
          show (if (4 ≤ j ∧ j < 4 + mm) ∧ kd (j - 4) = 1 ∧ 1 < s j then s j - 1 else s j) = _
          by_cases c5 : kd (j - 4) = 1 ∧ 1 < s j
          · rw [if_pos c5, if_pos ⟨c4, c5⟩]
          · rw [if_neg c5, if_neg (fun z => c5 z.2)]
        · rw [if_neg c4]
          by_cases c5 : 59 ≤ j ∧ j < 59 + n
          · rw [if_pos c5, if_pos c5]
            show (if (4 ≤ j ∧ j < 4 + mm) ∧ kd (j - 4) = 1 ∧ 1 < s j then s j - 1 else s j) / 2 = _
            rw [if_neg (fun z => c4 z.1)]
          · rw [if_neg c5, if_neg c5]
            show (if (4 ≤ j ∧ j < 4 + mm) ∧ kd (j - 4) = 1 ∧ 1 < s j then s j - 1 else s j) = _
            rw [if_neg (fun z => c4 z.1)]
