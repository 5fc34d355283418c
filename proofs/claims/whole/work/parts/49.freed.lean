/-! THE CLASS: the fewest to let go so that one is not held both ways -/
def lsr (a b : Nat) : Nat := if pz b < pz a then b else a
theorem pc_12 (x : Nat) : pc x ≤ 12 := by
  have : pc x ≤ 12 * 1 := sN_bd (fun k _ => by split <;> omega)
  omega
theorem ls_c (M : Nat → Nat → Int32) {a b : Nat} (ha : a < 4096) (hb : b < 4096) : f_X0_lesserSet M (nI a) (nI b) = nI (lsr a b) := by
  have p1 := pc_12 a
  have p2 := pc_12 b
  have tI := pk_sub_toInt (show pc a < 2 ^ 30 by omega) (show pc b < 2 ^ 30 by omega)
  have e0 : (nI (pc a) - nI (pc b) = 0) ↔ pc a = pc b := by
    rw [← Int32.toInt_inj, tI]
    have : (0 : Int32).toInt = 0 := by decide
    rw [this]
    omega
  have e1 : ((0 : Int32) ≤ nI (pc a) - nI (pc b)) ↔ pc b ≤ pc a := by
    rw [Int32.le_iff_toInt_le, tI]
    have : (0 : Int32).toInt = 0 := by decide
    rw [this]
    omega
  have l1 : (nI b < nI a) ↔ b < a := nI_ltI (by omega) (by omega)
  unfold f_X0_lesserSet lsr pz
  rw [bc_c M ha, bc_c M hb]
  by_cases c1 : pc a = pc b
  · rw [if_neg (not_not_intro (e0.mpr c1))]
    by_cases c2 : b < a
    · rw [if_pos (l1.mpr c2), if_pos (by omega)]
    · rw [if_neg (fun z => c2 (l1.mp z)), if_neg (by omega)]
  · rw [if_pos (fun z => c1 (e0.mp z))]
    by_cases c2 : pc b ≤ pc a
    · rw [if_pos (e1.mpr c2), if_pos (by omega)]
    · rw [if_neg (fun z => c2 (e1.mp z)), if_neg (by omega)]
def Lt (s : Nat → Int32) (o : Int32) (n t : Nat) : Nat := lsr (bN n (sd4 s o (nI t) 1)) (bN n (sd4 s o (nI t) 0))
def uN (s : Nat → Int32) (o : Int32) (n k : Nat) : Nat := Nat.rec 0 (fun t r => r ||| Lt s o n t) k
theorem uN_s (s : Nat → Int32) (o : Int32) (n k : Nat) : uN s o n (k + 1) = uN s o n k ||| Lt s o n k := rfl
theorem Lt_or (s : Nat → Int32) (o : Int32) (n t : Nat) : Lt s o n t = bN n (sd4 s o (nI t) 1) ∨ Lt s o n t = bN n (sd4 s o (nI t) 0) := by
  unfold Lt lsr
  split
  · exact Or.inr rfl
  · exact Or.inl rfl
theorem Lt_lt {s : Nat → Int32} {o : Int32} {n : Nat} (hn : n ≤ 12) (t : Nat) : Lt s o n t < 4096 := by
  rcases Lt_or s o n t with c | c <;> rw [c] <;> exact bN_4096 hn _
theorem uN_lt {s : Nat → Int32} {o : Int32} {n : Nat} (hn : n ≤ 12) (k : Nat) : uN s o n k < 4096 := by
  induction k with
  | zero => show 0 < 4096; decide
  | succ k ih => rw [uN_s]; exact Nat.or_lt_two_pow (n := 12) ih (Lt_lt hn k)
theorem frd_c {M : Nat → Nat → Int32} {s kd w : Nat → Int32} {q : Int32} {n mm : Nat} (h : CS_28 M s kd w q n mm) (o : Int32) : q_X0_freedOf_20 M o ∧ f_X0_freedOf_20 M o = nI (uN s o n 8) := by
  have hn := h.2.2.2.2.1
  have lp : ∀ k, s_X0_freedOf_20_4 M o 0 k = nI (uN s o n k) := by
    intro k
    induction k with
    | zero => rfl
    | succ k ih =>
      have hs : s_X0_freedOf_20_4 M o 0 (k + 1) = e_X0_freedOf_20_4_c2 M o (nI k) (s_X0_freedOf_20_4 M o 0 k) := rfl
      rw [hs, ih, uN_s]
      unfold e_X0_freedOf_20_4_c2
      have h1 := uN_lt (s := s) (o := o) hn k
      have h2 := Lt_lt (s := s) (o := o) hn k
      rw [(sa_c h o (nI k) 1).2, (sa_c h o (nI k) 0).2, bs_bN hn, bs_bN hn, ls_c M (bN_4096 hn _) (bN_4096 hn _)]
      exact i_or (by omega) (show Lt s o n k < 4294967296 by omega)
  unfold q_X0_freedOf_20 f_X0_freedOf_20
  exact ⟨⟨fun k hk => ⟨(sa_c h o (nI k) 1).1, (sa_c h o (nI k) 0).1, trivial⟩, trivial⟩, lp 8⟩
theorem sd4_b {s : Nat → Int32} {o t v : Int32} {n k : Nat} : (bN n (sd4 s o t v)).testBit k = true ↔ k < n ∧ s (71 + k) = 0 ∧ s (11 + k) = o ∧ s (23 + k) = t ∧ s (35 + k) = v := by
  rw [bN_tb]
  unfold sd4
  rw [Bool.and_eq_true, decide_eq_true_eq, decide_eq_true_eq]
theorem hO_b {s : Nat → Int32} {o : Int32} {n k : Nat} : (bN n (hO s o)).testBit k = true ↔ k < n ∧ s (71 + k) = 0 ∧ s (11 + k) = o := by
  rw [bN_tb]
  unfold hO
  rw [Bool.and_eq_true, decide_eq_true_eq, decide_eq_true_eq]
theorem Lt_b {s : Nat → Int32} {o : Int32} {n t k : Nat} (h : (Lt s o n t).testBit k = true) : k < n ∧ s (71 + k) = 0 ∧ s (11 + k) = o ∧ s (23 + k) = nI t := by
  rcases Lt_or s o n t with c | c
  · rw [c] at h
    obtain ⟨a1, a2, a3, a4, a5⟩ := sd4_b.mp h
    exact ⟨a1, a2, a3, a4⟩
  · rw [c] at h
    obtain ⟨a1, a2, a3, a4, a5⟩ := sd4_b.mp h
    exact ⟨a1, a2, a3, a4⟩
theorem uN_b {s : Nat → Int32} {o : Int32} {n K k : Nat} : (uN s o n K).testBit k = true ↔ ∃ t, t < K ∧ (Lt s o n t).testBit k = true := by
  induction K with
  | zero =>
    show (0 : Nat).testBit k = true ↔ _
    rw [Nat.zero_testBit]
    exact ⟨fun z => absurd z (by decide), fun ⟨t, h1, _⟩ => absurd h1 (by omega)⟩
  | succ K ih =>
    rw [uN_s, Nat.testBit_or, Bool.or_eq_true, ih]
    constructor
    · intro z
      rcases z with ⟨t, h1, h2⟩ | z
      · exact ⟨t, by omega, h2⟩
      · exact ⟨K, by omega, z⟩
    · intro ⟨t, h1, h2⟩
      by_cases c : t = K
      · subst c; exact Or.inr h2
      · exact Or.inl ⟨t, by omega, h2⟩
/-- what a set costs on one matter -/
def pzt (s : Nat → Int32) (o : Int32) (n X t : Nat) : Nat := sN 12 (fun k => if X.testBit k = true ∧ k < n ∧ s (71 + k) = 0 ∧ s (11 + k) = o ∧ s (23 + k) = nI t then 4096 + 2 ^ k else 0)
theorem pzt_le {s : Nat → Int32} {o : Int32} {n X : Nat} (hX : X < 4096) : sN 8 (pzt s o n X) ≤ pz X := by
  unfold pzt
  rw [← sN_swap, pz_sN hX]
  refine sN_le (fun k hk => ?_)
  by_cases c : ∃ t, t < 8 ∧ X.testBit k = true ∧ k < n ∧ s (71 + k) = 0 ∧ s (11 + k) = o ∧ s (23 + k) = nI t
  · obtain ⟨t, ht, c1, c2, c3, c4, c5⟩ := c
    rw [sN_one 8 t _ ht (fun j hj hjt => if_neg (fun z => hjt ((nI_eq (by omega) (by omega)).mp (z.2.2.2.2.symm.trans c5)))), if_pos ⟨c1, c2, c3, c4, c5⟩, if_pos c1]
    exact Nat.le_refl _
  · rw [sN_zero 8 _ (fun t ht => if_neg (fun z => c ⟨t, ht, z⟩))]
    exact Nat.zero_le _
theorem pzt_u {s : Nat → Int32} {o : Int32} {n : Nat} (hn : n ≤ 12) : pz (uN s o n 8) = sN 8 (fun t => pz (Lt s o n t)) := by
  have e : sN 8 (fun t => pz (Lt s o n t)) = sN 8 (fun t => sN 12 (fun k => if (Lt s o n t).testBit k = true then 4096 + 2 ^ k else 0)) := sN_congr (fun t _ => pz_sN (Lt_lt hn t))
  rw [e, ← sN_swap, pz_sN (uN_lt hn 8)]
  refine sN_congr (fun k hk => ?_)
  by_cases c : (uN s o n 8).testBit k = true
  · obtain ⟨t, ht, hb⟩ := uN_b.mp c
    rw [if_pos c, sN_one 8 t _ ht (fun j hj hjt => if_neg (fun z => hjt ((nI_eq (by omega) (by omega)).mp ((Lt_b z).2.2.2.symm.trans (Lt_b hb).2.2.2)))), if_pos hb]
  · rw [if_neg c, sN_zero 8 _ (fun t ht => if_neg (fun z => c (uN_b.mpr ⟨t, ht, z⟩)))]
theorem pz_sub {s : Nat → Int32} {o v : Int32} {n X t : Nat} (hn : n ≤ 12) (h : ∀ k, (bN n (sd4 s o (nI t) v)).testBit k = true → X.testBit k = true) : pz (bN n (sd4 s o (nI t) v)) ≤ pzt s o n X t := by
  rw [pz_sN (bN_4096 hn _)]
  refine sN_le (fun k hk => ?_)
  by_cases c : (bN n (sd4 s o (nI t) v)).testBit k = true
  · obtain ⟨a1, a2, a3, a4, a5⟩ := sd4_b.mp c
    rw [if_pos c, if_pos ⟨h k c, a1, a2, a3, a4⟩]
    exact Nat.le_refl _
  · rw [if_neg c]; exact Nat.zero_le _
theorem lsr_le (a b : Nat) : pz (lsr a b) ≤ pz a ∧ pz (lsr a b) ≤ pz b := by
  unfold lsr
  split <;> constructor <;> omega
theorem fr_eq {s : Nat → Int32} {o : Int32} {n : Nat} (hn : n ≤ 12) (ht : ∀ k, k < n → ∃ t, t < 8 ∧ s (23 + k) = nI t) (hd : ∀ k, k < n → s (35 + k) = 0 ∨ s (35 + k) = 1) {x : Nat} (hx : lpb (frV s n (bN n (hO s o))) (bN n (hO s o)) (some (bN n (hO s o))) (bN n (hO s o) + 1) = some x) : x = uN s o n 8 := by
  have ha := bN_4096 hn (hO s o)
  obtain ⟨al, hal⟩ : ∃ al, al = bN n (hO s o) := ⟨_, rfl⟩
  rw [← hal] at hx ha
  have hab : ∀ k, al.testBit k = true ↔ k < n ∧ s (71 + k) = 0 ∧ s (11 + k) = o := fun k => by rw [hal]; exact hO_b
  have hU := uN_lt (s := s) (o := o) hn 8
  have hV : frV s n al al = true := by
    have e0 : dif al al = 0 := (dif_0 ha).mpr (fun _ z => z)
    refine decide_eq_true ⟨e0, ?_⟩
    rw [e0, clN_0]
    intro a b _ _ z
    rw [Nat.zero_testBit] at z
    exact absurd z (by decide)
  obtain ⟨i1, i2⟩ := lpb_inv ha (Or.inr ⟨rfl, hV⟩) (V := frV s n al) (al + 1) (Nat.le_refl _)
  obtain ⟨v1, v2, v3⟩ := i1 x hx
  obtain ⟨vx1, vx2⟩ := of_decide_eq_true v1
  have subU : ∀ k, (uN s o n 8).testBit k = true → al.testBit k = true := fun k hk => by
    obtain ⟨t, _, hb⟩ := uN_b.mp hk
    obtain ⟨b1, b2, b3, b4⟩ := Lt_b hb
    exact (hab k).mpr ⟨b1, b2, b3⟩
  -- what the class lets go is enough
  have VU : frV s n al (uN s o n 8) = true := by
    refine decide_eq_true ⟨(dif_0 hU).mpr subU, (clN_0 _ _ _).mpr ?_⟩
    intro a b han hbn ya yb e
    rw [dif_tb ha, Bool.and_eq_true] at ya yb
    have na : ¬ (uN s o n 8).testBit a = true := fun z => by have := ya.2; rw [z] at this; exact absurd this (by decide)
    have nb : ¬ (uN s o n 8).testBit b = true := fun z => by have := yb.2; rw [z] at this; exact absurd this (by decide)
    obtain ⟨_, a2, a3⟩ := (hab a).mp ya.1
    obtain ⟨_, b2, b3⟩ := (hab b).mp yb.1
    obtain ⟨t, h8, et⟩ := ht a han
    have etb : s (23 + b) = nI t := e.symm.trans et
    rcases Lt_or s o n t with c | c
    · rcases hd a han with d0 | d1
      · rcases hd b hbn with f0 | f1
        · rw [d0, f0]
        · exact absurd (uN_b.mpr ⟨t, h8, by rw [c]; exact sd4_b.mpr ⟨hbn, b2, b3, etb, f1⟩⟩) nb
      · exact absurd (uN_b.mpr ⟨t, h8, by rw [c]; exact sd4_b.mpr ⟨han, a2, a3, et, d1⟩⟩) na
    · rcases hd a han with d0 | d1
      · exact absurd (uN_b.mpr ⟨t, h8, by rw [c]; exact sd4_b.mpr ⟨han, a2, a3, et, d0⟩⟩) na
      · rcases hd b hbn with f0 | f1
        · exact absurd (uN_b.mpr ⟨t, h8, by rw [c]; exact sd4_b.mpr ⟨hbn, b2, b3, etb, f0⟩⟩) nb
        · rw [d1, f1]
  -- and it is the least
  have leX : pz (uN s o n 8) ≤ pz x := by
    rw [pzt_u hn]
    refine Nat.le_trans (sN_le (fun t h8 => ?_)) (pzt_le (s := s) (o := o) (n := n) (show x < 4096 by omega))
    have nc := (clN_0 _ _ _).mp vx2
    by_cases c : ∀ k, (bN n (sd4 s o (nI t) 1)).testBit k = true → x.testBit k = true
    · exact Nat.le_trans (lsr_le _ _).1 (pz_sub hn c)
    · have c2 : ∀ k, (bN n (sd4 s o (nI t) 0)).testBit k = true → x.testBit k = true := by
        intro k hk
        refine Decidable.byContradiction fun nk => c fun j hj => Decidable.byContradiction fun nj => ?_
        obtain ⟨a1, a2, a3, a4, a5⟩ := sd4_b.mp hk
        obtain ⟨b1, b2, b3, b4, b5⟩ := sd4_b.mp hj
        have tk : (dif al x).testBit k = true := by rw [dif_tb ha, (hab k).mpr ⟨a1, a2, a3⟩]; cases hxk : x.testBit k; rfl; exact absurd hxk nk
        have tj : (dif al x).testBit j = true := by rw [dif_tb ha, (hab j).mpr ⟨b1, b2, b3⟩]; cases hxj : x.testBit j; rfl; exact absurd hxj nj
        have := nc k j a1 b1 tk tj (a4.trans b4.symm)
        rw [a5, b5] at this
        exact absurd this (by decide)
      exact Nat.le_trans (lsr_le _ _).2 (pz_sub hn c2)
  have geX : pz x ≤ pz (uN s o n 8) := by
    obtain ⟨y, hy, hp⟩ := i2 _ VU (sub_le hU ha (fun k _ => subU k)) (by omega)
    rw [hx] at hy
    have : x = y := Option.some.inj hy
    subst this
    exact hp
  exact pz_inj (by omega) hU (Nat.le_antisymm geX leX)
theorem s_member_7 {bd : Nat} {M : Nat → Nat → Int32} {L : Nat → Nat → Int64} (h : RR (bd + 20) M L) (m : Int32) : ST bd 80 148 [.int m, .int 7] M L := by
  have h0 := h
  obtain ⟨s, kd, sd, w, q, n, mm, cnt, e, P, ns, kp, I, nj, sj, seed, len, tx, fl, sc, ec, pp, h1, h2, h3⟩ := h
  have hm := h1.1.1.2.1
  have hn := h1.1.2.2.2.2.1
  have em : M 15 1 = nI mm := h1.1.1.1
  have rm : M 274 4 = nI mm := h2.1.1.2.1
  have i1 := mb_eq (M' := M) m rm (by omega)
  by_cases a1 : f_X8_isOutside M m (nI mm) = 0
  · obtain ⟨k, hk, rfl⟩ := oi_k (by omega) a1
    obtain ⟨b1, b2⟩ := frd_c h1.1 (nI k)
    obtain ⟨d1, x, hx, d2⟩ := fr_r h2.1 (show k < 6 by omega)
    refine ST_q h0 (c_X8_member_w7 (d := 6) (L := L) M (nI k) ⟨fun _ => b1, trivial⟩) (c_X9_member_w7 (d := 6) (L := L) M (nI k) ⟨fun _ => d1, trivial⟩) ?_ (fun c _ => rfl) (fun c _ => rfl)
    unfold f_X8_member_w7 f_X9_member_w7
    rw [em, if_pos a1, i1, if_pos a1, if_pos c10, b2, d2, fr_eq hn h1.1.2.2.2.2.2.2.1 h1.1.2.2.2.2.2.2.2.1 hx]
  · have i0 : f_X9_isMember_274 M m = 0 := by rw [i1, if_neg a1]
    have c8 := c_X8_member_w7 (d := 6) (L := L) M m (by unfold q_X8_member_w7; rw [em]; exact ⟨fun z => absurd z a1, trivial⟩)
    have c9 := c_X9_member_w7 (d := 6) (L := L) M m ⟨fun z => absurd i0 z, trivial⟩
    refine ST_q h0 c8 c9 ?_ (fun c _ => rfl) (fun c _ => rfl)
    unfold f_X8_member_w7 f_X9_member_w7
    rw [em, if_neg a1, i0, if_neg (not_not_intro rfl)]
theorem s_member {bd : Nat} {M : Nat → Nat → Int32} {L : Nat → Nat → Int64} (h : RR (bd + 20) M L) (m y : Int32) : ST bd 80 148 [.int m, .int y] M L := by
  rcases rng y (N := 8) (by decide) with ⟨k, hk, rfl⟩ | c
  · match k, hk with
    | 0, _ => exact s_member_0 h m
    | 1, _ => exact s_member_1 h m
    | 2, _ => exact s_member_2 h m
    | 3, _ => exact s_member_3 h m
    | 4, _ => exact s_member_4 h m
    | 5, _ => exact s_member_5 h m
    | 6, _ => exact s_member_6 h m
    | 7, _ => exact s_member_7 h m
    | _ + 8, hk => exact absurd hk (by omega)
  · have c' := to_out (N := 7) (by decide) c
    have h0 := h
    obtain ⟨s, kd, sd, w, q, n, mm, cnt, e, P, ns, kp, I, nj, sj, seed, len, tx, fl, sc, ec, pp, h1, h2, h3⟩ := h
    have hm := h1.1.1.2.1
    have em : M 15 1 = nI mm := h1.1.1.1
    have rm : M 274 4 = nI mm := h2.1.1.2.1
    have i1 := mb_eq (M' := M) m rm (by omega)
    refine ST_q h0 (c_X8_member_wout (d := 8) (L := L) M m y c') (c_X9_member_wout (d := 7) (L := L) M m y c') ?_ (fun c _ => rfl) (fun c _ => rfl)
    unfold f_X8_member_wout f_X9_member_wout
    rw [em, i1]
    by_cases a1 : f_X8_isOutside M m (nI mm) = 0 <;> simp [a1]
