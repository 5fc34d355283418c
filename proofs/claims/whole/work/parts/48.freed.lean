/-! THE BEST OF THE SETS, as the reference goes through them -/
def stp (V : Nat → Bool) (b : Option Nat) (c : Nat) : Option Nat := match b with
  | none => if V c = true then some c else none
  | some x => if V c = true ∧ pc c ≤ pc x then some c else some x
def lpb (V : Nat → Bool) (al : Nat) (b : Option Nat) (i : Nat) : Option Nat := Nat.rec (motive := fun _ => Option Nat) b (fun i r => stp V r (al - i)) i
theorem lpb_s (V : Nat → Bool) (al : Nat) (b : Option Nat) (i : Nat) : lpb V al b (i + 1) = stp V (lpb V al b i) (al - i) := rfl
theorem lpb_inv {V : Nat → Bool} {al : Nat} (ha : al < 4096) {b : Option Nat} (hb : b = none ∨ (b = some al ∧ V al = true)) (i : Nat) (hi : i ≤ al + 1) : (∀ x, lpb V al b i = some x → V x = true ∧ al ≤ x + i ∧ x ≤ al) ∧ ∀ X, V X = true → X ≤ al → al < X + i → ∃ x, lpb V al b i = some x ∧ pz x ≤ pz X := by
  induction i with
  | zero =>
    refine ⟨fun x hx => ?_, fun X _ h1 h2 => absurd h2 (by omega)⟩
    have hx' : b = some x := hx
    rcases hb with c | ⟨c, v⟩
    · rw [c] at hx'; exact absurd hx' (by simp)
    · rw [c] at hx'
      have : al = x := Option.some.inj hx'
      subst this
      exact ⟨v, by omega, by omega⟩
  | succ i ih =>
    obtain ⟨i1, i2⟩ := ih (by omega)
    rw [lpb_s]
    cases hr : lpb V al b i with
    | none =>
      have e : stp V none (al - i) = if V (al - i) = true then some (al - i) else none := rfl
      rw [e]
      by_cases c : V (al - i) = true
      · rw [if_pos c]
        refine ⟨fun x hx => ?_, fun X v h1 h2 => ?_⟩
        · have : al - i = x := Option.some.inj hx
          subst this
          exact ⟨c, by omega, by omega⟩
        · by_cases c2 : X = al - i
          · subst c2; exact ⟨_, rfl, Nat.le_refl _⟩
          · obtain ⟨x, hx, _⟩ := i2 X v h1 (by omega)
            rw [hr] at hx; exact absurd hx (by simp)
      · rw [if_neg c]
        refine ⟨fun x hx => absurd hx (by simp), fun X v h1 h2 => ?_⟩
        by_cases c2 : X = al - i
        · subst c2; exact absurd v c
        · obtain ⟨x, hx, _⟩ := i2 X v h1 (by omega)
          rw [hr] at hx; exact absurd hx (by simp)
    | some y =>
      obtain ⟨y1, y2, y3⟩ := i1 y hr
      have e : stp V (some y) (al - i) = if V (al - i) = true ∧ pc (al - i) ≤ pc y then some (al - i) else some y := rfl
      rw [e]
      by_cases c : V (al - i) = true ∧ pc (al - i) ≤ pc y
      · rw [if_pos c]
        refine ⟨fun x hx => ?_, fun X v h1 h2 => ⟨_, rfl, ?_⟩⟩
        · have : al - i = x := Option.some.inj hx
          subst this
          exact ⟨c.1, by omega, by omega⟩
        · by_cases c2 : X = al - i
          · subst c2; exact Nat.le_refl _
          · obtain ⟨x, hx, hp⟩ := i2 X v h1 (by omega)
            rw [hr] at hx
            have : y = x := Option.some.inj hx
            subst this
            exact Nat.le_trans (pz_le (by omega) (by omega) c.2 (by omega)) hp
      · rw [if_neg c]
        refine ⟨fun x hx => ?_, fun X v h1 h2 => ⟨_, rfl, ?_⟩⟩
        · have : y = x := Option.some.inj hx
          subst this
          exact ⟨y1, by omega, y3⟩
        · by_cases c2 : X = al - i
          · subst c2
            have : pc y < pc (al - i) := Nat.lt_of_not_le (fun z => c ⟨v, z⟩)
            exact Nat.le_of_lt (pz_lt (by omega) this)
          · obtain ⟨x, hx, hp⟩ := i2 X v h1 (by omega)
            rw [hr] at hx
            have : y = x := Option.some.inj hx
            subst this
            exact hp
theorem sub_le {X Y : Nat} (hX : X < 4096) (hY : Y < 4096) (h : ∀ k, k < 12 → X.testBit k = true → Y.testBit k = true) : X ≤ Y := by
  have e1 : X = sN 12 (fun k => if X.testBit k = true then 2 ^ k else 0) := by rw [← val_sN, Nat.mod_eq_of_lt hX]
  have e2 : Y = sN 12 (fun k => if Y.testBit k = true then 2 ^ k else 0) := by rw [← val_sN, Nat.mod_eq_of_lt hY]
  rw [e1, e2]
  refine sN_le (fun k hk => ?_)
  by_cases c : X.testBit k = true
  · rw [if_pos c, if_pos (h k hk c)]; exact Nat.le_refl _
  · rw [if_neg c]; exact Nat.zero_le _
theorem dif_0 {a b : Nat} (ha : a < 4096) : dif a b = 0 ↔ ∀ k, a.testBit k = true → b.testBit k = true := by
  constructor
  · intro h k hk
    have e := dif_tb (b := b) ha k
    rw [h, Nat.zero_testBit, hk, Bool.true_and] at e
    cases hb : b.testBit k
    · rw [hb] at e; exact absurd e (by decide)
    · rfl
  · intro h
    apply Nat.eq_of_testBit_eq
    intro k
    rw [dif_tb ha, Nat.zero_testBit]
    cases hk : a.testBit k
    · rfl
    · rw [h k hk]; rfl
theorem nI_0iff {a : Nat} (ha : a < 2147483648) : nI a = 0 ↔ a = 0 := nI_eq (b := 0) ha (by decide)
/-- nobody is held both ways -/
def NC (s : Nat → Int32) (Y n : Nat) : Prop := ∀ a b, a < n → b < n → Y.testBit a = true → Y.testBit b = true → s (23 + a) = s (23 + b) → s (35 + a) = s (35 + b)
theorem sN_0 {n : Nat} {f : Nat → Nat} (h : sN n f = 0) : ∀ k, k < n → f k = 0 := by
  induction n with
  | zero => intro k hk; omega
  | succ n ih =>
    rw [sN_s] at h
    intro k hk
    by_cases c : k = n
    · subst c; omega
    · exact ih (by omega) k (by omega)
theorem clN_0 (s : Nat → Int32) (Y n : Nat) : clN s Y n = 0 ↔ NC s Y n := by
  constructor
  · intro h
    have key : ∀ a b, a < n → b < a → Y.testBit a = true → Y.testBit b = true → s (23 + a) = s (23 + b) → s (35 + a) = s (35 + b) := by
      intro a b ha hb y1 y2 e
      have h1 := sN_0 (sN_0 h a ha) b hb
      by_cases c : s (35 + a) = s (35 + b)
      · exact c
      · rw [if_pos (show cP s Y a b = true from decide_eq_true ⟨y1, y2, e, c⟩)] at h1
        exact absurd h1 (by decide)
    intro a b ha hb y1 y2 e
    rcases Nat.lt_trichotomy a b with c | c | c
    · exact (key b a hb c y2 y1 e.symm).symm
    · subst c; rfl
    · exact key a b ha c y1 y2 e
  · intro h
    refine sN_zero n _ (fun a ha => sN_zero a _ (fun b hb => ?_))
    rw [if_neg]
    intro z
    obtain ⟨z1, z2, z3, z4⟩ := of_decide_eq_true z
    exact z4 (h a b ha (by omega) z1 z2 z3)
theorem sN_bd {n B : Nat} {f : Nat → Nat} (h : ∀ k, k < n → f k ≤ B) : sN n f ≤ n * B := by
  induction n with
  | zero => exact Nat.zero_le _
  | succ n ih =>
    rw [sN_s, Nat.succ_mul]
    have := ih (fun k hk => h k (by omega))
    have := h n (by omega)
    omega
theorem clN_bd {s : Nat → Int32} {Y n : Nat} (hn : n ≤ 12) : clN s Y n ≤ 144 := by
  have h1 : clN s Y n ≤ n * 12 := sN_bd (fun a ha => by
    have : sN a (fun b => if cP s Y a b = true then 1 else 0) ≤ a * 1 := sN_bd (fun b _ => by split <;> omega)
    omega)
  omega
def frV (s : Nat → Int32) (n al : Nat) (X : Nat) : Bool := decide (dif X al = 0 ∧ clN s (dif al X) n = 0)
theorem fr_r {M : Nat → Nat → Int32} {s kd w : Nat → Int32} {q : Int32} {n mm : Nat} (h : RS_279 M s kd w q n mm) {m : Nat} (hm : m < 6) : q_X9_freedOf_274 M (nI m) ∧ ∃ x, lpb (frV s n (bN n (hO s (nI m)))) (bN n (hO s (nI m))) (some (bN n (hO s (nI m)))) (bN n (hO s (nI m)) + 1) = some x ∧ f_X9_freedOf_274 M (nI m) = nI x := by
  have hn := h.2.2.2.2.1
  obtain ⟨d1, d2⟩ := st_r h (nI m)
  have e : f_X9_strapsThat_279 M (nI m) = nI (bN n (hO s (nI m))) := by
    rw [d2, bs_bN hn]
    congr 2
    funext j
    unfold hO
    by_cases c : s (71 + j) = 0 ∧ s (11 + j) = nI m
    · rw [decide_eq_true c, decide_eq_true ⟨c.1, Or.inr c.2⟩]
    · rw [decide_eq_false c, decide_eq_false (fun z => c ⟨z.1, z.2.resolve_left (nI_pos (by omega))⟩)]
  have ha := bN_4096 hn (hO s (nI m))
  unfold q_X9_freedOf_274 f_X9_freedOf_274
  rw [e]
  generalize bN n (hO s (nI m)) = al at *
  have hV : frV s n al al = true := by
    have e0 : dif al al = 0 := (dif_0 ha).mpr (fun _ z => z)
    refine decide_eq_true ⟨e0, ?_⟩
    rw [e0, clN_0]
    intro a b _ _ z
    rw [Nat.zero_testBit] at z
    exact absurd z (by decide)
  have inv := fun i hi => lpb_inv ha (Or.inr ⟨rfl, hV⟩) (V := frV s n al) i hi
  have ex : ∀ i, i ≤ al + 1 → ∃ x, lpb (frV s n al) al (some al) i = some x ∧ x ≤ al := by
    intro i
    induction i with
    | zero => intro _; exact ⟨al, rfl, Nat.le_refl _⟩
    | succ i ih =>
      intro hi
      obtain ⟨x, hx, hx2⟩ := ih (by omega)
      rw [lpb_s, hx]
      have e : stp (frV s n al) (some x) (al - i) = if frV s n al (al - i) = true ∧ pc (al - i) ≤ pc x then some (al - i) else some x := rfl
      rw [e]
      split
      · exact ⟨_, rfl, by omega⟩
      · exact ⟨_, rfl, hx2⟩
  have pcd : ∀ x, pc x ≤ 12 := fun x => by
    have : pc x ≤ 12 * 1 := sN_bd (fun k _ => by split <;> omega)
    omega
  have lp : ∀ i, i ≤ al + 1 → ∃ x, lpb (frV s n al) al (some al) i = some x ∧ x ≤ al ∧ (s_X9_freedOf_274_14 M (nI m) (nI al) (nI al) (nI al) i).1 = nI x ∧ (s_X9_freedOf_274_14 M (nI m) (nI al) (nI al) (nI al) i).2 = if i ≤ al then nI (al - i) else -1 := by
    intro i
    induction i with
    | zero => intro _; exact ⟨al, rfl, Nat.le_refl _, rfl, by rw [if_pos (by omega)]; rfl⟩
    | succ i ih =>
      intro hi
      obtain ⟨x, hx, hx2, e1, e2⟩ := ih (by omega)
      rw [if_pos (show i ≤ al by omega)] at e2
      have hs : s_X9_freedOf_274_14 M (nI m) (nI al) (nI al) (nI al) (i + 1) = (e_X9_freedOf_274_14_c3 M (nI m) (nI al) (s_X9_freedOf_274_14 M (nI m) (nI al) (nI al) (nI al) i).1 (s_X9_freedOf_274_14 M (nI m) (nI al) (nI al) (nI al) i).2, e_X9_freedOf_274_14_c4 M (nI m) (nI al) (s_X9_freedOf_274_14 M (nI m) (nI al) (nI al) (nI al) i).1 (s_X9_freedOf_274_14 M (nI m) (nI al) (nI al) (nI al) i).2) := rfl
      rw [hs, e1, e2, lpb_s, hx]
      have e : stp (frV s n al) (some x) (al - i) = if frV s n al (al - i) = true ∧ pc (al - i) ≤ pc x then some (al - i) else some x := rfl
      rw [e]
      have c4 : e_X9_freedOf_274_14_c4 M (nI m) (nI al) (nI x) (nI (al - i)) = if i + 1 ≤ al then nI (al - (i + 1)) else -1 := by
        unfold e_X9_freedOf_274_14_c4
        by_cases c : i + 1 ≤ al
        · rw [if_pos c, show al - i = (al - (i + 1)) + 1 by omega, pk_m1]
        · rw [if_neg c, show al - i = 0 by omega]; decide
      have c3 : e_X9_freedOf_274_14_c3 M (nI m) (nI al) (nI x) (nI (al - i)) = if frV s n al (al - i) = true ∧ pc (al - i) ≤ pc x then nI (al - i) else nI x := by
        unfold e_X9_freedOf_274_14_c3
        have hd := dif_lt (a := al) (b := al - i) ha
        rw [i_dif (by omega) (by omega), i_dif (by omega) (by omega), (bc_r M (show x < 4096 by omega)).2, (bc_r M (show al - i < 4096 by omega)).2, (cl_r h hd).2]
        have hb := clN_bd (s := s) (Y := dif al (al - i)) hn
        have hd2 := dif_lt (a := al - i) (b := al) (by omega)
        have p1 := pcd x
        have p2 := pcd (al - i)
        have l1 : (nI (pc x) < nI (pc (al - i))) ↔ pc x < pc (al - i) := nI_ltI (by omega) (by omega)
        have q1 := nI_0iff (show dif (al - i) al < 2147483648 by omega)
        have q2 := nI_0iff (show clN s (dif al (al - i)) n < 2147483648 by omega)
        unfold frV
        by_cases u1 : dif (al - i) al = 0
        · rw [if_neg (not_not_intro (q1.mpr u1))]
          by_cases u2 : pc x < pc (al - i)
          · rw [if_pos (l1.mpr u2), if_neg (fun z => absurd z.2 (by omega))]
          · rw [if_neg (fun z => u2 (l1.mp z))]
            by_cases u3 : clN s (dif al (al - i)) n = 0
            · rw [if_neg (not_not_intro (q2.mpr u3)), if_pos ⟨decide_eq_true ⟨u1, u3⟩, by omega⟩]
            · rw [if_pos (fun z => u3 (q2.mp z)), if_neg (fun z => u3 (of_decide_eq_true z.1).2)]
        · rw [if_pos (fun z => u1 (q1.mp z)), if_neg (fun z => u1 (of_decide_eq_true z.1).1)]
      rw [c3, c4]
      by_cases c : frV s n al (al - i) = true ∧ pc (al - i) ≤ pc x
      · rw [if_pos c, if_pos c]; exact ⟨al - i, rfl, by omega, rfl, rfl⟩
      · rw [if_neg c, if_neg c]; exact ⟨x, rfl, hx2, rfl, rfl⟩
  have tt : ∀ i, i ≤ al + 1 → t_X9_freedOf_274_14 M (nI m) (nI al) (s_X9_freedOf_274_14 M (nI m) (nI al) (nI al) (nI al) i).1 (s_X9_freedOf_274_14 M (nI m) (nI al) (nI al) (nI al) i).2 = decide (i ≤ al) := fun i hi => by
    obtain ⟨x, _, _, e1, e2⟩ := lp i hi
    unfold t_X9_freedOf_274_14
    rw [e2]
    by_cases c : i ≤ al
    · rw [if_pos c, if_neg (nI_pos (by omega)), decide_eq_true c]
    · rw [if_neg c, if_pos (by decide), decide_eq_false c]
  have eN : n_X9_freedOf_274_14 M (nI m) (nI al) (nI al) (nI al) = al + 1 := z_fst_eq (by omega) (fun k hk => by rw [tt k (by omega)]; exact decide_eq_true (by omega)) (by rw [tt _ (Nat.le_refl _)]; exact decide_eq_false (by omega))
  rw [eN]
  obtain ⟨x, hx, hx2, e1, e2⟩ := lp (al + 1) (Nat.le_refl _)
  rw [if_neg (by omega)] at e2
  refine ⟨⟨d1, fun k hk => ?_, ?_, fun z => ?_, fun z => ?_, fun z => ?_, trivial⟩, x, hx, e1⟩
  · obtain ⟨y, _, hy2, f1, f2⟩ := lp k (by omega)
    rw [if_pos (show k ≤ al by omega)] at f2
    unfold qi_X9_freedOf_274_14
    rw [f1, f2]
    refine ⟨fun _ _ => (bc_r M (by omega)).1, fun _ _ => (bc_r M (by omega)).1, fun _ _ _ => ?_, trivial⟩
    rw [i_dif (by omega) (by omega)]
    exact (cl_r h (dif_lt ha)).1
  · -- the bound
    have key : ∀ j, al + 1 ≤ j → j ≤ 4096 → (s_X9_freedOf_274_14 M (nI m) (nI al) (nI al) (nI al) j).2 < 0 := by
      intro j hj hj2
      obtain ⟨d, rfl⟩ : ∃ d, j = al + 1 + d := ⟨j - (al + 1), by omega⟩
      have : (s_X9_freedOf_274_14 M (nI m) (nI al) (nI al) (nI al) (al + 1 + d)).2 = -1 - nI d := by
        clear hj
        induction d with
        | zero => rw [Nat.add_zero, e2]; decide
        | succ d ih =>
          have hs : (s_X9_freedOf_274_14 M (nI m) (nI al) (nI al) (nI al) (al + 1 + (d + 1))).2 = (s_X9_freedOf_274_14 M (nI m) (nI al) (nI al) (nI al) (al + 1 + d)).2 + (-1) := rfl
          rw [hs, ih (by omega), ← nI_1]
          simp only [Int32.sub_eq_add_neg, Int32.neg_add, Int32.add_assoc]
      rw [this]
      have hd : d < 4096 := by omega
      have tI : (-1 - nI d).toInt = -1 - (d : Int) := by
        rw [Int32.toInt_sub, nI_toInt (by omega)]
        have : (-1 : Int32).toInt = -1 := by decide
        rw [this]
        exact Int.bmod_eq_of_le (by omega) (by omega)
      refine Int32.lt_iff_toInt_lt.mpr ?_
      rw [tI]
      have : (0 : Int32).toInt = 0 := by decide
      rw [this]
      omega
    unfold t_X9_freedOf_274_14
    rw [if_pos (key 4096 (by omega) (Nat.le_refl _))]
  · rw [e2] at z; exact absurd (by decide) z
  · rw [e2] at z; exact absurd (by decide) z
  · rw [e2] at z; exact absurd (by decide) z
