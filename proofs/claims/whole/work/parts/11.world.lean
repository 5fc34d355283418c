/-! FROM THE SMALL MACHINE TO THE MACHINE: what a state of the one says of the other's heap and frame. 'ad': the address of each cell. -/
theorem z_ma_ok : z_at 63 (.initialized "java/lang/Math") = true ∧ z_at 429 (.static Lib.Math.min.name) = true ∧ z_at 430 (.code Lib.Math.min.name Lib.Math.min.code 2 (some .int)) = true ∧ z_at 671 (.static Lib.Math.max.name) = true ∧ z_at 672 (.code Lib.Math.max.name Lib.Math.max.code 2 (some .int)) = true := by decide +kernel
def z_tr (ad : Nat → Nat) (v : Value) : Value := match v with
  | .ref i => .ref (ad i)
  | v => v
theorem z_tr_cat (ad : Nat → Nat) (v : Value) : (z_tr ad v).category = v.category := by cases v <;> rfl
theorem z_tr_rf (ad : Nat → Nat) (r : Option Nat) : z_tr ad (va_rf r) = va_rf (r.map ad) := by cases r <;> rfl
theorem z_tr_cats (ad : Nat → Nat) (st : List Value) : ((st.map (z_tr ad)).map fun v => v.category).sum = z_cat st := by
  unfold z_cat
  rw [List.map_map]
  congr 1
  exact List.map_congr_left (fun v _ => z_tr_cat ad v)
def z_lst (ad : Nat → Nat) (LI : List (Option Value)) (LL : List (Option Int64)) : List (Nat × Value) :=
  (List.range LI.length).filterMap (fun i => (LI.getD i none).map fun v => (i, z_tr ad v)) ++ (List.range LL.length).filterMap (fun i => (LL.getD i none).map fun x => (i, Value.long x))
theorem z_getD {α : Type} {l : List (Option α)} {i : Nat} {v : α} : l.getD i none = some v ↔ l[i]? = some (some v) := by
  rw [List.getD_eq_getElem?_getD]
  cases h : l[i]? with
  | none => simp
  | some x => simp
theorem z_mem {ad : Nat → Nat} {LI : List (Option Value)} {LL : List (Option Int64)} {j : Nat} {w : Value} : (j, w) ∈ z_lst ad LI LL ↔ (∃ v, LI[j]? = some (some v) ∧ w = z_tr ad v) ∨ (∃ x, LL[j]? = some (some x) ∧ w = .long x) := by
  unfold z_lst
  rw [List.mem_append, List.mem_filterMap, List.mem_filterMap]
  constructor
  · rintro (⟨i, hi, he⟩ | ⟨i, hi, he⟩)
    · cases hv : LI.getD i none with
      | none => rw [hv] at he; cases he
      | some v =>
        rw [hv] at he
        obtain ⟨rfl, rfl⟩ := Prod.mk.inj (Option.some.inj he)
        exact Or.inl ⟨v, z_getD.mp hv, rfl⟩
    · cases hv : LL.getD i none with
      | none => rw [hv] at he; cases he
      | some v =>
        rw [hv] at he
        obtain ⟨rfl, rfl⟩ := Prod.mk.inj (Option.some.inj he)
        exact Or.inr ⟨v, z_getD.mp hv, rfl⟩
  · rintro (⟨v, h, rfl⟩ | ⟨x, h, rfl⟩)
    · exact Or.inl ⟨j, List.mem_range.mpr (List.getElem?_eq_some_iff.mp h).1, by rw [z_getD.mpr h]; rfl⟩
    · exact Or.inr ⟨j, List.mem_range.mpr (List.getElem?_eq_some_iff.mp h).1, by rw [z_getD.mpr h]; rfl⟩
def z_loc (ad : Nat → Nat) (nL : Nat) (LI : List (Option Value)) (LL : List (Option Int64)) (ls : Array Slot) : Prop := lv_has ls nL (z_lst ad LI LL) ∧ LI.length = nL ∧ ∀ v, some v ∈ LI → v.category = 1
theorem z_loc.at {ad : Nat → Nat} {nL : Nat} {LI : List (Option Value)} {LL : List (Option Int64)} {ls : Array Slot} {i : Nat} {v : Value} (h : z_loc ad nL LI LL ls) (e : LI[i]? = some (some v)) : ls[i]? = some (.val (z_tr ad v)) := h.1.2.2 (i, _) (z_mem.mpr (Or.inl ⟨v, e, rfl⟩))
theorem z_loc.atL {ad : Nat → Nat} {nL : Nat} {LI : List (Option Value)} {LL : List (Option Int64)} {ls : Array Slot} {i : Nat} {x : Int64} (h : z_loc ad nL LI LL ls) (e : LL[i]? = some (some x)) : ls[i]? = some (.val (.long x)) := h.1.2.2 (i, _) (z_mem.mpr (Or.inr ⟨x, e, rfl⟩))
theorem z_set_none {α : Type} {l : List (Option α)} {k j : Nat} {x : α} (h : (l.set k none)[j]? = some (some x)) : j ≠ k ∧ l[j]? = some (some x) := by
  by_cases hj : j = k
  · subst hj
    rw [List.getElem?_set] at h
    simp at h
  · rw [List.getElem?_set_ne (Ne.symm hj)] at h
    exact ⟨hj, h⟩
theorem z_kill_get {LL : List (Option Int64)} {i j : Nat} {x : Int64} (h : (z_kill LL i)[j]? = some (some x)) : j ≠ i ∧ j + 1 ≠ i ∧ LL[j]? = some (some x) := by
  obtain ⟨h1, h2⟩ := z_set_none h
  obtain ⟨h3, h4⟩ := z_set_none h2
  exact ⟨h3, by omega, h4⟩
theorem z_loc.st1 {ad : Nat → Nat} {nL : Nat} {LI : List (Option Value)} {LL : List (Option Int64)} {ls ls' : Array Slot} {i : Nat} {w : Value} (h : z_loc ad nL LI LL ls) (hw : w.category = 1)
    (h' : lv_has ls' nL ((i, z_tr ad w) :: (z_lst ad LI LL).filter (fun q => !(q.1 == i) && !(q.1 + 1 == i && q.2.category == 2)))) : z_loc ad nL (LI.set i (some w)) (z_kill LL i) ls' := by
  refine ⟨⟨h'.1, h'.2.1, fun q hq => ?_⟩, by simp [h.2.1], fun v hv => ?_⟩
  · obtain ⟨j, u⟩ := q
    rcases z_mem.mp hq with ⟨v, e, rfl⟩ | ⟨x, e, rfl⟩
    · by_cases hj : j = i
      · subst hj
        have hlt : j < (LI.set j (some w)).length := (List.getElem?_eq_some_iff.mp e).1
        rw [List.length_set] at hlt
        rw [List.getElem?_set_self hlt] at e
        cases e
        exact h'.2.2 _ List.mem_cons_self
      · rw [List.getElem?_set_ne (Ne.symm hj)] at e
        refine h'.2.2 _ (List.mem_cons_of_mem _ (List.mem_filter.mpr ⟨z_mem.mpr (Or.inl ⟨v, e, rfl⟩), ?_⟩))
        have hc := h.2.2 v (List.mem_of_getElem? e)
        simp [hj, z_tr_cat, hc]
    · obtain ⟨h1, h2, h3⟩ := z_kill_get e
      refine h'.2.2 _ (List.mem_cons_of_mem _ (List.mem_filter.mpr ⟨z_mem.mpr (Or.inr ⟨x, h3, rfl⟩), ?_⟩))
      simp [h1, h2]
  · rcases List.mem_or_eq_of_mem_set hv with h1 | h1
    · exact h.2.2 v h1
    · cases h1
      exact hw
theorem z_loc.st2 {ad : Nat → Nat} {nL : Nat} {LI : List (Option Value)} {LL : List (Option Int64)} {ls ls' : Array Slot} {i : Nat} {x : Int64} (h : z_loc ad nL LI LL ls)
    (h' : lv_has ls' nL ((i, Value.long x) :: (z_lst ad LI LL).filter (fun q => !(q.1 == i) && (!(q.1 == i + 1) && !(q.1 + 1 == i && q.2.category == 2))))) : z_loc ad nL ((LI.set i none).set (i + 1) none) (((z_kill LL i).set (i + 1) none).set i (some x)) ls' := by
  refine ⟨⟨h'.1, h'.2.1, fun q hq => ?_⟩, by simp [h.2.1], fun v hv => ?_⟩
  · obtain ⟨j, u⟩ := q
    rcases z_mem.mp hq with ⟨v, e, rfl⟩ | ⟨y, e, rfl⟩
    · obtain ⟨h1, h2⟩ := z_set_none e
      obtain ⟨h3, h4⟩ := z_set_none h2
      refine h'.2.2 _ (List.mem_cons_of_mem _ (List.mem_filter.mpr ⟨z_mem.mpr (Or.inl ⟨v, h4, rfl⟩), ?_⟩))
      have hc := h.2.2 v (List.mem_of_getElem? h4)
      simp [h1, h3, z_tr_cat, hc]
    · by_cases hj : j = i
      · subst hj
        have hlt := (List.getElem?_eq_some_iff.mp e).1
        rw [List.length_set] at hlt
        rw [List.getElem?_set_self hlt] at e
        cases e
        exact h'.2.2 _ List.mem_cons_self
      · rw [List.getElem?_set_ne (Ne.symm hj)] at e
        obtain ⟨h1, h2⟩ := z_set_none e
        obtain ⟨h3, h4, h5⟩ := z_kill_get h2
        refine h'.2.2 _ (List.mem_cons_of_mem _ (List.mem_filter.mpr ⟨z_mem.mpr (Or.inr ⟨y, h5, rfl⟩), ?_⟩))
        simp [hj, h1, h4]
  · rcases List.mem_or_eq_of_mem_set hv with h1 | h1
    · rcases List.mem_or_eq_of_mem_set h1 with h2 | h2
      · exact h.2.2 v h2
      · cases h2
    · cases h1
/-- another address map that says the same of the frame's references -/
theorem z_vv_tr {ad ad' : Nat → Nat} {n : Nat} (h : ∀ i, (i < n ∨ 1000 ≤ i) → ad' i = ad i) {v : Value} (hv : z_vv n v = true) : z_tr ad' v = z_tr ad v := by
  cases v with
  | ref i =>
    simp only [z_vv, Bool.or_eq_true, decide_eq_true_eq] at hv
    simp only [z_tr]
    rw [h i hv]
  | _ => rfl
theorem z_vF_st {ad ad' : Nat → Nat} {n : Nat} (h : ∀ i, (i < n ∨ 1000 ≤ i) → ad' i = ad i) {LI : List (Option Value)} {st : List Value} (hv : z_vF n LI st = true) : st.map (z_tr ad') = st.map (z_tr ad) := by
  simp only [z_vF, Bool.and_eq_true, List.all_eq_true] at hv
  exact List.map_congr_left (fun v h1 => z_vv_tr h (hv.2 v h1))
theorem z_vF_loc {ad ad' : Nat → Nat} {n nL : Nat} (h : ∀ i, (i < n ∨ 1000 ≤ i) → ad' i = ad i) {LI : List (Option Value)} {LL : List (Option Int64)} {st : List Value} {ls : Array Slot} (hv : z_vF n LI st = true) (hl : z_loc ad nL LI LL ls) : z_loc ad' nL LI LL ls := by
  refine ⟨⟨hl.1.1, hl.1.2.1, fun q hq => ?_⟩, hl.2⟩
  obtain ⟨j, u⟩ := q
  simp only [z_vF, Bool.and_eq_true, List.all_eq_true] at hv
  rcases z_mem.mp hq with ⟨v, e, rfl⟩ | ⟨x, e, rfl⟩
  · rw [z_vv_tr h (hv.1 (some v) (List.mem_of_getElem? e))]
    exact hl.at e
  · exact hl.atL e
/-! the world -/
def z_el (dA : Nat → ClassId) (ad : Nat → Nat) (S : z_St) (c : Nat) (sh : z_Sh) : va_E := match sh.1 with
  | 0 => .inl (dA 0, sh.2.1, .inl (S.2.1 c))
  | 1 => .inl (dA 1, sh.2.1, .inl (S.2.1 c))
  | 2 => .inl (dA 2, sh.2.1, .inr (.inl (S.2.2 c)))
  | 3 => .inl (dA 3, sh.2.1, .inr (.inr (.inr (.inr (fun j => (sh.2.2.getD j none).map ad)))))
  | ci + 4 => .inr (ci, (List.range sh.2.1).map (fun k => z_tr ad (z_fv ci k c sh.2.2 S)))
def z_ws (dA : Nat → ClassId) (ad : Nat → Nat) (S : z_St) : va_W := S.1.mapIdx (fun c sh => (ad c, z_el dA ad S c sh))
theorem z_ws_get (dA : Nat → ClassId) (ad : Nat → Nat) (S : z_St) (c : Nat) : (z_ws dA ad S)[c]? = S.1[c]?.map (fun sh => (ad c, z_el dA ad S c sh)) := List.getElem?_mapIdx
theorem z_ws_at {dA : Nat → ClassId} {ad : Nat → Nat} {S : z_St} {c : Nat} {sh : z_Sh} (h : S.1[c]? = some sh) : (z_ws dA ad S)[c]? = some (ad c, z_el dA ad S c sh) := by rw [z_ws_get, h]; rfl
theorem z_el_congr {dA : Nat → ClassId} {ad : Nat → Nat} {S S' : z_St} {c : Nat} {sh : z_Sh} (h1 : S'.2.1 c = S.2.1 c) (h2 : S'.2.2 c = S.2.2 c) : z_el dA ad S' c sh = z_el dA ad S c sh := by
  unfold z_el z_fv
  rw [h1, h2]
theorem z_ws_set {dA : Nat → ClassId} {ad : Nat → Nat} {S S' : z_St} {a : Nat} {sh sh' : z_Sh} (h : S.1[a]? = some sh) (h1 : S'.1 = S.1.set a sh') (hM : ∀ c, c ≠ a → S'.2.1 c = S.2.1 c) (hL : ∀ c, c ≠ a → S'.2.2 c = S.2.2 c) : z_ws dA ad S' = (z_ws dA ad S).set a (ad a, z_el dA ad S' a sh') := by
  have hlt : a < S.1.length := (List.getElem?_eq_some_iff.mp h).1
  apply List.ext_getElem?
  intro c
  rw [z_ws_get, h1]
  by_cases hc : c = a
  · subst hc
    rw [List.getElem?_set_self hlt, List.getElem?_set_self (by unfold z_ws; rw [List.length_mapIdx]; exact hlt)]
    rfl
  · rw [List.getElem?_set_ne (Ne.symm hc), List.getElem?_set_ne (Ne.symm hc), z_ws_get]
    congr 1
    funext q
    rw [z_el_congr (hM c hc) (hL c hc)]
theorem z_set_self {α : Type} {l : List α} {a : Nat} {x : α} (h : l[a]? = some x) : l = l.set a x := by
  apply List.ext_getElem?
  intro c
  by_cases hc : c = a
  · subst hc
    rw [List.getElem?_set_self (List.getElem?_eq_some_iff.mp h).1, h]
  · rw [List.getElem?_set_ne (Ne.symm hc)]
theorem z_row_ne {α : Type} {M : Nat → Nat → α} {a c : Nat} {f : Nat → α} (h : c ≠ a) : z_row M a f c = M c := if_neg h
theorem z_row_eq {α : Type} {M : Nat → Nat → α} {a : Nat} {f : Nat → α} : z_row M a f a = f := if_pos rfl
def z_tys (dA : Nat → ClassId) : List (ClassId × FieldType) := [(dA 0, .int), (dA 1, .boolean), (dA 2, .long), (dA 3, .object "BoundBraces$Braces")]
def z_zero (S : z_St) : Prop := ∀ c k, S.1.length ≤ c → S.2.1 c k = 0 ∧ S.2.2 c k = 0
theorem z_el_ad {dA : Nat → ClassId} {ad ad' : Nat → Nat} {S : z_St} {c : Nat} {sh : z_Sh} (h : ∀ k, (sh.2.2.getD k none).map ad' = (sh.2.2.getD k none).map ad) : z_el dA ad' S c sh = z_el dA ad S c sh := by
  have hf : ∀ ci k, z_tr ad' (z_fv ci k c sh.2.2 S) = z_tr ad (z_fv ci k c sh.2.2 S) := by
    intro ci k
    unfold z_fv
    split
    · rfl
    · rfl
    · rw [z_tr_rf, z_tr_rf, h k]
  unfold z_el
  split
  · rfl
  · rfl
  · rfl
  · simp only [h]
  · simp only [hf]
theorem z_vr_map {ad ad' : Nat → Nat} {n : Nat} (h : ∀ i, (i < n ∨ 1000 ≤ i) → ad' i = ad i) {rs : List (Option Nat)} (hv : rs.all (z_vr n) = true) (k : Nat) : (rs.getD k none).map ad' = (rs.getD k none).map ad := by
  cases hg : rs.getD k none with
  | none => rfl
  | some i =>
    have h1 := List.all_eq_true.mp hv (some i) (List.mem_of_getElem? (z_getD.mp hg))
    simp only [z_vr, Bool.or_eq_true, decide_eq_true_eq] at h1
    show some (ad' i) = some (ad i)
    rw [h i h1]
theorem z_ws_new {dA : Nat → ClassId} {ad : Nat → Nat} {S : z_St} {sh : z_Sh} {q : Nat} (hn : S.1.length < 1000) (hv : z_vS S.1 = true) (hs : ∀ k, sh.2.2.getD k none = none) : z_ws dA (fun i => if i = S.1.length then q else ad i) (S.1 ++ [sh], S.2.1, S.2.2) = z_ws dA ad S ++ [(q, z_el dA ad S S.1.length sh)] := by
  have hl : (z_ws dA ad S).length = S.1.length := by unfold z_ws; rw [List.length_mapIdx]
  have ha : ∀ i, (i < S.1.length ∨ 1000 ≤ i) → (fun i => if i = S.1.length then q else ad i) i = ad i := fun i h => if_neg (by omega)
  apply List.ext_getElem?
  intro c
  rw [z_ws_get]
  show (S.1 ++ [sh])[c]?.map _ = _
  by_cases hc : c < S.1.length
  · rw [List.getElem?_append_left hc, List.getElem?_append_left (by rw [hl]; exact hc), z_ws_get]
    cases hs : S.1[c]? with
    | none => rfl
    | some s0 =>
      show some _ = some _
      congr 1
      exact Prod.ext (ha c (Or.inl hc)) ((z_el_ad (S := (S.1 ++ [sh], S.2.1, S.2.2)) (z_vr_map ha (List.all_eq_true.mp hv s0 (List.mem_of_getElem? hs)))).trans (z_el_congr rfl rfl))
  · by_cases he : c = S.1.length
    · subst he
      rw [List.getElem?_append_right (Nat.le_refl _), List.getElem?_append_right (by rw [hl]; exact Nat.le_refl _), hl, Nat.sub_self]
      show some _ = some _
      congr 1
      refine Prod.ext (if_pos rfl) ((z_el_ad (S := (S.1 ++ [sh], S.2.1, S.2.2)) (fun k => ?_)).trans (z_el_congr rfl rfl))
      rw [hs k]
      rfl
    · rw [List.getElem?_eq_none (by rw [List.length_append]; show S.1.length + 1 ≤ c; omega), List.getElem?_eq_none (by rw [List.length_append, hl]; show S.1.length + 1 ≤ c; omega)]
      rfl
