/-! WHAT STANDS while a method is walked: what stays (z_Cx), what moves (z_Dy), how much is made (z_Sz). -/
def z_Cx (p : Program) (s : State) (m : MethodId) (args : Array Value) (meth : Method) (c : Code) (R : Room) (o : Nat) (ini : Bool) (cc : ByteArray) (nL d : Nat) (A : Nat → Prop) (dC : Nat → ClassId) (dI : Nat → Nat → Nat) (dA : Nat → ClassId) (ar : Nat → Nat) (ro : z_Ro) : Prop :=
  p.tables.exec = Jvm.exec ∧ c.code = cc ∧ c.maxLocals = nL ∧ s.vm.findClass (z_cn o) = some m.cls ∧ (ini = true → meth.name = "<init>") ∧ (∀ w ∈ z_gw, w.before args s = true) ∧ (∀ w ∈ z_nws, va_Nw w s) ∧ va_AO "BoundBraces$Braces" s ∧ va_K (dC, dI) vwCl (z_tys dA) s ∧ (∀ q, s.heap.size ≤ q → A q) ∧ va_Z "BoundBraces" "ORDERS" "[I" (.ref (ar 1000)) A s s.heap ∧ (∀ (r N : Nat) (f : Nat → Int32), ro[r]? = some (N, f) → va_T .int (ar (1000 + r)) N (fun j => .int (f j)) A s s.heap) ∧ ro[0]? = some (7, z_ord) ∧ d ≤ R.frames ∧ 41 * d ≤ R.locals
def z_Dy (s : State) (A : Nat → Prop) (dC : Nat → ClassId) (dI : Nat → Nat → Nat) (dA : Nat → ClassId) (ad ar : Nat → Nat) (n0 : Nat) (S : z_St) (H : Heap) (locs : List Loc) : Prop :=
  va_P (dC, dI) vwCl (z_ws dA ad S) H ∧ va_D A (z_ws dA ad S) ∧ va_S A s.heap H locs ∧ z_zero S ∧ S.1.length ≤ 1000 ∧ ∀ i, (i < n0 ∨ S.1.length ≤ i) → ad i = ar i
def z_Sz (R : Room) (n0 s0 cells slots : Nat) (lim : Nat × Nat) (S : z_St) : Prop := cells + n0 = S.1.length ∧ slots + s0 = z_sz S.1 ∧ S.1.length ≤ lim.1 ∧ z_sz S.1 ≤ lim.2 ∧ lim.1 = n0 + R.cells ∧ lim.2 = s0 + R.slots
/-- the world that a method begins with -/
def z_B (dC : Nat → ClassId) (dI : Nat → Nat → Nat) (dA : Nat → ClassId) (ad : Nat → Nat) (S : z_St) (U : State) : Prop :=
  va_K (dC, dI) vwCl (z_tys dA) U ∧ va_P (dC, dI) vwCl (z_ws dA ad S) U.heap ∧ va_D (fun _ => True) (z_ws dA ad S) ∧ z_zero S ∧ S.1.length ≤ 1000 ∧ (∀ w ∈ z_nws, va_Nw w U) ∧ va_AO "BoundBraces$Braces" U ∧ va_Z "BoundBraces" "ORDERS" "[I" (.ref (ad 1000)) (va_A (z_ws dA ad S) U.heap.size) U U.heap ∧ va_T .int (ad 1000) 7 (fun j => .int (z_ord j)) (va_A (z_ws dA ad S) U.heap.size) U U.heap
def z_Pc (dC : Nat → ClassId) (dI : Nat → Nat → Nat) (dA : Nat → ClassId) (ad : Nat → Nat) (as : List Value) (S : z_St) (sz : Nat) : Array Value → State → Prop := va_Pc (as.map (z_tr ad)) (fun U => U.heap.size = sz ∧ z_B dC dI dA ad S U)
def z_Qc (dC : Nat → ClassId) (dI : Nat → Nat → Nat) (dA : Nat → ClassId) (ad : Nat → Nat) (S : z_St) (r : Option Value) (S' : z_St) (sz : Nat) : Array Value → State → Outcome → State → Prop := fun _ st o t =>
  ∃ ad' : Nat → Nat, (∀ i, (i < S.1.length ∨ S'.1.length ≤ i) → ad' i = ad i) ∧ o = .returned (r.map (z_tr ad')) ∧ va_P (dC, dI) vwCl (z_ws dA ad' S') t.heap ∧ va_D (va_A (z_ws dA ad S) sz) (z_ws dA ad' S') ∧ z_zero S' ∧ S'.1.length ≤ 1000 ∧ va_F (va_A (z_ws dA ad S) sz) st t
def z_rm (d : Nat) (S S' : z_St) : Room := { frames := d, cells := S'.1.length - S.1.length, slots := z_sz S'.1 - z_sz S.1, locals := 41 * d }
def z_wd (y : Nat) : List Cond := .code (z_nm y) (z_cc y) (z_ml y) (z_rt y) :: z_gw
/-- method y's contract at this call, for a caller with d frames -/
def z_MetAt (d : Nat) (y : Nat) (as : List Value) (S : z_St) (r : Option Value) (S' : z_St) : Prop :=
  1 ≤ d ∧ y < 182 ∧ as.length = z_na y ∧ (S.1.length ≤ S'.1.length → z_sz S.1 ≤ z_sz S'.1 → ∀ (l : Launch) (dC : Nat → ClassId) (dI : Nat → Nat → Nat) (dA : Nat → ClassId) (ad : Nat → Nat) (sz : Nat), Met l (z_nm y) (z_wd y) (z_rm (d - 1) S S') (z_Pc dC dI dA ad as S sz) (z_Qc dC dI dA ad S r S' sz) (S'.1.length - S.1.length) (z_sz S'.1 - z_sz S.1) (va_A (z_ws dA ad S) sz))
theorem z_nws_warm {s U : State} (hW : s.WarmedH U.vm) (h : ∀ w ∈ z_nws, va_Nw w s) : ∀ w ∈ z_nws, va_Nw w U := by
  intro w hw
  have h0 := h w hw
  simp only [z_nws, List.mem_cons, List.mem_nil_iff, or_false] at hw
  rcases hw with rfl | rfl | rfl | rfl | rfl | rfl
  · exact va_Nw.warmM hW h0
  · exact va_Nw.warmM hW h0
  · exact va_Nw.warmM hW h0
  · exact va_Nw.warmM hW h0
  · exact va_Nw.warmM hW h0
  · exact va_Nw.warmF hW h0
theorem z_nws_same {u U : State} (hv : u.vm = U.vm) (h : ∀ w ∈ z_nws, va_Nw w u) : ∀ w ∈ z_nws, va_Nw w U := by
  intro w hw
  have h0 := h w hw
  simp only [z_nws, List.mem_cons, List.mem_nil_iff, or_false] at hw
  rcases hw with rfl | rfl | rfl | rfl | rfl | rfl
  · exact va_Nw.same rfl hv h0
  · exact va_Nw.same rfl hv h0
  · exact va_Nw.same rfl hv h0
  · exact va_Nw.same rfl hv h0
  · exact va_Nw.same rfl hv h0
  · exact va_Nw.same rfl hv h0
theorem z_blind (dC : Nat → ClassId) (dI : Nat → Nat → Nat) (dA : Nat → ClassId) (ad : Nat → Nat) (as : List Value) (S : z_St) (sz : Nat) : FrameBlind (z_Pc dC dI dA ad as S sz) := by
  intro a U g mk q
  obtain ⟨q0, q1, b1, b2, b3, b4, b5, b6, b7, b8, b9⟩ := q
  have hv : U.vm.Alike (U.calling g mk a).vm := Vm.Alike.refl U.vm
  exact ⟨q0, q1, va_K.moved hv b1, b2, b3, b4, b5, z_nws_same (u := U) (U := U.calling g mk a) rfl b6, va_AO.moved hv b7, va_Z.moved hv b8, va_T.moved hv b9⟩
section ZC
variable {p : Program} {l : Launch} {e : Env} {R : Room} {s : State} {m : MethodId} {args : Array Value} {below : List Frame} {meth : Method} {c : Code} {H : Heap} {locs : List Loc} {cells slots : Nat} {Q : State → Prop}
theorem z_cont {pc : Nat} {ls : Array Slot} {rest st0 : List Value} {mc ms : Nat} {Qa : State → Outcome → State → Prop} {free : Addr → Prop} (hr : va_Run p l e R s m args below meth c H locs cells slots mc ms (F0 m pc ls st0) rest Qa free)
    (kk : ∀ (v : Option Value) (st₀ t : State) (H1 : Heap) (locs1 : List Loc), st₀.heap = H → t.heap = H1 → s.vm.Alike t.vm → Qa st₀ (.returned v) t → (∀ q ∈ locs1, q ∈ locs ∨ free q.base) → W p l e R s m args below meth c H1 locs1 (cells + mc) (slots + ms) Q (F0 m (pc + 3) ls (v.toList ++ rest))) : W p l e R s m args below meth c H locs cells slots Q (F0 m pc ls st0) := by
  intro T hT X
  obtain ⟨v, st₀, t, T', L, h0, X', hL, e1, e2, hq, st⟩ := hr T hT X
  obtain ⟨t2, a1, b1⟩ := kk v st₀ t T'.heap (locs ++ L) h0 e1.symm (by rw [← e2]; exact X'.warmed.alike) hq (fun q h => (List.mem_append.mp h).imp id (hL q)) T' rfl X'
  exact ⟨t2, st t2 a1, b1⟩
end ZC
/-- the heap's steps: a store of an int, a long, a reference, of a whole row -/
theorem z_map_set {α : Type} {n b : Nat} {F F' : Nat → α} {v : α} (h1 : F' b = v) (h2 : ∀ k, k ≠ b → F' k = F k) : (List.range n).map F' = ((List.range n).map F).set b v := by
  apply List.ext_getElem?
  intro k
  by_cases hk : k = b
  · subst hk
    by_cases hl : k < n
    · rw [List.getElem?_set_self (by simpa using hl), List.getElem?_map, List.getElem?_range hl]
      exact congrArg some h1
    · rw [List.getElem?_eq_none (by simpa using hl), List.getElem?_eq_none (by simpa using hl)]
  · rw [List.getElem?_set_ne (Ne.symm hk), List.getElem?_map, List.getElem?_map]
    by_cases hl : k < n
    · rw [List.getElem?_range hl]
      exact congrArg some (h2 k hk)
    · rw [List.getElem?_eq_none (by simpa using hl)]
      rfl
theorem z_put_i {dA : Nat → ClassId} {ad : Nat → Nat} {S : z_St} {a ci k n : Nat} {rs : List (Option Nat)} {x : Int32} (h : S.1[a]? = some (ci + 4, n, rs)) (hf : z_ft ci k = 0) : z_ws dA ad (S.1, z_row S.2.1 a (upd (S.2.1 a) k x), S.2.2) = (z_ws dA ad S).set a (ad a, .inr (ci, ((List.range n).map (fun j => z_tr ad (z_fv ci j a rs S))).set k (.int x))) := by
  rw [z_ws_set (S' := (S.1, z_row S.2.1 a (upd (S.2.1 a) k x), S.2.2)) h (z_set_self h) (fun c hc => z_row_ne hc) (fun _ _ => rfl)]
  congr 2
  show Sum.inr (ci, _) = Sum.inr (ci, _)
  congr 2
  refine z_map_set ?_ (fun j hj => ?_)
  · unfold z_fv
    rw [hf]
    show Value.int (z_row S.2.1 a (upd (S.2.1 a) k x) a k) = .int x
    rw [z_row_eq, pk_us]
  · unfold z_fv
    show z_tr ad (match z_ft ci j with
      | 0 => Value.int (z_row S.2.1 a (upd (S.2.1 a) k x) a j)
      | 1 => Value.long (S.2.2 a j)
      | _ => va_rf (rs.getD j none)) = _
    rw [z_row_eq, pk_un hj]
    rfl
theorem z_put_l {dA : Nat → ClassId} {ad : Nat → Nat} {S : z_St} {a ci k n : Nat} {rs : List (Option Nat)} {x : Int64} (h : S.1[a]? = some (ci + 4, n, rs)) (hf : z_ft ci k = 1) : z_ws dA ad (S.1, S.2.1, z_row S.2.2 a (vp_updL (S.2.2 a) k x)) = (z_ws dA ad S).set a (ad a, .inr (ci, ((List.range n).map (fun j => z_tr ad (z_fv ci j a rs S))).set k (.long x))) := by
  rw [z_ws_set (S' := (S.1, S.2.1, z_row S.2.2 a (vp_updL (S.2.2 a) k x))) h (z_set_self h) (fun _ _ => rfl) (fun c hc => z_row_ne hc)]
  congr 2
  show Sum.inr (ci, _) = Sum.inr (ci, _)
  congr 2
  refine z_map_set ?_ (fun j hj => ?_)
  · unfold z_fv
    rw [hf]
    show Value.long (z_row S.2.2 a (vp_updL (S.2.2 a) k x) a k) = .long x
    rw [z_row_eq, pk_uLs]
  · unfold z_fv
    show z_tr ad (match z_ft ci j with
      | 0 => Value.int (S.2.1 a j)
      | 1 => Value.long (z_row S.2.2 a (vp_updL (S.2.2 a) k x) a j)
      | _ => va_rf (rs.getD j none)) = _
    rw [z_row_eq, show vp_updL (S.2.2 a) k x j = S.2.2 a j from if_neg hj]
    rfl
theorem z_put_r {dA : Nat → ClassId} {ad : Nat → Nat} {S : z_St} {a ci k n q : Nat} {rs : List (Option Nat)} (h : S.1[a]? = some (ci + 4, n, rs)) (hf : z_ft ci k = 2) (hk : k < rs.length) : z_ws dA ad (S.1.set a (ci + 4, n, rs.set k (some q)), S.2.1, S.2.2) = (z_ws dA ad S).set a (ad a, .inr (ci, ((List.range n).map (fun j => z_tr ad (z_fv ci j a rs S))).set k (.ref (ad q)))) := by
  rw [z_ws_set (S' := (S.1.set a (ci + 4, n, rs.set k (some q)), S.2.1, S.2.2)) h rfl (fun _ _ => rfl) (fun _ _ => rfl)]
  congr 2
  show Sum.inr (ci, _) = Sum.inr (ci, _)
  congr 2
  refine z_map_set ?_ (fun j hj => ?_)
  · unfold z_fv
    rw [hf]
    show z_tr ad (va_rf ((rs.set k (some q)).getD k none)) = .ref (ad q)
    rw [List.getD_eq_getElem?_getD, List.getElem?_set_self hk]
    rfl
  · unfold z_fv
    show z_tr ad (match z_ft ci j with
      | 0 => Value.int (S.2.1 a j)
      | 1 => Value.long (S.2.2 a j)
      | _ => va_rf ((rs.set k (some q)).getD j none)) = _
    rw [List.getD_eq_getElem?_getD, List.getElem?_set_ne (Ne.symm hj), ← List.getD_eq_getElem?_getD]
    rfl
theorem z_row_i {dA : Nat → ClassId} {ad : Nat → Nat} {S : z_St} {a n : Nat} {rs : List (Option Nat)} {f : Nat → Int32} (h : S.1[a]? = some (0, n, rs)) : z_ws dA ad (S.1, z_row S.2.1 a f, S.2.2) = (z_ws dA ad S).set a (ad a, .inl (dA 0, n, .inl f)) := by
  rw [z_ws_set (S' := (S.1, z_row S.2.1 a f, S.2.2)) h (z_set_self h) (fun c hc => z_row_ne hc) (fun _ _ => rfl)]
  congr 2
  show Sum.inl (dA 0, n, Sum.inl (z_row S.2.1 a f a)) = _
  rw [z_row_eq]
theorem z_row_z {dA : Nat → ClassId} {ad : Nat → Nat} {S : z_St} {a n : Nat} {rs : List (Option Nat)} {f : Nat → Int32} (h : S.1[a]? = some (1, n, rs)) : z_ws dA ad (S.1, z_row S.2.1 a f, S.2.2) = (z_ws dA ad S).set a (ad a, .inl (dA 1, n, .inl f)) := by
  rw [z_ws_set (S' := (S.1, z_row S.2.1 a f, S.2.2)) h (z_set_self h) (fun c hc => z_row_ne hc) (fun _ _ => rfl)]
  congr 2
  show Sum.inl (dA 1, n, Sum.inl (z_row S.2.1 a f a)) = _
  rw [z_row_eq]
theorem z_row_l {dA : Nat → ClassId} {ad : Nat → Nat} {S : z_St} {a n : Nat} {rs : List (Option Nat)} {f : Nat → Int64} (h : S.1[a]? = some (2, n, rs)) : z_ws dA ad (S.1, S.2.1, z_row S.2.2 a f) = (z_ws dA ad S).set a (ad a, .inl (dA 2, n, .inr (.inl f))) := by
  rw [z_ws_set (S' := (S.1, S.2.1, z_row S.2.2 a f)) h (z_set_self h) (fun _ _ => rfl) (fun c hc => z_row_ne hc)]
  congr 2
  show Sum.inl (dA 2, n, Sum.inr (Sum.inl (z_row S.2.2 a f a))) = _
  rw [z_row_eq]
theorem z_row_q {dA : Nat → ClassId} {ad : Nat → Nat} {S : z_St} {a n i q : Nat} {rs : List (Option Nat)} (h : S.1[a]? = some (3, n, rs)) (hi : i < rs.length) : z_ws dA ad (S.1.set a (3, n, rs.set i (some q)), S.2.1, S.2.2) = (z_ws dA ad S).set a (ad a, .inl (dA 3, n, .inr (.inr (.inr (.inr (va_up (fun j => (rs.getD j none).map ad) i (some (ad q)))))))) := by
  rw [z_ws_set (S' := (S.1.set a (3, n, rs.set i (some q)), S.2.1, S.2.2)) h rfl (fun _ _ => rfl) (fun _ _ => rfl)]
  congr 2
  show Sum.inl (dA 3, n, Sum.inr (Sum.inr (Sum.inr (Sum.inr (fun j => ((rs.set i (some q)).getD j none).map ad))))) = _
  congr 7
  funext j
  unfold va_up
  by_cases hj : j = i
  · subst hj
    rw [if_pos rfl, List.getD_eq_getElem?_getD, List.getElem?_set_self hi]
    rfl
  · rw [if_neg hj, List.getD_eq_getElem?_getD, List.getElem?_set_ne (Ne.symm hj), ← List.getD_eq_getElem?_getD]
theorem z_zero_i {S : z_St} {a : Nat} {sh : z_Sh} {f : Nat → Int32} (h : S.1[a]? = some sh) (hz : z_zero S) : z_zero (S.1, z_row S.2.1 a f, S.2.2) := by
  have hlt := (List.getElem?_eq_some_iff.mp h).1
  intro c k hc
  have hc : S.1.length ≤ c := hc
  exact ⟨(congrFun (z_row_ne (show c ≠ a by omega)) k).trans (hz c k hc).1, (hz c k hc).2⟩
theorem z_zero_l {S : z_St} {a : Nat} {sh : z_Sh} {f : Nat → Int64} (h : S.1[a]? = some sh) (hz : z_zero S) : z_zero (S.1, S.2.1, z_row S.2.2 a f) := by
  have hlt := (List.getElem?_eq_some_iff.mp h).1
  intro c k hc
  have hc : S.1.length ≤ c := hc
  exact ⟨(hz c k hc).1, (congrFun (z_row_ne (show c ≠ a by omega)) k).trans (hz c k hc).2⟩
theorem z_zero_s {S : z_St} {a : Nat} {sh : z_Sh} (hz : z_zero S) : z_zero (S.1.set a sh, S.2.1, S.2.2) := fun c k hc => hz c k (by simpa using hc)
theorem z_zero_n {S : z_St} {sh : z_Sh} (hz : z_zero S) : z_zero (S.1 ++ [sh], S.2.1, S.2.2) := fun c k hc => hz c k (by
  have hc : (S.1 ++ [sh]).length ≤ c := hc
  rw [List.length_append] at hc
  omega)
theorem z_sz_app (l : List z_Sh) (sh : z_Sh) : z_sz (l ++ [sh]) = z_sz l + sh.2.1 := by simp [z_sz]
theorem z_sz_set {l : List z_Sh} {a : Nat} {sh sh' : z_Sh} (h : l[a]? = some sh) (hn : sh'.2.1 = sh.2.1) : z_sz (l.set a sh') = z_sz l := by
  unfold z_sz
  rw [List.map_set, hn, ← z_set_self (by rw [List.getElem?_map, h]; rfl)]
