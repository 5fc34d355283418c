/-! THE CLAIM OUT OF ONE WALK OF THE LAW'S BODY. Your part is whole_start (and what it stands on); all else here is the same for every law, but numbers. -/
def R_law : String := "BoundBracesLaw"
def lw_P (b : Addr) (xs : List Int32) (args : Array Value) (s : State) : Prop := args = #[.ref b] ∧ s.IntsAt b xs ∧ xs.length ≤ 2560 ∧ (Jvm.Cond.and given_1 narrow_1).before args s = true
def lw_Q (_ : Array Value) (s : State) (o : Outcome) (t : State) : Prop := o = .returned (some (.int 1)) ∧ Framed s o t [] 600000 7302250
def lw_Z (below : List Frame) (a : Array Value) (s : State) : State → Prop := fun t => ∃ o, t.status = .running ∧ Ended t below o ∧ lw_Q a s o t
/-- the law's own end, with 1 on the stack, nothing written that was there before, its room as the claim has it -/
theorem lw_ret {p : Program} {l : Launch} {e : Env} {s : State} {m : MethodId} {below : List Frame} {meth : Method} {c : Code} {b : Nat} (hx : p.tables.exec = Jvm.exec) (hb : c.code = code) (hr : meth.sig.returnType = ret) (hlocks : meth.locks = false) {pc : Nat} {H : Heap} {ls : Array Slot} (hdg : decode code pc = .ok (.ireturn, 1)) : W p l e room_1 s m #[Value.ref b] below meth c H [] 600000 7302250 (lw_Z below #[Value.ref b] s) (F0 m pc ls [.int 1]) := by
  intro T hT X
  obtain ⟨fs, hret, hrun, hended, hW, hframe⟩ := X.leave (v := some (.int 1)) (hlocks := hlocks) (fun h => by rw [hr] at h; cases h)
  have hmeth' : T.vm.method? m = some meth := X.method'
  refine ⟨T.setFrames fs, ?_, .returned (some (.int 1)), hrun, hended, rfl, ⟨_, rfl⟩, hW, hframe⟩
  jvm_step X.here [X.here.top, hx, hb, hdg, hmeth', hr, ret, narrow_b1]
  (try refine ⟨rfl, ?_⟩); (try refine ⟨rfl, ?_⟩)
  first | (intro acts; rw [hret _ acts rfl rfl rfl]) | rw [hret _ _ rfl rfl rfl]
  exact Steps.refl _
/-- what holds at the law's entry: the machine, the code, the tables' words (any of lw_tbl by 'hts w (by decide +kernel)'), the script of L ints xs at the cell b, what the Statement gives of the start (any of its parts by flat_of_before) -/
def lw_At (p : Program) (s : State) (m : MethodId) (meth : Method) (c : Code) (b L : Nat) (xs : Nat → Int32) : Prop :=
  p.tables.exec = Jvm.exec ∧ c.code = code ∧ meth.sig.returnType = ret ∧ c.maxLocals = 4 ∧ s.vm.findClass R_law = some m.cls ∧ (∀ w ∈ lw_tbl, w.before #[Value.ref b] s = true) ∧ va_X b L xs s s.heap ∧ b < s.heap.size ∧ meth.locks = false ∧ (Jvm.Cond.and given_1 narrow_1).before #[Value.ref b] s = true
theorem z_kn {s : State} {args : Array Value} (hts : ∀ w ∈ lw_tbl, w.before args s = true) : ∃ (dC : Nat → ClassId) (dI : Nat → Nat → Nat) (dA : Nat → ClassId), va_K (dC, dI) vwCl (z_tys dA) s := by
  have hgw : ∀ w ∈ z_gw, w.before args s = true := fun w hw => hts w (List.mem_filter.mp hw).1
  have hk : ∀ k : Nat, ∃ q : ClassId × (Nat → Nat), k < 10 → u_Kn s (z_cn k) (z_T k) (z_nf k) q.1 q.2 := by
    intro k
    by_cases h : k < 10
    · have hi := z_ins_ok k h
      unfold z_at at hi
      rw [Bool.and_eq_true, decide_eq_true_eq] at hi
      obtain ⟨cC, iS, hK⟩ := u_known hgw (z_us k h) (hts _ (List.mem_of_getElem? hi.1))
      exact ⟨(cC, iS), fun _ => hK⟩
    · exact ⟨(0, fun _ => 0), fun q => absurd q h⟩
  obtain ⟨f, hf⟩ := Classical.skolem.mp hk
  have ha := z_ar_ok
  unfold z_at at ha
  rw [Bool.and_eq_true, Bool.and_eq_true, Bool.and_eq_true, decide_eq_true_eq, decide_eq_true_eq, decide_eq_true_eq] at ha
  obtain ⟨⟨a1, -⟩, ⟨a2, -⟩, ⟨a3, -⟩⟩ := ha
  obtain ⟨c0, k0, p0, x0, y0, w0⟩ := Cond.arrayClass_spec (hts _ (List.mem_of_getElem? a1))
  obtain ⟨c1, k1, p1, x1, y1, w1⟩ := Cond.arrayClass_spec (hts _ (List.mem_of_getElem? a2))
  obtain ⟨c2, k2, p2, x2, y2, w2⟩ := Cond.arrayClass_spec (hts _ (List.mem_of_getElem? a3))
  obtain ⟨p3, c3, k3, u3, v3, y3, w3, x3⟩ := Cond.arrayOver_spec (hts (.arrayOver (.object "BoundBraces$Braces")) (by decide +kernel))
  refine ⟨fun k => (f k).1, fun k => (f k).2, fun k => match k with
    | 0 => c0
    | 1 => c1
    | 2 => c2
    | _ => c3, ?_, ?_⟩
  · intro k q hq
    by_cases h : k < 10
    · rw [z_cl k h] at hq
      cases hq
      exact hf k h
    · rw [List.getElem?_eq_none (by show 10 ≤ k; omega)] at hq
      cases hq
  · intro k q hq
    match k, hq with
    | 0, hq => cases hq; exact ⟨fun n z => ⟨fun k h => (by cases h), k0, y0, p0, w0⟩, x0⟩
    | 1, hq => cases hq; exact ⟨fun n z => ⟨fun k h => (by cases h), k1, y1, p1, w1⟩, x1⟩
    | 2, hq => cases hq; exact ⟨fun n z => ⟨fun k h => (by cases h), k2, y2, p2, w2⟩, x2⟩
    | 3, hq => cases hq; exact ⟨fun n z => ⟨fun k h => (by cases h), k3, y3, p3, w3⟩, k3, p3, y3, w3, u3, x3⟩
    | k + 4, hq => exact absurd hq (by intro q; cases q)
theorem z_od {s : State} {args : Array Value} {A : Nat → Prop} (hts : ∀ w ∈ lw_tbl, w.before args s = true) (hgv : (Jvm.Cond.and given_1 narrow_1).before args s = true) (hA : ∀ a : Nat, a < s.heap.size → ¬ A a) : ∃ t : Nat, va_Z "BoundBraces" "ORDERS" "[I" (.ref t) A s s.heap ∧ va_T .int t 7 (fun j => .int (z_ord j)) A s s.heap := by
  have hs := flat_of_before _ hgv
  have h0 : (Cond.arrayOf (.static "BoundBraces" "ORDERS" "[I") .int).before args s = true := hs _ (by decide +kernel)
  have hl : (Cond.eq (.length (.static "BoundBraces" "ORDERS" "[I")) (.int 7)).before args s = true := hs _ (by decide +kernel)
  have e0 : (Cond.eq (.elem (.static "BoundBraces" "ORDERS" "[I") (.int 0)) (.int 1)).before args s = true := hs _ (by decide +kernel)
  have e1 : (Cond.eq (.elem (.static "BoundBraces" "ORDERS" "[I") (.int 1)) (.int 1)).before args s = true := hs _ (by decide +kernel)
  have e2 : (Cond.eq (.elem (.static "BoundBraces" "ORDERS" "[I") (.int 2)) (.int 2)).before args s = true := hs _ (by decide +kernel)
  have e3 : (Cond.eq (.elem (.static "BoundBraces" "ORDERS" "[I") (.int 3)) (.int 6)).before args s = true := hs _ (by decide +kernel)
  have e4 : (Cond.eq (.elem (.static "BoundBraces" "ORDERS" "[I") (.int 4)) (.int 24)).before args s = true := hs _ (by decide +kernel)
  have e5 : (Cond.eq (.elem (.static "BoundBraces" "ORDERS" "[I") (.int 5)) (.int 120)).before args s = true := hs _ (by decide +kernel)
  have e6 : (Cond.eq (.elem (.static "BoundBraces" "ORDERS" "[I") (.int 6)) (.int 720)).before args s = true := hs _ (by decide +kernel)
  obtain ⟨t, ht, hT⟩ := va_Tof (A := A) (N := 7) (f := fun j => .int (z_ord j)) (by decide) h0 (va_eqt hl) (fun j hj => by
    match j, hj with
    | 0, _ => exact va_eqt e0
    | 1, _ => exact va_eqt e1
    | 2, _ => exact va_eqt e2
    | 3, _ => exact va_eqt e3
    | 4, _ => exact va_eqt e4
    | 5, _ => exact va_eqt e5
    | 6, _ => exact va_eqt e6
    | j + 7, hj => exact absurd hj (by omega)) hA
  exact ⟨t, va_Zref (hts (.laysStatic "BoundBraces" "ORDERS" "[I") (by decide +kernel)) (hts (.initialized "BoundBraces") (by decide +kernel)) ht hA, hT⟩
/-- YOUR PART: from the entry, for every script of at most 2560 ints, the law comes to its end with true -/
theorem whole_start {p : Program} {e : Env} {s : State} {m : MethodId} {below : List Frame} {meth : Method} {c : Code} (l : Launch) {b L : Nat} {xs : Nat → Int32} (hL : L ≤ 2560) (C0 : lw_At p s m meth c b L xs) : W p l e room_1 s m #[Value.ref b] below meth c s.heap [] 0 0 (lw_Z below #[Value.ref b] s) (entryFrame m ([Value.ref b] : List Value).toArray 4) := by
  obtain ⟨hx, hb, hr, hml, hown, hts, hX, hbl, hlocks, hgv⟩ := id C0
  obtain ⟨dC, dI, dA, hK⟩ := z_kn hts
  have hA : ∀ a : Nat, a < s.heap.size → ¬ (fun q : Nat => s.heap.size ≤ q) a := fun a h => Nat.not_le.mpr h
  obtain ⟨t, hZ, hT⟩ := z_od hts hgv hA
  obtain ⟨n, hrun⟩ := z_law (N := L) xs hL
  have hTx : va_T .int b L (fun j => .int (xs j)) (fun q : Nat => s.heap.size ≤ q) s s.heap := by
    obtain ⟨scr, h1, h2, h3, h4, h5⟩ := hX
    exact ⟨scr, h1, h2, h3, by omega, by rw [h4], h5, hA b hbl⟩
  have X : z_Cx p s m #[Value.ref b] meth c room_1 10 false code 4 10 (fun q : Nat => s.heap.size ≤ q) dC dI dA (fun i => if i = 1000 then t else b) (z_rx L xs) := by
    refine ⟨hx, hb, hml, hown, fun q => absurd q Bool.false_ne_true, fun w hw => hts w (List.mem_filter.mp hw).1, fun w hw => ?_, va_AO.of (hts (.arrayOver (.object "BoundBraces$Braces")) (by decide +kernel)), hK, fun q hq => hq, hZ, fun r N f hr => ?_, rfl, by decide, by decide⟩
    · have h1 : ∀ w ∈ z_nws, w ∈ lw_tbl ∧ w.onTables = true := by decide +kernel
      exact va_Nw.of (h1 w hw).2 (hts w (h1 w hw).1)
    · match r, hr with
      | 0, hr => cases hr; exact hT
      | 1, hr => cases hr; exact hTx
      | r + 2, hr => exact absurd hr (by intro q; cases q)
  have hret : z_RT p l e room_1 s m #[Value.ref b] below meth c (lw_Z below #[Value.ref b] s) (fun q : Nat => s.heap.size ≤ q) dC dI dA (fun i => if i = 1000 then t else b) 0 0 (600000, 7302250) code (some .boolean) (fun r _ => r = some (.int 1)) := by
    intro pc r S ad H locs cells slots ls hq hy hz hcase
    obtain ⟨z1, z2, z3, z4, -, -⟩ := hz
    have z3' : S.1.length ≤ 600000 := z3
    have z4' : z_sz S.1 ≤ 7302250 := z4
    subst hq
    rcases hcase with ⟨h, -⟩ | ⟨v, hv, hdg, -⟩
    · cases h
    · refine va_forget (fun q hq => hy.2.2.1.2.2 q hq) ?_
      refine W.widen (k := 600000) (n := 7302250) (by omega) (by omega) ?_
      exact lw_ret hx hb hr hlocks hdg
  rw [lg_entry_eq]
  exact z_sound X z_ck_law (z_met2 10) hret n 0 [some (.ref 1001), none, none, none] [] [] ([], z_M0, z_L0) (fun i => if i = 1000 then t else b) s.heap [] 0 0 _ hrun (z_entry (as := [.ref 1001]) (nL := 4) (k := 0) (fun v hv => by cases List.mem_singleton.mp hv; rfl) (by decide)) ⟨fun k q h => (by cases h), ⟨fun i j p q h => (by cases h), fun k q h => (by cases h)⟩, va_S.rf, fun c k _ => ⟨rfl, rfl⟩, by decide, fun i _ => rfl⟩ ⟨rfl, rfl, by decide, by decide, rfl, rfl⟩
set_option maxHeartbeats 4000000 in
theorem lw_walk (l : Launch) (b : Addr) (xs : List Int32) : MetFree l x (headSpec (Jvm.Cond.code x code maxLocals ret :: tables_1) room_1) (lw_P b xs) (fun _ _ _ _ _ => True) lw_Q := by
  refine MetFree.of_bodyS (code := code) (maxLocals := maxLocals) (ret := ret) (by decide) ?_ ?_
  · intro args s m h hn
    obtain ⟨meth, c, h1, h2, h3, h4, h5, h6, -, -⟩ := Cond.code_spec hn (atoms_spec (ws := Jvm.Cond.code x code maxLocals ret :: tables_1) h _ List.mem_cons_self)
    exact ⟨meth, c, h1, h2, h3, h4, h5, h6⟩
  · intro p e s m args below meth c s₁ B hml0 hP _
    obtain ⟨rfl, hx, hbd, hgv⟩ := hP
    obtain ⟨scr, harrAt, hlist, hof, hsmall⟩ := hx
    obtain ⟨hcb, hkn, -, -⟩ := State.arrayAt?_spec harrAt
    have hown : s.vm.findClass R_law = some m.cls := findClass_of_methodNamed B.named
    have hts0 : ∀ c ∈ (Jvm.Cond.code x code maxLocals ret :: tables_1), c.before #[Value.ref b] s = true := atoms_spec (ws := Jvm.Cond.code x code maxLocals ret :: tables_1) B.pre
    have hts : ∀ w ∈ lw_tbl, w.before #[Value.ref b] s = true := k2_hts_sels lw_privs (fun w hw => hts0 w (List.mem_cons_of_mem _ hw)) lw_privs_ok
    have hml : c.maxLocals = 4 := B.maxLocals_eq (hts0 _ List.mem_cons_self)
    have X₀ : Stand p l e room_1 s m #[Value.ref b] below meth c s₁ [] 0 0 := Stand.of_body B
    have hh0 : s₁.heap = s.heap := by rw [B.state]; rfl
    have hsz : scr.slots.size = xs.length := by rw [← Array.length_toList, hlist, List.length_map]
    have hval : ∀ j : Nat, j < xs.length → scr.slots[j]? = some (.int (xs.getD j 0)) := fun j hj => by
      rw [← Array.getElem?_toList, hlist]
      simp [hj]
    have hbl : b < s.heap.size := (Array.getElem?_eq_some_iff.mp hcb).1
    have hX : va_X b xs.length (fun j => xs.getD j 0) s s.heap := ⟨scr, hcb, hof, hkn, hsz, hval⟩
    have K : W p l e room_1 s m #[Value.ref b] below meth c s₁.heap [] 0 0 (lw_Z below #[Value.ref b] s) (entryFrame m ([Value.ref b] : List Value).toArray 4) := by
      rw [hh0]
      exact whole_start l hbd ⟨B.exec, B.bytes, B.returns, hml, hown, hts, hX, hbl, B.notSynchronized, hgv⟩
    obtain ⟨t, a1, o, b1, b2, b3⟩ := K s₁ rfl X₀
    exact ⟨t, o, a1, b1, b2, b3⟩
theorem lw_pre_spec {args : Array Value} {s : State} (h : (Jvm.Cond.and given_1 narrow_1).before args s = true) (hr : rest_1_c.before args s = true) : ∃ (b : Addr) (xs : List Int32), lw_P b xs args s := by
  have hs := flat_of_before _ h
  have hq := flat_of_before _ hr
  have hc : (Cond.count 1).before args s = true := hs _ (by decide +kernel)
  have harr : (Cond.arrayOf (.arg 0) .int).before args s = true := hs _ (by decide +kernel)
  have hle : (Cond.le (.length (.arg 0)) (.int 2560)).before args s = true := hs _ (by decide +kernel)
  have hlen : (Cond.isInt (.length (.arg 0))).before args s = true := hq _ (by decide +kernel)
  have hall : (Cond.all (.arg 0) (.isInt (.elem (.arg 0) (.index 0)))).before args s = true := hq _ (by decide +kernel)
  obtain ⟨b, xs, hb, hx⟩ := State.ints_of_pre rfl harr hlen hall
  have hsm : xs.length < 2 ^ 31 := hx.choose_spec.2.2.2
  have hev : (Term.length (.arg 0)).eval args s none [] s = some (.int xs.length.toInt32) := hx.length_eval hb
  have hv := Cond.le_ints hev (show (Term.int 2560).eval args s none [] s = some (.int 2560) from rfl)
  have hd : xs.length.toInt32 ≤ 2560 := by
    simpa [Cond.before, Cond.holds, hv] using hle
  have hN : xs.length ≤ 2560 := (Int32.ofNat_le_ofNat hsm (by decide)).mp (show Int32.ofNat xs.length ≤ Int32.ofNat 2560 from hd)
  exact ⟨b, xs, Cond.one_arg hc (show args[0]? = some (.ref b) from hb), hx, hN, h⟩
theorem lw_comes (l : Launch) : Comes l x (Jvm.Cond.code x code maxLocals ret :: tables_1) room_1 (fun tb e args s => Calls_1 tb e args s ∧ rest_1 tb e args s ∧ Pre_1 tb e args s)
    (fun _ _ args s o t => lw_Q args s o t) := by
  intro p e ha hc hk s m args below hf hfit hheap happ hpre
  obtain ⟨b, xs, hP⟩ := lw_pre_spec hpre.2.2 hpre.2.1
  obtain ⟨k, o, h1, h2, h3, hQ⟩ := lw_walk l b xs p e ha hc hk s m args below hf ((Spec.applies_iff_loose hf).mp happ).1 hP trivial
  exact ⟨k, o, h1, h2, h3, hQ⟩
theorem lw_frame {s t : State} {o : Outcome} {args : Array Value} (h : Framed s o t [] 600000 7302250) :
    Framed s o t (fieldLocs frame_1_writes args s ++ arrayLocs frame_1_arrays args s ++ staticLocs frame_1_statics s) 600000 7302250 := h
theorem lw_limb (L : Cond) (hL : ∀ (args : Array Value) (s t : State), L.after args s (.returned (some (.int 1))) t = true) :
    ArmFor flags0 classFile x code maxLocals ret World_1 tables_1 room_1 Calls_1 rest_1 Pre_1
      (fun tb e a s o t => postC L tb e a s o t ∧ Framed s o t (fieldLocs frame_1_writes a s ++ arrayLocs frame_1_arrays a s ++ staticLocs frame_1_statics s) 600000 7302250) := by
  intro l _ _ _ p e ha hc hk s m args below hf hfit hheap happ hpre
  obtain ⟨k, o, h1, h2, h3, rfl, hF⟩ := lw_comes l p e ha hc hk s m args below hf hfit hheap happ hpre
  exact ⟨k, _, h1, h2, h3, hL args s _, lw_frame hF⟩
theorem i_vc : Claimed_1_1 ∧ Claimed_1_2 := ⟨lw_limb limb_1_1 (fun args s t => by simp [limb_1_1, Cond.after, Cond.holds, Cond.value]), lw_limb limb_1_2 (fun args s t => Cond.after_iff.mpr (by
  first | (rw [show limb_1_2 = Cond.eq .result (.int 1) from rfl, Cond.eq_ints (x := 1) (y := 1) rfl rfl]; simp; done) | (simp [limb_1_2, Cond.value, Term.eval]; done)))⟩
