/-! CALLS AND RETURNS -/
theorem z_wd_good (y : Nat) (h : y < 182) : GoodIn z_gw (z_wd y) := by
  intro w hw
  rcases List.mem_cons.mp hw with rfl | hw
  · have h1 := z_at.in (z_code_ok y h)
    exact ⟨h1, good_of_word (List.mem_filter.mp h1).2⟩
  · exact ⟨hw, good_of_word (List.mem_filter.mp hw).2⟩
theorem z_gd {w : Cond} (h : w ∈ z_gw) : w ∈ z_gw ∧ ((w.onTables && w.keeps) = true ∨ ∃ ty, w = .arrayClass ty) := ⟨h, good_of_word (List.mem_filter.mp h).2⟩
theorem z_cls (y : Nat) (h : y < 182) : (z_nm y).cls = z_cn (z_ow y) ∧ z_ow y < 13 := by
  have := z_ow_ok y h
  simp only [Bool.and_eq_true, decide_eq_true_eq] at this
  exact ⟨this.2.1, this.1⟩
theorem z_ini_y (y : Nat) (h : y < 182) : Cond.initialized (z_nm y).cls ∈ z_gw := by
  rw [(z_cls y h).1]
  exact z_at.in (z_ini_ok _ (z_cls y h).2)
theorem z_cn_y (y : Nat) (h : y < 182) : plainFor (z_nm y) = true ∧ ((z_nm y).cls ≠ "java/lang/invoke/MethodHandle" ∧ (z_nm y).cls ≠ "java/lang/invoke/VarHandle") := by
  refine ⟨z_pf_ok y h, ?_⟩
  rw [(z_cls y h).1]
  exact of_decide_eq_true (z_cn_ok _ (z_cls y h).2)
/-- behind a call: the world that the callee left, in the caller's frame -/
theorem z_back {p : Program} {l : Launch} {e : Env} {R : Room} {s : State} {m : MethodId} {args : Array Value} {below : List Frame} {meth : Method} {c : Code} {Q : State → Prop} {o : Nat} {ini : Bool} {cc : ByteArray} {nL d : Nat} {A : Nat → Prop} {dC : Nat → ClassId} {dI : Nat → Nat → Nat} {dA : Nat → ClassId} {ar : Nat → Nat} {ro : z_Ro} {n0 s0 : Nat} {lim : Nat × Nat} {run : Nat → List (Option Value) → List (Option Int64) → List Value → z_St → Prop} {pc : Nat} {LI : List (Option Value)} {LL : List (Option Int64)} {st0 rest : List Value} {S S' : z_St} {ad : Nat → Nat} {H : Heap} {locs : List Loc} {cells slots : Nat} {ls : Array Slot} {r : Option Value} {aa : Array Value} (X : z_Cx p s m args meth c R o ini cc nL d A dC dI dA ar ro) (IH : z_IH p l e R s m args below meth c Q nL A dC dI dA ar n0 s0 lim run)
    (hr : va_Run p l e R s m args below meth c H locs cells slots (S'.1.length - S.1.length) (z_sz S'.1 - z_sz S.1) (F0 m pc ls st0) (rest.map (z_tr ad)) (z_Qc dC dI dA ad S r S' H.size aa) (va_A (z_ws dA ad S) H.size)) (hfit : z_fit lim S S' LI rest = true) (h : run (pc + 3) LI LL (r.toList ++ rest) S') (hl : z_loc ad nL LI LL ls) (hy : z_Dy s A dC dI dA ad ar n0 S H locs) (hz : z_Sz R n0 s0 cells slots lim S) : W p l e R s m args below meth c H locs cells slots Q (F0 m pc ls st0) := by
  obtain ⟨hx, hb, hml, hown, hini, hts, hnw, hao, hK, hA, hZ, hro, hro0, hRf, hRl⟩ := X
  have hAA : ∀ q, va_A (z_ws dA ad S) H.size q → A q := by
    intro q hq
    rcases hq with ⟨k, e, hk⟩ | hq
    · exact hy.2.1.2 k _ hk
    · exact hA q (Nat.le_trans hy.2.2.1.1 hq)
  refine z_cont hr (fun v st₀ t H1 locs1 h0 ht hvm hq hlo => ?_)
  obtain ⟨ad', a1, a2, a3, a4, a5, a6, a7⟩ := hq
  have hv := Outcome.returned.inj a2
  subst hv
  rw [ht] at a3
  have hsz : H.size ≤ H1.size := by
    have := a7.1
    rw [h0, ht] at this
    exact this
  have hun : ∀ q : Nat, q < H.size → ¬ va_A (z_ws dA ad S) H.size q → H1[q]? = H[q]? := fun q q1 q2 => by
    have := a7.2 q (by rw [h0]; exact q1) q2
    rw [h0, ht] at this
    exact this
  have hS' : va_S A s.heap H1 locs1 := ⟨Nat.le_trans hy.2.2.1.1 hsz, fun q q1 q2 => (hun q (Nat.lt_of_lt_of_le q1 hy.2.2.1.1) (fun z => q2 (hAA q z))).trans (hy.2.2.1.2.1 q q1 q2), fun q hq => (hlo q hq).elim (hy.2.2.1.2.2 q) (hAA _)⟩
  obtain ⟨z1, z2, z3, z4, z5, z6⟩ := hz
  have key : ad' = ad ∨ z_vF S.1.length LI rest = true := by
    simp only [z_fit, Bool.or_eq_true, Bool.and_eq_true, decide_eq_true_eq] at hfit
    rcases hfit with q | q
    · refine Or.inl (funext fun i => a1 i ?_)
      rw [q.1]
      omega
    · exact Or.inr q.2
  have hle : S.1.length ≤ S'.1.length ∧ z_sz S.1 ≤ z_sz S'.1 ∧ S'.1.length ≤ lim.1 ∧ z_sz S'.1 ≤ lim.2 := by
    simp only [z_fit, Bool.or_eq_true, Bool.and_eq_true, decide_eq_true_eq] at hfit
    rcases hfit with q | q
    · omega
    · exact ⟨q.1.1.1.1, q.1.1.1.2, q.1.1.2, q.1.2⟩
  have ha : ∀ i, (i < S.1.length ∨ 1000 ≤ i) → ad' i = ad i := fun i hi => a1 i (by omega)
  have hro' : ∀ i, (i < n0 ∨ S'.1.length ≤ i) → ad' i = ar i := fun i hi => (a1 i (by omega)).trans (hy.2.2.2.2.2 i (by omega))
  have hrest : rest.map (z_tr ad) = rest.map (z_tr ad') := by
    rcases key with rfl | q
    · rfl
    · exact (z_vF_st ha q).symm
  have hloc : z_loc ad' nL LI LL ls := by
    rcases key with rfl | q
    · exact hl
    · exact z_vF_loc ha q hl
  have hst : (r.map (z_tr ad')).toList ++ rest.map (z_tr ad) = (r.toList ++ rest).map (z_tr ad') := by
    rw [hrest, List.map_append]
    cases r <;> rfl
  rw [hst]
  exact IH _ _ _ _ _ _ _ _ _ _ _ h hloc ⟨a3, a4.weaken (fun _ _ _ q => hAA _ q), hS', a5, a6, hro'⟩ ⟨by omega, by omega, hle.2.2.1, hle.2.2.2, z5, z6⟩
/-- ahead of a call: what the callee wants -/
theorem z_ahead {p : Program} {R : Room} {s : State} {m : MethodId} {args : Array Value} {meth : Method} {c : Code} {o : Nat} {ini : Bool} {cc : ByteArray} {nL d : Nat} {A : Nat → Prop} {dC : Nat → ClassId} {dI : Nat → Nat → Nat} {dA : Nat → ClassId} {ar : Nat → Nat} {ro : z_Ro} {n0 : Nat} {as : List Value} {S : z_St} {ad : Nat → Nat} {H : Heap} {locs : List Loc} (X : z_Cx p s m args meth c R o ini cc nL d A dC dI dA ar ro) (hy : z_Dy s A dC dI dA ad ar n0 S H locs) : ∀ U : State, U.heap = H → s.WarmedH U.vm → z_Pc dC dI dA ad as S H.size (as.map (z_tr ad)).toArray U := by
  obtain ⟨hx, hb, hml, hown, hini, hts, hnw, hao, hK, hA, hZ, hro, hro0, hRf, hRl⟩ := X
  intro U hU hW
  have hAA : ∀ q, va_A (z_ws dA ad S) H.size q → A q := by
    intro q hq
    rcases hq with ⟨k, e, hk⟩ | hq
    · exact hy.2.1.2 k _ hk
    · exact hA q (Nat.le_trans hy.2.2.1.1 hq)
  have e0 : ad 1000 = ar 1000 := hy.2.2.2.2.2 1000 (Or.inr hy.2.2.2.2.1)
  refine ⟨rfl, by rw [hU], va_K.moved hW.alike hK, by rw [hU]; exact hy.1, hy.2.1.weaken (fun _ _ _ _ => trivial), hy.2.2.2.1, hy.2.2.2.2.1, z_nws_warm hW hnw, va_AO.moved hW.alike hao, ?_, ?_⟩
  · rw [hU, e0]
    exact va_Z.moved hW.alike ((hZ.kept (fun a h1 h2 => hy.2.2.1.2.1 a h1 h2)).narrow hAA)
  · rw [hU, e0]
    exact va_T.moved hW.alike (((hro 0 7 z_ord hro0).kept (fun a h1 h2 => hy.2.2.1.2.1 a h1 h2)).narrow hAA)
theorem z_take {st : List Value} {n : Nat} (h : n ≤ st.length) : st = ((st.take n).reverse).reverse ++ st.drop n := by rw [List.reverse_reverse, List.take_append_drop]
theorem z_cg_at {y : Nat} {st : List Value} {S : z_St} (h : z_cg y st S = true) : z_na y ≤ st.length ∧ z_cat (st.drop (z_na y)) ≤ 8 ∧ (z_st y = 1 ∨ ∃ (b : Nat) (As : List Value) (n : Nat) (rs : List (Option Nat)), (st.take (z_na y)).reverse = .ref b :: As ∧ S.1[b]? = some (z_ow y + 4, n, rs)) := by
  unfold z_cg at h
  simp only [Bool.and_eq_true, decide_eq_true_eq, Bool.or_eq_true, beq_iff_eq] at h
  refine ⟨h.1.1.1, h.1.1.2, ?_⟩
  rcases h.2 with q | q
  · exact Or.inl q
  · right
    split at q
    · rename_i b As hb
      split at q
      · rename_i sh hsh
        obtain ⟨s1, s2, s3⟩ := sh
        have e : s1 = 4 + z_ow y := beq_iff_eq.mp q
        subst e
        exact ⟨b, As, s2, s3, hb, by rw [hsh, Nat.add_comm]⟩
      · cases q
    · cases q
theorem z_cg_cat {y : Nat} {st : List Value} {S : z_St} (h : z_cg y st S = true) : ∀ v ∈ (st.take (z_na y)).reverse, v.category = 1 := by
  unfold z_cg at h
  simp only [Bool.and_eq_true] at h
  intro v hv
  exact beq_iff_eq.mp (List.all_eq_true.mp h.1.2 v (List.mem_reverse.mp hv))
theorem z_room {cs : Nat} {m : MethodId} {pc : Nat} {ls : Array Slot} {st0 : List Value} {ad : Nat → Nat} {st : List Value} (h : z_cat st ≤ 8) : 2 * (F0 m pc ls st0).monitorRoom + ((st.map (z_tr ad)).map fun v => v.category).sum ≤ 8 := by
  rw [z_tr_cats]
  show 2 * 0 + _ ≤ 8
  omega
set_option maxHeartbeats 1000000 in
theorem z1_call_v {p : Program} {l : Launch} {e : Env} {R : Room} {s : State} {m : MethodId} {args : Array Value} {below : List Frame} {meth : Method} {c : Code} {Q : State → Prop} {o : Nat} {ini : Bool} {rt : Option FieldType} {cc : ByteArray} {nL d : Nat} {A : Nat → Prop} {dC : Nat → ClassId} {dI : Nat → Nat → Nat} {dA : Nat → ClassId} {ar : Nat → Nat} {ro : z_Ro} {n0 s0 : Nat} {lim : Nat × Nat} {C : z_CR} {run : Nat → List (Option Value) → List (Option Int64) → List Value → z_St → Prop} {Qp : Option Value → z_St → Prop} {pc : Nat} {LI : List (Option Value)} {LL : List (Option Int64)} {st : List Value} {S : z_St} {ad : Nat → Nat} {H : Heap} {locs : List Loc} {cells slots : Nat} {ls : Array Slot} {res : z_Rs} {ea eb : Nat} {ez : Int} {i : Nat} (X : z_Cx p s m args meth c R o ini cc nL d A dC dI dA ar ro) (IH : z_IH p l e R s m args below meth c Q nL A dC dI dA ar n0 s0 lim run) (hC : ∀ (y : Nat) (as : List Value) (S : z_St) (r : Option Value) (S' : z_St), (∀ v ∈ as, v.category = 1) → C y as S r S' → z_MetAt d y as S r S') (hd : z_dec cc pc (.invokevirtual i) = true) (hk : z_lk o ini rt pc (.invokevirtual i, ea, eb, ez) = true) (hs : z_step ro d lim (.invokevirtual i, ea, eb, ez) pc LI LL st S = some res) (hg : res.1 = true) (h : z_Po C lim run Qp pc LI LL S res) (hl : z_loc ad nL LI LL ls) (hy : z_Dy s A dC dI dA ad ar n0 S H locs) (hz : z_Sz R n0 s0 cells slots lim S) : W p l e R s m args below meth c H locs cells slots Q (F0 m pc ls (st.map (z_tr ad))) := by
  obtain ⟨hx, hb, hml, hown, hini, hts, hnw, hao, hK, hA, hZ, hro, hro0, hRf, hRl⟩ := X
  have hres := Option.some.inj hs
  subst hres
  obtain ⟨rr, S', hCall, hfit, hrun⟩ := h
  obtain ⟨hd1, hy1, hlen, hM⟩ := hC _ _ _ _ _ (z_cg_cat hg) hCall
  obtain ⟨hna, hcat, hrec⟩ := z_cg_at hg
  have hna : z_na ea ≤ st.length := hna
  have hcat : z_cat (st.drop (z_na ea)) ≤ 8 := hcat
  have hy1 : ea < 182 := hy1
  obtain ⟨z1, z2, z3, z4, z5, z6⟩ := id hz
  have hle : S.1.length ≤ S'.1.length ∧ z_sz S.1 ≤ z_sz S'.1 ∧ S'.1.length ≤ lim.1 ∧ z_sz S'.1 ≤ lim.2 := by
    simp only [z_fit, Bool.or_eq_true, Bool.and_eq_true, decide_eq_true_eq] at hfit
    rcases hfit with q | q
    · omega
    · exact ⟨q.1.1.1.1, q.1.1.1.2, q.1.1.2, q.1.2⟩
  have hM := hM hle.1 hle.2.1 l dC dI dA ad H.size
  obtain ⟨m1, m2, m3, m4⟩ := z_mx_ok ea hy1
  have hroom : (z_rm (d - 1) S S').frames + 1 ≤ R.frames ∧ 8 + (z_ml ea + 11) + (z_rm (d - 1) S S').locals ≤ R.locals := by
    show d - 1 + 1 ≤ R.frames ∧ 8 + (z_ml ea + 11) + 41 * (d - 1) ≤ R.locals
    omega
  have hst : st.map (z_tr ad) = ((st.take (z_na ea)).reverse.map (z_tr ad)).reverse ++ (st.drop (z_na ea)).map (z_tr ad) := by
    rw [← List.map_reverse, List.reverse_reverse, ← List.map_append, List.take_append_drop]
  have hlen2 : ((st.take (z_na ea)).reverse).length = z_na ea := by
    rw [List.length_reverse, List.length_take]
    omega
  have hX : z_Cx p s m args meth c R o ini cc nL d A dC dI dA ar ro := ⟨hx, hb, hml, hown, hini, hts, hnw, hao, hK, hA, hZ, hro, hro0, hRf, hRl⟩
  have hk1 := (Bool.and_eq_true _ _).mp hk
  have hst0 : z_st ea = 0 := beq_iff_eq.mp hk1.1
  have hlink := z_lk_0 hk1.2
  rcases hrec with q | ⟨b, As, n, rs, e1, e2⟩
  · rw [hst0] at q
    exact absurd q (by decide)
  · have hmw := z_mw_ok ea hy1
    unfold z_mw at hmw
    rw [hst0] at hmw
    simp only [Bool.and_eq_true] at hmw
    have hds := z_ds_ok ea hy1
    rw [hst0] at hds
    have how : z_ow ea < 10 := by
      have := z_ow_ok ea hy1
      simp only [Bool.and_eq_true, decide_eq_true_eq, Bool.or_eq_true, beq_iff_eq, hst0] at this
      rcases this.2.2 with q | q
      · cases q
      · exact q
    have hAs : As.length + 1 = z_na ea := by
      rw [e1] at hlen2
      exact hlen2
    refine z_back hX IH (va_runV (C := z_cn (z_ow ea)) (b := ad b) (As := As.map (z_tr ad)) (n := z_na ea - 1) ⟨hx, hb, hml, hown, hts⟩ hM (cwV (z_na ea - 1) hts ?_ rfl rfl rfl ⟨(z_cls ea hy1).1, (z_cn_y ea hy1).2.1, (z_cn_y ea hy1).2.2, hds⟩ hroom) ⟨z_blind _ _ _ _ _ _ _, ?_, ?_⟩ rfl (by rw [List.length_map]; omega) hl.1.1 ?_ (z_room (cs := 0) hcat) (z_dec_at hd rfl) ⟨?_, ?_⟩) hfit hrun hl hy hz
    · intro w hw
      unfold wsV at hw
      rcases List.mem_append.mp hw with hw | hw
      · simp only [List.mem_cons, List.mem_nil_iff, or_false] at hw
        rcases hw with rfl | rfl | rfl | rfl
        · exact z_gd hlink
        · exact z_gd (z_at.in hmw.1)
        · exact z_gd (z_at.in hmw.2)
        · rw [← (z_cls ea hy1).1]; exact z_gd (z_ini_y ea hy1)
      · exact z_wd_good ea hy1 w hw
    · exact va_recv hK hy.1 (z_cl _ how) (z_wo e2)
    · intro U hU hW
      have := z_ahead (as := (st.take (z_na ea)).reverse) hX hy U hU hW
      rw [e1] at this ⊢
      exact this
    · show st.map (z_tr ad) = _
      rw [hst, show (st.take (z_na ea)).reverse = .ref b :: As from e1, List.map_cons, List.reverse_cons, List.append_assoc]
      rfl
    · show cells + (S'.1.length - S.1.length) ≤ R.cells
      omega
    · show slots + (z_sz S'.1 - z_sz S.1) ≤ R.slots
      omega
set_option maxHeartbeats 1000000 in
theorem z1_call_i {p : Program} {l : Launch} {e : Env} {R : Room} {s : State} {m : MethodId} {args : Array Value} {below : List Frame} {meth : Method} {c : Code} {Q : State → Prop} {o : Nat} {ini : Bool} {rt : Option FieldType} {cc : ByteArray} {nL d : Nat} {A : Nat → Prop} {dC : Nat → ClassId} {dI : Nat → Nat → Nat} {dA : Nat → ClassId} {ar : Nat → Nat} {ro : z_Ro} {n0 s0 : Nat} {lim : Nat × Nat} {C : z_CR} {run : Nat → List (Option Value) → List (Option Int64) → List Value → z_St → Prop} {Qp : Option Value → z_St → Prop} {pc : Nat} {LI : List (Option Value)} {LL : List (Option Int64)} {st : List Value} {S : z_St} {ad : Nat → Nat} {H : Heap} {locs : List Loc} {cells slots : Nat} {ls : Array Slot} {res : z_Rs} {ea eb : Nat} {ez : Int} {i : Nat} (X : z_Cx p s m args meth c R o ini cc nL d A dC dI dA ar ro) (IH : z_IH p l e R s m args below meth c Q nL A dC dI dA ar n0 s0 lim run) (hC : ∀ (y : Nat) (as : List Value) (S : z_St) (r : Option Value) (S' : z_St), (∀ v ∈ as, v.category = 1) → C y as S r S' → z_MetAt d y as S r S') (hd : z_dec cc pc (.invokespecial i) = true) (hk : z_lk o ini rt pc (.invokespecial i, ea, eb, ez) = true) (hs : z_step ro d lim (.invokespecial i, ea, eb, ez) pc LI LL st S = some res) (hg : res.1 = true) (h : z_Po C lim run Qp pc LI LL S res) (hl : z_loc ad nL LI LL ls) (hy : z_Dy s A dC dI dA ad ar n0 S H locs) (hz : z_Sz R n0 s0 cells slots lim S) : W p l e R s m args below meth c H locs cells slots Q (F0 m pc ls (st.map (z_tr ad))) := by
  obtain ⟨hx, hb, hml, hown, hini, hts, hnw, hao, hK, hA, hZ, hro, hro0, hRf, hRl⟩ := X
  have hk1 := (Bool.and_eq_true _ _).mp hk
  by_cases h3 : eb = 3
  · subst h3
    have hs3 : (z_pr st fun a r => some (decide (1 ≤ d) && decide (z_cat r ≤ 8), Sum.inl (pc + 3, LI, LL, r, S))) = some res := hs
    obtain ⟨a, r, rfl, hs4⟩ := z_pr_inv hs3
    obtain rfl := Option.some.inj hs4
    have hg2 := (Bool.and_eq_true _ _).mp hg
    have hd1 : 1 ≤ d := of_decide_eq_true hg2.1
    have hc8 : z_cat r ≤ 8 := of_decide_eq_true hg2.2
    refine W.objInit hx hb hown (hts _ (z_lk_3 hk1.2)) (hts _ (z_at.in z_ob_ok.1)) (hts _ (z_at.in z_ob_ok.2)) rfl (by rw [hml]; exact hl.1.1) (a := ad a) (rest := r.map (z_tr ad)) rfl (z_dec_at hd rfl) (by omega) (by rw [z_tr_cats]; show 2 * 0 + _ + 12 ≤ _; omega) ?_
    exact IH _ _ _ _ _ _ _ _ _ _ _ h hl hy hz
  · have hs5 : z_call ea st S = some res := by
      have : (if eb = 3 then z_pr st fun a r => some (decide (1 ≤ d) && decide (z_cat r ≤ 8), Sum.inl (pc + 3, LI, LL, r, S)) else z_call ea st S) = some res := hs
      rwa [if_neg h3] at this
    have hres := Option.some.inj hs5
    subst hres
    obtain ⟨rr, S', hCall, hfit, hrun⟩ := h
    obtain ⟨hd1, hy1, hlen, hM⟩ := hC _ _ _ _ _ (z_cg_cat hg) hCall
    obtain ⟨hna, hcat, hrec⟩ := z_cg_at hg
    have hna : z_na ea ≤ st.length := hna
    have hcat : z_cat (st.drop (z_na ea)) ≤ 8 := hcat
    have hy1 : ea < 182 := hy1
    obtain ⟨z1, z2, z3, z4, z5, z6⟩ := id hz
    have hle : S.1.length ≤ S'.1.length ∧ z_sz S.1 ≤ z_sz S'.1 ∧ S'.1.length ≤ lim.1 ∧ z_sz S'.1 ≤ lim.2 := by
      simp only [z_fit, Bool.or_eq_true, Bool.and_eq_true, decide_eq_true_eq] at hfit
      rcases hfit with q | q
      · omega
      · exact ⟨q.1.1.1.1, q.1.1.1.2, q.1.1.2, q.1.2⟩
    have hM := hM hle.1 hle.2.1 l dC dI dA ad H.size
    obtain ⟨m1, m2, m3, m4⟩ := z_mx_ok ea hy1
    have hroom : (z_rm (d - 1) S S').frames + 1 ≤ R.frames ∧ 8 + (z_ml ea + 11) + (z_rm (d - 1) S S').locals ≤ R.locals := by
      show d - 1 + 1 ≤ R.frames ∧ 8 + (z_ml ea + 11) + 41 * (d - 1) ≤ R.locals
      omega
    have hst : st.map (z_tr ad) = ((st.take (z_na ea)).reverse.map (z_tr ad)).reverse ++ (st.drop (z_na ea)).map (z_tr ad) := by
      rw [← List.map_reverse, List.reverse_reverse, ← List.map_append, List.take_append_drop]
    have hlen2 : ((st.take (z_na ea)).reverse).length = z_na ea := by
      rw [List.length_reverse, List.length_take]
      omega
    have hX : z_Cx p s m args meth c R o ini cc nL d A dC dI dA ar ro := ⟨hx, hb, hml, hown, hini, hts, hnw, hao, hK, hA, hZ, hro, hro0, hRf, hRl⟩
  
    have hk1 := (Bool.and_eq_true _ _).mp hk
    have hb0 : (z_st ea = 2 ∧ eb = 0) := by
      have := hk1.1
      simp only [Bool.or_eq_true, Bool.and_eq_true, beq_iff_eq] at this
      rcases this with q | q
      · exact absurd q h3
      · exact q
    obtain ⟨hst0, rfl⟩ := hb0
    have hlink := z_lk_0 hk1.2
    rcases hrec with q | ⟨b, As, n, rs, e1, e2⟩
    · rw [hst0] at q
      exact absurd q (by decide)
    · have hmw := z_mw_ok ea hy1
      unfold z_mw at hmw
      rw [hst0] at hmw
      simp only [Bool.and_eq_true, decide_eq_true_eq] at hmw
      have hds := z_ds_ok ea hy1
      rw [hst0] at hds
      have hAs : As.length + 1 = z_na ea := by
        rw [e1] at hlen2
        exact hlen2
      have hMc : z_wd ea = Cond.code (z_nm ea) (z_cc ea) (z_ml ea) none :: z_gw := by unfold z_wd; rw [hmw.2]
      refine z_back hX IH (va_runI (b := ad b) (As := As.map (z_tr ad)) (n := z_na ea - 1) ⟨hx, hb, hml, hown, hts⟩ hM (cwI (z_na ea - 1) hts (z_wd_good ea hy1) hMc rfl rfl (hts _ (z_ini_y ea hy1)) (hts _ hlink) (hts _ (z_at.in hmw.1.1)) hmw.1.2 ⟨(z_cn_y ea hy1).2.1, (z_cn_y ea hy1).2.2, hds⟩ hroom) ⟨z_blind _ _ _ _ _ _ _, ?_⟩ rfl (by rw [List.length_map]; omega) hl.1.1 ?_ (z_room (cs := 0) hcat) (z_dec_at hd rfl) ⟨?_, ?_⟩) hfit hrun hl hy hz
      · intro U hU hW
        have := z_ahead (as := (st.take (z_na ea)).reverse) hX hy U hU hW
        rw [e1] at this ⊢
        exact this
      · show st.map (z_tr ad) = _
        rw [hst, show (st.take (z_na ea)).reverse = .ref b :: As from e1, List.map_cons, List.reverse_cons, List.append_assoc]
        rfl
      · show cells + (S'.1.length - S.1.length) ≤ R.cells
        omega
      · show slots + (z_sz S'.1 - z_sz S.1) ≤ R.slots
        omega
set_option maxHeartbeats 1000000 in
theorem z1_call_s {p : Program} {l : Launch} {e : Env} {R : Room} {s : State} {m : MethodId} {args : Array Value} {below : List Frame} {meth : Method} {c : Code} {Q : State → Prop} {o : Nat} {ini : Bool} {rt : Option FieldType} {cc : ByteArray} {nL d : Nat} {A : Nat → Prop} {dC : Nat → ClassId} {dI : Nat → Nat → Nat} {dA : Nat → ClassId} {ar : Nat → Nat} {ro : z_Ro} {n0 s0 : Nat} {lim : Nat × Nat} {C : z_CR} {run : Nat → List (Option Value) → List (Option Int64) → List Value → z_St → Prop} {Qp : Option Value → z_St → Prop} {pc : Nat} {LI : List (Option Value)} {LL : List (Option Int64)} {st : List Value} {S : z_St} {ad : Nat → Nat} {H : Heap} {locs : List Loc} {cells slots : Nat} {ls : Array Slot} {res : z_Rs} {ea eb : Nat} {ez : Int} {i : Nat} (X : z_Cx p s m args meth c R o ini cc nL d A dC dI dA ar ro) (IH : z_IH p l e R s m args below meth c Q nL A dC dI dA ar n0 s0 lim run) (hC : ∀ (y : Nat) (as : List Value) (S : z_St) (r : Option Value) (S' : z_St), (∀ v ∈ as, v.category = 1) → C y as S r S' → z_MetAt d y as S r S') (hd : z_dec cc pc (.invokestatic i) = true) (hk : z_lk o ini rt pc (.invokestatic i, ea, eb, ez) = true) (hs : z_step ro d lim (.invokestatic i, ea, eb, ez) pc LI LL st S = some res) (hg : res.1 = true) (h : z_Po C lim run Qp pc LI LL S res) (hl : z_loc ad nL LI LL ls) (hy : z_Dy s A dC dI dA ad ar n0 S H locs) (hz : z_Sz R n0 s0 cells slots lim S) : W p l e R s m args below meth c H locs cells slots Q (F0 m pc ls (st.map (z_tr ad))) := by
  obtain ⟨hx, hb, hml, hown, hini, hts, hnw, hao, hK, hA, hZ, hro, hro0, hRf, hRl⟩ := X
  have hk1 := (Bool.and_eq_true _ _).mp hk
  have hsx : (if eb = 2 then z_pcp st fun n dp q sp w r => z_ce S q fun sq => z_ce S w fun sw => some (decide (1 ≤ d) && decide (z_cat r ≤ 8) && sq.1 == 0 && sw.1 == 0 && decide (¬ sp < 0) && decide (¬ dp < 0) && decide (¬ n < 0) && decide (sp.toNatClampNeg + n.toNatClampNeg ≤ sw.2.1) && decide (dp.toNatClampNeg + n.toNatClampNeg ≤ sq.2.1), Sum.inl (pc + 3, LI, LL, r, (S.1, z_row S.2.1 q (va_cpy (S.2.1 w) (S.2.1 q) sp.toNatClampNeg dp.toNatClampNeg n.toNatClampNeg), S.2.2))) else if eb = 4 then z_pii st fun x y r => some (decide (1 ≤ d) && decide (z_cat r ≤ 8), Sum.inl (pc + 3, LI, LL, .int (if x < y then y else x) :: r, S)) else if eb = 5 then z_pii st fun x y r => some (decide (1 ≤ d) && decide (z_cat r ≤ 8), Sum.inl (pc + 3, LI, LL, .int (if y < x then y else x) :: r, S)) else z_call ea st S) = some res := hs
  obtain ⟨z1, z2, z3, z4, z5, z6⟩ := id hz
  by_cases h2 : eb = 2
  · subst h2
    rw [if_pos rfl] at hsx
    obtain ⟨n, dp, q, sp, w, r, rfl, hs4⟩ := z_pcp_inv hsx
    obtain ⟨⟨qk, qn, qrs⟩, hq, hs5⟩ := z_ce_inv hs4
    obtain ⟨⟨wk, wn, wrs⟩, hw, hs6⟩ := z_ce_inv hs5
    obtain rfl := Option.some.inj hs6
    simp only [Bool.and_eq_true, decide_eq_true_eq, beq_iff_eq] at hg
    obtain ⟨⟨⟨⟨⟨⟨⟨⟨g1, g2⟩, rfl⟩, rfl⟩, g5⟩, g6⟩, g7⟩, g8⟩, g9⟩ := hg
    exact va_copyi (f := S.2.1 w) (g := S.2.1 q) hx hb (by rw [hml]; exact hl.1.1.symm) hown (hts _ (z_lk_2 hk1.2)) (hts _ (z_at.in z_ac_ok.1)) (hts _ (z_at.in z_ac_ok.2.1)) (hts _ (z_at.in z_ac_ok.2.2)) hK hy.1 hy.2.1 hy.2.2.1 w q 0 0 (ty := .int) (z_ws_at hw) (z_ws_at hq) rfl rfl rfl g5 g6 g7 g8 g9 (fun _ _ => rfl) (by omega) (by rw [z_tr_cats]; show z_cat r + (7 + 11) ≤ _; omega) (z_dec_at hd rfl) (fun H1 locs1 k1 k2 k3 => IH _ _ _ _ _ _ _ _ _ _ _ h hl ⟨by rw [z_row_i hq]; exact k1, by rw [z_row_i hq]; exact k2, k3, z_zero_i hq hy.2.2.2.1, hy.2.2.2.2.1, hy.2.2.2.2.2⟩ hz)
  · rw [if_neg h2] at hsx
    by_cases h4 : eb = 4
    · subst h4
      rw [if_pos rfl] at hsx
      obtain ⟨x, y, r, rfl, hs4⟩ := z_pii_inv hsx
      obtain rfl := Option.some.inj hs4
      simp only [Bool.and_eq_true, decide_eq_true_eq] at hg
      exact va_mmax hx hb (by rw [hml]; exact hl.1.1.symm) hown (hts _ (z_lk_4 hk1.2)) (hts _ (z_at.in z_ma_ok.2.2.2.1)) (hts _ (z_at.in z_ma_ok.1)) (hts _ (z_at.in z_ma_ok.2.2.2.2)) (by omega) (by rw [z_tr_cats]; omega) (by omega) (by omega) (z_dec_at hd rfl) (IH _ _ _ _ _ _ _ _ _ _ _ h hl hy hz)
    · rw [if_neg h4] at hsx
      by_cases h5 : eb = 5
      · subst h5
        rw [if_pos rfl] at hsx
        obtain ⟨x, y, r, rfl, hs4⟩ := z_pii_inv hsx
        obtain rfl := Option.some.inj hs4
        simp only [Bool.and_eq_true, decide_eq_true_eq] at hg
        exact va_mmin hx hb (by rw [hml]; exact hl.1.1.symm) hown (hts _ (z_lk_5 hk1.2)) (hts _ (z_at.in z_ma_ok.2.1)) (hts _ (z_at.in z_ma_ok.1)) (hts _ (z_at.in z_ma_ok.2.2.1)) (by omega) (by rw [z_tr_cats]; omega) (by omega) (by omega) (z_dec_at hd rfl) (IH _ _ _ _ _ _ _ _ _ _ _ h hl hy hz)
      · rw [if_neg h5] at hsx
        have hres := Option.some.inj hsx
        subst hres
        obtain ⟨rr, S', hCall, hfit, hrun⟩ := h
        obtain ⟨hd1, hy1, hlen, hM⟩ := hC _ _ _ _ _ (z_cg_cat hg) hCall
        obtain ⟨hna, hcat, hrec⟩ := z_cg_at hg
        have hna : z_na ea ≤ st.length := hna
        have hcat : z_cat (st.drop (z_na ea)) ≤ 8 := hcat
        have hy1 : ea < 182 := hy1
        have hle : S.1.length ≤ S'.1.length ∧ z_sz S.1 ≤ z_sz S'.1 ∧ S'.1.length ≤ lim.1 ∧ z_sz S'.1 ≤ lim.2 := by
          simp only [z_fit, Bool.or_eq_true, Bool.and_eq_true, decide_eq_true_eq] at hfit
          rcases hfit with q | q
          · omega
          · exact ⟨q.1.1.1.1, q.1.1.1.2, q.1.1.2, q.1.2⟩
        have hM := hM hle.1 hle.2.1 l dC dI dA ad H.size
        obtain ⟨m1, m2, m3, m4⟩ := z_mx_ok ea hy1
        have hroom : (z_rm (d - 1) S S').frames + 1 ≤ R.frames ∧ 8 + (z_ml ea + 11) + (z_rm (d - 1) S S').locals ≤ R.locals := by
          show d - 1 + 1 ≤ R.frames ∧ 8 + (z_ml ea + 11) + 41 * (d - 1) ≤ R.locals
          omega
        have hst : st.map (z_tr ad) = ((st.take (z_na ea)).reverse.map (z_tr ad)).reverse ++ (st.drop (z_na ea)).map (z_tr ad) := by
          rw [← List.map_reverse, List.reverse_reverse, ← List.map_append, List.take_append_drop]
        have hlen2 : ((st.take (z_na ea)).reverse).length = z_na ea := by
          rw [List.length_reverse, List.length_take]
          omega
        have hX : z_Cx p s m args meth c R o ini cc nL d A dC dI dA ar ro := ⟨hx, hb, hml, hown, hini, hts, hnw, hao, hK, hA, hZ, hro, hro0, hRf, hRl⟩
      
        have hb1 : z_st ea = 1 ∧ eb ≤ 1 := by
          have := hk1.1
          simp only [Bool.or_eq_true, Bool.and_eq_true, beq_iff_eq, decide_eq_true_eq] at this
          rcases this with ((q | q) | q) | q
          · exact absurd q h2
          · exact absurd q h4
          · exact absurd q h5
          · exact q
        obtain ⟨hst0, hb1⟩ := hb1
        have hmw := z_mw_ok ea hy1
        unfold z_mw at hmw
        rw [hst0] at hmw
        have hmw : z_at (z_pss.getD ea 0) (.static (z_nm ea)) = true := hmw
        have hds := z_ds_ok ea hy1
        rw [hst0] at hds
        have hstk : (F0 m pc ls (st.map (z_tr ad))).stack = ((st.take (z_na ea)).reverse.map (z_tr ad)).reverse ++ (st.drop (z_na ea)).map (z_tr ad) := hst
        rcases (show eb = 0 ∨ eb = 1 by omega) with rfl | rfl
        · refine z_back hX IH (va_runS (As := (st.take (z_na ea)).reverse.map (z_tr ad)) (n := z_na ea) ⟨hx, hb, hml, hown, hts⟩ hM (va_cwS (z_na ea) hts ?_ rfl rfl rfl ⟨(z_cn_y ea hy1).2.1, (z_cn_y ea hy1).2.2, hds⟩ hroom) ⟨z_blind _ _ _ _ _ _ _, z_ahead hX hy⟩ rfl (by rw [List.length_map]; exact hlen2) hl.1.1 hstk (z_room (cs := 0) hcat) (z_dec_at hd rfl) ⟨?_, ?_⟩) hfit hrun hl hy hz
          · intro w hw
            unfold va_wsS at hw
            rcases List.mem_append.mp hw with hw | hw
            · simp only [List.mem_cons, List.mem_nil_iff, or_false] at hw
              rcases hw with rfl | rfl | rfl
              · exact z_gd (z_lk_0 hk1.2)
              · exact z_gd (z_at.in hmw)
              · exact z_gd (z_ini_y ea hy1)
            · exact z_wd_good ea hy1 w hw
          · show cells + (S'.1.length - S.1.length) ≤ R.cells
            omega
          · show slots + (z_sz S'.1 - z_sz S.1) ≤ R.slots
            omega
        · refine z_back hX IH (va_runSN (host := "BoundBraces") (As := (st.take (z_na ea)).reverse.map (z_tr ad)) (n := z_na ea) ⟨hx, hb, hml, hown, hts⟩ hM ⟨va_cnB (z_na ea) hts (z_wd_good ea hy1) rfl rfl rfl (hnw _ (z_lk_1 hk1.2)) (hts _ (z_ini_y ea hy1)) ⟨(z_cn_y ea hy1).2.1, (z_cn_y ea hy1).2.2, hds⟩ hroom, hts _ (z_at.in hmw), trivial⟩ ⟨z_blind _ _ _ _ _ _ _, z_ahead hX hy⟩ rfl (by rw [List.length_map]; exact hlen2) hl.1.1 hstk (z_room (cs := 0) hcat) (z_dec_at hd rfl) ⟨?_, ?_⟩) hfit hrun hl hy hz
          · show cells + (S'.1.length - S.1.length) ≤ R.cells
            omega
          · show slots + (z_sz S'.1 - z_sz S.1) ≤ R.slots
            omega
set_option maxHeartbeats 1000000 in
theorem z1_ireturn {p : Program} {l : Launch} {e : Env} {R : Room} {s : State} {m : MethodId} {args : Array Value} {below : List Frame} {meth : Method} {c : Code} {Q : State → Prop} {o : Nat} {ini : Bool} {rt : Option FieldType} {cc : ByteArray} {nL d : Nat} {A : Nat → Prop} {dC : Nat → ClassId} {dI : Nat → Nat → Nat} {dA : Nat → ClassId} {ar : Nat → Nat} {ro : z_Ro} {n0 s0 : Nat} {lim : Nat × Nat} {C : z_CR} {run : Nat → List (Option Value) → List (Option Int64) → List Value → z_St → Prop} {Qp : Option Value → z_St → Prop} {pc : Nat} {LI : List (Option Value)} {LL : List (Option Int64)} {st : List Value} {S : z_St} {ad : Nat → Nat} {H : Heap} {locs : List Loc} {cells slots : Nat} {ls : Array Slot} {res : z_Rs} {ea eb : Nat} {ez : Int}  (X : z_Cx p s m args meth c R o ini cc nL d A dC dI dA ar ro) (IH : z_IH p l e R s m args below meth c Q nL A dC dI dA ar n0 s0 lim run) (hret : z_RT p l e R s m args below meth c Q A dC dI dA ar n0 s0 lim cc rt Qp) (hd : z_dec cc pc (.ireturn) = true) (hk : z_lk o ini rt pc (.ireturn, ea, eb, ez) = true) (hs : z_step ro d lim (.ireturn, ea, eb, ez) pc LI LL st S = some res) (hg : res.1 = true) (h : z_Po C lim run Qp pc LI LL S res) (hl : z_loc ad nL LI LL ls) (hy : z_Dy s A dC dI dA ad ar n0 S H locs) (hz : z_Sz R n0 s0 cells slots lim S) : W p l e R s m args below meth c H locs cells slots Q (F0 m pc ls (st.map (z_tr ad))) := by
  obtain ⟨hx, hb, hml, hown, hini, hts, hnw, hao, hK, hA, hZ, hro, hro0, hRf, hRl⟩ := X
  have hsx : (match (generalizing := false) st with
    | [.int v] => some (ea == 0 || decide (v = 0) || decide (v = 1), (.inr (.inl (some (.int v))) : z_Fr ⊕ (Option Value) ⊕ (Nat × List Value × List Value)))
    | _ => none) = some res := hs
  split at hsx
  · rename_i v
    obtain rfl := Option.some.inj hsx
    have hrt : rt = some (if ea = 0 then FieldType.int else FieldType.boolean) := of_decide_eq_true hk
    refine hret pc (some (.int v)) S ad H locs cells slots ls h hy hz (Or.inr ⟨v, rfl, z_dec_at hd rfl, ?_⟩)
    by_cases h0 : ea = 0
    · rw [if_pos h0] at hrt
      exact Or.inl hrt
    · rw [if_neg h0] at hrt
      simp only [Bool.or_eq_true, beq_iff_eq, decide_eq_true_eq] at hg
      refine Or.inr ⟨hrt, ?_⟩
      rcases hg with (q | q) | q
      · exact absurd q h0
      · exact Or.inl q
      · exact Or.inr q
  · cases hsx
set_option maxHeartbeats 1000000 in
theorem z1_return {p : Program} {l : Launch} {e : Env} {R : Room} {s : State} {m : MethodId} {args : Array Value} {below : List Frame} {meth : Method} {c : Code} {Q : State → Prop} {o : Nat} {ini : Bool} {rt : Option FieldType} {cc : ByteArray} {nL d : Nat} {A : Nat → Prop} {dC : Nat → ClassId} {dI : Nat → Nat → Nat} {dA : Nat → ClassId} {ar : Nat → Nat} {ro : z_Ro} {n0 s0 : Nat} {lim : Nat × Nat} {C : z_CR} {run : Nat → List (Option Value) → List (Option Int64) → List Value → z_St → Prop} {Qp : Option Value → z_St → Prop} {pc : Nat} {LI : List (Option Value)} {LL : List (Option Int64)} {st : List Value} {S : z_St} {ad : Nat → Nat} {H : Heap} {locs : List Loc} {cells slots : Nat} {ls : Array Slot} {res : z_Rs} {ea eb : Nat} {ez : Int}  (X : z_Cx p s m args meth c R o ini cc nL d A dC dI dA ar ro) (IH : z_IH p l e R s m args below meth c Q nL A dC dI dA ar n0 s0 lim run) (hret : z_RT p l e R s m args below meth c Q A dC dI dA ar n0 s0 lim cc rt Qp) (hd : z_dec cc pc (.return_) = true) (hk : z_lk o ini rt pc (.return_, ea, eb, ez) = true) (hs : z_step ro d lim (.return_, ea, eb, ez) pc LI LL st S = some res) (hg : res.1 = true) (h : z_Po C lim run Qp pc LI LL S res) (hl : z_loc ad nL LI LL ls) (hy : z_Dy s A dC dI dA ad ar n0 S H locs) (hz : z_Sz R n0 s0 cells slots lim S) : W p l e R s m args below meth c H locs cells slots Q (F0 m pc ls (st.map (z_tr ad))) := by
  obtain ⟨hx, hb, hml, hown, hini, hts, hnw, hao, hK, hA, hZ, hro, hro0, hRf, hRl⟩ := X
  have hsx : (match (generalizing := false) st with
    | [] => some (true, (.inr (.inl none) : z_Fr ⊕ (Option Value) ⊕ (Nat × List Value × List Value)))
    | _ => none) = some res := hs
  split at hsx
  · obtain rfl := Option.some.inj hsx
    exact hret pc none S ad H locs cells slots ls h hy hz (Or.inl ⟨rfl, of_decide_eq_true hk, z_dec_at hd rfl⟩)
  · cases hsx
