set_option maxHeartbeats 4000000 in
theorem z_one {p : Program} {l : Launch} {e : Env} {R : Room} {s : State} {m : MethodId} {args : Array Value} {below : List Frame} {meth : Method} {c : Code} {Q : State → Prop} {o : Nat} {ini : Bool} {rt : Option FieldType} {cc : ByteArray} {nL d : Nat} {A : Nat → Prop} {dC : Nat → ClassId} {dI : Nat → Nat → Nat} {dA : Nat → ClassId} {ar : Nat → Nat} {ro : z_Ro} {n0 s0 : Nat} {lim : Nat × Nat} {C : z_CR} {run : Nat → List (Option Value) → List (Option Int64) → List Value → z_St → Prop} {Qp : Option Value → z_St → Prop} {pc : Nat} {LI : List (Option Value)} {LL : List (Option Int64)} {st : List Value} {S : z_St} {ad : Nat → Nat} {H : Heap} {locs : List Loc} {cells slots : Nat} {ls : Array Slot} {res : z_Rs} {en : z_Ent} (X : z_Cx p s m args meth c R o ini cc nL d A dC dI dA ar ro) (IH : z_IH p l e R s m args below meth c Q nL A dC dI dA ar n0 s0 lim run) (hC : ∀ (y : Nat) (as : List Value) (S : z_St) (r : Option Value) (S' : z_St), (∀ v ∈ as, v.category = 1) → C y as S r S' → z_MetAt d y as S r S') (hret : z_RT p l e R s m args below meth c Q A dC dI dA ar n0 s0 lim cc rt Qp) (hd : z_dec cc pc en.1 = true) (hk : z_lk o ini rt pc en = true) (hs : z_step ro d lim en pc LI LL st S = some res) (hg : res.1 = true) (h : z_Po C lim run Qp pc LI LL S res) (hl : z_loc ad nL LI LL ls) (hy : z_Dy s A dC dI dA ad ar n0 S H locs) (hz : z_Sz R n0 s0 cells slots lim S) : W p l e R s m args below meth c H locs cells slots Q (F0 m pc ls (st.map (z_tr ad))) := by
  obtain ⟨i, ea, eb, ez⟩ := en
  cases i with
  | aload_n _ => exact z1_aload_n X IH hd hk hs hg h hl hy hz
  | aload _ => exact z1_aload X IH hd hk hs hg h hl hy hz
  | iload_n _ => exact z1_iload_n X IH hd hk hs hg h hl hy hz
  | iload _ => exact z1_iload X IH hd hk hs hg h hl hy hz
  | lload_n _ => exact z1_lload_n X IH hd hk hs hg h hl hy hz
  | istore_n _ => exact z1_istore_n X IH hd hk hs hg h hl hy hz
  | istore _ => exact z1_istore X IH hd hk hs hg h hl hy hz
  | astore_n _ => exact z1_astore_n X IH hd hk hs hg h hl hy hz
  | lstore_n _ => exact z1_lstore_n X IH hd hk hs hg h hl hy hz
  | iinc _ _ => exact z1_iinc X IH hd hk hs hg h hl hy hz
  | iconst _ => exact z1_iconst X IH hd hk hs hg h hl hy hz
  | bipush _ => exact z1_bipush X IH hd hk hs hg h hl hy hz
  | sipush _ => exact z1_sipush X IH hd hk hs hg h hl hy hz
  | ldc _ => exact z1_ldc X IH hd hk hs hg h hl hy hz
  | ldc_w _ => exact z1_ldc_w X IH hd hk hs hg h hl hy hz
  | ldc2_w _ => exact z1_ldc2_w X IH hd hk hs hg h hl hy hz
  | iadd  => exact z1_iadd X IH hd hk hs hg h hl hy hz
  | isub  => exact z1_isub X IH hd hk hs hg h hl hy hz
  | imul  => exact z1_imul X IH hd hk hs hg h hl hy hz
  | iand  => exact z1_iand X IH hd hk hs hg h hl hy hz
  | ior  => exact z1_ior X IH hd hk hs hg h hl hy hz
  | ixor  => exact z1_ixor X IH hd hk hs hg h hl hy hz
  | ishl  => exact z1_ishl X IH hd hk hs hg h hl hy hz
  | ishr  => exact z1_ishr X IH hd hk hs hg h hl hy hz
  | iushr  => exact z1_iushr X IH hd hk hs hg h hl hy hz
  | ineg  => exact z1_ineg X IH hd hk hs hg h hl hy hz
  | idiv  => exact z1_idiv X IH hd hk hs hg h hl hy hz
  | irem  => exact z1_irem X IH hd hk hs hg h hl hy hz
  | ladd  => exact z1_ladd X IH hd hk hs hg h hl hy hz
  | lmul  => exact z1_lmul X IH hd hk hs hg h hl hy hz
  | ldiv  => exact z1_ldiv X IH hd hk hs hg h hl hy hz
  | lrem  => exact z1_lrem X IH hd hk hs hg h hl hy hz
  | i2l  => exact z1_i2l X IH hd hk hs hg h hl hy hz
  | l2i  => exact z1_l2i X IH hd hk hs hg h hl hy hz
  | dup  => exact z1_dup X IH hd hk hs hg h hl hy hz
  | pop  => exact z1_pop X IH hd hk hs hg h hl hy hz
  | dup2  => exact z1_dup2 X IH hd hk hs hg h hl hy hz
  | goto _ => exact z1_goto X IH hd hk hs hg h hl hy hz
  | ifCond _ _ => exact z1_ifCond X IH hd hk hs hg h hl hy hz
  | if_icmp _ _ => exact z1_if_icmp X IH hd hk hs hg h hl hy hz
  | tableswitch _ _ _ _ => exact z1_tableswitch X IH hd hk hs hg h hl hy hz
  | lookupswitch _ _ => exact z1_lookupswitch X IH hd hk hs hg h hl hy hz
  | getfield _ => exact z1_getfield X IH hd hk hs hg h hl hy hz
  | putfield _ => exact z1_putfield X IH hd hk hs hg h hl hy hz
  | getstatic _ => exact z1_getstatic X IH hd hk hs hg h hl hy hz
  | arraylength  => exact z1_arraylength X IH hd hk hs hg h hl hy hz
  | iaload  => exact z1_iaload X IH hd hk hs hg h hl hy hz
  | baload  => exact z1_baload X IH hd hk hs hg h hl hy hz
  | laload  => exact z1_laload X IH hd hk hs hg h hl hy hz
  | aaload  => exact z1_aaload X IH hd hk hs hg h hl hy hz
  | iastore  => exact z1_iastore X IH hd hk hs hg h hl hy hz
  | bastore  => exact z1_bastore X IH hd hk hs hg h hl hy hz
  | lastore  => exact z1_lastore X IH hd hk hs hg h hl hy hz
  | aastore  => exact z1_aastore X IH hd hk hs hg h hl hy hz
  | new _ => exact z1_new X IH hd hk hs hg h hl hy hz
  | newarray _ => exact z1_newarray X IH hd hk hs hg h hl hy hz
  | anewarray _ => exact z1_anewarray X IH hd hk hs hg h hl hy hz
  | invokevirtual _ => exact z1_call_v X IH hC hd hk hs hg h hl hy hz
  | invokespecial _ => exact z1_call_i X IH hC hd hk hs hg h hl hy hz
  | invokestatic _ => exact z1_call_s X IH hC hd hk hs hg h hl hy hz
  | ireturn => exact z1_ireturn X IH hret hd hk hs hg h hl hy hz
  | return_ => exact z1_return X IH hret hd hk hs hg h hl hy hz
  | _ => exact absurd (show (none : Option z_Rs) = some res from hs) (fun q => by cases q)
/-- THE SMALL MACHINE IS RIGHT: what it runs to, the machine runs to -/
theorem z_sound {p : Program} {l : Launch} {e : Env} {R : Room} {s : State} {m : MethodId} {args : Array Value} {below : List Frame} {meth : Method} {c : Code} {Q : State → Prop} {o : Nat} {ini : Bool} {rt : Option FieldType} {cc : ByteArray} {nL d : Nat} {A : Nat → Prop} {dC : Nat → ClassId} {dI : Nat → Nat → Nat} {dA : Nat → ClassId} {ar : Nat → Nat} {ro : z_Ro} {n0 s0 : Nat} {lim : Nat × Nat} {C : z_CR} {Qp : Option Value → z_St → Prop} {tb : List (Option z_Ent)} (X : z_Cx p s m args meth c R o ini cc nL d A dC dI dA ar ro) (hck : z_ckt o ini rt cc 0 tb = true) (hC : ∀ (y : Nat) (as : List Value) (S : z_St) (r : Option Value) (S' : z_St), (∀ v ∈ as, v.category = 1) → C y as S r S' → z_MetAt d y as S r S') (hret : z_RT p l e R s m args below meth c Q A dC dI dA ar n0 s0 lim cc rt Qp) : ∀ n : Nat, z_IH p l e R s m args below meth c Q nL A dC dI dA ar n0 s0 lim (fun pc LI LL st S => z_run ro d C tb lim n pc LI LL st S Qp) := by
  intro n
  induction n with
  | zero => exact fun pc LI LL st S ad H locs cells slots ls h _ _ _ => h.elim
  | succ n ih =>
    intro pc LI LL st S ad H locs cells slots ls h hl hy hz
    obtain ⟨en, res, h1, h2, h3, h4⟩ := z_run_inv h
    have h5 := z_ckt_at hck h1
    rw [Nat.zero_add] at h5
    exact z_one X ih hC hret h5.1 h5.2 h2 h3 h4 hl hy hz
theorem z_args_mem : ∀ (vs : List Value) (i j : Nat) (w : Value), (∀ v ∈ vs, v.category = 1) → vs[j]? = some w → (i + j, w) ∈ lv_args i vs
  | [], _, _, _, _, h => by simp at h
  | v :: vs, i, 0, w, _, h => by
    rw [List.getElem?_cons_zero] at h
    cases h
    exact List.mem_cons_self
  | v :: vs, i, j + 1, w, hc, h => by
    rw [List.getElem?_cons_succ] at h
    have h1 : ¬ v.category = 2 := by rw [hc v List.mem_cons_self]; decide
    show _ ∈ (i, v) :: lv_args (if v.category = 2 then i + 2 else i + 1) vs
    rw [if_neg h1]
    have := z_args_mem vs (i + 1) j w (fun v h => hc v (List.mem_cons_of_mem _ h)) h
    rw [show i + 1 + j = i + (j + 1) by omega] at this
    exact List.mem_cons_of_mem _ this
theorem z_sl_len : ∀ (vs : List Value), (∀ v ∈ vs, v.category = 1) → (lg_sl vs).length = vs.length
  | [], _ => rfl
  | v :: vs, hc => by
    have h1 : ¬ v.category = 2 := by rw [hc v List.mem_cons_self]; decide
    have := z_sl_len vs (fun v h => hc v (List.mem_cons_of_mem _ h))
    simp only [lg_sl, List.flatMap_cons, if_neg h1, List.length_append, List.length_cons, List.length_nil] at this ⊢
    omega
/-- a method's frame as it begins -/
theorem z_entry {ad : Nat → Nat} {as : List Value} {nL k : Nat} (hc : ∀ v ∈ as, v.category = 1) (hn : as.length ≤ nL) : z_loc ad nL (as.map some ++ List.replicate (nL - as.length) none) (List.replicate k none) ((lg_sl (as.map (z_tr ad)) ++ List.replicate (nL - (lg_sl (as.map (z_tr ad))).length) Slot.unset).toArray) := by
  have hc2 : ∀ v ∈ as.map (z_tr ad), v.category = 1 := by
    intro v hv
    obtain ⟨w, hw, rfl⟩ := List.mem_map.mp hv
    rw [z_tr_cat]
    exact hc w hw
  have hlen := z_sl_len _ hc2
  rw [List.length_map] at hlen
  have hl := lv_entry (as.map (z_tr ad)) (n := nL) (by rw [hlen]; exact hn)
  refine ⟨⟨hl.1, hl.2.1, fun q hq => ?_⟩, by simp; omega, fun v hv => ?_⟩
  · obtain ⟨j, u⟩ := q
    rcases z_mem.mp hq with ⟨v, e, rfl⟩ | ⟨x, e, rfl⟩
    · have hj : as[j]? = some v := by
        by_cases h1 : j < as.length
        · rw [List.getElem?_append_left (by rw [List.length_map]; exact h1), List.getElem?_map] at e
          cases h2 : as[j]? with
          | none => rw [h2] at e; cases e
          | some w => rw [h2] at e; cases e; rfl
        · rw [List.getElem?_append_right (by rw [List.length_map]; omega)] at e
          have := List.eq_of_mem_replicate (List.mem_of_getElem? e)
          cases this
      have := z_args_mem (as.map (z_tr ad)) 0 j (z_tr ad v) hc2 (by rw [List.getElem?_map, hj]; rfl)
      rw [Nat.zero_add] at this
      exact hl.2.2 _ this
    · have := List.eq_of_mem_replicate (List.mem_of_getElem? e)
      cases this
  · rcases List.mem_append.mp hv with h1 | h1
    · obtain ⟨w, hw, e⟩ := List.mem_map.mp h1
      cases e
      exact hc _ hw
    · have := List.eq_of_mem_replicate h1
      cases this
theorem z_tbs_len : z_tbs.length = 182 := by decide +kernel
/-- a contract out of a walk, also where the class is one of those with natives: the method itself has no such row -/
theorem z_ofW {l : Launch} {y : MethodName} {ws ws' : List Cond} {rm : Room} {Pc : Array Value → State → Prop} {Qc : Array Value → State → Outcome → State → Prop} {mc ms : Nat} {free : Addr → Prop} {cc : ByteArray} {maxL : Nat} {ret : Option FieldType} (hy : plainFor y = true) (hw : ws = Cond.code y cc maxL ret :: ws')
    (body : ∀ p e s m args below meth c s₁, BodyLoose p l y (headSpec ws rm) cc maxL ret e s m args below meth c s₁ → c.maxLocals = maxL → Pc args s → W p l e (headSpec ws rm).room s m args below meth c s.heap [] 0 0 (MQ below Qc args s mc ms free) (entryFrame m args maxL)) : Met l y ws rm Pc Qc mc ms free := by
  refine MetFree.of_bodySF (code := cc) (maxLocals := maxL) (ret := ret) hy (fun args s m h hn => ?_) (fun p e s m args below meth c s₁ B hml hP _ => ?_)
  · have h1 := atoms_spec (ws := ws) h _ (by rw [hw]; exact List.mem_cons_self)
    obtain ⟨meth, c, q1, q2, q3, q4, q5, q6, -, -⟩ := Cond.code_spec hn h1
    exact ⟨meth, c, q1, q2, q3, q4, q5, q6⟩
  · have hh : s₁.heap = s.heap := by rw [B.state]; rfl
    obtain ⟨t, a1, o, b1, b2, b3, b4⟩ := body p e s m args below meth c s₁ B hml hP s₁ hh (Stand.of_body B)
    exact ⟨t, o, a1, b1, b2, b3, b4⟩
set_option maxHeartbeats 4000000 in
/-- EVERY CALL of the small machine is a contract of the machine's -/
theorem z_met : ∀ (d y : Nat) (as : List Value) (S : z_St) (r : Option Value) (S' : z_St), (∀ v ∈ as, v.category = 1) → z_C d y as S r S' → z_MetAt d y as S r S' := by
  intro d
  induction d with
  | zero => exact fun y as S r S' _ h => h.elim
  | succ d ih =>
    intro y as S r0 S' hcat h
    rw [z_C_succ] at h
    obtain ⟨hy, hlen, n, hrun⟩ := h
    rw [z_tbs_len] at hy
    refine ⟨by omega, hy, hlen, fun h1 h2 l dC dI dA ad sz => ?_⟩
    obtain ⟨m1, m2, m3, m4⟩ := z_mx_ok y hy
    refine z_ofW (cc := z_cc y) (maxL := z_ml y) (ret := z_rt y) (z_cn_y y hy).1 rfl ?_
    intro p e s m args below meth c s₁ B hml hv
    obtain ⟨rfl, hsz, b1, b2, b3, b4, b5, b6, b7, b8, b9⟩ := hv
    subst hsz
    have hts := atoms_spec (ws := z_wd y) B.pre
    have hown : s.vm.findClass (z_nm y).cls = some m.cls := findClass_of_methodNamed B.named
    have hnm : meth.name = (z_nm y).name := (name_of_methodNamed B.named B.method).1
    have hlocks := B.notSynchronized
    rw [(z_cls y hy).1] at hown
    have X : z_Cx p s m (as.map (z_tr ad)).toArray meth c (z_rm d S S') (z_ow y) (z_st y == 2) (z_cc y) (z_ml y) d (va_A (z_ws dA ad S) s.heap.size) dC dI dA ad z_ro0 := by
      refine ⟨B.exec, B.bytes, hml, hown, fun q => ?_, fun w hw => hts w (List.mem_cons_of_mem _ hw), b6, b7, b1, fun q hq => Or.inr hq, b8, fun r N f hr => ?_, rfl, Nat.le_refl _, Nat.le_refl _⟩
      · have hmw := z_mw_ok y hy
        unfold z_mw at hmw
        rw [beq_iff_eq.mp q] at hmw
        simp only [Bool.and_eq_true, decide_eq_true_eq] at hmw
        rw [hnm]
        exact hmw.1.2
      · cases r with
        | zero => cases hr; exact b9
        | succ r => cases hr
    have hret : z_RT p l e (z_rm d S S') s m (as.map (z_tr ad)).toArray below meth c (MQ below (z_Qc dC dI dA ad S r0 S' s.heap.size) (as.map (z_tr ad)).toArray s (S'.1.length - S.1.length) (z_sz S'.1 - z_sz S.1) (va_A (z_ws dA ad S) s.heap.size)) (va_A (z_ws dA ad S) s.heap.size) dC dI dA ad S.1.length (z_sz S.1) (S'.1.length, z_sz S'.1) (z_cc y) (z_rt y) (fun r2 S2 => r2 = r0 ∧ S2 = S') := by
      intro pc r2 S2 ad2 H locs cells slots ls hq hy2 hz2 hcase
      obtain ⟨rfl, rfl⟩ := hq
      obtain ⟨z1, z2, -⟩ := hz2
      obtain rfl : cells = S2.1.length - S.1.length := by omega
      obtain rfl : slots = z_sz S2.1 - z_sz S.1 := by omega
      have hQ : ∀ t : State, t.heap = H → s.WarmedH t.vm → z_Qc dC dI dA ad S r2 S2 s.heap.size (as.map (z_tr ad)).toArray s (.returned (r2.map (z_tr ad2))) t := fun t ht _ => ⟨ad2, hy2.2.2.2.2.2, rfl, by rw [ht]; exact hy2.1, hy2.2.1, hy2.2.2.2.1, hy2.2.2.2.2.1, hy2.2.2.1.F ht⟩
      rcases hcase with ⟨rfl, hrt, hdg⟩ | ⟨v, rfl, hdg, hrt⟩
      · exact W.vret B.exec B.bytes (by rw [B.returns]; exact hrt) hQ hy2.2.2.1.2.2 hdg
      · rcases hrt with hrt | ⟨hrt, hv⟩
        · exact W.iret B.exec B.bytes (by rw [B.returns]; exact hrt) hQ hy2.2.2.1.2.2 hdg
        · refine W.zret B.exec B.bytes (by rw [B.returns]; exact hrt) ?_ hQ hy2.2.2.1.2.2 hdg
          rcases hv with rfl | rfl <;> rfl
    have hck := z_ck y hy
    rw [lg_entry_eq]
    exact z_sound X hck ih hret n 0 _ _ [] S ad s.heap [] 0 0 _ hrun (z_entry hcat (by rw [hlen]; exact m2)) ⟨b2, b3.self, va_S.rf, b4, b5, fun i _ => rfl⟩ ⟨by omega, by omega, h1, h2, by show S'.1.length = S.1.length + (S'.1.length - S.1.length); omega, by show z_sz S'.1 = z_sz S.1 + (z_sz S'.1 - z_sz S.1); omega⟩
