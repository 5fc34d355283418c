/-- an entry of the world, by its shape's kind -/
theorem z_wo {dA : Nat → ClassId} {ad : Nat → Nat} {S : z_St} {a ci n : Nat} {rs : List (Option Nat)} (h : S.1[a]? = some (ci + 4, n, rs)) : (z_ws dA ad S)[a]? = some (ad a, .inr (ci, (List.range n).map (fun k => z_tr ad (z_fv ci k a rs S)))) := z_ws_at h
theorem z_kd {sh : z_Sh} {k n : Nat} (h : (sh.1 == 4 + k && decide (n < sh.2.1)) = true) : sh = (k + 4, sh.2.1, sh.2.2) ∧ n < sh.2.1 := by
  simp only [Bool.and_eq_true, beq_iff_eq, decide_eq_true_eq] at h
  obtain ⟨s1, s2, s3⟩ := sh
  have h1 : s1 = 4 + k := h.1
  exact ⟨by rw [h1, Nat.add_comm], h.2⟩
theorem z_ar_l : Cond.arrayClass .long ∈ z_gw := by
  have h := z_ar_ok.2.2
  exact z_at.in h
theorem z_vin_at {i : Int32} {n : Nat} (h : z_vin i n = true) : vp_in i n := by
  unfold vp_in
  exact of_decide_eq_true h
theorem z_rng {α : Type} {n k : Nat} {f : Nat → α} (h : k < n) : ((List.range n).map f)[k]? = some (f k) := by
  rw [List.getElem?_map, List.getElem?_range h]
  rfl
set_option maxHeartbeats 1000000 in
theorem z1_getfield {p : Program} {l : Launch} {e : Env} {R : Room} {s : State} {m : MethodId} {args : Array Value} {below : List Frame} {meth : Method} {c : Code} {Q : State → Prop} {o : Nat} {ini : Bool} {rt : Option FieldType} {cc : ByteArray} {nL d : Nat} {A : Nat → Prop} {dC : Nat → ClassId} {dI : Nat → Nat → Nat} {dA : Nat → ClassId} {ar : Nat → Nat} {ro : z_Ro} {n0 s0 : Nat} {lim : Nat × Nat} {C : z_CR} {run : Nat → List (Option Value) → List (Option Int64) → List Value → z_St → Prop} {Qp : Option Value → z_St → Prop} {pc : Nat} {LI : List (Option Value)} {LL : List (Option Int64)} {st : List Value} {S : z_St} {ad : Nat → Nat} {H : Heap} {locs : List Loc} {cells slots : Nat} {ls : Array Slot} {res : z_Rs} {ea eb : Nat} {ez : Int} {i : Nat} (X : z_Cx p s m args meth c R o ini cc nL d A dC dI dA ar ro) (IH : z_IH p l e R s m args below meth c Q nL A dC dI dA ar n0 s0 lim run)  (hd : z_dec cc pc (.getfield i) = true) (hk : z_lk o ini rt pc (.getfield i, ea, eb, ez) = true) (hs : z_step ro d lim (.getfield i, ea, eb, ez) pc LI LL st S = some res) (hg : res.1 = true) (h : z_Po C lim run Qp pc LI LL S res) (hl : z_loc ad nL LI LL ls) (hy : z_Dy s A dC dI dA ad ar n0 S H locs) (hz : z_Sz R n0 s0 cells slots lim S) : W p l e R s m args below meth c H locs cells slots Q (F0 m pc ls (st.map (z_tr ad))) := by
  obtain ⟨hx, hb, hml, hown, hini, hts, hnw, hao, hK, hA, hZ, hro, hro0, hRf, hRl⟩ := X
  obtain ⟨a, r, rfl, hs2⟩ := z_pr_inv hs
  obtain ⟨sh, hsh, hs2⟩ := z_ce_inv hs2
  obtain rfl := Option.some.inj hs2
  obtain ⟨esh, hlt⟩ := z_kd hg
  rw [esh] at hsh
  obtain ⟨hw, hci, hkf⟩ := z_fls_of hk
  exact va_get (D := (dC, dI)) (ci := ea) (C := z_cn ea) (T := z_T ea) (N := z_nf ea) hx hb hts (z_us ea hci) hown hK hy.1 a (z_wo hsh) (z_cl ea hci) eb hkf (hts _ hw) (fun _ h9 => h9) (z_rng hlt) (z_dec_at hd rfl) (IH _ _ _ _ _ _ _ _ _ _ _ h hl hy hz)
set_option maxHeartbeats 1000000 in
theorem z1_putfield {p : Program} {l : Launch} {e : Env} {R : Room} {s : State} {m : MethodId} {args : Array Value} {below : List Frame} {meth : Method} {c : Code} {Q : State → Prop} {o : Nat} {ini : Bool} {rt : Option FieldType} {cc : ByteArray} {nL d : Nat} {A : Nat → Prop} {dC : Nat → ClassId} {dI : Nat → Nat → Nat} {dA : Nat → ClassId} {ar : Nat → Nat} {ro : z_Ro} {n0 s0 : Nat} {lim : Nat × Nat} {C : z_CR} {run : Nat → List (Option Value) → List (Option Int64) → List Value → z_St → Prop} {Qp : Option Value → z_St → Prop} {pc : Nat} {LI : List (Option Value)} {LL : List (Option Int64)} {st : List Value} {S : z_St} {ad : Nat → Nat} {H : Heap} {locs : List Loc} {cells slots : Nat} {ls : Array Slot} {res : z_Rs} {ea eb : Nat} {ez : Int} {i : Nat} (X : z_Cx p s m args meth c R o ini cc nL d A dC dI dA ar ro) (IH : z_IH p l e R s m args below meth c Q nL A dC dI dA ar n0 s0 lim run)  (hd : z_dec cc pc (.putfield i) = true) (hk : z_lk o ini rt pc (.putfield i, ea, eb, ez) = true) (hs : z_step ro d lim (.putfield i, ea, eb, ez) pc LI LL st S = some res) (hg : res.1 = true) (h : z_Po C lim run Qp pc LI LL S res) (hl : z_loc ad nL LI LL ls) (hy : z_Dy s A dC dI dA ad ar n0 S H locs) (hz : z_Sz R n0 s0 cells slots lim S) : W p l e R s m args below meth c H locs cells slots Q (F0 m pc ls (st.map (z_tr ad))) := by
  obtain ⟨hx, hb, hml, hown, hini, hts, hnw, hao, hK, hA, hZ, hro, hro0, hRf, hRl⟩ := X
  obtain ⟨v, a, r, rfl, hs2⟩ := z_pvr_inv hs
  obtain ⟨sh, hsh, hs2⟩ := z_ce_inv hs2
  have hk1 := (Bool.and_eq_true _ _).mp hk
  obtain ⟨hw, hci, hkf⟩ := z_fls_of hk1.1
  have hk2 := hk1.2
  cases v with
  | int x =>
    obtain rfl := Option.some.inj hs2
    have hg2 := (Bool.and_eq_true _ _).mp hg
    obtain ⟨esh, hlt⟩ := z_kd hg2.1
    rw [esh] at hsh
    have hft : z_ft ea eb = 0 := beq_iff_eq.mp hg2.2
    have hty : z_ty ea eb = .int := by
      rcases z_ft_ok ea hci eb hkf with q | q | q
      · exact q.2
      · rw [hft] at q; exact absurd q.1 (by decide)
      · rw [hft] at q; exact absurd q.1 (by decide)
    have hy2 : ∀ (H1 : Heap) (locs1 : List Loc), va_P (dC, dI) vwCl (z_ws dA ad (S.1, z_row S.2.1 a (upd (S.2.1 a) eb x), S.2.2)) H1 → va_D A (z_ws dA ad (S.1, z_row S.2.1 a (upd (S.2.1 a) eb x), S.2.2)) → va_S A s.heap H1 locs1 → W p l e R s m args below meth c H1 locs1 cells slots Q (F0 m (pc + 3) ls (r.map (z_tr ad))) := fun H1 locs1 g1 g2 g3 => IH _ _ _ _ _ _ _ _ _ _ _ h hl ⟨g1, g2, g3, z_zero_i hsh hy.2.2.2.1, hy.2.2.2.2.1, hy.2.2.2.2.2⟩ hz
    rw [z_put_i hsh hft] at hy2
    by_cases hf : (z_T ea eb).2.2.2 = true
    · rw [hf] at hk2
      simp only [Bool.not_true, Bool.false_or, Bool.and_eq_true, beq_iff_eq] at hk2
      exact va_putF (D := (dC, dI)) (ci := ea) (v := .int x) (ty := z_ty ea eb) (C := z_cn ea) (T := z_T ea) (N := z_nf ea) hx hb hts (z_us ea hci) (z_ty ea) (z_ty_ok ea hci) (z_nm_ok ea hci) hown hK hy.1 hy.2.1 hy.2.2.1 a (z_wo hsh) (z_cl ea hci) eb hkf (hts _ hw) (fun _ h9 => h9) hf (hini hk2.1) ((z_dcl_ok ea hci eb hkf).trans (by rw [hk2.2])) (z_ty_ok ea hci eb hkf) (by rw [hty]; rfl) (by rw [hty]; rfl) (by rw [List.length_map, List.length_range]; exact hlt) (z_dec_at hd rfl) hy2
    · exact va_put (D := (dC, dI)) (ci := ea) (v := .int x) (ty := z_ty ea eb) (C := z_cn ea) (T := z_T ea) (N := z_nf ea) hx hb hts (z_us ea hci) (z_ty ea) (z_ty_ok ea hci) (z_nm_ok ea hci) hown hK hy.1 hy.2.1 hy.2.2.1 a (z_wo hsh) (z_cl ea hci) eb hkf (hts _ hw) (fun _ h9 => h9) (Bool.eq_false_iff.mpr hf) (z_ty_ok ea hci eb hkf) (by rw [hty]; rfl) (by rw [hty]; rfl) (by rw [List.length_map, List.length_range]; exact hlt) (z_dec_at hd rfl) hy2
  | long x =>
    obtain rfl := Option.some.inj hs2
    have hg2 := (Bool.and_eq_true _ _).mp hg
    obtain ⟨esh, hlt⟩ := z_kd hg2.1
    rw [esh] at hsh
    have hft : z_ft ea eb = 1 := beq_iff_eq.mp hg2.2
    have hty : z_ty ea eb = .long := by
      rcases z_ft_ok ea hci eb hkf with q | q | q
      · rw [hft] at q; exact absurd q.1 (by decide)
      · exact q.2
      · rw [hft] at q; exact absurd q.1 (by decide)
    have hy2 : ∀ (H1 : Heap) (locs1 : List Loc), va_P (dC, dI) vwCl (z_ws dA ad (S.1, S.2.1, z_row S.2.2 a (vp_updL (S.2.2 a) eb x))) H1 → va_D A (z_ws dA ad (S.1, S.2.1, z_row S.2.2 a (vp_updL (S.2.2 a) eb x))) → va_S A s.heap H1 locs1 → W p l e R s m args below meth c H1 locs1 cells slots Q (F0 m (pc + 3) ls (r.map (z_tr ad))) := fun H1 locs1 g1 g2 g3 => IH _ _ _ _ _ _ _ _ _ _ _ h hl ⟨g1, g2, g3, z_zero_l hsh hy.2.2.2.1, hy.2.2.2.2.1, hy.2.2.2.2.2⟩ hz
    rw [z_put_l hsh hft] at hy2
    by_cases hf : (z_T ea eb).2.2.2 = true
    · rw [hf] at hk2
      simp only [Bool.not_true, Bool.false_or, Bool.and_eq_true, beq_iff_eq] at hk2
      exact va_putF (D := (dC, dI)) (ci := ea) (v := .long x) (ty := z_ty ea eb) (C := z_cn ea) (T := z_T ea) (N := z_nf ea) hx hb hts (z_us ea hci) (z_ty ea) (z_ty_ok ea hci) (z_nm_ok ea hci) hown hK hy.1 hy.2.1 hy.2.2.1 a (z_wo hsh) (z_cl ea hci) eb hkf (hts _ hw) (fun _ h9 => h9) hf (hini hk2.1) ((z_dcl_ok ea hci eb hkf).trans (by rw [hk2.2])) (z_ty_ok ea hci eb hkf) (by rw [hty]; rfl) (by rw [hty]; rfl) (by rw [List.length_map, List.length_range]; exact hlt) (z_dec_at hd rfl) hy2
    · exact va_put (D := (dC, dI)) (ci := ea) (v := .long x) (ty := z_ty ea eb) (C := z_cn ea) (T := z_T ea) (N := z_nf ea) hx hb hts (z_us ea hci) (z_ty ea) (z_ty_ok ea hci) (z_nm_ok ea hci) hown hK hy.1 hy.2.1 hy.2.2.1 a (z_wo hsh) (z_cl ea hci) eb hkf (hts _ hw) (fun _ h9 => h9) (Bool.eq_false_iff.mpr hf) (z_ty_ok ea hci eb hkf) (by rw [hty]; rfl) (by rw [hty]; rfl) (by rw [List.length_map, List.length_range]; exact hlt) (z_dec_at hd rfl) hy2
  | ref q =>
    obtain rfl := Option.some.inj hs2
    have hg3 := (Bool.and_eq_true _ _).mp hg
    have hg2 := (Bool.and_eq_true _ _).mp hg3.1
    obtain ⟨esh, hlt⟩ := z_kd hg2.1
    have hrs : eb < sh.2.2.length := of_decide_eq_true hg2.2
    have hft : z_ft ea eb = 2 := beq_iff_eq.mp hg3.2
    have hty : z_isr (z_ty ea eb) = true := by
      rcases z_ft_ok ea hci eb hkf with q | q | q
      · rw [hft] at q; exact absurd q.1 (by decide)
      · rw [hft] at q; exact absurd q.1 (by decide)
      · exact q.2
    have hnar : narrow (z_ty ea eb) (.ref (ad q)) = .ref (ad q) := by
      revert hty
      cases z_ty ea eb <;> intro hty <;> first | rfl | cases hty
    have hfit : fits (z_ty ea eb) (.ref (ad q)) = true := by
      revert hty
      cases z_ty ea eb <;> intro hty <;> first | rfl | cases hty
    obtain ⟨sk, sn, srs⟩ := sh
    have hsk : sk = ea + 4 := congrArg Prod.fst esh
    subst hsk
    have hsz : z_sz (S.1.set a (ea + 4, sn, srs.set eb (some q))) = z_sz S.1 := z_sz_set hsh rfl
    have hy2 : ∀ (H1 : Heap) (locs1 : List Loc), va_P (dC, dI) vwCl (z_ws dA ad (S.1.set a (ea + 4, sn, srs.set eb (some q)), S.2.1, S.2.2)) H1 → va_D A (z_ws dA ad (S.1.set a (ea + 4, sn, srs.set eb (some q)), S.2.1, S.2.2)) → va_S A s.heap H1 locs1 → W p l e R s m args below meth c H1 locs1 cells slots Q (F0 m (pc + 3) ls (r.map (z_tr ad))) := fun H1 locs1 g1 g2 g3 => IH _ _ _ _ _ _ _ _ _ _ _ h hl ⟨g1, g2, g3, z_zero_s hy.2.2.2.1, (by rw [List.length_set]; exact hy.2.2.2.2.1), (fun i hi => hy.2.2.2.2.2 i (by simpa using hi))⟩ (by unfold z_Sz; rw [List.length_set, hsz]; exact hz)
    rw [z_put_r hsh hft hrs] at hy2
    by_cases hf : (z_T ea eb).2.2.2 = true
    · rw [hf] at hk2
      simp only [Bool.not_true, Bool.false_or, Bool.and_eq_true, beq_iff_eq] at hk2
      exact va_putF (D := (dC, dI)) (ci := ea) (v := .ref (ad q)) (ty := z_ty ea eb) (C := z_cn ea) (T := z_T ea) (N := z_nf ea) hx hb hts (z_us ea hci) (z_ty ea) (z_ty_ok ea hci) (z_nm_ok ea hci) hown hK hy.1 hy.2.1 hy.2.2.1 a (z_wo hsh) (z_cl ea hci) eb hkf (hts _ hw) (fun _ h9 => h9) hf (hini hk2.1) ((z_dcl_ok ea hci eb hkf).trans (by rw [hk2.2])) (z_ty_ok ea hci eb hkf) hnar hfit (by rw [List.length_map, List.length_range]; exact hlt) (z_dec_at hd rfl) hy2
    · exact va_put (D := (dC, dI)) (ci := ea) (v := .ref (ad q)) (ty := z_ty ea eb) (C := z_cn ea) (T := z_T ea) (N := z_nf ea) hx hb hts (z_us ea hci) (z_ty ea) (z_ty_ok ea hci) (z_nm_ok ea hci) hown hK hy.1 hy.2.1 hy.2.2.1 a (z_wo hsh) (z_cl ea hci) eb hkf (hts _ hw) (fun _ h9 => h9) (Bool.eq_false_iff.mpr hf) (z_ty_ok ea hci eb hkf) hnar hfit (by rw [List.length_map, List.length_range]; exact hlt) (z_dec_at hd rfl) hy2
  | _ => cases hs2
set_option maxHeartbeats 1000000 in
theorem z1_getstatic {p : Program} {l : Launch} {e : Env} {R : Room} {s : State} {m : MethodId} {args : Array Value} {below : List Frame} {meth : Method} {c : Code} {Q : State → Prop} {o : Nat} {ini : Bool} {rt : Option FieldType} {cc : ByteArray} {nL d : Nat} {A : Nat → Prop} {dC : Nat → ClassId} {dI : Nat → Nat → Nat} {dA : Nat → ClassId} {ar : Nat → Nat} {ro : z_Ro} {n0 s0 : Nat} {lim : Nat × Nat} {C : z_CR} {run : Nat → List (Option Value) → List (Option Int64) → List Value → z_St → Prop} {Qp : Option Value → z_St → Prop} {pc : Nat} {LI : List (Option Value)} {LL : List (Option Int64)} {st : List Value} {S : z_St} {ad : Nat → Nat} {H : Heap} {locs : List Loc} {cells slots : Nat} {ls : Array Slot} {res : z_Rs} {ea eb : Nat} {ez : Int} {i : Nat} (X : z_Cx p s m args meth c R o ini cc nL d A dC dI dA ar ro) (IH : z_IH p l e R s m args below meth c Q nL A dC dI dA ar n0 s0 lim run)  (hd : z_dec cc pc (.getstatic i) = true) (hk : z_lk o ini rt pc (.getstatic i, ea, eb, ez) = true) (hs : z_step ro d lim (.getstatic i, ea, eb, ez) pc LI LL st S = some res) (hg : res.1 = true) (h : z_Po C lim run Qp pc LI LL S res) (hl : z_loc ad nL LI LL ls) (hy : z_Dy s A dC dI dA ad ar n0 S H locs) (hz : z_Sz R n0 s0 cells slots lim S) : W p l e R s m args below meth c H locs cells slots Q (F0 m pc ls (st.map (z_tr ad))) := by
  obtain ⟨hx, hb, hml, hown, hini, hts, hnw, hao, hK, hA, hZ, hro, hro0, hRf, hRl⟩ := X
  obtain rfl := Option.some.inj hs
  have hk1 := (Bool.and_eq_true _ _).mp hk
  obtain rfl : o = 7 := beq_iff_eq.mp hk1.1
  obtain rfl : i = 148 := beq_iff_eq.mp hk1.2
  have e0 : ad 1000 = ar 1000 := hy.2.2.2.2.2 1000 (Or.inr hy.2.2.2.2.1)
  refine va_getsN (v := .ref (ad 1000)) hx hb (by rw [e0]; exact hZ) hy.2.2.1 hown (va_Nw.use rfl (hnw (.fieldLinkNest RX7 148 "BoundBraces" "ORDERS" "[I" "BoundBraces") (by simp [z_nws]))) (fun _ h9 => h9) (z_dec_at hd rfl) (IH _ _ _ _ _ _ _ _ _ _ _ h hl hy hz)
set_option maxHeartbeats 1000000 in
theorem z1_arraylength {p : Program} {l : Launch} {e : Env} {R : Room} {s : State} {m : MethodId} {args : Array Value} {below : List Frame} {meth : Method} {c : Code} {Q : State → Prop} {o : Nat} {ini : Bool} {rt : Option FieldType} {cc : ByteArray} {nL d : Nat} {A : Nat → Prop} {dC : Nat → ClassId} {dI : Nat → Nat → Nat} {dA : Nat → ClassId} {ar : Nat → Nat} {ro : z_Ro} {n0 s0 : Nat} {lim : Nat × Nat} {C : z_CR} {run : Nat → List (Option Value) → List (Option Int64) → List Value → z_St → Prop} {Qp : Option Value → z_St → Prop} {pc : Nat} {LI : List (Option Value)} {LL : List (Option Int64)} {st : List Value} {S : z_St} {ad : Nat → Nat} {H : Heap} {locs : List Loc} {cells slots : Nat} {ls : Array Slot} {res : z_Rs} {ea eb : Nat} {ez : Int}  (X : z_Cx p s m args meth c R o ini cc nL d A dC dI dA ar ro) (IH : z_IH p l e R s m args below meth c Q nL A dC dI dA ar n0 s0 lim run)  (hd : z_dec cc pc (.arraylength) = true) (hk : z_lk o ini rt pc (.arraylength, ea, eb, ez) = true) (hs : z_step ro d lim (.arraylength, ea, eb, ez) pc LI LL st S = some res) (hg : res.1 = true) (h : z_Po C lim run Qp pc LI LL S res) (hl : z_loc ad nL LI LL ls) (hy : z_Dy s A dC dI dA ad ar n0 S H locs) (hz : z_Sz R n0 s0 cells slots lim S) : W p l e R s m args below meth c H locs cells slots Q (F0 m pc ls (st.map (z_tr ad))) := by
  obtain ⟨hx, hb, hml, hown, hini, hts, hnw, hao, hK, hA, hZ, hro, hro0, hRf, hRl⟩ := X
  obtain ⟨a, r, rfl, hs2⟩ := z_pr_inv hs
  by_cases ha : a < 1000
  · rw [if_pos ha] at hs2
    obtain ⟨⟨sk, n, rs⟩, hsh, hs2⟩ := z_ce_inv hs2
    obtain rfl := Option.some.inj hs2
    have hk4 : sk < 4 := of_decide_eq_true hg
    rcases (show sk = 0 ∨ sk = 1 ∨ sk = 2 ∨ sk = 3 by omega) with rfl | rfl | rfl | rfl
    · exact va_alen (t0 := 0) hx hb hK hy.1 a (z_ws_at hsh) rfl rfl (z_dec_at hd rfl) (IH _ _ _ _ _ _ _ _ _ _ _ h hl hy hz)
    · exact va_alen (t0 := 1) hx hb hK hy.1 a (z_ws_at hsh) rfl rfl (z_dec_at hd rfl) (IH _ _ _ _ _ _ _ _ _ _ _ h hl hy hz)
    · exact va_alen (t0 := 2) hx hb hK hy.1 a (z_ws_at hsh) rfl rfl (z_dec_at hd rfl) (IH _ _ _ _ _ _ _ _ _ _ _ h hl hy hz)
    · exact va_alen (t0 := 3) hx hb hK hy.1 a (z_ws_at hsh) rfl rfl (z_dec_at hd rfl) (IH _ _ _ _ _ _ _ _ _ _ _ h hl hy hz)
  · rw [if_neg ha] at hs2
    split at hs2
    · rename_i q hq
      obtain rfl := Option.some.inj hs2
      have e1 : a = 1000 + (a - 1000) := (Nat.add_sub_cancel' (Nat.le_of_not_lt ha)).symm
      have e0 : ad a = ar (1000 + (a - 1000)) := (hy.2.2.2.2.2 a (Or.inr (Nat.le_trans hy.2.2.2.2.1 (Nat.le_of_not_lt ha)))).trans (congrArg ar e1)
      exact va_tlen hx hb (by rw [e0]; exact hro _ _ _ hq) hy.2.2.1 rfl (z_dec_at hd rfl) (IH _ _ _ _ _ _ _ _ _ _ _ h hl hy hz)
    · cases hs2
set_option maxHeartbeats 1000000 in
theorem z1_iaload {p : Program} {l : Launch} {e : Env} {R : Room} {s : State} {m : MethodId} {args : Array Value} {below : List Frame} {meth : Method} {c : Code} {Q : State → Prop} {o : Nat} {ini : Bool} {rt : Option FieldType} {cc : ByteArray} {nL d : Nat} {A : Nat → Prop} {dC : Nat → ClassId} {dI : Nat → Nat → Nat} {dA : Nat → ClassId} {ar : Nat → Nat} {ro : z_Ro} {n0 s0 : Nat} {lim : Nat × Nat} {C : z_CR} {run : Nat → List (Option Value) → List (Option Int64) → List Value → z_St → Prop} {Qp : Option Value → z_St → Prop} {pc : Nat} {LI : List (Option Value)} {LL : List (Option Int64)} {st : List Value} {S : z_St} {ad : Nat → Nat} {H : Heap} {locs : List Loc} {cells slots : Nat} {ls : Array Slot} {res : z_Rs} {ea eb : Nat} {ez : Int}  (X : z_Cx p s m args meth c R o ini cc nL d A dC dI dA ar ro) (IH : z_IH p l e R s m args below meth c Q nL A dC dI dA ar n0 s0 lim run)  (hd : z_dec cc pc (.iaload) = true) (hk : z_lk o ini rt pc (.iaload, ea, eb, ez) = true) (hs : z_step ro d lim (.iaload, ea, eb, ez) pc LI LL st S = some res) (hg : res.1 = true) (h : z_Po C lim run Qp pc LI LL S res) (hl : z_loc ad nL LI LL ls) (hy : z_Dy s A dC dI dA ad ar n0 S H locs) (hz : z_Sz R n0 s0 cells slots lim S) : W p l e R s m args below meth c H locs cells slots Q (F0 m pc ls (st.map (z_tr ad))) := by
  obtain ⟨hx, hb, hml, hown, hini, hts, hnw, hao, hK, hA, hZ, hro, hro0, hRf, hRl⟩ := X
  obtain ⟨i, a, r, rfl, hs2⟩ := z_pir_inv hs
  by_cases ha : a < 1000
  · rw [if_pos ha] at hs2
    obtain ⟨⟨sk, n, rs⟩, hsh, hs2⟩ := z_ce_inv hs2
    obtain rfl := Option.some.inj hs2
    have hg2 := (Bool.and_eq_true _ _).mp hg
    obtain rfl : sk = 0 := beq_iff_eq.mp hg2.1
    exact va_iald (f := S.2.1 a) hx hb hK hy.1 a 0 (z_ws_at hsh) rfl (z_vin_at hg2.2) (z_dec_at hd rfl) (IH _ _ _ _ _ _ _ _ _ _ _ h hl hy hz)
  · rw [if_neg ha] at hs2
    split at hs2
    · rename_i q hq
      obtain rfl := Option.some.inj hs2
      have e1 : a = 1000 + (a - 1000) := (Nat.add_sub_cancel' (Nat.le_of_not_lt ha)).symm
      have e0 : ad a = ar (1000 + (a - 1000)) := (hy.2.2.2.2.2 a (Or.inr (Nat.le_trans hy.2.2.2.2.1 (Nat.le_of_not_lt ha)))).trans (congrArg ar e1)
      exact va_ti (f := fun j => .int (q.2 j)) hx hb (by rw [e0]; exact hro _ _ _ hq) hy.2.2.1 (z_vin_at hg) rfl (z_dec_at hd rfl) (IH _ _ _ _ _ _ _ _ _ _ _ h hl hy hz)
    · cases hs2
set_option maxHeartbeats 1000000 in
theorem z1_baload {p : Program} {l : Launch} {e : Env} {R : Room} {s : State} {m : MethodId} {args : Array Value} {below : List Frame} {meth : Method} {c : Code} {Q : State → Prop} {o : Nat} {ini : Bool} {rt : Option FieldType} {cc : ByteArray} {nL d : Nat} {A : Nat → Prop} {dC : Nat → ClassId} {dI : Nat → Nat → Nat} {dA : Nat → ClassId} {ar : Nat → Nat} {ro : z_Ro} {n0 s0 : Nat} {lim : Nat × Nat} {C : z_CR} {run : Nat → List (Option Value) → List (Option Int64) → List Value → z_St → Prop} {Qp : Option Value → z_St → Prop} {pc : Nat} {LI : List (Option Value)} {LL : List (Option Int64)} {st : List Value} {S : z_St} {ad : Nat → Nat} {H : Heap} {locs : List Loc} {cells slots : Nat} {ls : Array Slot} {res : z_Rs} {ea eb : Nat} {ez : Int}  (X : z_Cx p s m args meth c R o ini cc nL d A dC dI dA ar ro) (IH : z_IH p l e R s m args below meth c Q nL A dC dI dA ar n0 s0 lim run)  (hd : z_dec cc pc (.baload) = true) (hk : z_lk o ini rt pc (.baload, ea, eb, ez) = true) (hs : z_step ro d lim (.baload, ea, eb, ez) pc LI LL st S = some res) (hg : res.1 = true) (h : z_Po C lim run Qp pc LI LL S res) (hl : z_loc ad nL LI LL ls) (hy : z_Dy s A dC dI dA ad ar n0 S H locs) (hz : z_Sz R n0 s0 cells slots lim S) : W p l e R s m args below meth c H locs cells slots Q (F0 m pc ls (st.map (z_tr ad))) := by
  obtain ⟨hx, hb, hml, hown, hini, hts, hnw, hao, hK, hA, hZ, hro, hro0, hRf, hRl⟩ := X
  obtain ⟨i, a, r, rfl, hs2⟩ := z_pir_inv hs
  obtain ⟨⟨sk, n, rs⟩, hsh, hs2⟩ := z_ce_inv hs2
  obtain rfl := Option.some.inj hs2
  have hg2 := (Bool.and_eq_true _ _).mp hg
  obtain rfl : sk = 1 := beq_iff_eq.mp hg2.1
  exact va_zald (f := S.2.1 a) hx hb hK hy.1 a 1 (z_ws_at hsh) rfl (z_vin_at hg2.2) (z_dec_at hd rfl) (IH _ _ _ _ _ _ _ _ _ _ _ h hl hy hz)
set_option maxHeartbeats 1000000 in
theorem z1_laload {p : Program} {l : Launch} {e : Env} {R : Room} {s : State} {m : MethodId} {args : Array Value} {below : List Frame} {meth : Method} {c : Code} {Q : State → Prop} {o : Nat} {ini : Bool} {rt : Option FieldType} {cc : ByteArray} {nL d : Nat} {A : Nat → Prop} {dC : Nat → ClassId} {dI : Nat → Nat → Nat} {dA : Nat → ClassId} {ar : Nat → Nat} {ro : z_Ro} {n0 s0 : Nat} {lim : Nat × Nat} {C : z_CR} {run : Nat → List (Option Value) → List (Option Int64) → List Value → z_St → Prop} {Qp : Option Value → z_St → Prop} {pc : Nat} {LI : List (Option Value)} {LL : List (Option Int64)} {st : List Value} {S : z_St} {ad : Nat → Nat} {H : Heap} {locs : List Loc} {cells slots : Nat} {ls : Array Slot} {res : z_Rs} {ea eb : Nat} {ez : Int}  (X : z_Cx p s m args meth c R o ini cc nL d A dC dI dA ar ro) (IH : z_IH p l e R s m args below meth c Q nL A dC dI dA ar n0 s0 lim run)  (hd : z_dec cc pc (.laload) = true) (hk : z_lk o ini rt pc (.laload, ea, eb, ez) = true) (hs : z_step ro d lim (.laload, ea, eb, ez) pc LI LL st S = some res) (hg : res.1 = true) (h : z_Po C lim run Qp pc LI LL S res) (hl : z_loc ad nL LI LL ls) (hy : z_Dy s A dC dI dA ad ar n0 S H locs) (hz : z_Sz R n0 s0 cells slots lim S) : W p l e R s m args below meth c H locs cells slots Q (F0 m pc ls (st.map (z_tr ad))) := by
  obtain ⟨hx, hb, hml, hown, hini, hts, hnw, hao, hK, hA, hZ, hro, hro0, hRf, hRl⟩ := X
  obtain ⟨i, a, r, rfl, hs2⟩ := z_pir_inv hs
  obtain ⟨⟨sk, n, rs⟩, hsh, hs2⟩ := z_ce_inv hs2
  obtain rfl := Option.some.inj hs2
  have hg2 := (Bool.and_eq_true _ _).mp hg
  obtain rfl : sk = 2 := beq_iff_eq.mp hg2.1
  exact va_lald (f := S.2.2 a) hx hb hK hy.1 a 2 (z_ws_at hsh) rfl (z_vin_at hg2.2) (z_dec_at hd rfl) (IH _ _ _ _ _ _ _ _ _ _ _ h hl hy hz)
set_option maxHeartbeats 1000000 in
theorem z1_aaload {p : Program} {l : Launch} {e : Env} {R : Room} {s : State} {m : MethodId} {args : Array Value} {below : List Frame} {meth : Method} {c : Code} {Q : State → Prop} {o : Nat} {ini : Bool} {rt : Option FieldType} {cc : ByteArray} {nL d : Nat} {A : Nat → Prop} {dC : Nat → ClassId} {dI : Nat → Nat → Nat} {dA : Nat → ClassId} {ar : Nat → Nat} {ro : z_Ro} {n0 s0 : Nat} {lim : Nat × Nat} {C : z_CR} {run : Nat → List (Option Value) → List (Option Int64) → List Value → z_St → Prop} {Qp : Option Value → z_St → Prop} {pc : Nat} {LI : List (Option Value)} {LL : List (Option Int64)} {st : List Value} {S : z_St} {ad : Nat → Nat} {H : Heap} {locs : List Loc} {cells slots : Nat} {ls : Array Slot} {res : z_Rs} {ea eb : Nat} {ez : Int}  (X : z_Cx p s m args meth c R o ini cc nL d A dC dI dA ar ro) (IH : z_IH p l e R s m args below meth c Q nL A dC dI dA ar n0 s0 lim run)  (hd : z_dec cc pc (.aaload) = true) (hk : z_lk o ini rt pc (.aaload, ea, eb, ez) = true) (hs : z_step ro d lim (.aaload, ea, eb, ez) pc LI LL st S = some res) (hg : res.1 = true) (h : z_Po C lim run Qp pc LI LL S res) (hl : z_loc ad nL LI LL ls) (hy : z_Dy s A dC dI dA ad ar n0 S H locs) (hz : z_Sz R n0 s0 cells slots lim S) : W p l e R s m args below meth c H locs cells slots Q (F0 m pc ls (st.map (z_tr ad))) := by
  obtain ⟨hx, hb, hml, hown, hini, hts, hnw, hao, hK, hA, hZ, hro, hro0, hRf, hRl⟩ := X
  obtain ⟨i, a, r, rfl, hs2⟩ := z_pir_inv hs
  obtain ⟨⟨sk, n, rs⟩, hsh, hs2⟩ := z_ce_inv hs2
  obtain rfl := Option.some.inj hs2
  have hg2 := (Bool.and_eq_true _ _).mp hg
  obtain rfl : sk = 3 := beq_iff_eq.mp hg2.1
  refine va_aldq (f := fun j => (rs.getD j none).map ad) hx hb hK hy.1 a 3 (z_ws_at hsh) rfl (z_vin_at hg2.2) (z_dec_at hd rfl) ?_
  rw [← z_tr_rf]
  exact IH _ _ _ _ _ _ _ _ _ _ _ h hl hy hz
set_option maxHeartbeats 1000000 in
theorem z1_iastore {p : Program} {l : Launch} {e : Env} {R : Room} {s : State} {m : MethodId} {args : Array Value} {below : List Frame} {meth : Method} {c : Code} {Q : State → Prop} {o : Nat} {ini : Bool} {rt : Option FieldType} {cc : ByteArray} {nL d : Nat} {A : Nat → Prop} {dC : Nat → ClassId} {dI : Nat → Nat → Nat} {dA : Nat → ClassId} {ar : Nat → Nat} {ro : z_Ro} {n0 s0 : Nat} {lim : Nat × Nat} {C : z_CR} {run : Nat → List (Option Value) → List (Option Int64) → List Value → z_St → Prop} {Qp : Option Value → z_St → Prop} {pc : Nat} {LI : List (Option Value)} {LL : List (Option Int64)} {st : List Value} {S : z_St} {ad : Nat → Nat} {H : Heap} {locs : List Loc} {cells slots : Nat} {ls : Array Slot} {res : z_Rs} {ea eb : Nat} {ez : Int}  (X : z_Cx p s m args meth c R o ini cc nL d A dC dI dA ar ro) (IH : z_IH p l e R s m args below meth c Q nL A dC dI dA ar n0 s0 lim run)  (hd : z_dec cc pc (.iastore) = true) (hk : z_lk o ini rt pc (.iastore, ea, eb, ez) = true) (hs : z_step ro d lim (.iastore, ea, eb, ez) pc LI LL st S = some res) (hg : res.1 = true) (h : z_Po C lim run Qp pc LI LL S res) (hl : z_loc ad nL LI LL ls) (hy : z_Dy s A dC dI dA ad ar n0 S H locs) (hz : z_Sz R n0 s0 cells slots lim S) : W p l e R s m args below meth c H locs cells slots Q (F0 m pc ls (st.map (z_tr ad))) := by
  obtain ⟨hx, hb, hml, hown, hini, hts, hnw, hao, hK, hA, hZ, hro, hro0, hRf, hRl⟩ := X
  obtain ⟨x, i, a, r, rfl, hs2⟩ := z_piir_inv hs
  obtain ⟨⟨sk, n, rs⟩, hsh, hs2⟩ := z_ce_inv hs2
  obtain rfl := Option.some.inj hs2
  have hg2 := (Bool.and_eq_true _ _).mp hg
  obtain rfl : sk = 0 := beq_iff_eq.mp hg2.1
  exact va_iast (f := S.2.1 a) hx hb hK hy.1 hy.2.1 hy.2.2.1 a 0 (z_ws_at hsh) rfl (z_vin_at hg2.2) (z_dec_at hd rfl) (fun H1 locs1 g1 g2 g3 => IH _ _ _ _ _ _ _ _ _ _ _ h hl ⟨by rw [z_row_i hsh]; exact g1, by rw [z_row_i hsh]; exact g2, g3, z_zero_i hsh hy.2.2.2.1, hy.2.2.2.2.1, hy.2.2.2.2.2⟩ hz)
set_option maxHeartbeats 1000000 in
theorem z1_bastore {p : Program} {l : Launch} {e : Env} {R : Room} {s : State} {m : MethodId} {args : Array Value} {below : List Frame} {meth : Method} {c : Code} {Q : State → Prop} {o : Nat} {ini : Bool} {rt : Option FieldType} {cc : ByteArray} {nL d : Nat} {A : Nat → Prop} {dC : Nat → ClassId} {dI : Nat → Nat → Nat} {dA : Nat → ClassId} {ar : Nat → Nat} {ro : z_Ro} {n0 s0 : Nat} {lim : Nat × Nat} {C : z_CR} {run : Nat → List (Option Value) → List (Option Int64) → List Value → z_St → Prop} {Qp : Option Value → z_St → Prop} {pc : Nat} {LI : List (Option Value)} {LL : List (Option Int64)} {st : List Value} {S : z_St} {ad : Nat → Nat} {H : Heap} {locs : List Loc} {cells slots : Nat} {ls : Array Slot} {res : z_Rs} {ea eb : Nat} {ez : Int}  (X : z_Cx p s m args meth c R o ini cc nL d A dC dI dA ar ro) (IH : z_IH p l e R s m args below meth c Q nL A dC dI dA ar n0 s0 lim run)  (hd : z_dec cc pc (.bastore) = true) (hk : z_lk o ini rt pc (.bastore, ea, eb, ez) = true) (hs : z_step ro d lim (.bastore, ea, eb, ez) pc LI LL st S = some res) (hg : res.1 = true) (h : z_Po C lim run Qp pc LI LL S res) (hl : z_loc ad nL LI LL ls) (hy : z_Dy s A dC dI dA ad ar n0 S H locs) (hz : z_Sz R n0 s0 cells slots lim S) : W p l e R s m args below meth c H locs cells slots Q (F0 m pc ls (st.map (z_tr ad))) := by
  obtain ⟨hx, hb, hml, hown, hini, hts, hnw, hao, hK, hA, hZ, hro, hro0, hRf, hRl⟩ := X
  obtain ⟨x, i, a, r, rfl, hs2⟩ := z_piir_inv hs
  obtain ⟨⟨sk, n, rs⟩, hsh, hs2⟩ := z_ce_inv hs2
  obtain rfl := Option.some.inj hs2
  have hg2 := (Bool.and_eq_true _ _).mp hg
  obtain rfl : sk = 1 := beq_iff_eq.mp hg2.1
  exact va_zast (f := S.2.1 a) hx hb hK hy.1 hy.2.1 hy.2.2.1 a 1 (z_ws_at hsh) rfl (z_vin_at hg2.2) (z_dec_at hd rfl) (fun H1 locs1 g1 g2 g3 => IH _ _ _ _ _ _ _ _ _ _ _ h hl ⟨by rw [z_row_z hsh]; exact g1, by rw [z_row_z hsh]; exact g2, g3, z_zero_i hsh hy.2.2.2.1, hy.2.2.2.2.1, hy.2.2.2.2.2⟩ hz)
set_option maxHeartbeats 1000000 in
theorem z1_lastore {p : Program} {l : Launch} {e : Env} {R : Room} {s : State} {m : MethodId} {args : Array Value} {below : List Frame} {meth : Method} {c : Code} {Q : State → Prop} {o : Nat} {ini : Bool} {rt : Option FieldType} {cc : ByteArray} {nL d : Nat} {A : Nat → Prop} {dC : Nat → ClassId} {dI : Nat → Nat → Nat} {dA : Nat → ClassId} {ar : Nat → Nat} {ro : z_Ro} {n0 s0 : Nat} {lim : Nat × Nat} {C : z_CR} {run : Nat → List (Option Value) → List (Option Int64) → List Value → z_St → Prop} {Qp : Option Value → z_St → Prop} {pc : Nat} {LI : List (Option Value)} {LL : List (Option Int64)} {st : List Value} {S : z_St} {ad : Nat → Nat} {H : Heap} {locs : List Loc} {cells slots : Nat} {ls : Array Slot} {res : z_Rs} {ea eb : Nat} {ez : Int}  (X : z_Cx p s m args meth c R o ini cc nL d A dC dI dA ar ro) (IH : z_IH p l e R s m args below meth c Q nL A dC dI dA ar n0 s0 lim run)  (hd : z_dec cc pc (.lastore) = true) (hk : z_lk o ini rt pc (.lastore, ea, eb, ez) = true) (hs : z_step ro d lim (.lastore, ea, eb, ez) pc LI LL st S = some res) (hg : res.1 = true) (h : z_Po C lim run Qp pc LI LL S res) (hl : z_loc ad nL LI LL ls) (hy : z_Dy s A dC dI dA ad ar n0 S H locs) (hz : z_Sz R n0 s0 cells slots lim S) : W p l e R s m args below meth c H locs cells slots Q (F0 m pc ls (st.map (z_tr ad))) := by
  obtain ⟨hx, hb, hml, hown, hini, hts, hnw, hao, hK, hA, hZ, hro, hro0, hRf, hRl⟩ := X
  obtain ⟨x, i, a, r, rfl, hs2⟩ := z_plir_inv hs
  obtain ⟨⟨sk, n, rs⟩, hsh, hs2⟩ := z_ce_inv hs2
  obtain rfl := Option.some.inj hs2
  have hg2 := (Bool.and_eq_true _ _).mp hg
  obtain rfl : sk = 2 := beq_iff_eq.mp hg2.1
  exact va_last (f := S.2.2 a) hx hb hK hy.1 hy.2.1 hy.2.2.1 a 2 (z_ws_at hsh) rfl (z_vin_at hg2.2) (z_dec_at hd rfl) (fun H1 locs1 g1 g2 g3 => IH _ _ _ _ _ _ _ _ _ _ _ h hl ⟨by rw [z_row_l hsh]; exact g1, by rw [z_row_l hsh]; exact g2, g3, z_zero_l hsh hy.2.2.2.1, hy.2.2.2.2.1, hy.2.2.2.2.2⟩ hz)
set_option maxHeartbeats 1000000 in
theorem z1_aastore {p : Program} {l : Launch} {e : Env} {R : Room} {s : State} {m : MethodId} {args : Array Value} {below : List Frame} {meth : Method} {c : Code} {Q : State → Prop} {o : Nat} {ini : Bool} {rt : Option FieldType} {cc : ByteArray} {nL d : Nat} {A : Nat → Prop} {dC : Nat → ClassId} {dI : Nat → Nat → Nat} {dA : Nat → ClassId} {ar : Nat → Nat} {ro : z_Ro} {n0 s0 : Nat} {lim : Nat × Nat} {C : z_CR} {run : Nat → List (Option Value) → List (Option Int64) → List Value → z_St → Prop} {Qp : Option Value → z_St → Prop} {pc : Nat} {LI : List (Option Value)} {LL : List (Option Int64)} {st : List Value} {S : z_St} {ad : Nat → Nat} {H : Heap} {locs : List Loc} {cells slots : Nat} {ls : Array Slot} {res : z_Rs} {ea eb : Nat} {ez : Int}  (X : z_Cx p s m args meth c R o ini cc nL d A dC dI dA ar ro) (IH : z_IH p l e R s m args below meth c Q nL A dC dI dA ar n0 s0 lim run)  (hd : z_dec cc pc (.aastore) = true) (hk : z_lk o ini rt pc (.aastore, ea, eb, ez) = true) (hs : z_step ro d lim (.aastore, ea, eb, ez) pc LI LL st S = some res) (hg : res.1 = true) (h : z_Po C lim run Qp pc LI LL S res) (hl : z_loc ad nL LI LL ls) (hy : z_Dy s A dC dI dA ad ar n0 S H locs) (hz : z_Sz R n0 s0 cells slots lim S) : W p l e R s m args below meth c H locs cells slots Q (F0 m pc ls (st.map (z_tr ad))) := by
  obtain ⟨hx, hb, hml, hown, hini, hts, hnw, hao, hK, hA, hZ, hro, hro0, hRf, hRl⟩ := X
  obtain ⟨v, i, a, r, rfl, hs2⟩ := z_prir_inv hs
  obtain ⟨⟨sk, n, rs⟩, hsh, hs2⟩ := z_ce_inv hs2
  obtain ⟨⟨vk, vn, vrs⟩, hsv, hs2⟩ := z_ce_inv hs2
  obtain rfl := Option.some.inj hs2
  have hg4 := (Bool.and_eq_true _ _).mp hg
  have hg3 := (Bool.and_eq_true _ _).mp hg4.1
  have hg2 := (Bool.and_eq_true _ _).mp hg3.1
  obtain rfl : sk = 3 := beq_iff_eq.mp hg2.1
  obtain rfl : vk = 0 + 4 := beq_iff_eq.mp hg2.2
  have hi : i.toNatClampNeg < rs.length := of_decide_eq_true hg4.2
  have hsz : z_sz (S.1.set a (3, n, rs.set i.toNatClampNeg (some v))) = z_sz S.1 := z_sz_set hsh rfl
  exact va_astq (r := (z_cn 0, z_T 0, z_nf 0)) (f := fun j => (rs.getD j none).map ad) hx hb hK hy.1 hy.2.1 hy.2.2.1 a 3 v 0 (z_ws_at hsh) rfl (z_wo hsv) (z_cl 0 (by decide)) (z_vin_at hg3.2) (z_dec_at hd rfl) (fun H1 locs1 g1 g2 g3 => IH _ _ _ _ _ _ _ _ _ _ _ h hl ⟨by rw [z_row_q hsh hi]; exact g1, by rw [z_row_q hsh hi]; exact g2, g3, z_zero_s hy.2.2.2.1, (by show (S.1.set a _).length ≤ 1000; rw [List.length_set]; exact hy.2.2.2.2.1), (fun i hi => hy.2.2.2.2.2 i (by simpa using hi))⟩ (by unfold z_Sz; show _ ∧ _; rw [show (S.1.set a (3, n, rs.set i.toNatClampNeg (some v)), S.2.1, S.2.2).1 = S.1.set a (3, n, rs.set i.toNatClampNeg (some v)) from rfl, List.length_set, hsz]; exact hz))
/-- behind a new cell -/
theorem z_born {p : Program} {l : Launch} {e : Env} {R : Room} {s : State} {m : MethodId} {args : Array Value} {below : List Frame} {meth : Method} {c : Code} {Q : State → Prop} {nL : Nat} {A : Nat → Prop} {dC : Nat → ClassId} {dI : Nat → Nat → Nat} {dA : Nat → ClassId} {ar : Nat → Nat} {n0 s0 : Nat} {lim : Nat × Nat} {run : Nat → List (Option Value) → List (Option Int64) → List Value → z_St → Prop} {sh : z_Sh} {q : Nat} {H1 : Heap} {pc : Nat} {LI : List (Option Value)} {LL : List (Option Int64)} {st : List Value} {S : z_St} {ad : Nat → Nat} {H : Heap} {locs : List Loc} {cells slots : Nat} {ls : Array Slot} (IH : z_IH p l e R s m args below meth c Q nL A dC dI dA ar n0 s0 lim run)
    (hg : (decide (S.1.length + 1 ≤ lim.1) && decide (z_sz S.1 + sh.2.1 ≤ lim.2) && decide (S.1.length < 1000) && z_vS S.1 && z_vF S.1.length LI st) = true) (hn : ∀ k, sh.2.2.getD k none = none) (h : run pc LI LL (.ref S.1.length :: st) (S.1 ++ [sh], S.2.1, S.2.2)) (hl : z_loc ad nL LI LL ls) (hy : z_Dy s A dC dI dA ad ar n0 S H locs) (hz : z_Sz R n0 s0 cells slots lim S)
    (g1 : va_P (dC, dI) vwCl (z_ws dA ad S ++ [(q, z_el dA ad S S.1.length sh)]) H1) (g2 : va_D A (z_ws dA ad S ++ [(q, z_el dA ad S S.1.length sh)])) (g3 : va_S A s.heap H1 locs) : W p l e R s m args below meth c H1 locs (cells + 1) (slots + sh.2.1) Q (F0 m pc ls (.ref q :: st.map (z_tr ad))) := by
  simp only [Bool.and_eq_true, decide_eq_true_eq] at hg
  obtain ⟨⟨⟨⟨c1, c2⟩, c3⟩, c4⟩, c5⟩ := hg
  have ha : ∀ i, (i < S.1.length ∨ 1000 ≤ i) → (fun i => if i = S.1.length then q else ad i) i = ad i := fun i h => if_neg (by omega)
  rw [← z_ws_new c3 c4 hn] at g1 g2
  have hst : Value.ref q :: st.map (z_tr ad) = (Value.ref S.1.length :: st).map (z_tr (fun i => if i = S.1.length then q else ad i)) := by
    rw [List.map_cons, z_vF_st ha c5]
    show _ = Value.ref (if S.1.length = S.1.length then q else ad S.1.length) :: _
    rw [if_pos rfl]
  rw [hst]
  refine IH _ _ _ _ _ _ _ _ _ _ _ h (z_vF_loc ha c5 hl) ⟨g1, g2, g3, z_zero_n hy.2.2.2.1, ?_, fun i hi => ?_⟩ ?_
  · show (S.1 ++ [sh]).length ≤ 1000
    rw [List.length_append]
    exact c3
  · have hi : i < n0 ∨ (S.1 ++ [sh]).length ≤ i := hi
    rw [List.length_append] at hi
    have hi : i < n0 ∨ S.1.length + 1 ≤ i := hi
    have hz1 := hz.1
    exact (if_neg (by omega)).trans (hy.2.2.2.2.2 i (by omega))
  · obtain ⟨z1, z2, z3, z4, z5, z6⟩ := hz
    unfold z_Sz
    show cells + 1 + n0 = (S.1 ++ [sh]).length ∧ slots + sh.2.1 + s0 = z_sz (S.1 ++ [sh]) ∧ (S.1 ++ [sh]).length ≤ lim.1 ∧ z_sz (S.1 ++ [sh]) ≤ lim.2 ∧ _
    rw [List.length_append, z_sz_app]
    exact ⟨by show cells + 1 + n0 = S.1.length + 1; omega, by omega, c1, c2, z5, z6⟩
theorem z_rep {n k : Nat} : (List.replicate n (none : Option Nat)).getD k none = none := by
  rw [List.getD_eq_getElem?_getD]
  cases h : (List.replicate n (none : Option Nat))[k]? with
  | none => rfl
  | some x => rw [List.eq_of_mem_replicate (List.mem_of_getElem? h)]; rfl
set_option maxHeartbeats 1000000 in
theorem z1_new {p : Program} {l : Launch} {e : Env} {R : Room} {s : State} {m : MethodId} {args : Array Value} {below : List Frame} {meth : Method} {c : Code} {Q : State → Prop} {o : Nat} {ini : Bool} {rt : Option FieldType} {cc : ByteArray} {nL d : Nat} {A : Nat → Prop} {dC : Nat → ClassId} {dI : Nat → Nat → Nat} {dA : Nat → ClassId} {ar : Nat → Nat} {ro : z_Ro} {n0 s0 : Nat} {lim : Nat × Nat} {C : z_CR} {run : Nat → List (Option Value) → List (Option Int64) → List Value → z_St → Prop} {Qp : Option Value → z_St → Prop} {pc : Nat} {LI : List (Option Value)} {LL : List (Option Int64)} {st : List Value} {S : z_St} {ad : Nat → Nat} {H : Heap} {locs : List Loc} {cells slots : Nat} {ls : Array Slot} {res : z_Rs} {ea eb : Nat} {ez : Int} {i : Nat} (X : z_Cx p s m args meth c R o ini cc nL d A dC dI dA ar ro) (IH : z_IH p l e R s m args below meth c Q nL A dC dI dA ar n0 s0 lim run)  (hd : z_dec cc pc (.new i) = true) (hk : z_lk o ini rt pc (.new i, ea, eb, ez) = true) (hs : z_step ro d lim (.new i, ea, eb, ez) pc LI LL st S = some res) (hg : res.1 = true) (h : z_Po C lim run Qp pc LI LL S res) (hl : z_loc ad nL LI LL ls) (hy : z_Dy s A dC dI dA ad ar n0 S H locs) (hz : z_Sz R n0 s0 cells slots lim S) : W p l e R s m args below meth c H locs cells slots Q (F0 m pc ls (st.map (z_tr ad))) := by
  obtain ⟨hx, hb, hml, hown, hini, hts, hnw, hao, hK, hA, hZ, hro, hro0, hRf, hRl⟩ := X
  obtain rfl := Option.some.inj hs
  obtain ⟨hw, hci⟩ := z_ck_of hk
  have hci : ea < 10 := hci
  have hg0 := hg
  simp only [z_new, Bool.and_eq_true, decide_eq_true_eq] at hg0
  obtain ⟨z1, z2, z3, z4, z5, z6⟩ := id hz
  refine va_new (ci := ea) (fs := (List.range (z_nf ea)).map (fun k => z_tr ad (z_fv ea k S.1.length (List.replicate (z_nf ea) none) S))) (C := z_cn ea) (T := z_T ea) (N := z_nf ea) hx hb hts (z_us ea hci) (z_ty ea) (z_ty_ok ea hci) hown (hts _ hw) (hts _ (z_at.in (z_ins_ok ea hci))) (hts _ (z_at.in (z_ini_ok ea (by omega)))) hK hy.1 hy.2.1 hy.2.2.1 hA (z_cl ea hci) (fun j hj => ?_) (by omega) (by omega) (z_dec_at hd rfl) (fun q H1 g1 g2 g3 => ?_)
  · unfold vp_V
    rw [List.getD_eq_getElem?_getD, z_rng hj]
    show _ = z_tr ad (z_fv ea j S.1.length (List.replicate (z_nf ea) none) S)
    obtain ⟨e1, e2⟩ := hy.2.2.2.1 S.1.length j (Nat.le_refl _)
    unfold z_fv
    rcases z_ft_ok ea hci j hj with q | q | q
    · rw [q.1, q.2, e1]; rfl
    · rw [q.1, q.2, e2]; rfl
    · rw [q.1]
      show _ = z_tr ad (va_rf ((List.replicate (z_nf ea) none).getD j none))
      rw [z_rep]
      have q2 := q.2
      revert q2
      cases z_ty ea j <;> intro q2 <;> first | rfl | cases q2
  · exact z_born (sh := (4 + ea, z_nf ea, List.replicate (z_nf ea) none)) IH hg (fun k => z_rep) h hl hy hz (by rw [show z_el dA ad S S.1.length (4 + ea, z_nf ea, List.replicate (z_nf ea) none) = z_el dA ad S S.1.length (ea + 4, z_nf ea, List.replicate (z_nf ea) none) by rw [Nat.add_comm]]; exact g1) (by rw [show z_el dA ad S S.1.length (4 + ea, z_nf ea, List.replicate (z_nf ea) none) = z_el dA ad S S.1.length (ea + 4, z_nf ea, List.replicate (z_nf ea) none) by rw [Nat.add_comm]]; exact g2) g3
set_option maxHeartbeats 1000000 in
theorem z1_newarray {p : Program} {l : Launch} {e : Env} {R : Room} {s : State} {m : MethodId} {args : Array Value} {below : List Frame} {meth : Method} {c : Code} {Q : State → Prop} {o : Nat} {ini : Bool} {rt : Option FieldType} {cc : ByteArray} {nL d : Nat} {A : Nat → Prop} {dC : Nat → ClassId} {dI : Nat → Nat → Nat} {dA : Nat → ClassId} {ar : Nat → Nat} {ro : z_Ro} {n0 s0 : Nat} {lim : Nat × Nat} {C : z_CR} {run : Nat → List (Option Value) → List (Option Int64) → List Value → z_St → Prop} {Qp : Option Value → z_St → Prop} {pc : Nat} {LI : List (Option Value)} {LL : List (Option Int64)} {st : List Value} {S : z_St} {ad : Nat → Nat} {H : Heap} {locs : List Loc} {cells slots : Nat} {ls : Array Slot} {res : z_Rs} {ea eb : Nat} {ez : Int} {t : ArrayType} (X : z_Cx p s m args meth c R o ini cc nL d A dC dI dA ar ro) (IH : z_IH p l e R s m args below meth c Q nL A dC dI dA ar n0 s0 lim run)  (hd : z_dec cc pc (.newarray t) = true) (hk : z_lk o ini rt pc (.newarray t, ea, eb, ez) = true) (hs : z_step ro d lim (.newarray t, ea, eb, ez) pc LI LL st S = some res) (hg : res.1 = true) (h : z_Po C lim run Qp pc LI LL S res) (hl : z_loc ad nL LI LL ls) (hy : z_Dy s A dC dI dA ad ar n0 S H locs) (hz : z_Sz R n0 s0 cells slots lim S) : W p l e R s m args below meth c H locs cells slots Q (F0 m pc ls (st.map (z_tr ad))) := by
  obtain ⟨hx, hb, hml, hown, hini, hts, hnw, hao, hK, hA, hZ, hro, hro0, hRf, hRl⟩ := X
  obtain ⟨x, r, rfl, hs2⟩ := z_pi_inv hs
  by_cases hc : x < 0 ∨ 65536 < x.toNatClampNeg
  · rw [if_pos hc] at hs2
    cases hs2
  · rw [if_neg hc] at hs2
    obtain rfl := Option.some.inj hs2
    have hg0 := hg
    simp only [Bool.and_eq_true, decide_eq_true_eq] at hg0
    obtain ⟨z1, z2, z3, z4, z5, z6⟩ := id hz
    have hzr : S.2.1 S.1.length = fun _ => 0 := funext fun j => (hy.2.2.2.1 S.1.length j (Nat.le_refl _)).1
    have hzl : S.2.2 S.1.length = fun _ => 0 := funext fun j => (hy.2.2.2.1 S.1.length j (Nat.le_refl _)).2
    have hcA : ∀ (cA : ClassId) (k : Nat) (ty : FieldType), va_K (dC, dI) vwCl (z_tys dA ++ [(cA, ty)]) s → (z_tys dA)[k]? = some (dA k, ty) → (∀ C, ty ≠ .object C) → cA = dA k := by
      intro cA k ty h1 h2 h3
      have e1 := (hK.2 k _ h2).2
      have e2 := (h1.2 4 (cA, ty) rfl).2
      cases ty with
      | object C => exact absurd rfl (h3 C)
      | _ => exact Option.some.inj (e2.symm.trans e1)
    have hn0 : ¬ x < 0 := fun q => hc (Or.inl q)
    have hn1 : ¬ 65536 < x.toNatClampNeg := fun q => hc (Or.inr q)
    cases t with
    | int =>
      refine va_newa (a0 := (x.toNatClampNeg, .inl (S.2.1 S.1.length))) hx hb (hts _ (z_at.in z_ar_ok.1)) rfl hK hy.1 hy.2.1 hy.2.2.1 hA (fun cA => by rw [hzr]; rfl) hn0 rfl (by show x.toNatClampNeg * 4 ≤ _; omega) (by omega) (by omega) (z_dec_at hd rfl) (fun q cA H1 g0 g1 g2 g3 => ?_)
      obtain rfl := hcA cA 0 .int g0 rfl (fun C q => by cases q)
      exact z_born (sh := (0, x.toNatClampNeg, [])) IH hg (fun k => rfl) h hl hy hz g1 g2 g3
    | boolean =>
      refine va_newa (a0 := (x.toNatClampNeg, .inl (S.2.1 S.1.length))) hx hb (hts _ (z_at.in z_ar_ok.2.1)) rfl hK hy.1 hy.2.1 hy.2.2.1 hA (fun cA => by rw [hzr]; rfl) hn0 rfl (by show x.toNatClampNeg * 1 ≤ _; omega) (by omega) (by omega) (z_dec_at hd rfl) (fun q cA H1 g0 g1 g2 g3 => ?_)
      obtain rfl := hcA cA 1 .boolean g0 rfl (fun C q => by cases q)
      exact z_born (sh := (1, x.toNatClampNeg, [])) IH hg (fun k => rfl) h hl hy hz g1 g2 g3
    | long =>
      refine va_newa (atype := .long) (a0 := (x.toNatClampNeg, .inr (.inl (S.2.2 S.1.length)))) hx hb (hts _ z_ar_l) rfl hK hy.1 hy.2.1 hy.2.2.1 hA (fun cA => by rw [hzl]; rfl) hn0 rfl (by show x.toNatClampNeg * 8 ≤ _; omega) (by omega) (by omega) (z_dec_at hd rfl) (fun q cA H1 g0 g1 g2 g3 => ?_)
      obtain rfl := hcA cA 2 .long g0 rfl (fun C q => by cases q)
      exact z_born (sh := (2, x.toNatClampNeg, [])) IH hg (fun k => rfl) h hl hy hz g1 g2 g3
    | _ => exact Bool.noConfusion (show false = true from hk)
set_option maxHeartbeats 1000000 in
theorem z1_anewarray {p : Program} {l : Launch} {e : Env} {R : Room} {s : State} {m : MethodId} {args : Array Value} {below : List Frame} {meth : Method} {c : Code} {Q : State → Prop} {o : Nat} {ini : Bool} {rt : Option FieldType} {cc : ByteArray} {nL d : Nat} {A : Nat → Prop} {dC : Nat → ClassId} {dI : Nat → Nat → Nat} {dA : Nat → ClassId} {ar : Nat → Nat} {ro : z_Ro} {n0 s0 : Nat} {lim : Nat × Nat} {C : z_CR} {run : Nat → List (Option Value) → List (Option Int64) → List Value → z_St → Prop} {Qp : Option Value → z_St → Prop} {pc : Nat} {LI : List (Option Value)} {LL : List (Option Int64)} {st : List Value} {S : z_St} {ad : Nat → Nat} {H : Heap} {locs : List Loc} {cells slots : Nat} {ls : Array Slot} {res : z_Rs} {ea eb : Nat} {ez : Int} {i : Nat} (X : z_Cx p s m args meth c R o ini cc nL d A dC dI dA ar ro) (IH : z_IH p l e R s m args below meth c Q nL A dC dI dA ar n0 s0 lim run)  (hd : z_dec cc pc (.anewarray i) = true) (hk : z_lk o ini rt pc (.anewarray i, ea, eb, ez) = true) (hs : z_step ro d lim (.anewarray i, ea, eb, ez) pc LI LL st S = some res) (hg : res.1 = true) (h : z_Po C lim run Qp pc LI LL S res) (hl : z_loc ad nL LI LL ls) (hy : z_Dy s A dC dI dA ad ar n0 S H locs) (hz : z_Sz R n0 s0 cells slots lim S) : W p l e R s m args below meth c H locs cells slots Q (F0 m pc ls (st.map (z_tr ad))) := by
  obtain ⟨hx, hb, hml, hown, hini, hts, hnw, hao, hK, hA, hZ, hro, hro0, hRf, hRl⟩ := X
  obtain ⟨x, r, rfl, hs2⟩ := z_pi_inv hs
  by_cases hc : x < 0 ∨ 65536 < x.toNatClampNeg
  · rw [if_pos hc] at hs2
    cases hs2
  · rw [if_neg hc] at hs2
    obtain rfl := Option.some.inj hs2
    have hk1 := (Bool.and_eq_true _ _).mp hk
    obtain ⟨hw, -⟩ := z_ck_of hk1.2
    have hg0 := hg
    simp only [Bool.and_eq_true, decide_eq_true_eq] at hg0
    obtain ⟨z1, z2, z3, z4, z5, z6⟩ := id hz
    have hn0 : ¬ x < 0 := fun q => hc (Or.inl q)
    have hn1 : ¬ 65536 < x.toNatClampNeg := fun q => hc (Or.inr q)
    refine va_newq (C := "BoundBraces$Braces") hx hb hown (hts _ hw) hao hK hy.1 hy.2.1 hy.2.2.1 hA hn0 rfl (by omega) (by omega) (by omega) (z_dec_at hd rfl) (fun q cA H1 g0 g1 g2 g3 => ?_)
    have e1 := (hK.2 3 (dA 3, .object "BoundBraces$Braces") rfl).2
    have e2 := (g0.2 4 (cA, .object "BoundBraces$Braces") rfl).2
    obtain ⟨_, _, -, -, -, f1⟩ := e1
    obtain ⟨_, _, -, -, -, f2⟩ := e2
    obtain rfl : cA = dA 3 := Option.some.inj (f2.symm.trans f1)
    have hel : z_el dA ad S S.1.length (3, x.toNatClampNeg, List.replicate x.toNatClampNeg none) = .inl (dA 3, x.toNatClampNeg, .inr (.inr (.inr (.inr (fun _ => none))))) := by
      show Sum.inl (dA 3, x.toNatClampNeg, Sum.inr (Sum.inr (Sum.inr (Sum.inr (fun j => ((List.replicate x.toNatClampNeg none).getD j none).map ad))))) = _
      simp only [z_rep]
      rfl
    exact z_born (sh := (3, x.toNatClampNeg, List.replicate x.toNatClampNeg none)) IH hg (fun k => z_rep) h hl hy hz (by rw [hel]; exact g1) (by rw [hel]; exact g2) g3
