/-! THE TABLES ARE THE CODE: each entry is what the bytes decode to, each pool entry is what the tables' words say. -/
def z_gw : List Cond := lw_tbl.filter goodWord
def z_cn (o : Nat) : String := z_cns.getD o ""
def z_len (i : Instr) : Nat := match i with
  | .aload _ | .iload _ | .istore _ | .bipush _ | .ldc _ | .newarray _ => 2
  | .iinc _ _ | .sipush _ | .ldc_w _ | .ldc2_w _ | .goto _ | .ifCond _ _ | .if_icmp _ _ | .getfield _ | .putfield _ | .getstatic _ | .new _ | .anewarray _ | .invokevirtual _ | .invokespecial _ | .invokestatic _ => 3
  | _ => 1
def z_isw (i : Instr) : Bool := match i with
  | .tableswitch .. | .lookupswitch .. => true
  | _ => false
def z_dec (cc : ByteArray) (pc : Nat) (i : Instr) : Bool := match decode cc pc with
  | .ok (j, n) => decide (j = i) && (decide (n = z_len i) || z_isw i)
  | _ => false
def z_oj (pc : Nat) (off : Int) : Bool := decide ((pc : Int) + off = ((z_jmp pc off : Nat) : Int))
def z_T (ci : Nat) : u_T := (vwCl.getD ci ("", fun _ => ("", "", "", false), 0)).2.1
def z_lk (o : Nat) (ini : Bool) (rt : Option FieldType) (pc : Nat) (e : z_Ent) : Bool := match e.1 with
  | .ireturn => decide (rt = some (if e.2.1 = 0 then FieldType.int else FieldType.boolean))
  | .return_ => decide (rt = none)
  | .getfield i => z_fls.any fun q => q.1 == o && (q.2.1 == i && (q.2.2.1 == e.2.1 && q.2.2.2.1 == e.2.2.1))
  | .putfield i => (z_fls.any fun q => q.1 == o && (q.2.1 == i && (q.2.2.1 == e.2.1 && q.2.2.2.1 == e.2.2.1))) && (!(z_T e.2.1 e.2.2.1).2.2.2 || (ini && e.2.1 == o))
  | .getstatic i => o == 7 && i == 148
  | .invokevirtual i => z_st e.2.1 == 0 && z_lks.any fun q => q.1 == o && (q.2.1 == i && (q.2.2.1 == e.2.1 && q.2.2.2.1 == 0))
  | .invokespecial i => (e.2.2.1 == 3 || (z_st e.2.1 == 2 && e.2.2.1 == 0)) && z_lks.any fun q => q.1 == o && (q.2.1 == i && (q.2.2.1 == e.2.1 && q.2.2.2.1 == e.2.2.1))
  | .invokestatic i => (e.2.2.1 == 2 || e.2.2.1 == 4 || e.2.2.1 == 5 || (z_st e.2.1 == 1 && e.2.2.1 ≤ 1)) && z_lks.any fun q => q.1 == o && (q.2.1 == i && (q.2.2.1 == e.2.1 && q.2.2.2.1 == e.2.2.1))
  | .ldc i => z_kis.any fun q => q.1 == o && (q.2.1 == i && q.2.2.1 == e.2.2.2)
  | .ldc_w i => z_kis.any fun q => q.1 == o && (q.2.1 == i && q.2.2.1 == e.2.2.2)
  | .ldc2_w i => z_kls.any fun q => q.1 == o && (q.2.1 == i && q.2.2.1 == e.2.2.2)
  | .new i => z_cks.any fun q => q.1 == o && (q.2.1 == i && q.2.2.1 == e.2.1)
  | .anewarray i => e.2.1 == 0 && z_cks.any fun q => q.1 == o && (q.2.1 == i && q.2.2.1 == 0)
  | .newarray t => decide (z_ak t ≤ 2)
  | .goto off => z_oj pc off
  | .ifCond _ off => z_oj pc off
  | .if_icmp _ off => z_oj pc off
  | .tableswitch dflt lo hi offs => z_oj pc dflt && offs.toList.all (z_oj pc) && decide ((offs.size : Int) = hi - lo + 1)
  | .lookupswitch dflt ps => z_oj pc dflt && ps.toList.all (fun q => z_oj pc q.2) && (ps.toList.zip (ps.toList.drop 1)).all (fun (a, next) => a.1 < next.1)
  | _ => true
def z_ckt (o : Nat) (ini : Bool) (rt : Option FieldType) (cc : ByteArray) : Nat → List (Option z_Ent) → Bool
  | _, [] => true
  | pc, none :: r => z_ckt o ini rt cc (pc + 1) r
  | pc, some e :: r => z_dec cc pc e.1 && (z_lk o ini rt pc e && z_ckt o ini rt cc (pc + 1) r)
def z_ckm (y : Nat) : Bool := z_ckt (z_ow y) (z_st y == 2) (z_rt y) (z_cc y) 0 (z_tb y)
theorem z_in {i : Nat} {w : Cond} (h : lw_tbl[i]? = some w) (g : goodWord w = true) : w ∈ z_gw := List.mem_filter.mpr ⟨List.mem_of_getElem? h, g⟩
def z_at (i : Nat) (w : Cond) : Bool := decide (lw_tbl[i]? = some w) && goodWord w
theorem z_at.in {i : Nat} {w : Cond} (h : z_at i w = true) : w ∈ z_gw := by
  simp only [z_at, Bool.and_eq_true, decide_eq_true_eq] at h
  exact z_in h.1 h.2
def z_fw (q : Nat × Nat × Nat × Nat × Nat) : Cond := .fieldLink (z_cn q.1) q.2.1 (z_T q.2.2.1 q.2.2.2.1).1 (z_T q.2.2.1 q.2.2.2.1).2.1 (z_T q.2.2.1 q.2.2.2.1).2.2.1
theorem z_fls_ok : z_fls.all (fun q => z_at q.2.2.2.2 (z_fw q) && (decide (q.2.2.1 < 10) && decide (q.2.2.2.1 < z_nf q.2.2.1))) = true := by decide +kernel
def z_lw (q : Nat × Nat × Nat × Nat × Nat) : Cond := .methodLink (z_cn q.1) q.2.1 (z_nm q.2.2.1)
theorem z_lks_0 : (z_lks.all fun q => !(q.2.2.2.1 == 0) || z_at q.2.2.2.2 (z_lw q)) = true := by decide +kernel
theorem z_lks_3 : (z_lks.all fun q => !(q.2.2.2.1 == 3) || z_at q.2.2.2.2 (.methodLink (z_cn q.1) q.2.1 objectInit)) = true := by decide +kernel
theorem z_lks_2 : (z_lks.all fun q => !(q.2.2.2.1 == 2) || z_at q.2.2.2.2 (.methodLink (z_cn q.1) q.2.1 arraycopyName)) = true := by decide +kernel
theorem z_lks_4 : (z_lks.all fun q => !(q.2.2.2.1 == 4) || z_at q.2.2.2.2 (.methodLink (z_cn q.1) q.2.1 Lib.Math.max.name)) = true := by decide +kernel
theorem z_lks_5 : (z_lks.all fun q => !(q.2.2.2.1 == 5) || z_at q.2.2.2.2 (.methodLink (z_cn q.1) q.2.1 Lib.Math.min.name)) = true := by decide +kernel
def z_nw (q : Nat × Nat × Nat × Nat × Nat) : Cond := .methodLinkNest (z_cn q.1) q.2.1 (z_nm q.2.2.1) "BoundBraces"
def z_nws : List Cond := [.methodLinkNest RX1 64 yX8_isIn "BoundBraces", .methodLinkNest RX1 102 yX8_isOutside "BoundBraces", .methodLinkNest RX7 92 yX8_isOutside "BoundBraces", .methodLinkNest RX7 125 yX8_isIn "BoundBraces", .methodLinkNest RX3 82 yX8_isOutside "BoundBraces", .fieldLinkNest RX7 148 "BoundBraces" "ORDERS" "[I" "BoundBraces"]
theorem z_lks_1 : (z_lks.all fun q => !(q.2.2.2.1 == 1) || decide (z_nw q ∈ z_nws)) = true := by decide +kernel
theorem z_cks_ok : (z_cks.all fun q => z_at q.2.2.2 (.classLink (z_cn q.1) q.2.1 (z_cn q.2.2.1)) && decide (q.2.2.1 < 10)) = true := by decide +kernel
theorem z_kis_ok : (z_kis.all fun q => z_at q.2.2.2 (.constant (z_cn q.1) q.2.1 (Int32.ofInt q.2.2.1))) = true := by decide +kernel
theorem z_kls_ok : (z_kls.all fun q => z_at q.2.2.2 (.constantLong (z_cn q.1) q.2.1 (Int64.ofInt q.2.2.1))) = true := by decide +kernel
def z_mw (y : Nat) : Bool := match z_st y with
  | 0 => z_at (z_pss.getD y 0) (.instanceMethod (z_nm y)) && z_at (z_pis.getD y 0) (.selects (z_cn (z_ow y)) (z_nm y) (z_nm y))
  | 1 => z_at (z_pss.getD y 0) (.static (z_nm y))
  | 2 => z_at (z_pss.getD y 0) (.instanceMethod (z_nm y)) && decide ((z_nm y).name = "<init>") && decide (z_rt y = none)
  | _ => false
theorem z_mw_ok : ∀ y, y < 182 → z_mw y = true := by decide +kernel
theorem z_ow_ok : ∀ y, y < 182 → (decide (z_ow y < 13) && (decide ((z_nm y).cls = z_cn (z_ow y)) && (z_st y == 1 || decide (z_ow y < 10)))) = true := by decide +kernel
theorem z_ini_ok : ∀ o, o < 13 → z_at (z_pin.getD o 0) (.initialized (z_cn o)) = true := by decide +kernel
theorem z_cn_ok : ∀ o, o < 13 → decide (z_cn o ≠ "java/lang/invoke/MethodHandle" ∧ z_cn o ≠ "java/lang/invoke/VarHandle") = true := by decide +kernel
theorem z_pf_ok : ∀ y, y < 182 → plainFor (z_nm y) = true := by decide +kernel
theorem z_ds_ok : ∀ y, y < 182 → (parseMethodDescriptor (z_nm y).desc).map (fun d => d.parameters.length) = some (z_na y - (if z_st y = 1 then 0 else 1)) := by decide +kernel
theorem z_mx_ok : ∀ y, y < 182 → z_ml y ≤ 12 ∧ z_na y ≤ z_ml y ∧ z_lls.getD y 0 ≤ z_ml y ∧ (z_st y = 1 ∨ 1 ≤ z_na y) := by decide +kernel
theorem z_ins_ok : ∀ o, o < 10 → z_at (z_pnw.getD o 0) (.instantiable (z_cn o) (z_nf o)) = true := by decide +kernel
theorem z_ob_ok : z_at 72 (.instanceMethod objectInit) = true ∧ z_at 73 (.code objectInit ⟨#[0xb1]⟩ 1 none) = true := by decide +kernel
theorem z_ac_ok : z_at 488 (.native arraycopyName) = true ∧ z_at 487 (.static arraycopyName) = true ∧ z_at 64 (.initialized "java/lang/System") = true := by decide +kernel
theorem z_ar_ok : z_at 121 (.arrayClass .int) = true ∧ z_at 271 (.arrayClass .boolean) = true ∧ z_at 957 (.arrayClass .long) = true := by decide +kernel
theorem z_cl (ci : Nat) (h : ci < 10) : vwCl[ci]? = some (z_cn ci, z_T ci, z_nf ci) := match ci, h with
  | 0, _ => rfl
  | 1, _ => rfl
  | 2, _ => rfl
  | 3, _ => rfl
  | 4, _ => rfl
  | 5, _ => rfl
  | 6, _ => rfl
  | 7, _ => rfl
  | 8, _ => rfl
  | 9, _ => rfl
theorem z_ws_ok : ∀ ci, ci < 10 → (u_ws (z_cn ci) (z_T ci) (z_nf ci)).all (fun w => decide (w ∈ lw_tbl) && goodWord w) = true := by decide +kernel
theorem z_us (ci : Nat) (h : ci < 10) : ∀ w ∈ u_ws (z_cn ci) (z_T ci) (z_nf ci), w ∈ z_gw := by
  intro w hw
  have := List.all_eq_true.mp (z_ws_ok ci h) w hw
  simp only [Bool.and_eq_true, decide_eq_true_eq] at this
  exact List.mem_filter.mpr this
def z_ty (ci : Nat) : Nat → FieldType := ([tyX0, tyX1, tyX2, tyX3, tyX4, tyX5, tyX6, tyX7, tyX8, tyX9] : List (Nat → FieldType)).getD ci tyX0
theorem z_ty_ok : ∀ ci, ci < 10 → ∀ k, k < z_nf ci → parseFieldDescriptor (z_T ci k).2.2.1 = some (z_ty ci k) := by decide +kernel
theorem z_nm_ok : ∀ ci, ci < 10 → ∀ a, a < z_nf ci → ∀ b, b < z_nf ci → a ≠ b → (z_T ci a).2.1 ≠ (z_T ci b).2.1 := by decide +kernel
def z_isr (t : FieldType) : Bool := match t with
  | .object _ => true
  | .array _ => true
  | _ => false
theorem z_ft_ok : ∀ ci, ci < 10 → ∀ k, k < z_nf ci → (z_ft ci k = 0 ∧ z_ty ci k = .int) ∨ (z_ft ci k = 1 ∧ z_ty ci k = .long) ∨ (z_ft ci k = 2 ∧ z_isr (z_ty ci k) = true) := by decide +kernel
theorem z_dcl_ok : ∀ ci, ci < 10 → ∀ k, k < z_nf ci → (z_T ci k).1 = z_cn ci := by decide +kernel
