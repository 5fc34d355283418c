/-! THE SMALL MACHINE: the program's instructions over a store of numbers. A state: the cells' shapes (kind, length, references), what ints they hold, what longs. -/
abbrev z_Sh : Type := Nat × Nat × List (Option Nat)
abbrev z_St : Type := List z_Sh × (Nat → Nat → Int32) × (Nat → Nat → Int64)
abbrev z_Fr : Type := Nat × List (Option Value) × List (Option Int64) × List Value × z_St
abbrev z_Ro : Type := List (Nat × (Nat → Int32))
abbrev z_Rs : Type := Bool × (z_Fr ⊕ (Option Value) ⊕ (Nat × List Value × List Value))
def z_row {α : Type} (M : Nat → Nat → α) (a : Nat) (f : Nat → α) : Nat → Nat → α := fun c => if c = a then f else M c
def z_ft (ci k : Nat) : Nat := (z_fts.getD ci []).getD k 3
def z_nf (ci : Nat) : Nat := (z_fts.getD ci []).length
def z_fv (ci k a : Nat) (rs : List (Option Nat)) (S : z_St) : Value := match z_ft ci k with
  | 0 => .int (S.2.1 a k)
  | 1 => .long (S.2.2 a k)
  | _ => va_rf (rs.getD k none)
def z_sz (sh : List z_Sh) : Nat := (sh.map (fun q => q.2.1)).sum
def z_vr (n : Nat) (r : Option Nat) : Bool := match r with
  | none => true
  | some i => decide (i < n) || decide (1000 ≤ i)
def z_vv (n : Nat) (v : Value) : Bool := match v with
  | .ref i => decide (i < n) || decide (1000 ≤ i)
  | _ => true
def z_vo (n : Nat) (v : Option Value) : Bool := match v with
  | some v => z_vv n v
  | none => true
def z_vF (n : Nat) (LI : List (Option Value)) (st : List Value) : Bool := LI.all (z_vo n) && st.all (z_vv n)
def z_vS (sh : List z_Sh) : Bool := sh.all (fun q => q.2.2.all (z_vr sh.length))
def z_pi (st : List Value) (k : Int32 → List Value → Option z_Rs) : Option z_Rs := match st with
  | .int x :: r => k x r
  | _ => none
def z_pii (st : List Value) (k : Int32 → Int32 → List Value → Option z_Rs) : Option z_Rs := match st with
  | .int y :: .int x :: r => k x y r
  | _ => none
def z_pr (st : List Value) (k : Nat → List Value → Option z_Rs) : Option z_Rs := match st with
  | .ref a :: r => k a r
  | _ => none
def z_pir (st : List Value) (k : Int32 → Nat → List Value → Option z_Rs) : Option z_Rs := match st with
  | .int i :: .ref a :: r => k i a r
  | _ => none
def z_piir (st : List Value) (k : Int32 → Int32 → Nat → List Value → Option z_Rs) : Option z_Rs := match st with
  | .int x :: .int i :: .ref a :: r => k x i a r
  | _ => none
def z_plir (st : List Value) (k : Int64 → Int32 → Nat → List Value → Option z_Rs) : Option z_Rs := match st with
  | .long x :: .int i :: .ref a :: r => k x i a r
  | _ => none
def z_prir (st : List Value) (k : Nat → Int32 → Nat → List Value → Option z_Rs) : Option z_Rs := match st with
  | .ref v :: .int i :: .ref a :: r => k v i a r
  | _ => none
def z_pl (st : List Value) (k : Int64 → List Value → Option z_Rs) : Option z_Rs := match st with
  | .long x :: r => k x r
  | _ => none
def z_pll (st : List Value) (k : Int64 → Int64 → List Value → Option z_Rs) : Option z_Rs := match st with
  | .long y :: .long x :: r => k x y r
  | _ => none
def z_p1 (st : List Value) (k : Value → List Value → Option z_Rs) : Option z_Rs := match st with
  | v :: r => k v r
  | _ => none
def z_p2 (st : List Value) (k : Value → Value → List Value → Option z_Rs) : Option z_Rs := match st with
  | v :: w :: r => k v w r
  | _ => none
def z_pvr (st : List Value) (k : Value → Nat → List Value → Option z_Rs) : Option z_Rs := match st with
  | v :: .ref a :: r => k v a r
  | _ => none
def z_pcp (st : List Value) (k : Int32 → Int32 → Nat → Int32 → Nat → List Value → Option z_Rs) : Option z_Rs := match st with
  | .int n :: .int dp :: .ref d :: .int sp :: .ref s :: r => k n dp d sp s r
  | _ => none
def z_li (LI : List (Option Value)) (i : Nat) (k : Int32 → Option z_Rs) : Option z_Rs := match LI[i]? with
  | some (some (.int x)) => k x
  | _ => none
def z_lr (LI : List (Option Value)) (i : Nat) (k : Nat → Option z_Rs) : Option z_Rs := match LI[i]? with
  | some (some (.ref x)) => k x
  | _ => none
def z_ll (LL : List (Option Int64)) (i : Nat) (k : Int64 → Option z_Rs) : Option z_Rs := match LL[i]? with
  | some (some x) => k x
  | _ => none
def z_ce (S : z_St) (a : Nat) (k : z_Sh → Option z_Rs) : Option z_Rs := match S.1[a]? with
  | some sh => k sh
  | none => none
def z_kill (LL : List (Option Int64)) (i : Nat) : List (Option Int64) := (LL.set i none).set (i - 1) none
def z_jmp (pc : Nat) (off : Int) : Nat := ((pc : Int) + off).toNat
def z_vin (i : Int32) (n : Nat) : Bool := decide (¬ (i < 0 ∨ n ≤ i.toNatClampNeg))
def z_cat (st : List Value) : Nat := (st.map fun v => v.category).sum
def z_cmp (c : Jvm.ClassFile.Cond) (x y : Int32) : Bool := match c with
  | .eq => decide (x = y)
  | .ne => decide (¬ x = y)
  | .lt => decide (x < y)
  | .ge => decide (y ≤ x)
  | .gt => decide (y < x)
  | .le => decide (x ≤ y)
def z_na (y : Nat) : Nat := z_nas.getD y 0
def z_ow (y : Nat) : Nat := z_ows.getD y 0
def z_nm (y : Nat) : MethodName := z_nms.getD y ⟨"", "", ""⟩
def z_cc (y : Nat) : ByteArray := z_ccs.getD y ⟨#[]⟩
def z_ml (y : Nat) : Nat := z_mls.getD y 0
def z_rt (y : Nat) : Option FieldType := z_rts.getD y none
def z_st (y : Nat) : Nat := z_sts.getD y 3
def z_tb (y : Nat) : List (Option z_Ent) := z_tbs.getD y []
def z_nx (pc : Nat) (LI : List (Option Value)) (LL : List (Option Int64)) (st : List Value) (S : z_St) : Option z_Rs := some (true, .inl (pc, LI, LL, st, S))
/-- the guard of a call: the arguments are there, of one word each; an instance method's receiver is of its class -/
def z_cg (y : Nat) (st : List Value) (S : z_St) : Bool := decide (z_na y ≤ st.length) && decide (z_cat (st.drop (z_na y)) ≤ 8) && (st.take (z_na y)).all (fun v => v.category == 1) && (z_st y == 1 || match (st.take (z_na y)).reverse with
  | .ref b :: _ => (match S.1[b]? with
    | some sh => sh.1 == 4 + z_ow y
    | none => false)
  | _ => false)
def z_call (y : Nat) (st : List Value) (S : z_St) : Option z_Rs := some (z_cg y st S, .inr (.inr (y, (st.take (z_na y)).reverse, st.drop (z_na y))))
def z_new (lim : Nat × Nat) (pc : Nat) (LI : List (Option Value)) (LL : List (Option Int64)) (st : List Value) (S : z_St) (sh : z_Sh) : Option z_Rs :=
  some (decide (S.1.length + 1 ≤ lim.1) && decide (z_sz S.1 + sh.2.1 ≤ lim.2) && decide (S.1.length < 1000) && z_vS S.1 && z_vF S.1.length LI st, .inl (pc, LI, LL, .ref S.1.length :: st, (S.1 ++ [sh], S.2.1, S.2.2)))
def z_sw (dflt lo hi : Int) (offs : Array Int) (x : Int32) : Int := if x.toInt < lo ∨ hi < x.toInt then dflt else offs.toList.getD (x.toInt - lo).toNat 0
def z_ak (t : ArrayType) : Nat := match t with
  | .int => 0
  | .boolean => 1
  | .long => 2
  | _ => 9
/-- one step: a guard, and the next frame, or an answer, or a call -/
def z_step (ro : z_Ro) (d : Nat) (lim : Nat × Nat) (e : z_Ent) (pc : Nat) (LI : List (Option Value)) (LL : List (Option Int64)) (st : List Value) (S : z_St) : Option z_Rs := match e.1 with
  | .aload_n n => z_lr LI n.val fun x => z_nx (pc + 1) LI LL (.ref x :: st) S
  | .aload i => z_lr LI i fun x => z_nx (pc + 2) LI LL (.ref x :: st) S
  | .iload_n n => z_li LI n.val fun x => z_nx (pc + 1) LI LL (.int x :: st) S
  | .iload i => z_li LI i fun x => z_nx (pc + 2) LI LL (.int x :: st) S
  | .lload_n n => z_ll LL n.val fun x => z_nx (pc + 1) LI LL (.long x :: st) S
  | .istore_n n => z_pi st fun x r => some (decide (n.val < LI.length), .inl (pc + 1, LI.set n.val (some (.int x)), z_kill LL n.val, r, S))
  | .istore i => z_pi st fun x r => some (decide (i < LI.length), .inl (pc + 2, LI.set i (some (.int x)), z_kill LL i, r, S))
  | .astore_n n => z_pr st fun x r => some (decide (n.val < LI.length), .inl (pc + 1, LI.set n.val (some (.ref x)), z_kill LL n.val, r, S))
  | .lstore_n n => z_pl st fun x r => some (decide (n.val + 1 < LI.length), .inl (pc + 1, (LI.set n.val none).set (n.val + 1) none, ((z_kill LL n.val).set (n.val + 1) none).set n.val (some x), r, S))
  | .iinc i z => z_li LI i fun x => some (decide (i < LI.length), .inl (pc + 3, LI.set i (some (.int (x + Int32.ofInt z))), z_kill LL i, st, S))
  | .iconst z => z_nx (pc + 1) LI LL (.int (Int32.ofInt z) :: st) S
  | .bipush z => z_nx (pc + 2) LI LL (.int (Int8.ofInt z).toInt32 :: st) S
  | .sipush z => z_nx (pc + 3) LI LL (.int (Int16.ofInt z).toInt32 :: st) S
  | .ldc _ => z_nx (pc + 2) LI LL (.int (Int32.ofInt e.2.2.2) :: st) S
  | .ldc_w _ => z_nx (pc + 3) LI LL (.int (Int32.ofInt e.2.2.2) :: st) S
  | .ldc2_w _ => z_nx (pc + 3) LI LL (.long (Int64.ofInt e.2.2.2) :: st) S
  | .iadd => z_pii st fun x y r => z_nx (pc + 1) LI LL (.int (x + y) :: r) S
  | .isub => z_pii st fun x y r => z_nx (pc + 1) LI LL (.int (x - y) :: r) S
  | .imul => z_pii st fun x y r => z_nx (pc + 1) LI LL (.int (x * y) :: r) S
  | .iand => z_pii st fun x y r => z_nx (pc + 1) LI LL (.int (x &&& y) :: r) S
  | .ior => z_pii st fun x y r => z_nx (pc + 1) LI LL (.int (x ||| y) :: r) S
  | .ixor => z_pii st fun x y r => z_nx (pc + 1) LI LL (.int (x ^^^ y) :: r) S
  | .ishl => z_pii st fun x y r => z_nx (pc + 1) LI LL (.int (x <<< (y &&& 31)) :: r) S
  | .ishr => z_pii st fun x y r => z_nx (pc + 1) LI LL (.int (x >>> (y &&& 31)) :: r) S
  | .iushr => z_pii st fun x y r => z_nx (pc + 1) LI LL (.int (x.toUInt32 >>> (y.toUInt32 &&& Int32.toUInt32 31)).toInt32 :: r) S
  | .ineg => z_pi st fun x r => z_nx (pc + 1) LI LL (.int (-x) :: r) S
  | .idiv => z_pii st fun x y r => some (decide (¬ y = 0), .inl (pc + 1, LI, LL, .int (x / y) :: r, S))
  | .irem => z_pii st fun x y r => some (decide (¬ y = 0), .inl (pc + 1, LI, LL, .int (x - x / y * y) :: r, S))
  | .ladd => z_pll st fun x y r => z_nx (pc + 1) LI LL (.long (x + y) :: r) S
  | .lmul => z_pll st fun x y r => z_nx (pc + 1) LI LL (.long (x * y) :: r) S
  | .ldiv => z_pll st fun x y r => some (decide (¬ y = 0), .inl (pc + 1, LI, LL, .long (x / y) :: r, S))
  | .lrem => z_pll st fun x y r => some (decide (¬ y = 0), .inl (pc + 1, LI, LL, .long (x - x / y * y) :: r, S))
  | .i2l => z_pi st fun x r => z_nx (pc + 1) LI LL (.long x.toInt64 :: r) S
  | .l2i => z_pl st fun x r => z_nx (pc + 1) LI LL (.int x.toInt32 :: r) S
  | .dup => z_p1 st fun v r => some (v.category == 1, .inl (pc + 1, LI, LL, v :: v :: r, S))
  | .dup2 => z_p2 st fun v w r => some (v.category == 1 && w.category == 1, .inl (pc + 1, LI, LL, v :: w :: v :: w :: r, S))
  | .pop => z_p1 st fun v r => some (v.category == 1, .inl (pc + 1, LI, LL, r, S))
  | .goto off => z_nx (z_jmp pc off) LI LL st S
  | .ifCond c off => z_pi st fun x r => z_nx (if z_cmp c x 0 = true then z_jmp pc off else pc + 3) LI LL r S
  | .if_icmp c off => z_pii st fun x y r => z_nx (if z_cmp c x y = true then z_jmp pc off else pc + 3) LI LL r S
  | .tableswitch dflt lo hi offs => z_pi st fun x r => z_nx (z_jmp pc (z_sw dflt lo hi offs x)) LI LL r S
  | .lookupswitch dflt ps => z_pi st fun x r => z_nx (z_jmp pc (Op.lookupswitch.offset ps.toList dflt x.toInt)) LI LL r S
  | .getfield _ => z_pr st fun a r => z_ce S a fun sh => some (sh.1 == 4 + e.2.1 && decide (e.2.2.1 < sh.2.1), .inl (pc + 3, LI, LL, z_fv e.2.1 e.2.2.1 a sh.2.2 S :: r, S))
  | .putfield _ => z_pvr st fun v a r => z_ce S a fun sh => match v with
    | .int x => some (sh.1 == 4 + e.2.1 && decide (e.2.2.1 < sh.2.1) && z_ft e.2.1 e.2.2.1 == 0, .inl (pc + 3, LI, LL, r, (S.1, z_row S.2.1 a (upd (S.2.1 a) e.2.2.1 x), S.2.2)))
    | .long x => some (sh.1 == 4 + e.2.1 && decide (e.2.2.1 < sh.2.1) && z_ft e.2.1 e.2.2.1 == 1, .inl (pc + 3, LI, LL, r, (S.1, S.2.1, z_row S.2.2 a (vp_updL (S.2.2 a) e.2.2.1 x))))
    | .ref q => some (sh.1 == 4 + e.2.1 && decide (e.2.2.1 < sh.2.1) && decide (e.2.2.1 < sh.2.2.length) && z_ft e.2.1 e.2.2.1 == 2, .inl (pc + 3, LI, LL, r, (S.1.set a (sh.1, sh.2.1, sh.2.2.set e.2.2.1 (some q)), S.2.1, S.2.2)))
    | _ => none
  | .getstatic _ => z_nx (pc + 3) LI LL (.ref 1000 :: st) S
  | .arraylength => z_pr st fun a r => if a < 1000 then z_ce S a fun sh => some (decide (sh.1 < 4), .inl (pc + 1, LI, LL, .int (Int32.ofNat sh.2.1) :: r, S)) else match ro[a - 1000]? with
    | some q => some (true, .inl (pc + 1, LI, LL, .int (Int32.ofNat q.1) :: r, S))
    | none => none
  | .iaload => z_pir st fun i a r => if a < 1000 then z_ce S a fun sh => some (sh.1 == 0 && z_vin i sh.2.1, .inl (pc + 1, LI, LL, .int (S.2.1 a i.toNatClampNeg) :: r, S)) else match ro[a - 1000]? with
    | some q => some (z_vin i q.1, .inl (pc + 1, LI, LL, .int (q.2 i.toNatClampNeg) :: r, S))
    | none => none
  | .baload => z_pir st fun i a r => z_ce S a fun sh => some (sh.1 == 1 && z_vin i sh.2.1, .inl (pc + 1, LI, LL, .int (S.2.1 a i.toNatClampNeg) :: r, S))
  | .laload => z_pir st fun i a r => z_ce S a fun sh => some (sh.1 == 2 && z_vin i sh.2.1, .inl (pc + 1, LI, LL, .long (S.2.2 a i.toNatClampNeg) :: r, S))
  | .aaload => z_pir st fun i a r => z_ce S a fun sh => some (sh.1 == 3 && z_vin i sh.2.1, .inl (pc + 1, LI, LL, va_rf (sh.2.2.getD i.toNatClampNeg none) :: r, S))
  | .iastore => z_piir st fun x i a r => z_ce S a fun sh => some (sh.1 == 0 && z_vin i sh.2.1, .inl (pc + 1, LI, LL, r, (S.1, z_row S.2.1 a (upd (S.2.1 a) i.toNatClampNeg x), S.2.2)))
  | .bastore => z_piir st fun x i a r => z_ce S a fun sh => some (sh.1 == 1 && z_vin i sh.2.1, .inl (pc + 1, LI, LL, r, (S.1, z_row S.2.1 a (upd (S.2.1 a) i.toNatClampNeg (vp_nar .boolean x)), S.2.2)))
  | .lastore => z_plir st fun x i a r => z_ce S a fun sh => some (sh.1 == 2 && z_vin i sh.2.1, .inl (pc + 1, LI, LL, r, (S.1, S.2.1, z_row S.2.2 a (vp_updL (S.2.2 a) i.toNatClampNeg x))))
  | .aastore => z_prir st fun v i a r => z_ce S a fun sh => z_ce S v fun sv => some (sh.1 == 3 && sv.1 == 4 && z_vin i sh.2.1 && decide (i.toNatClampNeg < sh.2.2.length), .inl (pc + 1, LI, LL, r, (S.1.set a (sh.1, sh.2.1, sh.2.2.set i.toNatClampNeg (some v)), S.2.1, S.2.2)))
  | .new _ => z_new lim (pc + 3) LI LL st S (4 + e.2.1, z_nf e.2.1, List.replicate (z_nf e.2.1) none)
  | .newarray t => z_pi st fun x r => if x < 0 ∨ 65536 < x.toNatClampNeg then none else z_new lim (pc + 2) LI LL r S (z_ak t, x.toNatClampNeg, [])
  | .anewarray _ => z_pi st fun x r => if x < 0 ∨ 65536 < x.toNatClampNeg then none else z_new lim (pc + 3) LI LL r S (3, x.toNatClampNeg, List.replicate x.toNatClampNeg none)
  | .invokevirtual _ => z_call e.2.1 st S
  | .invokespecial _ => if e.2.2.1 = 3 then z_pr st fun a r => some (decide (1 ≤ d) && decide (z_cat r ≤ 8), .inl (pc + 3, LI, LL, r, S)) else z_call e.2.1 st S
  | .invokestatic _ => if e.2.2.1 = 2 then z_pcp st fun n dp q sp w r => z_ce S q fun sq => z_ce S w fun sw => some (decide (1 ≤ d) && decide (z_cat r ≤ 8) && sq.1 == 0 && sw.1 == 0 && decide (¬ sp < 0) && decide (¬ dp < 0) && decide (¬ n < 0) && decide (sp.toNatClampNeg + n.toNatClampNeg ≤ sw.2.1) && decide (dp.toNatClampNeg + n.toNatClampNeg ≤ sq.2.1), .inl (pc + 3, LI, LL, r, (S.1, z_row S.2.1 q (va_cpy (S.2.1 w) (S.2.1 q) sp.toNatClampNeg dp.toNatClampNeg n.toNatClampNeg), S.2.2))) else if e.2.2.1 = 4 then z_pii st fun x y r => some (decide (1 ≤ d) && decide (z_cat r ≤ 8), .inl (pc + 3, LI, LL, .int (if x < y then y else x) :: r, S)) else if e.2.2.1 = 5 then z_pii st fun x y r => some (decide (1 ≤ d) && decide (z_cat r ≤ 8), .inl (pc + 3, LI, LL, .int (if y < x then y else x) :: r, S)) else z_call e.2.1 st S
  | .ireturn => match st with
    | [.int v] => some (e.2.1 == 0 || decide (v = 0) || decide (v = 1), .inr (.inl (some (.int v))))
    | _ => none
  | .return_ => match st with
    | [] => some (true, .inr (.inl none))
    | _ => none
  | _ => none
def z_fit (lim : Nat × Nat) (S S' : z_St) (LI : List (Option Value)) (rest : List Value) : Bool := (decide (S'.1.length = S.1.length) && decide (z_sz S'.1 = z_sz S.1)) || (decide (S.1.length ≤ S'.1.length) && decide (z_sz S.1 ≤ z_sz S'.1) && decide (S'.1.length ≤ lim.1) && decide (z_sz S'.1 ≤ lim.2) && z_vF S.1.length LI rest)
abbrev z_CR : Type := Nat → List Value → z_St → Option Value → z_St → Prop
noncomputable def z_run (ro : z_Ro) (d : Nat) (C : z_CR) (tb : List (Option z_Ent)) (lim : Nat × Nat) (n : Nat) : Nat → List (Option Value) → List (Option Int64) → List Value → z_St → (Option Value → z_St → Prop) → Prop :=
  Nat.rec (motive := fun _ => Nat → List (Option Value) → List (Option Int64) → List Value → z_St → (Option Value → z_St → Prop) → Prop) (fun _ _ _ _ _ _ => False)
    (fun _ ih pc LI LL st S Q => match tb[pc]? with
      | some (some e) => (match z_step ro d lim e pc LI LL st S with
        | some (g, .inl f) => g = true ∧ ih f.1 f.2.1 f.2.2.1 f.2.2.2.1 f.2.2.2.2 Q
        | some (g, .inr (.inl r)) => g = true ∧ Q r S
        | some (g, .inr (.inr q)) => g = true ∧ ∃ (r : Option Value) (S' : z_St), C q.1 q.2.1 S r S' ∧ z_fit lim S S' LI q.2.2 = true ∧ ih (pc + 3) LI LL (r.toList ++ q.2.2) S' Q
        | none => False)
      | _ => False) n
def z_ord (j : Nat) : Int32 := ([1, 1, 2, 6, 24, 120, 720] : List Int32).getD j 0
def z_ro0 : z_Ro := [(7, z_ord)]
def z_l0 (y : Nat) : List (Option Int64) := List.replicate (z_lls.getD y 0) none
def z_i0 (y : Nat) (as : List Value) : List (Option Value) := as.map some ++ List.replicate (z_ml y - as.length) none
/-- a call of method y, with less than d frames below it: from S with these arguments it answers r, and leaves S' -/
noncomputable def z_C (d : Nat) : z_CR :=
  Nat.rec (motive := fun _ => z_CR) (fun _ _ _ _ _ => False) (fun d ih y as S r S' => y < z_tbs.length ∧ as.length = z_na y ∧ ∃ n, z_run z_ro0 d ih (z_tb y) (S'.1.length, z_sz S'.1) n 0 (z_i0 y as) (z_l0 y) [] S (fun r2 S2 => r2 = r ∧ S2 = S')) d
theorem z_C_succ (d y : Nat) (as : List Value) (S S' : z_St) (r : Option Value) : z_C (d + 1) y as S r S' = (y < z_tbs.length ∧ as.length = z_na y ∧ ∃ n, z_run z_ro0 d (z_C d) (z_tb y) (S'.1.length, z_sz S'.1) n 0 (z_i0 y as) (z_l0 y) [] S (fun r2 S2 => r2 = r ∧ S2 = S')) := rfl
