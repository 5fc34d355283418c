theorem z_pi_inv {st : List Value} {k : Int32 → List Value → Option z_Rs} {res : z_Rs} (h : z_pi st k = some res) : ∃ x r, st = .int x :: r ∧ k x r = some res := by
  unfold z_pi at h
  split at h
  · exact ⟨_, _, rfl, h⟩
  · cases h
theorem z_pii_inv {st : List Value} {k : Int32 → Int32 → List Value → Option z_Rs} {res : z_Rs} (h : z_pii st k = some res) : ∃ x y r, st = .int y :: .int x :: r ∧ k x y r = some res := by
  unfold z_pii at h
  split at h
  · exact ⟨_, _, _, rfl, h⟩
  · cases h
theorem z_pr_inv {st : List Value} {k : Nat → List Value → Option z_Rs} {res : z_Rs} (h : z_pr st k = some res) : ∃ a r, st = .ref a :: r ∧ k a r = some res := by
  unfold z_pr at h
  split at h
  · exact ⟨_, _, rfl, h⟩
  · cases h
theorem z_pir_inv {st : List Value} {k : Int32 → Nat → List Value → Option z_Rs} {res : z_Rs} (h : z_pir st k = some res) : ∃ i a r, st = .int i :: .ref a :: r ∧ k i a r = some res := by
  unfold z_pir at h
  split at h
  · exact ⟨_, _, _, rfl, h⟩
  · cases h
theorem z_piir_inv {st : List Value} {k : Int32 → Int32 → Nat → List Value → Option z_Rs} {res : z_Rs} (h : z_piir st k = some res) : ∃ x i a r, st = .int x :: .int i :: .ref a :: r ∧ k x i a r = some res := by
  unfold z_piir at h
  split at h
  · exact ⟨_, _, _, _, rfl, h⟩
  · cases h
theorem z_plir_inv {st : List Value} {k : Int64 → Int32 → Nat → List Value → Option z_Rs} {res : z_Rs} (h : z_plir st k = some res) : ∃ x i a r, st = .long x :: .int i :: .ref a :: r ∧ k x i a r = some res := by
  unfold z_plir at h
  split at h
  · exact ⟨_, _, _, _, rfl, h⟩
  · cases h
theorem z_prir_inv {st : List Value} {k : Nat → Int32 → Nat → List Value → Option z_Rs} {res : z_Rs} (h : z_prir st k = some res) : ∃ v i a r, st = .ref v :: .int i :: .ref a :: r ∧ k v i a r = some res := by
  unfold z_prir at h
  split at h
  · exact ⟨_, _, _, _, rfl, h⟩
  · cases h
theorem z_pl_inv {st : List Value} {k : Int64 → List Value → Option z_Rs} {res : z_Rs} (h : z_pl st k = some res) : ∃ x r, st = .long x :: r ∧ k x r = some res := by
  unfold z_pl at h
  split at h
  · exact ⟨_, _, rfl, h⟩
  · cases h
theorem z_pll_inv {st : List Value} {k : Int64 → Int64 → List Value → Option z_Rs} {res : z_Rs} (h : z_pll st k = some res) : ∃ x y r, st = .long y :: .long x :: r ∧ k x y r = some res := by
  unfold z_pll at h
  split at h
  · exact ⟨_, _, _, rfl, h⟩
  · cases h
theorem z_p1_inv {st : List Value} {k : Value → List Value → Option z_Rs} {res : z_Rs} (h : z_p1 st k = some res) : ∃ v r, st = v :: r ∧ k v r = some res := by
  unfold z_p1 at h
  split at h
  · exact ⟨_, _, rfl, h⟩
  · cases h
theorem z_p2_inv {st : List Value} {k : Value → Value → List Value → Option z_Rs} {res : z_Rs} (h : z_p2 st k = some res) : ∃ v w r, st = v :: w :: r ∧ k v w r = some res := by
  unfold z_p2 at h
  split at h
  · exact ⟨_, _, _, rfl, h⟩
  · cases h
theorem z_pvr_inv {st : List Value} {k : Value → Nat → List Value → Option z_Rs} {res : z_Rs} (h : z_pvr st k = some res) : ∃ v a r, st = v :: .ref a :: r ∧ k v a r = some res := by
  unfold z_pvr at h
  split at h
  · exact ⟨_, _, _, rfl, h⟩
  · cases h
theorem z_pcp_inv {st : List Value} {k : Int32 → Int32 → Nat → Int32 → Nat → List Value → Option z_Rs} {res : z_Rs} (h : z_pcp st k = some res) : ∃ n dp d sp s r, st = .int n :: .int dp :: .ref d :: .int sp :: .ref s :: r ∧ k n dp d sp s r = some res := by
  unfold z_pcp at h
  split at h
  · exact ⟨_, _, _, _, _, _, rfl, h⟩
  · cases h
theorem z_li_inv {LI : List (Option Value)} {i : Nat} {k : Int32 → Option z_Rs} {res : z_Rs} (h : z_li LI i k = some res) : ∃ x, LI[i]? = some (some (.int x)) ∧ k x = some res := by
  unfold z_li at h
  split at h
  · rename_i x hx
    exact ⟨x, hx, h⟩
  · cases h
theorem z_lr_inv {LI : List (Option Value)} {i : Nat} {k : Nat → Option z_Rs} {res : z_Rs} (h : z_lr LI i k = some res) : ∃ x, LI[i]? = some (some (.ref x)) ∧ k x = some res := by
  unfold z_lr at h
  split at h
  · rename_i x hx
    exact ⟨x, hx, h⟩
  · cases h
theorem z_ll_inv {LL : List (Option Int64)} {i : Nat} {k : Int64 → Option z_Rs} {res : z_Rs} (h : z_ll LL i k = some res) : ∃ x, LL[i]? = some (some x) ∧ k x = some res := by
  unfold z_ll at h
  split at h
  · rename_i x hx
    exact ⟨x, hx, h⟩
  · cases h
theorem z_ce_inv {S : z_St} {a : Nat} {k : z_Sh → Option z_Rs} {res : z_Rs} (h : z_ce S a k = some res) : ∃ sh, S.1[a]? = some sh ∧ k sh = some res := by
  unfold z_ce at h
  split at h
  · rename_i x hx
    exact ⟨x, hx, h⟩
  · cases h
/-- what a step leaves to be run -/
def z_Po (C : z_CR) (lim : Nat × Nat) (run : Nat → List (Option Value) → List (Option Int64) → List Value → z_St → Prop) (Q : Option Value → z_St → Prop) (pc : Nat) (LI : List (Option Value)) (LL : List (Option Int64)) (S : z_St) (res : z_Rs) : Prop := match res.2 with
  | .inl f => run f.1 f.2.1 f.2.2.1 f.2.2.2.1 f.2.2.2.2
  | .inr (.inl r) => Q r S
  | .inr (.inr q) => ∃ (r : Option Value) (S' : z_St), C q.1 q.2.1 S r S' ∧ z_fit lim S S' LI q.2.2 = true ∧ run (pc + 3) LI LL (r.toList ++ q.2.2) S'
theorem z_run_inv {ro : z_Ro} {d : Nat} {C : z_CR} {tb : List (Option z_Ent)} {lim : Nat × Nat} {n pc : Nat} {LI : List (Option Value)} {LL : List (Option Int64)} {st : List Value} {S : z_St} {Q : Option Value → z_St → Prop} (h : z_run ro d C tb lim (n + 1) pc LI LL st S Q) :
    ∃ (e : z_Ent) (res : z_Rs), tb[pc]? = some (some e) ∧ z_step ro d lim e pc LI LL st S = some res ∧ res.1 = true ∧ z_Po C lim (fun pc LI LL st S => z_run ro d C tb lim n pc LI LL st S Q) Q pc LI LL S res := by
  have h : (match tb[pc]? with
      | some (some e) => (match z_step ro d lim e pc LI LL st S with
        | some (g, .inl f) => g = true ∧ z_run ro d C tb lim n f.1 f.2.1 f.2.2.1 f.2.2.2.1 f.2.2.2.2 Q
        | some (g, .inr (.inl r)) => g = true ∧ Q r S
        | some (g, .inr (.inr q)) => g = true ∧ ∃ (r : Option Value) (S' : z_St), C q.1 q.2.1 S r S' ∧ z_fit lim S S' LI q.2.2 = true ∧ z_run ro d C tb lim n (pc + 3) LI LL (r.toList ++ q.2.2) S' Q
        | none => False)
      | _ => False) := h
  split at h
  · rename_i e he
    split at h
    · rename_i g f hs
      exact ⟨e, (g, .inl f), he, hs, h.1, h.2⟩
    · rename_i g r hs
      exact ⟨e, (g, .inr (.inl r)), he, hs, h.1, h.2⟩
    · rename_i g q hs
      exact ⟨e, (g, .inr (.inr q)), he, hs, h.1, h.2⟩
    · exact h.elim
  · exact h.elim
theorem z_run_mk {ro : z_Ro} {d : Nat} {C : z_CR} {tb : List (Option z_Ent)} {lim : Nat × Nat} {n pc : Nat} {LI : List (Option Value)} {LL : List (Option Int64)} {st : List Value} {S : z_St} {Q : Option Value → z_St → Prop} {e : z_Ent} {res : z_Rs} (h1 : tb[pc]? = some (some e)) (h2 : z_step ro d lim e pc LI LL st S = some res) (h3 : res.1 = true) (h4 : z_Po C lim (fun pc LI LL st S => z_run ro d C tb lim n pc LI LL st S Q) Q pc LI LL S res) : z_run ro d C tb lim (n + 1) pc LI LL st S Q := by
  show (match tb[pc]? with
      | some (some e) => (match z_step ro d lim e pc LI LL st S with
        | some (g, .inl f) => g = true ∧ z_run ro d C tb lim n f.1 f.2.1 f.2.2.1 f.2.2.2.1 f.2.2.2.2 Q
        | some (g, .inr (.inl r)) => g = true ∧ Q r S
        | some (g, .inr (.inr q)) => g = true ∧ ∃ (r : Option Value) (S' : z_St), C q.1 q.2.1 S r S' ∧ z_fit lim S S' LI q.2.2 = true ∧ z_run ro d C tb lim n (pc + 3) LI LL (r.toList ++ q.2.2) S' Q
        | none => False)
      | _ => False)
  rw [h1]
  show (match z_step ro d lim e pc LI LL st S with
        | some (g, .inl f) => g = true ∧ z_run ro d C tb lim n f.1 f.2.1 f.2.2.1 f.2.2.2.1 f.2.2.2.2 Q
        | some (g, .inr (.inl r)) => g = true ∧ Q r S
        | some (g, .inr (.inr q)) => g = true ∧ ∃ (r : Option Value) (S' : z_St), C q.1 q.2.1 S r S' ∧ z_fit lim S S' LI q.2.2 = true ∧ z_run ro d C tb lim n (pc + 3) LI LL (r.toList ++ q.2.2) S' Q
        | none => False)
  rw [h2]
  obtain ⟨g, f | r | q⟩ := res
  · exact ⟨h3, h4⟩
  · exact ⟨h3, h4⟩
  · exact ⟨h3, h4⟩
/-- of a run that ends with Q, how it ends -/
theorem z_run_det {ro : z_Ro} {d : Nat} {C : z_CR} {tb : List (Option z_Ent)} {lim : Nat × Nat} {Q : Option Value → z_St → Prop} : ∀ {n pc : Nat} {LI : List (Option Value)} {LL : List (Option Int64)} {st : List Value} {S : z_St}, z_run ro d C tb lim n pc LI LL st S Q → ∃ (r : Option Value) (S' : z_St), Q r S' ∧ z_run ro d C tb lim n pc LI LL st S (fun r2 S2 => r2 = r ∧ S2 = S')
  | 0, _, _, _, _, _, h => h.elim
  | n + 1, pc, LI, LL, st, S, h => by
    obtain ⟨e, res, h1, h2, h3, h4⟩ := z_run_inv h
    obtain ⟨g, f | r | q⟩ := res
    · obtain ⟨r, S', hq, hr⟩ := z_run_det h4
      exact ⟨r, S', hq, z_run_mk h1 h2 h3 hr⟩
    · exact ⟨r, S, h4, z_run_mk h1 h2 h3 ⟨rfl, rfl⟩⟩
    · obtain ⟨r, S', hc, hf, h5⟩ := h4
      obtain ⟨r2, S2, hq, hr⟩ := z_run_det h5
      exact ⟨r2, S2, hq, z_run_mk h1 h2 h3 ⟨r, S', hc, hf, hr⟩⟩
theorem z_ckt_at {o : Nat} {ini : Bool} {rt : Option FieldType} {cc : ByteArray} : ∀ {tb : List (Option z_Ent)} {p0 k : Nat} {e : z_Ent}, z_ckt o ini rt cc p0 tb = true → tb[k]? = some (some e) → z_dec cc (p0 + k) e.1 = true ∧ z_lk o ini rt (p0 + k) e = true
  | [], _, _, _, _, h => by simp at h
  | none :: r, p0, 0, e, _, h => by simp at h
  | some e0 :: r, p0, 0, e, h0, h => by
    simp only [z_ckt, Bool.and_eq_true] at h0
    rw [List.getElem?_cons_zero] at h
    cases h
    exact ⟨h0.1, h0.2.1⟩
  | none :: r, p0, k + 1, e, h0, h => by
    rw [List.getElem?_cons_succ] at h
    have := z_ckt_at (p0 := p0 + 1) h0 h
    rwa [show p0 + 1 + k = p0 + (k + 1) by omega] at this
  | some e0 :: r, p0, k + 1, e, h0, h => by
    simp only [z_ckt, Bool.and_eq_true] at h0
    rw [List.getElem?_cons_succ] at h
    have := z_ckt_at (p0 := p0 + 1) h0.2.2 h
    rwa [show p0 + 1 + k = p0 + (k + 1) by omega] at this
theorem z_dec_len {cc : ByteArray} {pc : Nat} {i : Instr} (h : z_dec cc pc i = true) : ∃ n, decode cc pc = .ok (i, n) ∧ (n = z_len i ∨ z_isw i = true) := by
  unfold z_dec at h
  split at h
  · rename_i j n hj
    simp only [Bool.and_eq_true, decide_eq_true_eq, Bool.or_eq_true] at h
    obtain ⟨rfl, h2⟩ := h
    exact ⟨n, hj, h2⟩
  · cases h
theorem z_dec_at {cc : ByteArray} {pc : Nat} {i : Instr} (h : z_dec cc pc i = true) (hw : z_isw i = false) : decode cc pc = .ok (i, z_len i) := by
  obtain ⟨n, h1, h2⟩ := z_dec_len h
  rw [hw] at h2
  rcases h2 with rfl | h2
  · exact h1
  · cases h2
theorem z_oj_at {pc : Nat} {off : Int} (h : z_oj pc off = true) : (pc : Int) + off = ((z_jmp pc off : Nat) : Int) := of_decide_eq_true h
theorem z_lks_of {o i y b : Nat} (h : (z_lks.any fun q => q.1 == o && (q.2.1 == i && (q.2.2.1 == y && q.2.2.2.1 == b))) = true) : ∃ q ∈ z_lks, q.1 = o ∧ q.2.1 = i ∧ q.2.2.1 = y ∧ q.2.2.2.1 = b := by
  obtain ⟨q, hq, h1⟩ := List.any_eq_true.mp h
  simp only [Bool.and_eq_true, beq_iff_eq] at h1
  exact ⟨q, hq, h1.1, h1.2.1, h1.2.2.1, h1.2.2.2⟩
theorem z_fls_of {o i ci k : Nat} (h : (z_fls.any fun q => q.1 == o && (q.2.1 == i && (q.2.2.1 == ci && q.2.2.2.1 == k))) = true) : Cond.fieldLink (z_cn o) i (z_T ci k).1 (z_T ci k).2.1 (z_T ci k).2.2.1 ∈ z_gw ∧ ci < 10 ∧ k < z_nf ci := by
  obtain ⟨⟨q1, q2, q3, q4, q5⟩, hq, h1⟩ := List.any_eq_true.mp h
  simp only [Bool.and_eq_true, beq_iff_eq] at h1
  obtain ⟨rfl, rfl, rfl, rfl⟩ := h1
  have h2 := List.all_eq_true.mp z_fls_ok _ hq
  simp only [Bool.and_eq_true, decide_eq_true_eq] at h2
  exact ⟨z_at.in h2.1, h2.2⟩
theorem z_lk_0 {o i y : Nat} (h : (z_lks.any fun q => q.1 == o && (q.2.1 == i && (q.2.2.1 == y && q.2.2.2.1 == 0))) = true) : Cond.methodLink (z_cn o) i (z_nm y) ∈ z_gw := by
  obtain ⟨⟨q1, q2, q3, q4, q5⟩, hq, rfl, rfl, rfl, h4⟩ := z_lks_of h
  have h4 : q4 = 0 := h4
  subst h4
  have h2 := List.all_eq_true.mp z_lks_0 _ hq
  simp only [beq_self_eq_true, Bool.not_true, Bool.false_or] at h2
  exact z_at.in h2
theorem z_lk_1 {o i y : Nat} (h : (z_lks.any fun q => q.1 == o && (q.2.1 == i && (q.2.2.1 == y && q.2.2.2.1 == 1))) = true) : Cond.methodLinkNest (z_cn o) i (z_nm y) "BoundBraces" ∈ z_nws := by
  obtain ⟨⟨q1, q2, q3, q4, q5⟩, hq, rfl, rfl, rfl, h4⟩ := z_lks_of h
  have h4 : q4 = 1 := h4
  subst h4
  have h2 := List.all_eq_true.mp z_lks_1 _ hq
  simp only [beq_self_eq_true, Bool.not_true, Bool.false_or, decide_eq_true_eq] at h2
  exact h2
theorem z_lk_2 {o i y : Nat} (h : (z_lks.any fun q => q.1 == o && (q.2.1 == i && (q.2.2.1 == y && q.2.2.2.1 == 2))) = true) : Cond.methodLink (z_cn o) i arraycopyName ∈ z_gw := by
  obtain ⟨⟨q1, q2, q3, q4, q5⟩, hq, rfl, rfl, rfl, h4⟩ := z_lks_of h
  have h4 : q4 = 2 := h4
  subst h4
  have h2 := List.all_eq_true.mp z_lks_2 _ hq
  simp only [beq_self_eq_true, Bool.not_true, Bool.false_or] at h2
  exact z_at.in h2
theorem z_lk_3 {o i y : Nat} (h : (z_lks.any fun q => q.1 == o && (q.2.1 == i && (q.2.2.1 == y && q.2.2.2.1 == 3))) = true) : Cond.methodLink (z_cn o) i objectInit ∈ z_gw := by
  obtain ⟨⟨q1, q2, q3, q4, q5⟩, hq, rfl, rfl, rfl, h4⟩ := z_lks_of h
  have h4 : q4 = 3 := h4
  subst h4
  have h2 := List.all_eq_true.mp z_lks_3 _ hq
  simp only [beq_self_eq_true, Bool.not_true, Bool.false_or] at h2
  exact z_at.in h2
theorem z_lk_4 {o i y : Nat} (h : (z_lks.any fun q => q.1 == o && (q.2.1 == i && (q.2.2.1 == y && q.2.2.2.1 == 4))) = true) : Cond.methodLink (z_cn o) i Lib.Math.max.name ∈ z_gw := by
  obtain ⟨⟨q1, q2, q3, q4, q5⟩, hq, rfl, rfl, rfl, h4⟩ := z_lks_of h
  have h4 : q4 = 4 := h4
  subst h4
  have h2 := List.all_eq_true.mp z_lks_4 _ hq
  simp only [beq_self_eq_true, Bool.not_true, Bool.false_or] at h2
  exact z_at.in h2
theorem z_lk_5 {o i y : Nat} (h : (z_lks.any fun q => q.1 == o && (q.2.1 == i && (q.2.2.1 == y && q.2.2.2.1 == 5))) = true) : Cond.methodLink (z_cn o) i Lib.Math.min.name ∈ z_gw := by
  obtain ⟨⟨q1, q2, q3, q4, q5⟩, hq, rfl, rfl, rfl, h4⟩ := z_lks_of h
  have h4 : q4 = 5 := h4
  subst h4
  have h2 := List.all_eq_true.mp z_lks_5 _ hq
  simp only [beq_self_eq_true, Bool.not_true, Bool.false_or] at h2
  exact z_at.in h2
theorem z_ki_of {o i : Nat} {z : Int} (h : (z_kis.any fun q => q.1 == o && (q.2.1 == i && q.2.2.1 == z)) = true) : Cond.constant (z_cn o) i (Int32.ofInt z) ∈ z_gw := by
  obtain ⟨⟨q1, q2, q3, q4⟩, hq, h1⟩ := List.any_eq_true.mp h
  simp only [Bool.and_eq_true, beq_iff_eq] at h1
  obtain ⟨rfl, rfl, rfl⟩ := h1
  exact z_at.in (List.all_eq_true.mp z_kis_ok _ hq)
theorem z_kl_of {o i : Nat} {z : Int} (h : (z_kls.any fun q => q.1 == o && (q.2.1 == i && q.2.2.1 == z)) = true) : Cond.constantLong (z_cn o) i (Int64.ofInt z) ∈ z_gw := by
  obtain ⟨⟨q1, q2, q3, q4⟩, hq, h1⟩ := List.any_eq_true.mp h
  simp only [Bool.and_eq_true, beq_iff_eq] at h1
  obtain ⟨rfl, rfl, rfl⟩ := h1
  exact z_at.in (List.all_eq_true.mp z_kls_ok _ hq)
theorem z_ck_of {o i ci : Nat} (h : (z_cks.any fun q => q.1 == o && (q.2.1 == i && q.2.2.1 == ci)) = true) : Cond.classLink (z_cn o) i (z_cn ci) ∈ z_gw ∧ ci < 10 := by
  obtain ⟨⟨q1, q2, q3, q4⟩, hq, h1⟩ := List.any_eq_true.mp h
  simp only [Bool.and_eq_true, beq_iff_eq] at h1
  obtain ⟨rfl, rfl, rfl⟩ := h1
  have h2 := List.all_eq_true.mp z_cks_ok _ hq
  simp only [Bool.and_eq_true, decide_eq_true_eq] at h2
  exact ⟨z_at.in h2.1, h2.2⟩
theorem z_off_of {pc : Nat} {dflt : Int} : ∀ {ps : List (Int × Int)} {k : Int}, z_oj pc dflt = true → ps.all (fun q => z_oj pc q.2) = true → z_oj pc (Op.lookupswitch.offset ps dflt k) = true
  | [], _, h, _ => h
  | (a, o) :: r, k, h, h2 => by
    simp only [List.all_cons, Bool.and_eq_true] at h2
    rw [Op.lookupswitch.offset_cons]
    split
    · exact h2.1
    · exact z_off_of h h2.2
