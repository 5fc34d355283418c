/-! WALKING THE SMALL MACHINE over the cells as they stand: z_G, 'from this frame the method ends with Q' -/
def z_G (d : Nat) (tb : List (Option z_Ent)) (pc : Nat) (LI : List (Option Value)) (LL : List (Option Int64)) (st : List Value) (S : z_St) (Q : Option Value → z_St → Prop) : Prop := ∃ n, z_run z_ro0 d (z_C d) tb (293, 5996) n pc LI LL st S Q
section ZG
variable {d : Nat} {tb : List (Option z_Ent)} {Q : Option Value → z_St → Prop}
theorem g_k {pc pc' : Nat} {LI LI' : List (Option Value)} {LL LL' : List (Option Int64)} {st st' : List Value} {S S' : z_St} (k : Nat) (f : ∀ n, z_run z_ro0 d (z_C d) tb (293, 5996) n pc' LI' LL' st' S' Q → z_run z_ro0 d (z_C d) tb (293, 5996) (n + k) pc LI LL st S Q) (h : z_G d tb pc' LI' LL' st' S' Q) : z_G d tb pc LI LL st S Q := by
  obtain ⟨n, hn⟩ := h
  exact ⟨n + k, f n hn⟩
variable {a b : Nat} {LI : List (Option Value)} {LL : List (Option Int64)} {st : List Value} {S : z_St} {x y : Int32}
theorem g_eq (kt : x = y → z_G d tb a LI LL st S Q) (kf : ¬ x = y → z_G d tb b LI LL st S Q) : z_G d tb (if z_cmp .eq x y = true then a else b) LI LL st S Q := by
  by_cases h : x = y
  · rw [if_pos (show z_cmp .eq x y = true from decide_eq_true h)]; exact kt h
  · rw [if_neg (show ¬ z_cmp .eq x y = true from fun q => h (of_decide_eq_true q))]; exact kf h
theorem g_ne (kt : ¬ x = y → z_G d tb a LI LL st S Q) (kf : x = y → z_G d tb b LI LL st S Q) : z_G d tb (if z_cmp .ne x y = true then a else b) LI LL st S Q := by
  by_cases h : x = y
  · rw [if_neg (show ¬ z_cmp .ne x y = true from fun q => (of_decide_eq_true q : ¬ x = y) h)]; exact kf h
  · rw [if_pos (show z_cmp .ne x y = true from decide_eq_true h)]; exact kt h
theorem g_lt (kt : x < y → z_G d tb a LI LL st S Q) (kf : ¬ x < y → z_G d tb b LI LL st S Q) : z_G d tb (if z_cmp .lt x y = true then a else b) LI LL st S Q := by
  by_cases h : x < y
  · rw [if_pos (show z_cmp .lt x y = true from decide_eq_true h)]; exact kt h
  · rw [if_neg (show ¬ z_cmp .lt x y = true from fun q => h (of_decide_eq_true q))]; exact kf h
theorem g_ge (kt : y ≤ x → z_G d tb a LI LL st S Q) (kf : ¬ y ≤ x → z_G d tb b LI LL st S Q) : z_G d tb (if z_cmp .ge x y = true then a else b) LI LL st S Q := by
  by_cases h : y ≤ x
  · rw [if_pos (show z_cmp .ge x y = true from decide_eq_true h)]; exact kt h
  · rw [if_neg (show ¬ z_cmp .ge x y = true from fun q => h (of_decide_eq_true q))]; exact kf h
theorem g_gt (kt : y < x → z_G d tb a LI LL st S Q) (kf : ¬ y < x → z_G d tb b LI LL st S Q) : z_G d tb (if z_cmp .gt x y = true then a else b) LI LL st S Q := by
  by_cases h : y < x
  · rw [if_pos (show z_cmp .gt x y = true from decide_eq_true h)]; exact kt h
  · rw [if_neg (show ¬ z_cmp .gt x y = true from fun q => h (of_decide_eq_true q))]; exact kf h
theorem g_le (kt : x ≤ y → z_G d tb a LI LL st S Q) (kf : ¬ x ≤ y → z_G d tb b LI LL st S Q) : z_G d tb (if z_cmp .le x y = true then a else b) LI LL st S Q := by
  by_cases h : x ≤ y
  · rw [if_pos (show z_cmp .le x y = true from decide_eq_true h)]; exact kt h
  · rw [if_neg (show ¬ z_cmp .le x y = true from fun q => h (of_decide_eq_true q))]; exact kf h
end ZG
theorem z_fit_same (lim : Nat × Nat) (sh : List z_Sh) (M M' : Nat → Nat → Int32) (L L' : Nat → Nat → Int64) (LI : List (Option Value)) (rest : List Value) : z_fit lim (sh, M, L) (sh, M', L') LI rest = true := by simp [z_fit]
/-- a contract out of a walk -/
theorem z_mk {d y : Nat} {tb : List (Option z_Ent)} {as : List Value} {LI : List (Option Value)} {LL : List (Option Int64)} {M : Nat → Nat → Int32} {L : Nat → Nat → Int64} {P : Option Value → (Nat → Nat → Int32) → (Nat → Nat → Int64) → Prop} (htb : z_tb y = tb) (hy : y < 182) (hl : as.length = z_na y) (hLI : z_i0 y as = LI) (hLL : z_l0 y = LL) (h : z_G d tb 0 LI LL [] (z_SH, M, L) (fun r S' => ∃ M' L', S' = (z_SH, M', L') ∧ P r M' L')) : ∃ r M' L', z_C (d + 1) y as (z_SH, M, L) r (z_SH, M', L') ∧ P r M' L' := by
  obtain ⟨n, hn⟩ := h
  obtain ⟨r, S', ⟨M', L', rfl, hP⟩, hr⟩ := z_run_det hn
  refine ⟨r, M', L', ?_, hP⟩
  rw [z_C_succ]
  refine ⟨by rw [z_tbs_len]; exact hy, hl, n, ?_⟩
  show z_run z_ro0 d (z_C d) (z_tb y) (z_SH.length, z_sz z_SH) n 0 (z_i0 y as) (z_l0 y) [] (z_SH, M, L) (fun r2 S2 => r2 = r ∧ S2 = (z_SH, M', L'))
  rw [z_SH_len, z_SH_sz, htb, hLI, hLL]
  exact hr
/-- .. that says just what it answers and leaves -/
theorem z_mkA {d y : Nat} {tb : List (Option z_Ent)} {as : List Value} {LI : List (Option Value)} {LL : List (Option Int64)} {M M' : Nat → Nat → Int32} {L L' : Nat → Nat → Int64} {r : Option Value} (htb : z_tb y = tb) (hy : y < 182) (hl : as.length = z_na y) (hLI : z_i0 y as = LI) (hLL : z_l0 y = LL) (h : z_G d tb 0 LI LL [] (z_SH, M, L) (fun r2 S' => r2 = r ∧ S' = (z_SH, M', L'))) : z_C (d + 1) y as (z_SH, M, L) r (z_SH, M', L') := by
  obtain ⟨n, hn⟩ := h
  rw [z_C_succ]
  refine ⟨by rw [z_tbs_len]; exact hy, hl, n, ?_⟩
  show z_run z_ro0 d (z_C d) (z_tb y) (z_SH.length, z_sz z_SH) n 0 (z_i0 y as) (z_l0 y) [] (z_SH, M, L) (fun r2 S2 => r2 = r ∧ S2 = (z_SH, M', L'))
  rw [z_SH_len, z_SH_sz, htb, hLI, hLL]
  exact hn
/-- .. that answers an int and leaves a state with P -/
theorem z_mkB {d y : Nat} {tb : List (Option z_Ent)} {as : List Value} {LI : List (Option Value)} {LL : List (Option Int64)} {M : Nat → Nat → Int32} {L : Nat → Nat → Int64} {r : Option Value} {P : (Nat → Nat → Int32) → Prop} (htb : z_tb y = tb) (hy : y < 182) (hl : as.length = z_na y) (hLI : z_i0 y as = LI) (hLL : z_l0 y = LL) (h : z_G d tb 0 LI LL [] (z_SH, M, L) (fun r2 S' => ∃ M', r2 = r ∧ S' = (z_SH, M', L) ∧ P M')) : ∃ M', z_C (d + 1) y as (z_SH, M, L) r (z_SH, M', L) ∧ P M' := by
  obtain ⟨n, hn⟩ := h
  obtain ⟨r2, S', ⟨M', rfl, rfl, hP⟩, hr⟩ := z_run_det hn
  refine ⟨M', ?_, hP⟩
  rw [z_C_succ]
  refine ⟨by rw [z_tbs_len]; exact hy, hl, n, ?_⟩
  show z_run z_ro0 d (z_C d) (z_tb y) (z_SH.length, z_sz z_SH) n 0 (z_i0 y as) (z_l0 y) [] (z_SH, M, L) (fun r3 S2 => r3 = r2 ∧ S2 = (z_SH, M', L))
  rw [z_SH_len, z_SH_sz, htb, hLI, hLL]
  exact hr
theorem z_vI {k n : Nat} (h : k < n) (hn : n < 2 ^ 31) : z_vin (nI k) n = true := decide_eq_true (vp_in_nI h hn)
theorem z_cl_nI {k : Nat} (h : k < 2 ^ 31) : (nI k).toNatClampNeg = k := Int32.toNatClampNeg_ofNat_of_lt h
/-! sums and sets over the first n -/
def sm (n : Nat) (f : Nat → Int32) : Int32 := Nat.rec 0 (fun k r => r + f k) n
theorem sm_0 (f : Nat → Int32) : sm 0 f = 0 := rfl
theorem sm_s (n : Nat) (f : Nat → Int32) : sm (n + 1) f = sm n f + f n := rfl
theorem sm_congr {n : Nat} {f g : Nat → Int32} (h : ∀ k, k < n → f k = g k) : sm n f = sm n g := by
  induction n with
  | zero => rfl
  | succ n ih => rw [sm_s, sm_s, ih (fun k hk => h k (by omega)), h n (by omega)]
def bs (n : Nat) (p : Nat → Bool) : Int32 := Nat.rec 0 (fun k r => if p k = true then r ||| ((1 : Int32) <<< (nI k &&& 31)) else r) n
theorem bs_0 (p : Nat → Bool) : bs 0 p = 0 := rfl
theorem bs_s (n : Nat) (p : Nat → Bool) : bs (n + 1) p = if p n = true then bs n p ||| ((1 : Int32) <<< (nI n &&& 31)) else bs n p := rfl
theorem bs_congr {n : Nat} {f g : Nat → Bool} (h : ∀ k, k < n → f k = g k) : bs n f = bs n g := by
  induction n with
  | zero => rfl
  | succ n ih => rw [bs_s, bs_s, ih (fun k hk => h k (by omega)), h n (by omega)]
theorem z_gb {v : Int32} (h : v = 0 ∨ v = 1) : (((1 : Nat) == 0) || decide (v = 0) || decide (v = 1)) = true := by
  rcases h with rfl | rfl <;> rfl
theorem z_toI {x : Int32} {k : Int32} : x.toInt = k.toInt ↔ x = k := ⟨fun h => Int32.toInt_inj.mp h, fun h => by rw [h]⟩
theorem g_lk {d : Nat} {tb : List (Option z_Ent)} {Q : Option Value → z_St → Prop} {pc : Nat} {LI : List (Option Value)} {LL : List (Option Int64)} {st : List Value} {S : z_St} {x k1 k2 : Int32} {o1 o2 df i1 i2 : Int} (e1 : i1 = k1.toInt) (e2 : i2 = k2.toInt) (h1 : x = k1 → z_G d tb (z_jmp pc o1) LI LL st S Q) (h2 : ¬ x = k1 → x = k2 → z_G d tb (z_jmp pc o2) LI LL st S Q) (h3 : ¬ x = k1 → ¬ x = k2 → z_G d tb (z_jmp pc df) LI LL st S Q) : z_G d tb (z_jmp pc (Op.lookupswitch.offset [(i1, o1), (i2, o2)] df x.toInt)) LI LL st S Q := by
  rw [Op.lookupswitch.offset_cons, Op.lookupswitch.offset_cons, Op.lookupswitch.offset_nil]
  subst e1 e2
  by_cases q1 : x = k1
  · rw [if_pos (by rw [q1])]
    exact h1 q1
  · rw [if_neg (fun z => q1 (z_toI.mp z.symm))]
    by_cases q2 : x = k2
    · rw [if_pos (by rw [q2])]
      exact h2 q1 q2
    · rw [if_neg (fun z => q2 (z_toI.mp z.symm))]
      exact h3 q1 q2
theorem z_lpc {B : Int32} {k : Nat} (h : k < B.toNatClampNeg) : ¬ B ≤ nI k := by
  intro q
  by_cases h0 : B < 0
  · have : B.toNatClampNeg = 0 := by
      have h1 := Int32.lt_iff_toInt_lt.mp h0
      show B.toInt.toNat = 0
      have h2 : (0 : Int32).toInt = 0 := rfl
      omega
    omega
  · obtain ⟨j, hj, rfl⟩ := nI_of h0
    rw [nI_clamp hj] at h
    exact nI_ge h hj q
theorem z_lpe {B : Int32} : B ≤ nI B.toNatClampNeg := by
  by_cases h0 : B < 0
  · have e : B.toNatClampNeg = 0 := by
      have h1 := Int32.lt_iff_toInt_lt.mp h0
      show B.toInt.toNat = 0
      have h2 : (0 : Int32).toInt = 0 := rfl
      omega
    rw [e, nI_0]
    exact Int32.le_of_lt h0
  · obtain ⟨j, hj, rfl⟩ := nI_of h0
    rw [nI_clamp hj]
    exact nI_le (Nat.le_refl _) hj
