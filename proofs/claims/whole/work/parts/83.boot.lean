/-! THE CONSTRUCTORS: an evaluator of the small machine, and what it says -/
noncomputable def z_ev (gr : Nat → Nat × Nat) (n : Nat) : Nat → List (Option z_Ent) → Nat × Nat → Nat → List (Option Value) → List (Option Int64) → List Value → z_St → Option (Option Value × z_St) :=
  Nat.rec (motive := fun _ => Nat → List (Option z_Ent) → Nat × Nat → Nat → List (Option Value) → List (Option Int64) → List Value → z_St → Option (Option Value × z_St)) (fun _ _ _ _ _ _ _ _ => none)
    (fun _ ih d tb lim pc LI LL st S => match tb[pc]? with
      | some (some e) => (match z_step z_ro0 d lim e pc LI LL st S with
        | some (g, .inl f) => (match g with
          | true => ih d tb lim f.1 f.2.1 f.2.2.1 f.2.2.2.1 f.2.2.2.2
          | false => none)
        | some (g, .inr (.inl r)) => (match g with
          | true => some (r, S)
          | false => none)
        | some (g, .inr (.inr q)) => (match g && decide (q.1 < 181) && decide (q.2.1.length = z_na q.1) with
          | true => (match d with
            | 0 => none
            | d' + 1 => (match ih d' (z_tb q.1) (S.1.length + (gr q.1).1, z_sz S.1 + (gr q.1).2) 0 (z_i0 q.1 q.2.1) (z_l0 q.1) [] S with
              | some (r, S2) => (match decide (S2.1.length = S.1.length + (gr q.1).1) && decide (z_sz S2.1 = z_sz S.1 + (gr q.1).2) && z_fit lim S S2 LI q.2.2 with
                | true => ih d tb lim (pc + 3) LI LL (r.toList ++ q.2.2) S2
                | false => none)
              | none => none))
          | false => none)
        | none => none)
      | _ => none) n
theorem z_ev_C {gr : Nat → Nat × Nat} {d y : Nat} {as : List Value} {S S2 : z_St} {r : Option Value} (hy : y < 181) (hl : as.length = z_na y) (h1 : S2.1.length = S.1.length + (gr y).1) (h2 : z_sz S2.1 = z_sz S.1 + (gr y).2) (h : ∃ k, z_run z_ro0 d (z_C d) (z_tb y) (S.1.length + (gr y).1, z_sz S.1 + (gr y).2) k 0 (z_i0 y as) (z_l0 y) [] S (fun r2 S3 => r2 = r ∧ S3 = S2)) : z_C (d + 1) y as S r S2 := by
  rw [z_C_succ]
  refine ⟨by rw [z_tbs_len]; exact hy, hl, ?_⟩
  rw [h1, h2]
  exact h
theorem z_ev_s (gr : Nat → Nat × Nat) (n : Nat) (d : Nat) (tb : List (Option z_Ent)) (lim : Nat × Nat) (pc : Nat) (LI : List (Option Value)) (LL : List (Option Int64)) (st : List Value) (S : z_St) : z_ev gr (n + 1) d tb lim pc LI LL st S = (match tb[pc]? with
      | some (some e) => (match z_step z_ro0 d lim e pc LI LL st S with
        | some (g, .inl f) => (match g with
          | true => z_ev gr n d tb lim f.1 f.2.1 f.2.2.1 f.2.2.2.1 f.2.2.2.2
          | false => none)
        | some (g, .inr (.inl r)) => (match g with
          | true => some (r, S)
          | false => none)
        | some (g, .inr (.inr q)) => (match g && decide (q.1 < 181) && decide (q.2.1.length = z_na q.1) with
          | true => (match d with
            | 0 => none
            | d' + 1 => (match z_ev gr n d' (z_tb q.1) (S.1.length + (gr q.1).1, z_sz S.1 + (gr q.1).2) 0 (z_i0 q.1 q.2.1) (z_l0 q.1) [] S with
              | some (r, S2) => (match decide (S2.1.length = S.1.length + (gr q.1).1) && decide (z_sz S2.1 = z_sz S.1 + (gr q.1).2) && z_fit lim S S2 LI q.2.2 with
                | true => z_ev gr n d tb lim (pc + 3) LI LL (r.toList ++ q.2.2) S2
                | false => none)
              | none => none))
          | false => none)
        | none => none)
      | _ => none) := rfl
theorem z_ev_ok (gr : Nat → Nat × Nat) (n : Nat) : ∀ (d : Nat) (tb : List (Option z_Ent)) (lim : Nat × Nat) (pc : Nat) (LI : List (Option Value)) (LL : List (Option Int64)) (st : List Value) (S : z_St) (r : Option Value) (S' : z_St), z_ev gr n d tb lim pc LI LL st S = some (r, S') → ∃ k, z_run z_ro0 d (z_C d) tb lim k pc LI LL st S (fun r2 S2 => r2 = r ∧ S2 = S') := by
  induction n with
  | zero => intro d tb lim pc LI LL st S r S' h; cases h
  | succ n ih =>
    intro d tb lim pc LI LL st S r S' h
    rw [z_ev_s] at h
    cases h1 : tb[pc]? with
    | none => rw [h1] at h; cases h
    | some o =>
      rw [h1] at h
      cases o with
      | none => cases h
      | some e =>
        dsimp only at h
        cases h2 : z_step z_ro0 d lim e pc LI LL st S with
        | none => rw [h2] at h; cases h
        | some res =>
          rw [h2] at h
          obtain ⟨g, f | r0 | q⟩ := res
          · dsimp only at h
            cases g with
            | false => cases h
            | true =>
              obtain ⟨k, hk⟩ := ih _ _ _ _ _ _ _ _ _ _ h
              exact ⟨k + 1, z_run_mk h1 h2 rfl hk⟩
          · dsimp only at h
            cases g with
            | false => cases h
            | true =>
              cases h
              exact ⟨1, z_run_mk h1 h2 rfl ⟨rfl, rfl⟩⟩
          · dsimp only at h
            cases hg : g && decide (q.1 < 181) && decide (q.2.1.length = z_na q.1) with
            | false => rw [hg] at h; cases h
            | true =>
              rw [hg] at h
              rw [Bool.and_eq_true, Bool.and_eq_true, decide_eq_true_eq, decide_eq_true_eq] at hg
              obtain ⟨⟨rfl, hy⟩, hl⟩ := hg
              cases d with
              | zero => cases h
              | succ d' =>
                dsimp only at h
                cases h3 : z_ev gr n d' (z_tb q.1) (S.1.length + (gr q.1).1, z_sz S.1 + (gr q.1).2) 0 (z_i0 q.1 q.2.1) (z_l0 q.1) [] S with
                | none => rw [h3] at h; cases h
                | some rs =>
                  rw [h3] at h
                  obtain ⟨r1, S2⟩ := rs
                  dsimp only at h
                  cases hf : decide (S2.1.length = S.1.length + (gr q.1).1) && decide (z_sz S2.1 = z_sz S.1 + (gr q.1).2) && z_fit lim S S2 LI q.2.2 with
                  | false => rw [hf] at h; cases h
                  | true =>
                    rw [hf] at h
                    rw [Bool.and_eq_true, Bool.and_eq_true, decide_eq_true_eq, decide_eq_true_eq] at hf
                    obtain ⟨⟨a1, a2⟩, a3⟩ := hf
                    obtain ⟨k, hk⟩ := ih _ _ _ _ _ _ _ _ _ _ h
                    exact ⟨k + 1, z_run_mk h1 h2 rfl ⟨r1, S2, z_ev_C hy hl a1 a2 (ih _ _ _ _ _ _ _ _ _ _ h3), a3, hk⟩⟩
/-- how many cells and slots a constructor makes -/
def z_gr (y : Nat) : Nat × Nat := match y with
  | 0 => (7, 78)
  | 12 => (3, 18)
  | 28 => (3, 18)
  | 32 => (5, 72)
  | 40 => (193, 2184)
  | 44 => (12, 113)
  | 55 => (12, 114)
  | 64 => (3, 55)
  | 75 => (267, 3131)
  | 107 => (18, 2779)
  | _ => (0, 0)
def z_M0 : Nat → Nat → Int32 := fun _ _ => 0
def z_L0 : Nat → Nat → Int64 := fun _ _ => 0
def z_S0 : z_St := ([(12, 13, List.replicate 13 none)], z_M0, z_L0)
noncomputable def z_bt1 : Option (Option Value × z_St) := z_ev z_gr 1000 9 (z_tb 75) (z_S0.1.length + (z_gr 75).1, z_sz z_S0.1 + (z_gr 75).2) 0 (z_i0 75 [.ref 0]) (z_l0 75) [] z_S0
def z_S1 (S : z_St) : z_St := (S.1 ++ [(13, 31, List.replicate 31 none)], S.2.1, S.2.2)
noncomputable def z_bt2 (S : z_St) : Option (Option Value × z_St) := z_ev z_gr 1000 9 (z_tb 107) ((z_S1 S).1.length + (z_gr 107).1, z_sz (z_S1 S).1 + (z_gr 107).2) 0 (z_i0 107 [.ref 268]) (z_l0 107) [] (z_S1 S)
/-- what stands at 0 when both are made -/
def z_zs : List (Nat × Nat) := [(15, 0), (15, 1), (20, 1), (20, 8), (20, 9), (20, 10), (20, 11), (49, 1), (49, 2), (267, 0), (267, 1), (0, 3), (0, 1), (243, 0), (243, 3), (268, 3), (268, 4), (268, 11), (278, 0), (278, 1), (268, 1), (268, 17), (268, 19)]
def z_t2 (S : z_St) : Bool := decide (S.1 = z_SH) && (z_zs.all fun q => decide (S.2.1 q.1 q.2 = 0)) && ((List.range 83).all fun j => decide (S.2.1 273 j = 0)) && decide (S.2.1 0 2 = -1) && decide (S.2.1 268 2 = -1) && decide (S.2.2 268 12 = 0)
noncomputable def z_btc : Bool := match z_bt1 with
  | some (none, S) => decide (S.1 = z_SH.take 268) && (match z_bt2 S with
    | some (none, S2) => z_t2 S2
    | _ => false)
  | _ => false
theorem z_btc_ok : z_btc = true := by decide +kernel
