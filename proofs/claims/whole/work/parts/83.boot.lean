/-! THE CONSTRUCTORS: an evaluator of the small machine, and what it says -/
noncomputable def z_ev (gr : Nat → Nat × Nat) (n : Nat) : Nat → List (Option z_Ent) → Nat × Nat → Nat → List (Option Value) → List (Option Int64) → List Value → z_St → Option (Option Value × z_St) :=
  Nat.rec (motive := fun _ => Nat → List (Option z_Ent) → Nat × Nat → Nat → List (Option Value) → List (Option Int64) → List Value → z_St → Option (Option Value × z_St)) (fun _ _ _ _ _ _ _ _ => none)
    (fun _ ih d tb lim pc LI LL st S => match tb[pc]? with
      | some (some e) => (match z_step z_ro0 d lim e pc LI LL st S with
        | some (g, .inl f) => (match g with
          | true => ih d tb lim f.1 f.2.1 f.2.2.1 f.2.2.2.1 f.2.2.2.2
          | false => none)
        | some (g, .inr (.inl r)) => (match g with
          | true => some (r, S)
          | false => none)
        | some (g, .inr (.inr q)) => (match g && decide (q.1 < 182) && decide (q.2.1.length = z_na q.1) with
          | true => (match d with
            | 0 => none
            | d' + 1 => (match ih d' (z_tb q.1) (S.1.length + (gr q.1).1, z_sz S.1 + (gr q.1).2) 0 (z_i0 q.1 q.2.1) (z_l0 q.1) [] S with
              | some (r, S2) => (match decide (S2.1.length = S.1.length + (gr q.1).1) && decide (z_sz S2.1 = z_sz S.1 + (gr q.1).2) && z_fit lim S S2 LI q.2.2 with
                | true => ih d tb lim (pc + 3) LI LL (r.toList ++ q.2.2) S2
                | false => none)
              | none => none))
          | false => none)
        | none => none)
      | _ => none) n
theorem z_ev_C {gr : Nat → Nat × Nat} {d y : Nat} {as : List Value} {S S2 : z_St} {r : Option Value} (hy : y < 182) (hl : as.length = z_na y) (h1 : S2.1.length = S.1.length + (gr y).1) (h2 : z_sz S2.1 = z_sz S.1 + (gr y).2) (h : ∃ k, z_run z_ro0 d (z_C d) (z_tb y) (S.1.length + (gr y).1, z_sz S.1 + (gr y).2) k 0 (z_i0 y as) (z_l0 y) [] S (fun r2 S3 => r2 = r ∧ S3 = S2)) : z_C (d + 1) y as S r S2 := by
  rw [z_C_succ]
  refine ⟨by rw [z_tbs_len]; exact hy, hl, ?_⟩
  rw [h1, h2]
  exact h
theorem z_ev_s (gr : Nat → Nat × Nat) (n : Nat) (d : Nat) (tb : List (Option z_Ent)) (lim : Nat × Nat) (pc : Nat) (LI : List (Option Value)) (LL : List (Option Int64)) (st : List Value) (S : z_St) : z_ev gr (n + 1) d tb lim pc LI LL st S = (match tb[pc]? with
      | some (some e) => (match z_step z_ro0 d lim e pc LI LL st S with
        | some (g, .inl f) => (match g with
          | true => z_ev gr n d tb lim f.1 f.2.1 f.2.2.1 f.2.2.2.1 f.2.2.2.2
          | false => none)
        | some (g, .inr (.inl r)) => (match g with
          | true => some (r, S)
          | false => none)
        | some (g, .inr (.inr q)) => (match g && decide (q.1 < 182) && decide (q.2.1.length = z_na q.1) with
          | true => (match d with
            | 0 => none
            | d' + 1 => (match z_ev gr n d' (z_tb q.1) (S.1.length + (gr q.1).1, z_sz S.1 + (gr q.1).2) 0 (z_i0 q.1 q.2.1) (z_l0 q.1) [] S with
              | some (r, S2) => (match decide (S2.1.length = S.1.length + (gr q.1).1) && decide (z_sz S2.1 = z_sz S.1 + (gr q.1).2) && z_fit lim S S2 LI q.2.2 with
                | true => z_ev gr n d tb lim (pc + 3) LI LL (r.toList ++ q.2.2) S2
                | false => none)
              | none => none))
          | false => none)
        | none => none)
      | _ => none) := rfl
theorem z_ev_ok (gr : Nat → Nat × Nat) (n : Nat) : ∀ (d : Nat) (tb : List (Option z_Ent)) (lim : Nat × Nat) (pc : Nat) (LI : List (Option Value)) (LL : List (Option Int64)) (st : List Value) (S : z_St) (r : Option Value) (S' : z_St), z_ev gr n d tb lim pc LI LL st S = some (r, S') → ∃ k, z_run z_ro0 d (z_C d) tb lim k pc LI LL st S (fun r2 S2 => r2 = r ∧ S2 = S') := by
  induction n with
  | zero => intro d tb lim pc LI LL st S r S' h; cases h
  | succ n ih =>
    intro d tb lim pc LI LL st S r S' h
    rw [z_ev_s] at h
    cases h1 : tb[pc]? with
    | none => rw [h1] at h; cases h
    | some o =>
      rw [h1] at h
      cases o with
      | none => cases h
      | some e =>
        dsimp only at h
        cases h2 : z_step z_ro0 d lim e pc LI LL st S with
        | none => rw [h2] at h; cases h
        | some res =>
          rw [h2] at h
          obtain ⟨g, f | r0 | q⟩ := res
          · dsimp only at h
            cases g with
            | false => cases h
            | true =>
              obtain ⟨k, hk⟩ := ih _ _ _ _ _ _ _ _ _ _ h
              exact ⟨k + 1, z_run_mk h1 h2 rfl hk⟩
          · dsimp only at h
            cases g with
            | false => cases h
            | true =>
              cases h
              exact ⟨1, z_run_mk h1 h2 rfl ⟨rfl, rfl⟩⟩
          · dsimp only at h
            cases hg : g && decide (q.1 < 182) && decide (q.2.1.length = z_na q.1) with
            | false => rw [hg] at h; cases h
            | true =>
              rw [hg] at h
              rw [Bool.and_eq_true, Bool.and_eq_true, decide_eq_true_eq, decide_eq_true_eq] at hg
              obtain ⟨⟨rfl, hy⟩, hl⟩ := hg
              cases d with
              | zero => cases h
              | succ d' =>
                dsimp only at h
                cases h3 : z_ev gr n d' (z_tb q.1) (S.1.length + (gr q.1).1, z_sz S.1 + (gr q.1).2) 0 (z_i0 q.1 q.2.1) (z_l0 q.1) [] S with
                | none => rw [h3] at h; cases h
                | some rs =>
                  rw [h3] at h
                  obtain ⟨r1, S2⟩ := rs
                  dsimp only at h
                  cases hf : decide (S2.1.length = S.1.length + (gr q.1).1) && decide (z_sz S2.1 = z_sz S.1 + (gr q.1).2) && z_fit lim S S2 LI q.2.2 with
                  | false => rw [hf] at h; cases h
                  | true =>
                    rw [hf] at h
                    rw [Bool.and_eq_true, Bool.and_eq_true, decide_eq_true_eq, decide_eq_true_eq] at hf
                    obtain ⟨⟨a1, a2⟩, a3⟩ := hf
                    obtain ⟨k, hk⟩ := ih _ _ _ _ _ _ _ _ _ _ h
                    exact ⟨k + 1, z_run_mk h1 h2 rfl ⟨r1, S2, z_ev_C hy hl a1 a2 (ih _ _ _ _ _ _ _ _ _ _ h3), a3, hk⟩⟩
/-- how many cells and slots a constructor makes -/
def z_gr (y : Nat) : Nat × Nat := match y with
  | 0 => (7, 78)
  | 12 => (6, 36)
  | 28 => (3, 18)
  | 32 => (5, 72)
  | 40 => (193, 2184)
  | 44 => (12, 113)
  | 55 => (15, 135)
  | 64 => (3, 55)
  | 75 => (273, 3173)
  | 107 => (18, 2779)
  | _ => (0, 0)
/-- the class's cells in the order in which they are made; from our number to that order, and back -/
def z_SHt : List z_Sh := [(12, 13, [some 1, none, none, none, some 2, some 15, some 19, some 35, some 55, some 249, some 255, some 272, some 273]), (0, 240, []), (9, 7, [some 1, none, none, none, none, some 3, some 7]), (6, 5, [none, none, some 4, some 5, some 6]), (0, 6, []), (0, 6, []), (0, 6, []), (4, 12, [some 8, none, some 9, some 10, some 11, some 12, some 13, some 14, none, none, none, none]), (0, 6, []), (0, 12, []), (0, 12, []), (0, 12, []), (0, 12, []), (0, 12, []), (0, 12, []), (6, 5, [none, none, some 16, some 17, some 18]), (0, 6, []), (0, 6, []), (0, 6, []), (10, 3, [some 15, some 20, some 28]), (4, 12, [some 21, none, some 22, some 23, some 24, some 25, some 26, some 27, none, none, none, none]), (0, 6, []), (0, 12, []), (0, 12, []), (0, 12, []), (0, 12, []), (0, 12, []), (0, 12, []), (5, 9, [some 15, some 20, none, some 29, some 30, some 31, some 32, some 33, some 34]), (0, 6, []), (0, 6, []), (1, 6, []), (0, 6, []), (0, 6, []), (0, 6, []), (11, 7, [some 19, some 36, some 52, some 53, some 54, none, none]), (10, 3, [some 15, some 37, some 45]), (4, 12, [some 38, none, some 39, some 40, some 41, some 42, some 43, some 44, none, none, none, none]), (0, 6, []), (0, 12, []), (0, 12, []), (0, 12, []), (0, 12, []), (0, 12, []), (0, 12, []), (5, 9, [some 15, some 37, none, some 46, some 47, some 48, some 49, some 50, some 51]), (0, 6, []), (0, 6, []), (1, 6, []), (0, 6, []), (0, 6, []), (0, 6, []), (0, 25, []), (0, 25, []), (0, 5, []), (8, 3, [some 56, none, none]), (3, 24, [some 57, some 65, some 73, some 81, some 89, some 97, some 105, some 113, some 121, some 129, some 137, some 145, some 153, some 161, some 169, some 177, some 185, some 193, some 201, some 209, some 217, some 225, some 233, some 241]), (4, 12, [some 58, none, some 59, some 60, some 61, some 62, some 63, some 64, none, none, none, none]), (0, 6, []), (0, 12, []), (0, 12, []), (0, 12, []), (0, 12, []), (0, 12, []), (0, 12, []), (4, 12, [some 66, none, some 67, some 68, some 69, some 70, some 71, some 72, none, none, none, none]), (0, 6, []), (0, 12, []), (0, 12, []), (0, 12, []), (0, 12, []), (0, 12, []), (0, 12, []), (4, 12, [some 74, none, some 75, some 76, some 77, some 78, some 79, some 80, none, none, none, none]), (0, 6, []), (0, 12, []), (0, 12, []), (0, 12, []), (0, 12, []), (0, 12, []), (0, 12, []), (4, 12, [some 82, none, some 83, some 84, some 85, some 86, some 87, some 88, none, none, none, none]), (0, 6, []), (0, 12, []), (0, 12, []), (0, 12, []), (0, 12, []), (0, 12, []), (0, 12, []), (4, 12, [some 90, none, some 91, some 92, some 93, some 94, some 95, some 96, none, none, none, none]), (0, 6, []), (0, 12, []), (0, 12, []), (0, 12, []), (0, 12, []), (0, 12, []), (0, 12, []), (4, 12, [some 98, none, some 99, some 100, some 101, some 102, some 103, some 104, none, none, none, none]), (0, 6, []), (0, 12, []), (0, 12, []), (0, 12, []), (0, 12, []), (0, 12, []), (0, 12, []), (4, 12, [some 106, none, some 107, some 108, some 109, some 110, some 111, some 112, none, none, none, none]), (0, 6, []), (0, 12, []), (0, 12, []), (0, 12, []), (0, 12, []), (0, 12, []), (0, 12, []), (4, 12, [some 114, none, some 115, some 116, some 117, some 118, some 119, some 120, none, none, none, none]), (0, 6, []), (0, 12, []), (0, 12, []), (0, 12, []), (0, 12, []), (0, 12, []), (0, 12, []), (4, 12, [some 122, none, some 123, some 124, some 125, some 126, some 127, some 128, none, none, none, none]), (0, 6, []), (0, 12, []), (0, 12, []), (0, 12, []), (0, 12, []), (0, 12, []), (0, 12, []), (4, 12, [some 130, none, some 131, some 132, some 133, some 134, some 135, some 136, none, none, none, none]), (0, 6, []), (0, 12, []), (0, 12, []), (0, 12, []), (0, 12, []), (0, 12, []), (0, 12, []), (4, 12, [some 138, none, some 139, some 140, some 141, some 142, some 143, some 144, none, none, none, none]), (0, 6, []), (0, 12, []), (0, 12, []), (0, 12, []), (0, 12, []), (0, 12, []), (0, 12, []), (4, 12, [some 146, none, some 147, some 148, some 149, some 150, some 151, some 152, none, none, none, none]), (0, 6, []), (0, 12, []), (0, 12, []), (0, 12, []), (0, 12, []), (0, 12, []), (0, 12, []), (4, 12, [some 154, none, some 155, some 156, some 157, some 158, some 159, some 160, none, none, none, none]), (0, 6, []), (0, 12, []), (0, 12, []), (0, 12, []), (0, 12, []), (0, 12, []), (0, 12, []), (4, 12, [some 162, none, some 163, some 164, some 165, some 166, some 167, some 168, none, none, none, none]), (0, 6, []), (0, 12, []), (0, 12, []), (0, 12, []), (0, 12, []), (0, 12, []), (0, 12, []), (4, 12, [some 170, none, some 171, some 172, some 173, some 174, some 175, some 176, none, none, none, none]), (0, 6, []), (0, 12, []), (0, 12, []), (0, 12, []), (0, 12, []), (0, 12, []), (0, 12, []), (4, 12, [some 178, none, some 179, some 180, some 181, some 182, some 183, some 184, none, none, none, none]), (0, 6, []), (0, 12, []), (0, 12, []), (0, 12, []), (0, 12, []), (0, 12, []), (0, 12, []), (4, 12, [some 186, none, some 187, some 188, some 189, some 190, some 191, some 192, none, none, none, none]), (0, 6, []), (0, 12, []), (0, 12, []), (0, 12, []), (0, 12, []), (0, 12, []), (0, 12, []), (4, 12, [some 194, none, some 195, some 196, some 197, some 198, some 199, some 200, none, none, none, none]), (0, 6, []), (0, 12, []), (0, 12, []), (0, 12, []), (0, 12, []), (0, 12, []), (0, 12, []), (4, 12, [some 202, none, some 203, some 204, some 205, some 206, some 207, some 208, none, none, none, none]), (0, 6, []), (0, 12, []), (0, 12, []), (0, 12, []), (0, 12, []), (0, 12, []), (0, 12, []), (4, 12, [some 210, none, some 211, some 212, some 213, some 214, some 215, some 216, none, none, none, none]), (0, 6, []), (0, 12, []), (0, 12, []), (0, 12, []), (0, 12, []), (0, 12, []), (0, 12, []), (4, 12, [some 218, none, some 219, some 220, some 221, some 222, some 223, some 224, none, none, none, none]), (0, 6, []), (0, 12, []), (0, 12, []), (0, 12, []), (0, 12, []), (0, 12, []), (0, 12, []), (4, 12, [some 226, none, some 227, some 228, some 229, some 230, some 231, some 232, none, none, none, none]), (0, 6, []), (0, 12, []), (0, 12, []), (0, 12, []), (0, 12, []), (0, 12, []), (0, 12, []), (4, 12, [some 234, none, some 235, some 236, some 237, some 238, some 239, some 240, none, none, none, none]), (0, 6, []), (0, 12, []), (0, 12, []), (0, 12, []), (0, 12, []), (0, 12, []), (0, 12, []), (4, 12, [some 242, none, some 243, some 244, some 245, some 246, some 247, some 248, none, none, none, none]), (0, 6, []), (0, 12, []), (0, 12, []), (0, 12, []), (0, 12, []), (0, 12, []), (0, 12, []), (7, 7, [none, some 250, some 251, none, some 252, some 253, some 254]), (0, 6, []), (0, 6, []), (0, 20, []), (0, 20, []), (0, 20, []), (3, 2, [some 256, some 264]), (4, 12, [some 257, none, some 258, some 259, some 260, some 261, some 262, some 263, none, none, none, none]), (0, 6, []), (0, 12, []), (0, 12, []), (0, 12, []), (0, 12, []), (0, 12, []), (0, 12, []), (4, 12, [some 265, none, some 266, some 267, some 268, some 269, some 270, some 271, none, none, none, none]), (0, 6, []), (0, 12, []), (0, 12, []), (0, 12, []), (0, 12, []), (0, 12, []), (0, 12, []), (0, 2, []), (1, 2, [])]
def z_pel : List Nat := [0, 1, 2, 3, 4, 5, 6, 7, 8, 9, 10, 11, 12, 13, 14, 15, 16, 17, 18, 19, 20, 21, 22, 23, 24, 25, 26, 27, 28, 29, 30, 33, 35, 36, 37, 38, 39, 40, 41, 42, 43, 44, 45, 46, 47, 50, 52, 53, 54, 55, 56, 57, 58, 59, 60, 61, 62, 63, 64, 65, 66, 67, 68, 69, 70, 71, 72, 73, 74, 75, 76, 77, 78, 79, 80, 81, 82, 83, 84, 85, 86, 87, 88, 89, 90, 91, 92, 93, 94, 95, 96, 97, 98, 99, 100, 101, 102, 103, 104, 105, 106, 107, 108, 109, 110, 111, 112, 113, 114, 115, 116, 117, 118, 119, 120, 121, 122, 123, 124, 125, 126, 127, 128, 129, 130, 131, 132, 133, 134, 135, 136, 137, 138, 139, 140, 141, 142, 143, 144, 145, 146, 147, 148, 149, 150, 151, 152, 153, 154, 155, 156, 157, 158, 159, 160, 161, 162, 163, 164, 165, 166, 167, 168, 169, 170, 171, 172, 173, 174, 175, 176, 177, 178, 179, 180, 181, 182, 183, 184, 185, 186, 187, 188, 189, 190, 191, 192, 193, 194, 195, 196, 197, 198, 199, 200, 201, 202, 203, 204, 205, 206, 207, 208, 209, 210, 211, 212, 213, 214, 215, 216, 217, 218, 219, 220, 221, 222, 223, 224, 225, 226, 227, 228, 229, 230, 231, 232, 233, 234, 235, 236, 237, 238, 239, 240, 241, 242, 243, 244, 245, 246, 247, 248, 249, 250, 251, 252, 253, 254, 255, 256, 257, 258, 259, 260, 261, 262, 263, 264, 265, 266, 267, 268, 269, 270, 271, 272, 273, 31, 32, 34, 48, 49, 51]
def z_rel : List Nat := [0, 1, 2, 3, 4, 5, 6, 7, 8, 9, 10, 11, 12, 13, 14, 15, 16, 17, 18, 19, 20, 21, 22, 23, 24, 25, 26, 27, 28, 29, 30, 268, 269, 31, 270, 32, 33, 34, 35, 36, 37, 38, 39, 40, 41, 42, 43, 44, 271, 272, 45, 273, 46, 47, 48, 49, 50, 51, 52, 53, 54, 55, 56, 57, 58, 59, 60, 61, 62, 63, 64, 65, 66, 67, 68, 69, 70, 71, 72, 73, 74, 75, 76, 77, 78, 79, 80, 81, 82, 83, 84, 85, 86, 87, 88, 89, 90, 91, 92, 93, 94, 95, 96, 97, 98, 99, 100, 101, 102, 103, 104, 105, 106, 107, 108, 109, 110, 111, 112, 113, 114, 115, 116, 117, 118, 119, 120, 121, 122, 123, 124, 125, 126, 127, 128, 129, 130, 131, 132, 133, 134, 135, 136, 137, 138, 139, 140, 141, 142, 143, 144, 145, 146, 147, 148, 149, 150, 151, 152, 153, 154, 155, 156, 157, 158, 159, 160, 161, 162, 163, 164, 165, 166, 167, 168, 169, 170, 171, 172, 173, 174, 175, 176, 177, 178, 179, 180, 181, 182, 183, 184, 185, 186, 187, 188, 189, 190, 191, 192, 193, 194, 195, 196, 197, 198, 199, 200, 201, 202, 203, 204, 205, 206, 207, 208, 209, 210, 211, 212, 213, 214, 215, 216, 217, 218, 219, 220, 221, 222, 223, 224, 225, 226, 227, 228, 229, 230, 231, 232, 233, 234, 235, 236, 237, 238, 239, 240, 241, 242, 243, 244, 245, 246, 247, 248, 249, 250, 251, 252, 253, 254, 255, 256, 257, 258, 259, 260, 261, 262, 263, 264, 265, 266, 267]
def z_per (i : Nat) : Nat := z_pel.getD i i
def z_rer (i : Nat) : Nat := z_rel.getD i i
def z_ren (S : z_St) : z_St := (z_SH.take 274, fun i => S.2.1 (z_per i), fun i => S.2.2 (z_per i))
def z_M0 : Nat → Nat → Int32 := fun _ _ => 0
def z_L0 : Nat → Nat → Int64 := fun _ _ => 0
def z_S0 : z_St := ([(12, 13, List.replicate 13 none)], z_M0, z_L0)
noncomputable def z_bt1 : Option (Option Value × z_St) := z_ev z_gr 1000 9 (z_tb 75) (z_S0.1.length + (z_gr 75).1, z_sz z_S0.1 + (z_gr 75).2) 0 (z_i0 75 [.ref 0]) (z_l0 75) [] z_S0
def z_S1 (S : z_St) : z_St := (S.1 ++ [(13, 31, List.replicate 31 none)], S.2.1, S.2.2)
noncomputable def z_bt2 (S : z_St) : Option (Option Value × z_St) := z_ev z_gr 1000 9 (z_tb 107) ((z_S1 S).1.length + (z_gr 107).1, z_sz (z_S1 S).1 + (z_gr 107).2) 0 (z_i0 107 [.ref 274]) (z_l0 107) [] (z_S1 S)
/-- what stands at 0 when both are made -/
def z_zs : List (Nat × Nat) := [(15, 0), (15, 1), (20, 1), (20, 8), (20, 9), (20, 10), (20, 11), (49, 1), (49, 2), (267, 0), (267, 1), (0, 3), (0, 1), (243, 0), (243, 3), (274, 3), (274, 4), (274, 11), (284, 0), (284, 1), (274, 1), (274, 17), (274, 19)]
def z_t2 (S : z_St) : Bool := decide (S.1 = z_SH) && (z_zs.all fun q => decide (S.2.1 q.1 q.2 = 0)) && ((List.range 83).all fun j => decide (S.2.1 279 j = 0)) && decide (S.2.1 0 2 = -1) && decide (S.2.1 274 2 = -1) && decide (S.2.2 274 12 = 0)
noncomputable def z_btc : Bool := match z_bt1 with
  | some (none, S) => decide (S.1 = z_SHt) && (match z_bt2 (z_ren S) with
    | some (none, S2) => z_t2 S2
    | _ => false)
  | _ => false
