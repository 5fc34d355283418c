theorem z_ckt_app (o : Nat) (ini : Bool) (rt : Option FieldType) (cc : ByteArray) : ∀ (k : Nat) (l : List (Option z_Ent)) (pc : Nat), z_ckt o ini rt cc pc (l.take k) = true → z_ckt o ini rt cc (pc + k) (l.drop k) = true → z_ckt o ini rt cc pc l = true
  | 0, l, pc, _, h => by simpa using h
  | k + 1, [], pc, _, _ => rfl
  | k + 1, none :: l, pc, h1, h2 => by
    have e : pc + (k + 1) = pc + 1 + k := by omega
    rw [e] at h2
    exact z_ckt_app o ini rt cc k l (pc + 1) h1 h2
  | k + 1, some x :: l, pc, h1, h2 => by
    have e : pc + (k + 1) = pc + 1 + k := by omega
    rw [e] at h2
    simp only [List.take_succ_cons, z_ckt, Bool.and_eq_true] at h1 ⊢
    exact ⟨h1.1, h1.2.1, z_ckt_app o ini rt cc k l (pc + 1) h1.2.2 h2⟩
theorem z_ckl_0 : z_ckt 10 false (some .boolean) code 0 ((tb_law.drop 0).take 97) = true := by decide +kernel
theorem z_ckl_97 : z_ckt 10 false (some .boolean) code 97 ((tb_law.drop 97).take 97) = true := by decide +kernel
theorem z_ckl_194 : z_ckt 10 false (some .boolean) code 194 ((tb_law.drop 194).take 97) = true := by decide +kernel
theorem z_ckl_291 : z_ckt 10 false (some .boolean) code 291 ((tb_law.drop 291).take 97) = true := by decide +kernel
