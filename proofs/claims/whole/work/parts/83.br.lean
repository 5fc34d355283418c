theorem z_perr : ∀ i, i < 274 → z_per (z_rer i) = i ∧ z_rer (z_per i) = i := by decide +kernel
theorem z_pel_len : z_pel.length = 274 := by decide +kernel
theorem z_rel_len : z_rel.length = 274 := by decide +kernel
theorem z_per_ge {i : Nat} (h : 274 ≤ i) : z_per i = i := by
  unfold z_per
  rw [List.getD_eq_getElem?_getD, List.getElem?_eq_none (by rw [z_pel_len]; exact h)]
  rfl
theorem z_rer_ge {i : Nat} (h : 274 ≤ i) : z_rer i = i := by
  unfold z_rer
  rw [List.getD_eq_getElem?_getD, List.getElem?_eq_none (by rw [z_rel_len]; exact h)]
  rfl
theorem z_sht_len : z_SHt.length = 274 := by decide +kernel
theorem z_shr_len : (z_SH.take 274).length = 274 := by decide +kernel
theorem z_shr_sz : z_sz (z_SH.take 274) = z_sz z_SHt := by decide +kernel
theorem z_shr_get : ∀ i, i < 274 → (z_SH.take 274)[i]? = z_SHt[z_per i]?.map (z_rsh z_rer) := by decide +kernel
theorem z_ren_ok (M : Nat → Nat → Int32) (L : Nat → Nat → Int64) : z_Rn 1 (z_SHt, M, L) (z_SH.take 274, fun i => M (z_per i), fun i => L (z_per i)) := by
  refine ⟨z_per, z_rer, z_shr_len.trans z_sht_len.symm, z_shr_sz, fun i hi => ?_, fun i => ?_, fun i => ?_, fun i hi => ?_, fun _ => rfl, fun _ => rfl⟩
  · rcases hi with hi | hi
    · obtain rfl : i = 0 := by omega
      rfl
    · exact z_per_ge (by rw [← z_sht_len]; exact hi)
  · by_cases c : i < 274
    · exact (z_perr i c).1
    · rw [z_rer_ge (by omega), z_per_ge (by omega)]
  · by_cases c : i < 274
    · exact (z_perr i c).2
    · rw [z_per_ge (by omega), z_rer_ge (by omega)]
  · have hi' : i < z_SHt.length := hi
    rw [z_sht_len] at hi'
    exact z_shr_get i hi'
