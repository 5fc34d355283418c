theorem z_pr_lt : ∀ i, i < 274 → z_pi (z_ro i) = i ∧ z_ro (z_pi i) = i := by decide +kernel
theorem z_pl_len : z_pl.length = 274 := by decide +kernel
theorem z_rl_len : z_rl.length = 274 := by decide +kernel
theorem z_pi_ge {i : Nat} (h : 274 ≤ i) : z_pi i = i := by
  unfold z_pi
  rw [List.getD_eq_getElem?_getD, List.getElem?_eq_none (by rw [z_pl_len]; exact h)]
  rfl
theorem z_ro_ge {i : Nat} (h : 274 ≤ i) : z_ro i = i := by
  unfold z_ro
  rw [List.getD_eq_getElem?_getD, List.getElem?_eq_none (by rw [z_rl_len]; exact h)]
  rfl
theorem z_sht_len : z_SHt.length = 274 := by decide +kernel
theorem z_shr_len : (z_SH.take 274).length = 274 := by decide +kernel
theorem z_shr_sz : z_sz (z_SH.take 274) = z_sz z_SHt := by decide +kernel
theorem z_shr_get : ∀ i, i < 274 → (z_SH.take 274)[i]? = z_SHt[z_pi i]?.map (z_rsh z_ro) := by decide +kernel
theorem z_ren_ok (M : Nat → Nat → Int32) (L : Nat → Nat → Int64) : z_Rn 1 (z_SHt, M, L) (z_SH.take 274, fun i => M (z_pi i), fun i => L (z_pi i)) := by
  refine ⟨z_pi, z_ro, z_shr_len.trans z_sht_len.symm, z_shr_sz, fun i hi => ?_, fun i => ?_, fun i => ?_, fun i hi => ?_, fun _ => rfl, fun _ => rfl⟩
  · rcases hi with hi | hi
    · obtain rfl : i = 0 := by omega
      rfl
    · exact z_pi_ge (by rw [← z_sht_len]; exact hi)
  · by_cases c : i < 274
    · exact (z_pr_lt i c).1
    · rw [z_ro_ge (by omega), z_pi_ge (by omega)]
  · by_cases c : i < 274
    · exact (z_pr_lt i c).2
    · rw [z_pi_ge (by omega), z_ro_ge (by omega)]
  · have hi' : i < z_SHt.length := hi
    rw [z_sht_len] at hi'
    exact z_shr_get i hi'
