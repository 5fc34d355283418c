theorem z_ck_0 : ∀ k, k < 12 → z_ckm (0 + k) = true := by decide +kernel
theorem z_ck_12 : ∀ k, k < 12 → z_ckm (12 + k) = true := by decide +kernel
theorem z_ck_24 : ∀ k, k < 12 → z_ckm (24 + k) = true := by decide +kernel
theorem z_ck_36 : ∀ k, k < 12 → z_ckm (36 + k) = true := by decide +kernel
theorem z_ck_48 : ∀ k, k < 12 → z_ckm (48 + k) = true := by decide +kernel
theorem z_ck_60 : ∀ k, k < 12 → z_ckm (60 + k) = true := by decide +kernel
theorem z_ck_72 : ∀ k, k < 12 → z_ckm (72 + k) = true := by decide +kernel
theorem z_ck_84 : ∀ k, k < 12 → z_ckm (84 + k) = true := by decide +kernel
