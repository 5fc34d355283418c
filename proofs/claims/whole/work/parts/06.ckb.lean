theorem z_ck_96 : ∀ k, k < 12 → z_ckm (96 + k) = true := by decide +kernel
theorem z_ck_108 : ∀ k, k < 12 → z_ckm (108 + k) = true := by decide +kernel
theorem z_ck_120 : ∀ k, k < 12 → z_ckm (120 + k) = true := by decide +kernel
theorem z_ck_132 : ∀ k, k < 12 → z_ckm (132 + k) = true := by decide +kernel
theorem z_ck_144 : ∀ k, k < 12 → z_ckm (144 + k) = true := by decide +kernel
theorem z_ck_156 : ∀ k, k < 12 → z_ckm (156 + k) = true := by decide +kernel
theorem z_ck_168 : ∀ k, k < 12 → z_ckm (168 + k) = true := by decide +kernel
theorem z_ck_180 : ∀ k, k < 2 → z_ckm (180 + k) = true := by decide +kernel
theorem z_ck (y : Nat) (h : y < 182) : z_ckm y = true := by
  by_cases h12 : y < 12
  · have := z_ck_0 (y - 0) (by omega)
    rwa [show 0 + (y - 0) = y by omega] at this
  by_cases h24 : y < 24
  · have := z_ck_12 (y - 12) (by omega)
    rwa [show 12 + (y - 12) = y by omega] at this
  by_cases h36 : y < 36
  · have := z_ck_24 (y - 24) (by omega)
    rwa [show 24 + (y - 24) = y by omega] at this
  by_cases h48 : y < 48
  · have := z_ck_36 (y - 36) (by omega)
    rwa [show 36 + (y - 36) = y by omega] at this
  by_cases h60 : y < 60
  · have := z_ck_48 (y - 48) (by omega)
    rwa [show 48 + (y - 48) = y by omega] at this
  by_cases h72 : y < 72
  · have := z_ck_60 (y - 60) (by omega)
    rwa [show 60 + (y - 60) = y by omega] at this
  by_cases h84 : y < 84
  · have := z_ck_72 (y - 72) (by omega)
    rwa [show 72 + (y - 72) = y by omega] at this
  by_cases h96 : y < 96
  · have := z_ck_84 (y - 84) (by omega)
    rwa [show 84 + (y - 84) = y by omega] at this
  by_cases h108 : y < 108
  · have := z_ck_96 (y - 96) (by omega)
    rwa [show 96 + (y - 96) = y by omega] at this
  by_cases h120 : y < 120
  · have := z_ck_108 (y - 108) (by omega)
    rwa [show 108 + (y - 108) = y by omega] at this
  by_cases h132 : y < 132
  · have := z_ck_120 (y - 120) (by omega)
    rwa [show 120 + (y - 120) = y by omega] at this
  by_cases h144 : y < 144
  · have := z_ck_132 (y - 132) (by omega)
    rwa [show 132 + (y - 132) = y by omega] at this
  by_cases h156 : y < 156
  · have := z_ck_144 (y - 144) (by omega)
    rwa [show 144 + (y - 144) = y by omega] at this
  by_cases h168 : y < 168
  · have := z_ck_156 (y - 156) (by omega)
    rwa [show 156 + (y - 156) = y by omega] at this
  by_cases h180 : y < 180
  · have := z_ck_168 (y - 168) (by omega)
    rwa [show 168 + (y - 168) = y by omega] at this
  by_cases h182 : y < 182
  · have := z_ck_180 (y - 180) (by omega)
    rwa [show 180 + (y - 180) = y by omega] at this
  · omega
