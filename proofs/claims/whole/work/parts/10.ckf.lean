theorem z_cw_96 : ∀ k, k < 6 → z_at (z_pcs.getD (96 + k) 0) (.code (z_nm (96 + k)) (z_cc (96 + k)) (z_ml (96 + k)) (z_rt (96 + k))) = true := by decide +kernel
theorem z_cw_102 : ∀ k, k < 6 → z_at (z_pcs.getD (102 + k) 0) (.code (z_nm (102 + k)) (z_cc (102 + k)) (z_ml (102 + k)) (z_rt (102 + k))) = true := by decide +kernel
theorem z_cw_108 : ∀ k, k < 6 → z_at (z_pcs.getD (108 + k) 0) (.code (z_nm (108 + k)) (z_cc (108 + k)) (z_ml (108 + k)) (z_rt (108 + k))) = true := by decide +kernel
theorem z_cw_114 : ∀ k, k < 6 → z_at (z_pcs.getD (114 + k) 0) (.code (z_nm (114 + k)) (z_cc (114 + k)) (z_ml (114 + k)) (z_rt (114 + k))) = true := by decide +kernel
theorem z_cw_120 : ∀ k, k < 6 → z_at (z_pcs.getD (120 + k) 0) (.code (z_nm (120 + k)) (z_cc (120 + k)) (z_ml (120 + k)) (z_rt (120 + k))) = true := by decide +kernel
theorem z_cw_126 : ∀ k, k < 6 → z_at (z_pcs.getD (126 + k) 0) (.code (z_nm (126 + k)) (z_cc (126 + k)) (z_ml (126 + k)) (z_rt (126 + k))) = true := by decide +kernel
theorem z_cw_132 : ∀ k, k < 6 → z_at (z_pcs.getD (132 + k) 0) (.code (z_nm (132 + k)) (z_cc (132 + k)) (z_ml (132 + k)) (z_rt (132 + k))) = true := by decide +kernel
theorem z_cw_138 : ∀ k, k < 6 → z_at (z_pcs.getD (138 + k) 0) (.code (z_nm (138 + k)) (z_cc (138 + k)) (z_ml (138 + k)) (z_rt (138 + k))) = true := by decide +kernel
theorem z_cw_144 : ∀ k, k < 6 → z_at (z_pcs.getD (144 + k) 0) (.code (z_nm (144 + k)) (z_cc (144 + k)) (z_ml (144 + k)) (z_rt (144 + k))) = true := by decide +kernel
theorem z_cw_150 : ∀ k, k < 6 → z_at (z_pcs.getD (150 + k) 0) (.code (z_nm (150 + k)) (z_cc (150 + k)) (z_ml (150 + k)) (z_rt (150 + k))) = true := by decide +kernel
theorem z_cw_156 : ∀ k, k < 6 → z_at (z_pcs.getD (156 + k) 0) (.code (z_nm (156 + k)) (z_cc (156 + k)) (z_ml (156 + k)) (z_rt (156 + k))) = true := by decide +kernel
theorem z_cw_162 : ∀ k, k < 6 → z_at (z_pcs.getD (162 + k) 0) (.code (z_nm (162 + k)) (z_cc (162 + k)) (z_ml (162 + k)) (z_rt (162 + k))) = true := by decide +kernel
theorem z_cw_168 : ∀ k, k < 6 → z_at (z_pcs.getD (168 + k) 0) (.code (z_nm (168 + k)) (z_cc (168 + k)) (z_ml (168 + k)) (z_rt (168 + k))) = true := by decide +kernel
theorem z_cw_174 : ∀ k, k < 6 → z_at (z_pcs.getD (174 + k) 0) (.code (z_nm (174 + k)) (z_cc (174 + k)) (z_ml (174 + k)) (z_rt (174 + k))) = true := by decide +kernel
theorem z_cw_180 : ∀ k, k < 2 → z_at (z_pcs.getD (180 + k) 0) (.code (z_nm (180 + k)) (z_cc (180 + k)) (z_ml (180 + k)) (z_rt (180 + k))) = true := by decide +kernel
theorem z_code_ok (y : Nat) (h : y < 182) : z_at (z_pcs.getD y 0) (.code (z_nm y) (z_cc y) (z_ml y) (z_rt y)) = true := by
  by_cases h6 : y < 6
  · have := z_cw_0 (y - 0) (by omega)
    rwa [show 0 + (y - 0) = y by omega] at this
  by_cases h12 : y < 12
  · have := z_cw_6 (y - 6) (by omega)
    rwa [show 6 + (y - 6) = y by omega] at this
  by_cases h18 : y < 18
  · have := z_cw_12 (y - 12) (by omega)
    rwa [show 12 + (y - 12) = y by omega] at this
  by_cases h24 : y < 24
  · have := z_cw_18 (y - 18) (by omega)
    rwa [show 18 + (y - 18) = y by omega] at this
  by_cases h30 : y < 30
  · have := z_cw_24 (y - 24) (by omega)
    rwa [show 24 + (y - 24) = y by omega] at this
  by_cases h36 : y < 36
  · have := z_cw_30 (y - 30) (by omega)
    rwa [show 30 + (y - 30) = y by omega] at this
  by_cases h42 : y < 42
  · have := z_cw_36 (y - 36) (by omega)
    rwa [show 36 + (y - 36) = y by omega] at this
  by_cases h48 : y < 48
  · have := z_cw_42 (y - 42) (by omega)
    rwa [show 42 + (y - 42) = y by omega] at this
  by_cases h54 : y < 54
  · have := z_cw_48 (y - 48) (by omega)
    rwa [show 48 + (y - 48) = y by omega] at this
  by_cases h60 : y < 60
  · have := z_cw_54 (y - 54) (by omega)
    rwa [show 54 + (y - 54) = y by omega] at this
  by_cases h66 : y < 66
  · have := z_cw_60 (y - 60) (by omega)
    rwa [show 60 + (y - 60) = y by omega] at this
  by_cases h72 : y < 72
  · have := z_cw_66 (y - 66) (by omega)
    rwa [show 66 + (y - 66) = y by omega] at this
  by_cases h78 : y < 78
  · have := z_cw_72 (y - 72) (by omega)
    rwa [show 72 + (y - 72) = y by omega] at this
  by_cases h84 : y < 84
  · have := z_cw_78 (y - 78) (by omega)
    rwa [show 78 + (y - 78) = y by omega] at this
  by_cases h90 : y < 90
  · have := z_cw_84 (y - 84) (by omega)
    rwa [show 84 + (y - 84) = y by omega] at this
  by_cases h96 : y < 96
  · have := z_cw_90 (y - 90) (by omega)
    rwa [show 90 + (y - 90) = y by omega] at this
  by_cases h102 : y < 102
  · have := z_cw_96 (y - 96) (by omega)
    rwa [show 96 + (y - 96) = y by omega] at this
  by_cases h108 : y < 108
  · have := z_cw_102 (y - 102) (by omega)
    rwa [show 102 + (y - 102) = y by omega] at this
  by_cases h114 : y < 114
  · have := z_cw_108 (y - 108) (by omega)
    rwa [show 108 + (y - 108) = y by omega] at this
  by_cases h120 : y < 120
  · have := z_cw_114 (y - 114) (by omega)
    rwa [show 114 + (y - 114) = y by omega] at this
  by_cases h126 : y < 126
  · have := z_cw_120 (y - 120) (by omega)
    rwa [show 120 + (y - 120) = y by omega] at this
  by_cases h132 : y < 132
  · have := z_cw_126 (y - 126) (by omega)
    rwa [show 126 + (y - 126) = y by omega] at this
  by_cases h138 : y < 138
  · have := z_cw_132 (y - 132) (by omega)
    rwa [show 132 + (y - 132) = y by omega] at this
  by_cases h144 : y < 144
  · have := z_cw_138 (y - 138) (by omega)
    rwa [show 138 + (y - 138) = y by omega] at this
  by_cases h150 : y < 150
  · have := z_cw_144 (y - 144) (by omega)
    rwa [show 144 + (y - 144) = y by omega] at this
  by_cases h156 : y < 156
  · have := z_cw_150 (y - 150) (by omega)
    rwa [show 150 + (y - 150) = y by omega] at this
  by_cases h162 : y < 162
  · have := z_cw_156 (y - 156) (by omega)
    rwa [show 156 + (y - 156) = y by omega] at this
  by_cases h168 : y < 168
  · have := z_cw_162 (y - 162) (by omega)
    rwa [show 162 + (y - 162) = y by omega] at this
  by_cases h174 : y < 174
  · have := z_cw_168 (y - 168) (by omega)
    rwa [show 168 + (y - 168) = y by omega] at this
  by_cases h180 : y < 180
  · have := z_cw_174 (y - 174) (by omega)
    rwa [show 174 + (y - 174) = y by omega] at this
  by_cases h182 : y < 182
  · have := z_cw_180 (y - 180) (by omega)
    rwa [show 180 + (y - 180) = y by omega] at this
  · omega
