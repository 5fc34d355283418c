/-! THE LAW, from its first instruction -/
theorem z_hl : (z_SH.take 274).length = 274 := by decide +kernel
theorem z_f1 : z_fit (600000, 7302250) z_S0 (z_SH.take 274, z_M0, z_L0) [some (.ref 1001), none, none, none] [.ref 0] = true := by decide +kernel
theorem z_f1' (M1 : Nat → Nat → Int32) (L1 : Nat → Nat → Int64) : z_fit (600000, 7302250) z_S0 (z_SH.take 274, M1, L1) [some (.ref 1001), none, none, none] [.ref 0] = true := by
  have h := z_f1
  unfold z_fit at h ⊢
  exact h
theorem z_f2 : z_fit (600000, 7302250) (z_SH.take 274 ++ [(13, 31, List.replicate 31 none)], z_M0, z_L0) (z_SH, z_M0, z_L0) [some (.ref 1001), some (.ref 0), none, none] [.ref 274] = true := by decide +kernel
theorem z_f2' (M1 M2 : Nat → Nat → Int32) (L1 L2 : Nat → Nat → Int64) : z_fit (600000, 7302250) (z_SH.take 274 ++ [(13, 31, List.replicate 31 none)], M1, L1) (z_SH, M2, L2) [some (.ref 1001), some (.ref 0), none, none] [.ref 274] = true := by
  have h := z_f2
  unfold z_fit at h ⊢
  exact h
theorem z_g2 : (decide ((z_SH.take 274).length + 1 ≤ 600000) && decide (z_sz (z_SH.take 274) + 31 ≤ 7302250) && decide ((z_SH.take 274).length < 1000) && z_vS (z_SH.take 274) && z_vF (z_SH.take 274).length [some (.ref 1001), some (.ref 0), none, none] []) = true := by decide +kernel
theorem z_c2 : z_cg 107 [.ref 274, .ref 274] (z_SH.take 274 ++ [(13, 31, List.replicate 31 none)], z_M0, z_L0) = true := by decide +kernel
theorem z_c2' (M1 : Nat → Nat → Int32) (L1 : Nat → Nat → Int64) : z_cg 107 [.ref 274, .ref 274] (z_SH.take 274 ++ [(13, 31, List.replicate 31 none)], M1, L1) = true := by
  have h := z_c2
  unfold z_cg at h ⊢
  exact h
theorem z_law {N : Nat} (xs : Nat → Int32) (hN : N ≤ 2560) : z_W N xs 0 [some (.ref 1001), none, none, none] [] ([], z_M0, z_L0) := by
  obtain ⟨M1, M2, L1, L2, c1, c2, hr⟩ := z_boot (bd := 20 * 512) (by decide)
  refine w_k 2 (pc' := 4) (LI' := [some (.ref 1001), none, none, none]) (st' := [.ref 0, .ref 0]) (S' := z_S0) (fun nq hq => And.intro rfl (And.intro rfl hq)) ?_
  refine w_k 1 (pc' := 7) (LI' := [some (.ref 1001), none, none, none]) (st' := [.ref 0]) (S' := (z_SH.take 274, M1, L1)) (fun nq hq => And.intro rfl (Exists.intro _ (Exists.intro _ (And.intro c1 (And.intro (z_f1' M1 L1) hq))))) ?_
  refine w_k 1 (pc' := 8) (LI' := [some (.ref 1001), some (.ref 0), none, none]) (st' := []) (S' := (z_SH.take 274, M1, L1)) (fun nq hq => And.intro rfl hq) ?_
  refine w_k 1 (pc' := 11) (LI' := [some (.ref 1001), some (.ref 0), none, none]) (st' := [.ref (z_SH.take 274).length]) (S' := (z_SH.take 274 ++ [(13, 31, List.replicate 31 none)], M1, L1)) (fun nq hq => And.intro z_g2 hq) ?_
  rw [z_hl]
  refine w_k 1 (pc' := 12) (LI' := [some (.ref 1001), some (.ref 0), none, none]) (st' := [.ref 274, .ref 274]) (S' := (z_SH.take 274 ++ [(13, 31, List.replicate 31 none)], M1, L1)) (fun nq hq => And.intro rfl hq) ?_
  refine w_k 1 (pc' := 15) (LI' := [some (.ref 1001), some (.ref 0), none, none]) (st' := [.ref 274]) (S' := (z_SH, M2, L2)) (fun nq hq => And.intro (z_c2' M1 L1) (Exists.intro _ (Exists.intro _ (And.intro (Or.inl c2) (And.intro (z_f2' M1 M2 L1 L2) hq))))) ?_
  refine w_k 3 (pc' := 18) (LI' := [some (.ref 1001), some (.ref 0), some (.ref 274), some (.int (nI 0))]) (st' := []) (S' := (z_SH, M2, L2)) (fun nq hq => And.intro rfl (And.intro rfl (And.intro rfl hq))) ?_
  exact w_loop N xs hN 512 0 M2 L2 (by omega) (by omega) hr
