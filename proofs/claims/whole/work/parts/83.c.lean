/-- BOTH ARE MADE: from nothing to the cells as they stand, alike -/
theorem z_boot {bd : Nat} (hbd : bd ≤ 22000) : ∃ (M1 M2 : Nat → Nat → Int32) (L1 L2 : Nat → Nat → Int64), z_CC 10 75 [.ref 0] z_S0 none (z_SH.take 274, M1, L1) ∧ z_C 10 107 [.ref 274] (z_SH.take 274 ++ [(13, 31, List.replicate 31 none)], M1, L1) none (z_SH, M2, L2) ∧ RR bd M2 L2 := by
  have hb := z_btc_ok
  unfold z_btc at hb
  cases h1 : z_bt1 with
  | none => rw [h1] at hb; cases hb
  | some rs =>
    rw [h1] at hb
    obtain ⟨r, S1⟩ := rs
    cases r with
    | some v => cases hb
    | none =>
      dsimp only at hb
      rw [Bool.and_eq_true, decide_eq_true_eq] at hb
      obtain ⟨e1, hb⟩ := hb
      cases h2 : z_bt2 (z_ren S1) with
      | none => rw [h2] at hb; cases hb
      | some rs2 =>
        rw [h2] at hb
        obtain ⟨r2, S2⟩ := rs2
        cases r2 with
        | some v => cases hb
        | none =>
          dsimp only at hb
          unfold z_t2 at hb
          rw [Bool.and_eq_true, Bool.and_eq_true, Bool.and_eq_true, Bool.and_eq_true, Bool.and_eq_true, decide_eq_true_eq, decide_eq_true_eq, decide_eq_true_eq, decide_eq_true_eq, List.all_eq_true, List.all_eq_true] at hb
          obtain ⟨⟨⟨⟨⟨e2, hz⟩, h279⟩, h02⟩, h82⟩, hL⟩ := hb
          obtain ⟨sh1, M1, L1⟩ := S1
          obtain ⟨sh2, M2, L2⟩ := S2
          dsimp only at e1 e2 hz h279 h02 h82 hL
          subst e1
          subst e2
          have k1 := z_ev_ok _ _ _ _ _ _ _ _ _ _ _ _ h1
          have k2 := z_ev_ok _ _ _ _ _ _ _ _ _ _ _ _ h2
          have z : ∀ a b, (a, b) ∈ z_zs → M2 a b = 0 := fun a b h => of_decide_eq_true (hz (a, b) h)
          have p1 : z_SHt.length = z_S0.1.length + (z_gr 75).1 := by decide +kernel
          have p2 : z_sz z_SHt = z_sz z_S0.1 + (z_gr 75).2 := by decide +kernel
          have p3 : z_SH.length = (z_SH.take 274 ++ [(13, 31, List.replicate 31 none)]).length + (z_gr 107).1 := by decide +kernel
          have p4 : z_sz z_SH = z_sz (z_SH.take 274 ++ [(13, 31, List.replicate 31 none)]) + (z_gr 107).2 := by decide +kernel
          have c1 : z_C 10 75 [.ref 0] z_S0 none (z_SHt, M1, L1) := z_ev_C (gr := z_gr) (by decide) (by decide) p1 p2 k1
          have c2 : z_C 10 107 [.ref 274] (z_SH.take 274 ++ [(13, 31, List.replicate 31 none)], fun i => M1 (z_per i), fun i => L1 (z_per i)) none (z_SH, M2, L2) := z_ev_C (gr := z_gr) (by decide) (by decide) p3 p4 k2
          refine ⟨fun i => M1 (z_per i), M2, fun i => L1 (z_per i), L2, Or.inr ⟨rfl, _, c1, z_ren_ok M1 L1⟩, c2, (fun _ => 0), (fun _ => 0), (fun _ => 0), (fun _ => 0), 0, 0, 0, 0, 0, (fun _ _ => 0), (fun _ => 0), (fun _ => false), (fun _ _ => 0), (fun _ => 0), (fun _ => 0), 0, 0, (fun _ => 0), -1, 0, 0, (fun _ _ => 0), ?_, ?_, ?_⟩
          · refine ⟨⟨⟨z 15 1 (by decide), by decide, z 15 0 (by decide)⟩, fun k hk => absurd hk (by omega), ⟨⟨z 20 1 (by decide), z 20 8 (by decide), z 20 9 (by decide), z 20 10 (by decide), z 20 11 (by decide)⟩, fun k hk => absurd hk (by omega), fun k hk => absurd hk (by omega)⟩, ⟨rfl, by decide, fun k hk => absurd hk (by omega), fun k hk => absurd hk (by omega), fun k hk => absurd hk (by omega), fun k hk => absurd hk (by omega), rfl⟩⟩, fun k hk => absurd hk (by omega), ⟨z 49 1 (by decide), ⟨by omega, by decide⟩, z 49 2 (by decide), by decide, fun i hi => absurd hi (by omega)⟩, fun i hi => ⟨?_, fun q => absurd q Bool.false_ne_true⟩, z 0 3 (by decide), ⟨z 0 1 (by decide), fun k hk => absurd hk (by omega)⟩, h02, ⟨z 243 0 (by decide), fun k hk => absurd hk (by omega)⟩, ⟨z 243 3 (by decide), fun k hk => absurd hk (by omega)⟩⟩
            match i, hi with
            | 0, _ => exact z 267 0 (by decide)
            | 1, _ => exact z 267 1 (by decide)
            | i + 2, hi => exact absurd hi (by omega)
          · refine ⟨⟨⟨z 274 3 (by decide), z 274 4 (by decide), by decide⟩, fun k hk => absurd hk (by omega), fun j hj => of_decide_eq_true (h279 j (List.mem_range.mpr hj)), ⟨rfl, by decide, fun k hk => absurd hk (by omega), fun k hk => absurd hk (by omega), fun k hk => absurd hk (by omega), fun k hk => absurd hk (by omega), rfl⟩⟩, fun k hk => absurd hk (by omega), ⟨z 274 11 (by decide), by decide, fun i hi => absurd hi (by omega)⟩, fun i hi => ⟨?_, fun q => absurd q Bool.false_ne_true⟩, hL, ⟨z 274 1 (by decide), fun k hk => absurd hk (by omega)⟩, h82, ⟨z 274 17 (by decide), fun k hk => absurd hk (by omega)⟩, ⟨z 274 19 (by decide), fun k hk => absurd hk (by omega)⟩⟩
            match i, hi with
            | 0, _ => exact z 284 0 (by decide)
            | 1, _ => exact z 284 1 (by decide)
            | i + 2, hi => exact absurd hi (by omega)
          · exact ⟨fun i hi => absurd hi (by omega), fun i hi q => absurd q Bool.false_ne_true, by decide, by decide, by decide, by decide, fun k hk => absurd hk (by omega), 0, by decide, rfl⟩
