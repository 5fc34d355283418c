/-! THE TEXT: both readers, step by step -/
def nx (tx : Nat → Int32) (len p : Nat) : Nat := sk tx len p + nd tx len (sk tx len p)
def fn (tx : Nat → Int32) (len : Nat) (a b : Int32) (p : Nat) : Int32 := ff tx len (sk tx len p) a b
def vv (tx : Nat → Int32) (len p : Nat) : Int32 := vl tx (sk tx len p) (nd tx len (sk tx len p))
def xe (tx : Nat → Int32) (len p : Nat) : Nat := pe tx len (sk tx len p)
def fe (tx : Nat → Int32) (len p : Nat) : Int32 := ee tx len (sk tx len p)
def xl (tx : Nat → Int32) (len p : Nat) : Int32 := nI (sk tx len p)
theorem fn_0 {tx : Nat → Int32} {len p : Nat} {a b : Int32} (h : fn tx len a b p = 0) : nd tx len (sk tx len p) ≤ 3 ∧ ¬ vv tx len p < a ∧ vv tx len p ≤ b := by
  unfold fn ff at h
  unfold vv
  by_cases c0 : nd tx len (sk tx len p) = 0
  · rw [if_pos c0] at h; exact absurd h c10
  · rw [if_neg c0] at h
    by_cases c3 : 3 < nd tx len (sk tx len p)
    · rw [if_pos c3] at h; exact absurd h (by decide)
    · rw [if_neg c3] at h
      by_cases c1 : vl tx (sk tx len p) (nd tx len (sk tx len p)) < a
      · rw [if_pos c1] at h; exact absurd h (by decide)
      · rw [if_neg c1] at h
        by_cases c2 : vl tx (sk tx len p) (nd tx len (sk tx len p)) ≤ b
        · exact ⟨by omega, c1, c2⟩
        · rw [if_neg c2] at h; exact absurd h (by decide)
theorem lt_e0 {e f : Int32} (h : lt_e e f = 0) : e = 0 ∧ f = 0 := by
  unfold lt_e at h
  by_cases c : e = 0
  · rw [if_pos c] at h; exact ⟨c, h⟩
  · rw [if_neg c] at h; exact absurd h c
theorem nx_b (tx : Nat → Int32) {len p : Nat} (hl : len ≤ 240) (hp : p ≤ 240) : p ≤ nx tx len p ∧ nx tx len p ≤ 240 := by
  have h1 := sk_b tx hl hp
  have h2 := nd_b tx hl h1.2.1
  unfold nx
  omega
theorem xe_b (tx : Nat → Int32) {len p : Nat} (hl : len ≤ 240) (hp : p ≤ 240) : p ≤ xe tx len p ∧ xe tx len p ≤ 240 := by
  have h1 := sk_b tx hl hp
  unfold xe pe
  by_cases c : sk tx len p < len ∧ tx (sk tx len p) = 59
  · rw [if_pos c]; omega
  · rw [if_neg c]; omega
theorem C_nu {M : Nat → Nat → Int32} {tx : Nat → Int32} {len p : Nat} {e l : Int32} (h : CR M tx len p e l) (hp : p ≤ 240) (a b : Int32) : q_X5_readNumber_2 M a b ∧ CR (g_X5_readNumber_2 M a b) tx len (nx tx len p) (lt_e e (fn tx len a b p)) (lt_l e (fn tx len a b p) l (xl tx len p)) ∧ (∀ c, c ≠ 2 → g_X5_readNumber_2 M a b c = M c) ∧ (fn tx len a b p = 0 → f_X5_readNumber_2 M a b = vv tx len p) := by
  obtain ⟨h1, h2, h3, h4⟩ := nu_c h hp a b
  exact ⟨h1, h3, h4, fun z => h2 (fn_0 z).1⟩
theorem C_ed {M : Nat → Nat → Int32} {tx : Nat → Int32} {len p : Nat} {e l : Int32} (h : CR M tx len p e l) (hp : p ≤ 240) : q_X5_readEnd_2 M ∧ CR (g_X5_readEnd_2 M) tx len (xe tx len p) (lt_e e (fe tx len p)) (lt_l e (fe tx len p) l (xl tx len p)) ∧ ∀ c, c ≠ 2 → g_X5_readEnd_2 M c = M c := ed_c h hp
theorem C_row {M : Nat → Nat → Int32} {tx : Nat → Int32} {len p : Nat} {e l : Int32} (h : CR M tx len p e l) {x : Nat} {f : Nat → Int32} (h1 : x ≠ 1) (h2 : x ≠ 2) : CR (z_row M x f) tx len p e l := by
  unfold CR
  rw [z_row_ne (fun z => h1 z.symm), z_row_ne (fun z => h2 z.symm)]
  exact h
/-- the reference's reader, as far as it goes with the class's -/
def RX (M : Nat → Nat → Int32) (tx : Nat → Int32) (len p : Nat) (e l : Int32) : Prop := (∀ j, j < len → M 275 j = tx j) ∧ len ≤ 240 ∧ M 274 1 = nI len ∧ (e = 0 → M 274 20 = nI p) ∧ M 274 21 = e ∧ (¬ e = 0 → M 274 22 = l)
theorem RX_D {M : Nat → Nat → Int32} {tx : Nat → Int32} {len p : Nat} {l : Int32} (h : RX M tx len p 0 l) : RD M tx len p 0 (M 274 22) := ⟨h.1, h.2.1, h.2.2.1, h.2.2.2.1 rfl, h.2.2.2.2.1, rfl⟩
theorem RD_X {M : Nat → Nat → Int32} {tx : Nat → Int32} {len p : Nat} {e l l' : Int32} (h : RD M tx len p e l) (hl : ¬ e = 0 → l = l') : RX M tx len p e l' := ⟨h.1, h.2.1, h.2.2.1, fun _ => h.2.2.2.1, h.2.2.2.2.1, fun z => h.2.2.2.2.2.trans (hl z)⟩
theorem R8_r (M : Nat → Nat → Int32) : R8 M M := ⟨fun _ _ => rfl, fun _ _ _ _ => rfl⟩
theorem R_nu {M : Nat → Nat → Int32} {tx : Nat → Int32} {len p : Nat} {e l : Int32} (h : RX M tx len p e l) (hp : p ≤ 240) (a b : Int32) : q_X9_number_274 M a b ∧ RX (g_X9_number_274 M a b) tx len (nx tx len p) (lt_e e (fn tx len a b p)) (lt_l e (fn tx len a b p) l (xl tx len p)) ∧ R8 M (g_X9_number_274 M a b) ∧ (lt_e e (fn tx len a b p) = 0 → f_X9_number_274 M a b = vv tx len p) := by
  by_cases c : e = 0
  · subst c
    obtain ⟨q1, f1, g1, g2⟩ := nu_r (RX_D h) hp a b
    unfold lt_e lt_l
    rw [if_pos rfl, if_pos rfl]
    refine ⟨q1, RD_X g1 (fun z => ?_), g2, fun z => ?_⟩
    · rw [if_neg z, if_neg (show ¬ ff tx len (sk tx len p) a b = 0 from z)]; rfl
    · rw [f1, if_pos (show ff tx len (sk tx len p) a b = 0 from z)]; rfl
  · have h21 : ¬ M 274 21 = 0 := by rw [h.2.2.2.2.1]; exact c
    obtain ⟨q1, f1, g1⟩ := nu_w h21 a b
    unfold lt_e lt_l
    rw [if_neg c, if_neg c, g1]
    exact ⟨q1, ⟨h.1, h.2.1, h.2.2.1, fun z => absurd z c, h.2.2.2.2.1, h.2.2.2.2.2⟩, R8_r M, fun z => absurd z c⟩
theorem R_ed {M : Nat → Nat → Int32} {tx : Nat → Int32} {len p : Nat} {e l : Int32} (h : RX M tx len p e l) (hp : p ≤ 240) : q_X9_ends_274 M ∧ RX (g_X9_ends_274 M) tx len (xe tx len p) (lt_e e (fe tx len p)) (lt_l e (fe tx len p) l (xl tx len p)) ∧ R8 M (g_X9_ends_274 M) := by
  by_cases c : e = 0
  · subst c
    obtain ⟨q1, g1, g2⟩ := ed_r (RX_D h) hp
    unfold lt_e lt_l
    rw [if_pos rfl, if_pos rfl]
    refine ⟨q1, RD_X g1 (fun z => ?_), g2⟩
    rw [if_neg z, if_neg (show ¬ ee tx len (sk tx len p) = 0 from z)]; rfl
  · have h21 : ¬ M 274 21 = 0 := by rw [h.2.2.2.2.1]; exact c
    obtain ⟨q1, g1⟩ := ed_w h21
    unfold lt_e lt_l
    rw [if_neg c, if_neg c, g1]
    exact ⟨q1, ⟨h.1, h.2.1, h.2.2.1, fun z => absurd z c, h.2.2.2.2.1, h.2.2.2.2.2⟩, R8_r M⟩
theorem R_row {M : Nat → Nat → Int32} {tx : Nat → Int32} {len p : Nat} {e l : Int32} (h : RX M tx len p e l) {x : Nat} {f : Nat → Int32} (h1 : x ≠ 274) (h2 : x ≠ 275) : RX (z_row M x f) tx len p e l := by
  unfold RX
  rw [z_row_ne (fun z => h1 z.symm), z_row_ne (fun z => h2 z.symm)]
  exact h
theorem R_up {M : Nat → Nat → Int32} {tx : Nat → Int32} {len p : Nat} {e l : Int32} (h : RX M tx len p e l) {j : Nat} {x : Int32} (h1 : j ≠ 1) (h2 : j ≠ 20) (h3 : j ≠ 21) (h4 : j ≠ 22) : RX (z_row M 274 (upd (M 274) j x)) tx len p e l := by
  unfold RX
  rw [z_row_eq, z_row_ne (by decide), ud_if, if_neg (fun z => h1 z.symm), ud_if, if_neg (fun z => h2 z.symm), ud_if, if_neg (fun z => h3 z.symm), ud_if, if_neg (fun z => h4 z.symm)]
  exact h
