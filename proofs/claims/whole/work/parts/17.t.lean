/-! CELLS BY OTHER NUMBERS: what a call leaves, its new cells numbered anew -/
def z_rsh (ρ : Nat → Nat) (q : z_Sh) : z_Sh := (q.1, q.2.1, q.2.2.map (Option.map ρ))
def z_Rp (π ρ : Nat → Nat) (k : Nat) (S2 S' : z_St) : Prop := S'.1.length = S2.1.length ∧ z_sz S'.1 = z_sz S2.1 ∧ (∀ i, (i < k ∨ S2.1.length ≤ i) → π i = i) ∧ (∀ i, π (ρ i) = i) ∧ (∀ i, ρ (π i) = i) ∧ (∀ i, i < S2.1.length → S'.1[i]? = S2.1[π i]?.map (z_rsh ρ)) ∧ (∀ i, S'.2.1 i = S2.2.1 (π i)) ∧ (∀ i, S'.2.2 i = S2.2.2 (π i))
def z_Rn (k : Nat) (S2 S' : z_St) : Prop := ∃ π ρ : Nat → Nat, z_Rp π ρ k S2 S'
theorem z_rn_g (ρ : Nat → Nat) (rs : List (Option Nat)) (k : Nat) : (rs.map (Option.map ρ)).getD k none = (rs.getD k none).map ρ := by
  rw [List.getD_eq_getElem?_getD, List.getD_eq_getElem?_getD, List.getElem?_map]
  cases rs[k]? <;> rfl
theorem z_rn_el {π ρ : Nat → Nat} {dA : Nat → ClassId} {ad : Nat → Nat} {S2 S' : z_St} {i : Nat} (sh : z_Sh) (h1 : ∀ j, π (ρ j) = j) (hM : S'.2.1 i = S2.2.1 (π i)) (hL : S'.2.2 i = S2.2.2 (π i)) : z_el dA (fun j => ad (π j)) S' i (z_rsh ρ sh) = z_el dA ad S2 (π i) sh := by
  obtain ⟨a, b, rs⟩ := sh
  have hg : ∀ k, ((rs.map (Option.map ρ)).getD k none).map (fun j => ad (π j)) = (rs.getD k none).map ad := by
    intro k
    rw [z_rn_g]
    cases rs.getD k none with
    | none => rfl
    | some j =>
      show some (ad (π (ρ j))) = some (ad j)
      rw [h1]
  have hf : ∀ ci k, z_tr (fun j => ad (π j)) (z_fv ci k i (rs.map (Option.map ρ)) S') = z_tr ad (z_fv ci k (π i) rs S2) := by
    intro ci k
    unfold z_fv
    rw [hM, hL]
    split
    · rfl
    · rfl
    · rw [z_tr_rf, z_tr_rf, hg]
  unfold z_el z_rsh
  match a with
  | 0 => exact congrArg (fun f => Sum.inl (dA 0, b, Sum.inl f)) hM
  | 1 => exact congrArg (fun f => Sum.inl (dA 1, b, Sum.inl f)) hM
  | 2 => exact congrArg (fun f => Sum.inl (dA 2, b, Sum.inr (Sum.inl f))) hL
  | 3 => exact congrArg (fun f => Sum.inl (dA 3, b, Sum.inr (Sum.inr (Sum.inr (Sum.inr f))))) (funext hg)
  | ci + 4 => exact congrArg (fun l => Sum.inr (ci, l)) (List.map_congr_left (fun k _ => hf ci k))
theorem z_rn_get {π ρ : Nat → Nat} {k : Nat} {S2 S' : z_St} (h : z_Rp π ρ k S2 S') {dA : Nat → ClassId} {ad : Nat → Nat} {i : Nat} {q : Nat × va_E} (e : (z_ws dA (fun j => ad (π j)) S')[i]? = some q) : (z_ws dA ad S2)[π i]? = some q := by
  obtain ⟨h1, h2, h3, h4, h5, h6, h7, h8⟩ := h
  rw [z_ws_get] at e ⊢
  by_cases c : i < S2.1.length
  · rw [h6 i c] at e
    cases hs : S2.1[π i]? with
    | none => rw [hs] at e; cases e
    | some sh =>
      rw [hs] at e
      have e2 : some (ad (π i), z_el dA (fun j => ad (π j)) S' i (z_rsh ρ sh)) = some q := e
      rw [z_rn_el sh h4 (h7 i) (h8 i)] at e2
      exact e2
  · rw [List.getElem?_eq_none (by omega)] at e
    cases e
theorem z_rn_Q {k : Nat} {S2 S' S : z_St} (hk : S.1.length = k) (h : z_Rn k S2 S') {dC : Nat → ClassId} {dI : Nat → Nat → Nat} {dA : Nat → ClassId} {ad : Nat → Nat} {sz : Nat} {a : Array Value} {st : State} {o : Outcome} {t : State} (q : z_Qc dC dI dA ad S none S2 sz a st o t) : z_Qc dC dI dA ad S none S' sz a st o t := by
  obtain ⟨π, ρ, h⟩ := h
  have hh := h
  obtain ⟨h1, h2, h3, h4, h5, h6, h7, h8⟩ := hh
  obtain ⟨ad', e1, e2, hP, hD, hz, hl, hF⟩ := q
  refine ⟨fun j => ad' (π j), fun i hi => ?_, e2, fun i q hq => hP (π i) q (z_rn_get h hq), ⟨fun i j p q hp hq hpq => ?_, fun i q hq => hD.2 (π i) q (z_rn_get h hq)⟩, fun c j hc => ?_, by omega, hF⟩
  · show ad' (π i) = ad i
    rw [h3 i (by omega)]
    exact e1 i (by omega)
  · have := hD.1 (π i) (π j) p q (z_rn_get h hp) (z_rn_get h hq) hpq
    rw [← h5 i, ← h5 j, this]
  · rw [h7, h8, h3 c (by omega)]
    exact hz c j (by omega)
/-- a call; or, of one that answers nothing, what it leaves by other numbers -/
def z_CC (d : Nat) : z_CR := fun y as S r S' => z_C d y as S r S' ∨ (r = none ∧ ∃ S2, z_C d y as S none S2 ∧ z_Rn S.1.length S2 S')
theorem z_met2 (d y : Nat) (as : List Value) (S : z_St) (r : Option Value) (S' : z_St) (hc : ∀ v ∈ as, v.category = 1) (h : z_CC d y as S r S') : z_MetAt d y as S r S' := by
  rcases h with h | ⟨rfl, S2, h, hR⟩
  · exact z_met d y as S r S' hc h
  · obtain ⟨m1, m2, m3, m4⟩ := z_met d y as S none S2 hc h
    have hR' := hR
    obtain ⟨π, ρ, e1, e2, -⟩ := hR'
    refine ⟨m1, m2, m3, fun a1 a2 l dC dI dA ad sz => ?_⟩
    have k := m4 (by omega) (by omega) l dC dI dA ad sz
    unfold z_rm at k ⊢
    rw [e1, e2]
    unfold Met at k ⊢
    exact MetFree.mono k (fun _ _ p => p) (fun _ _ _ _ _ p => p) (fun a s o s' _ q => ⟨z_rn_Q rfl hR q.1, q.2⟩)
