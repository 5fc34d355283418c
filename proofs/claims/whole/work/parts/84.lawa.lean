/-! THE LAW, over the small machine -/
def z_rx (N : Nat) (xs : Nat → Int32) : z_Ro := [(7, z_ord), (N, xs)]
def z_W (N : Nat) (xs : Nat → Int32) (pc : Nat) (LI : List (Option Value)) (st : List Value) (S : z_St) : Prop := ∃ n, z_run (z_rx N xs) 10 (z_CC 10) tb_law (600000, 7302250) n pc LI [] st S (fun r _ => r = some (.int 1))
theorem w_k {N : Nat} {xs : Nat → Int32} {pc pc' : Nat} {LI LI' : List (Option Value)} {st st' : List Value} {S S' : z_St} (k : Nat) (f : ∀ n, z_run (z_rx N xs) 10 (z_CC 10) tb_law (600000, 7302250) n pc' LI' [] st' S' (fun r _ => r = some (.int 1)) → z_run (z_rx N xs) 10 (z_CC 10) tb_law (600000, 7302250) (n + k) pc LI [] st S (fun r _ => r = some (.int 1))) (h : z_W N xs pc' LI' st' S') : z_W N xs pc LI st S := by
  obtain ⟨n, hn⟩ := h
  exact ⟨n + k, f n hn⟩
/-- the locals: script, class, reference, place -/
def z_LI (i : Int32) : List (Option Value) := [some (.ref 1001), some (.ref 0), some (.ref 274), some (.int i)]
set_option maxRecDepth 20000 in
theorem w_feed {N : Nat} {xs : Nat → Int32} {bd : Nat} {M : Nat → Nat → Int32} {L : Nat → Nat → Int64} (i : Int32) (h : RR (bd + 20) M L) (v1 : z_vin (i + 1) N = true) (v2 : z_vin (i + 2) N = true) (v3 : z_vin (i + 3) N = true) (v4 : z_vin (i + 4) N = true) (kk : ∀ M' L', RR bd M' L' → z_W N xs 863 [some (.ref 1001), some (.ref 0), some (.ref 274), some (.int i)] [] (z_SH, M', L')) : z_W N xs 156 [some (.ref 1001), some (.ref 0), some (.ref 274), some (.int i)] [] (z_SH, M, L) := by
  obtain ⟨v, M1, M2, L2, c8, c9, hr⟩ := s_feed h (xs (i + 1).toNatClampNeg)
  refine w_k 6 (pc' := 162) (LI' := [some (.ref 1001), some (.ref 0), some (.ref 274), some (.int i)]) (st' := [.int (xs (i + 1).toNatClampNeg), .ref 0]) (S' := (z_SH, M, L)) (fun nq hq => (And.intro rfl (And.intro rfl (And.intro rfl (And.intro rfl (And.intro rfl (And.intro v1 hq))))))) ?_
  refine w_k 1 (pc' := 165) (LI' := [some (.ref 1001), some (.ref 0), some (.ref 274), some (.int i)]) (st' := [.int v]) (S' := (z_SH, M1, L)) (fun nq hq => And.intro rfl (Exists.intro _ (Exists.intro _ (And.intro (Or.inl c8) (And.intro (z_fit_same _ _ _ _ _ _ _ _) hq))))) ?_
  refine w_k 6 (pc' := 171) (LI' := [some (.ref 1001), some (.ref 0), some (.ref 274), some (.int i)]) (st' := [.int (xs (i + 1).toNatClampNeg), .ref 274, .int v]) (S' := (z_SH, M1, L)) (fun nq hq => (And.intro rfl (And.intro rfl (And.intro rfl (And.intro rfl (And.intro rfl (And.intro v1 hq))))))) ?_
  refine w_k 1 (pc' := 174) (LI' := [some (.ref 1001), some (.ref 0), some (.ref 274), some (.int i)]) (st' := [.int v, .int v]) (S' := (z_SH, M2, L2)) (fun nq hq => And.intro rfl (Exists.intro _ (Exists.intro _ (And.intro (Or.inl c9) (And.intro (z_fit_same _ _ _ _ _ _ _ _) hq))))) ?_
  refine w_k 1 (pc' := (if z_cmp .eq v v = true then 863 else 177)) (LI' := [some (.ref 1001), some (.ref 0), some (.ref 274), some (.int i)]) (st' := []) (S' := (z_SH, M2, L2)) (fun nq hq => And.intro rfl hq) ?_
  rw [if_pos (show z_cmp .eq v v = true from decide_eq_true rfl)]
  exact kk M2 L2 hr
set_option maxRecDepth 20000 in
theorem w_house {N : Nat} {xs : Nat → Int32} {bd : Nat} {M : Nat → Nat → Int32} {L : Nat → Nat → Int64} (i : Int32) (h : RR (bd + 20) M L) (v1 : z_vin (i + 1) N = true) (v2 : z_vin (i + 2) N = true) (v3 : z_vin (i + 3) N = true) (v4 : z_vin (i + 4) N = true) (kk : ∀ M' L', RR bd M' L' → z_W N xs 863 [some (.ref 1001), some (.ref 0), some (.ref 274), some (.int i)] [] (z_SH, M', L')) : z_W N xs 179 [some (.ref 1001), some (.ref 0), some (.ref 274), some (.int i)] [] (z_SH, M, L) := by
  obtain ⟨v, M1, M2, L2, c8, c9, hr⟩ := s_house h 
  refine w_k 1 (pc' := 180) (LI' := [some (.ref 1001), some (.ref 0), some (.ref 274), some (.int i)]) (st' := [.ref 0]) (S' := (z_SH, M, L)) (fun nq hq => (And.intro rfl hq)) ?_
  refine w_k 1 (pc' := 183) (LI' := [some (.ref 1001), some (.ref 0), some (.ref 274), some (.int i)]) (st' := [.int v]) (S' := (z_SH, M1, L)) (fun nq hq => And.intro rfl (Exists.intro _ (Exists.intro _ (And.intro (Or.inl c8) (And.intro (z_fit_same _ _ _ _ _ _ _ _) hq))))) ?_
  refine w_k 1 (pc' := 184) (LI' := [some (.ref 1001), some (.ref 0), some (.ref 274), some (.int i)]) (st' := [.ref 274, .int v]) (S' := (z_SH, M1, L)) (fun nq hq => (And.intro rfl hq)) ?_
  refine w_k 1 (pc' := 187) (LI' := [some (.ref 1001), some (.ref 0), some (.ref 274), some (.int i)]) (st' := [.int v, .int v]) (S' := (z_SH, M2, L2)) (fun nq hq => And.intro rfl (Exists.intro _ (Exists.intro _ (And.intro (Or.inl c9) (And.intro (z_fit_same _ _ _ _ _ _ _ _) hq))))) ?_
  refine w_k 1 (pc' := (if z_cmp .eq v v = true then 863 else 190)) (LI' := [some (.ref 1001), some (.ref 0), some (.ref 274), some (.int i)]) (st' := []) (S' := (z_SH, M2, L2)) (fun nq hq => And.intro rfl hq) ?_
  rw [if_pos (show z_cmp .eq v v = true from decide_eq_true rfl)]
  exact kk M2 L2 hr
