def f_X9_draw_274 (M : Nat → Nat → Int32) (L : Nat → Nat → Int64) (z : Int32) : Int32 := ((((((L 274 12) * 1103515245) + 12345) - (((L 274 12) * 1103515245) + 12345) / 2147483648 * 2147483648) / 65536) - (((((L 274 12) * 1103515245) + 12345) - (((L 274 12) * 1103515245) + 12345) / 2147483648 * 2147483648) / 65536) / z.toInt64 * z.toInt64).toInt32
def h_X9_draw_274 (M : Nat → Nat → Int32) (L : Nat → Nat → Int64) (z : Int32) : Nat → Nat → Int64 := z_row L 274 (vp_updL (L 274) 12 ((((L 274 12) * 1103515245) + 12345) - (((L 274 12) * 1103515245) + 12345) / 2147483648 * 2147483648))
def q_X9_draw_274 (M : Nat → Nat → Int32) (L : Nat → Nat → Int64) (z : Int32) : Prop := (decide (¬ z.toInt64 = 0) = true) ∧ True
set_option maxRecDepth 20000 in
theorem c_X9_draw_274 {d : Nat} (M : Nat → Nat → Int32) (L : Nat → Nat → Int64) (z : Int32)  (hpre : q_X9_draw_274 M L z) : z_C (d + 1) 156 [.ref 274, .int z] (z_SH, M, L) (some (.int (f_X9_draw_274 M L z))) (z_SH, M, h_X9_draw_274 M L z) := by
  unfold q_X9_draw_274 at hpre
  obtain ⟨p1, -⟩ := hpre
  refine z_mkA (tb := tb_X9_draw) rfl (by decide) rfl rfl rfl ?_
  refine g_k 9 (pc' := 17) (LI' := [some (.ref 274), some (.int z)]) (LL' := []) (st' := [.long ((((L 274 12) * 1103515245) + 12345) - (((L 274 12) * 1103515245) + 12345) / 2147483648 * 2147483648), .ref 274]) (S' := (z_SH, M, L)) (fun nq hq => And.intro rfl (And.intro rfl (And.intro rfl (And.intro rfl (And.intro rfl (And.intro rfl (And.intro rfl (And.intro rfl (And.intro rfl hq))))))))) ?_
  refine g_k 9 (pc' := 32) (LI' := [some (.ref 274), some (.int z)]) (LL' := []) (st' := [.int (((((((L 274 12) * 1103515245) + 12345) - (((L 274 12) * 1103515245) + 12345) / 2147483648 * 2147483648) / 65536) - (((((L 274 12) * 1103515245) + 12345) - (((L 274 12) * 1103515245) + 12345) / 2147483648 * 2147483648) / 65536) / z.toInt64 * z.toInt64).toInt32)]) (S' := (z_SH, M, z_row L 274 (vp_updL (L 274) 12 ((((L 274 12) * 1103515245) + 12345) - (((L 274 12) * 1103515245) + 12345) / 2147483648 * 2147483648)))) (fun nq hq => And.intro rfl (And.intro rfl (And.intro rfl (And.intro rfl (And.intro rfl (And.intro rfl (And.intro rfl (And.intro p1 (And.intro rfl hq))))))))) ?_
  exact ⟨1, And.intro rfl (⟨rfl, (by unfold h_X9_draw_274 ; try rfl)⟩)⟩
def g_X9_drawn_274 (M : Nat → Nat → Int32) (L : Nat → Nat → Int64)  : Nat → Nat → Int32 := if (5 : Int32) ≤ (f_X9_draw_274 M L ((8 : Int32))) then if ¬ (f_X9_draw_274 M L ((8 : Int32))) = (7 : Int32) then if (g_X9_notes_274 M) 279 10 ≤ (0 : Int32) then (g_X9_notes_274 M) else if (f_X9_holds_279 (g_X9_notes_274 M) (f_X9_draw_274 (g_X9_notes_274 M) (h_X9_draw_274 M (h_X9_draw_274 M L ((8 : Int32))) ((8 : Int32))) ((g_X9_notes_274 M) 279 10))) = (0 : Int32) then (g_X9_notes_274 M) else (g_X9_lets_279 (g_X9_notes_274 M) (f_X9_draw_274 (g_X9_notes_274 M) (h_X9_draw_274 M (h_X9_draw_274 M L ((8 : Int32))) ((8 : Int32))) ((g_X9_notes_274 M) 279 10))) else (g_X9_sessionOn_274_279 (g_X9_notes_274 M)) else (g_X9_puts_274_279 (g_X9_notes_274 M) (f_X9_draw_274 M (h_X9_draw_274 M L ((8 : Int32))) ((8 : Int32))))
def h_X9_drawn_274 (M : Nat → Nat → Int32) (L : Nat → Nat → Int64)  : Nat → Nat → Int64 := if (5 : Int32) ≤ (f_X9_draw_274 M L ((8 : Int32))) then if ¬ (f_X9_draw_274 M L ((8 : Int32))) = (7 : Int32) then if (g_X9_notes_274 M) 279 10 ≤ (0 : Int32) then (h_X9_draw_274 M (h_X9_draw_274 M L ((8 : Int32))) ((8 : Int32))) else (h_X9_draw_274 (g_X9_notes_274 M) (h_X9_draw_274 M (h_X9_draw_274 M L ((8 : Int32))) ((8 : Int32))) ((g_X9_notes_274 M) 279 10)) else (h_X9_draw_274 M (h_X9_draw_274 M L ((8 : Int32))) ((8 : Int32))) else (h_X9_draw_274 M (h_X9_draw_274 M L ((8 : Int32))) ((8 : Int32)))
theorem fr_g_X9_drawn_274 (M : Nat → Nat → Int32) (L : Nat → Nat → Int64)  (c : Nat) (h274 : c ≠ 274) (h279 : c ≠ 279) (h281 : c ≠ 281) (h291 : c ≠ 291) : g_X9_drawn_274 M L c = M c := by
  unfold g_X9_drawn_274
  repeat' split
  all_goals simp only [z_row_ne h274, z_row_ne h279, z_row_ne h281, z_row_ne h291, fr_g_X9_lets_279 (c := c) (h279 := h279), fr_g_X9_notes_274 (c := c) (h274 := h274) (h281 := h281), fr_g_X9_puts_274_279 (c := c) (h279 := h279) (h291 := h291), fr_g_X9_sessionOn_274_279 (c := c) (h279 := h279)]
def q_X9_drawn_274 (M : Nat → Nat → Int32) (L : Nat → Nat → Int64)  : Prop := (q_X9_draw_274 M L ((8 : Int32))) ∧ (q_X9_draw_274 M (h_X9_draw_274 M L ((8 : Int32))) ((8 : Int32))) ∧ (q_X9_notes_274 M) ∧ (((5 : Int32) ≤ (f_X9_draw_274 M L ((8 : Int32)))) → (¬ (f_X9_draw_274 M L ((8 : Int32))) = (7 : Int32)) → (¬ ((g_X9_notes_274 M) 279 10 ≤ (0 : Int32))) → (q_X9_draw_274 (g_X9_notes_274 M) (h_X9_draw_274 M (h_X9_draw_274 M L ((8 : Int32))) ((8 : Int32))) ((g_X9_notes_274 M) 279 10))) ∧ (((5 : Int32) ≤ (f_X9_draw_274 M L ((8 : Int32)))) → (¬ (f_X9_draw_274 M L ((8 : Int32))) = (7 : Int32)) → (¬ ((g_X9_notes_274 M) 279 10 ≤ (0 : Int32))) → (q_X9_holds_279 (g_X9_notes_274 M) (f_X9_draw_274 (g_X9_notes_274 M) (h_X9_draw_274 M (h_X9_draw_274 M L ((8 : Int32))) ((8 : Int32))) ((g_X9_notes_274 M) 279 10)))) ∧ (((5 : Int32) ≤ (f_X9_draw_274 M L ((8 : Int32)))) → (¬ (f_X9_draw_274 M L ((8 : Int32))) = (7 : Int32)) → (¬ ((g_X9_notes_274 M) 279 10 ≤ (0 : Int32))) → (¬ ((f_X9_holds_279 (g_X9_notes_274 M) (f_X9_draw_274 (g_X9_notes_274 M) (h_X9_draw_274 M (h_X9_draw_274 M L ((8 : Int32))) ((8 : Int32))) ((g_X9_notes_274 M) 279 10))) = (0 : Int32))) → (q_X9_lets_279 (g_X9_notes_274 M) (f_X9_draw_274 (g_X9_notes_274 M) (h_X9_draw_274 M (h_X9_draw_274 M L ((8 : Int32))) ((8 : Int32))) ((g_X9_notes_274 M) 279 10)))) ∧ (((5 : Int32) ≤ (f_X9_draw_274 M L ((8 : Int32)))) → ((f_X9_draw_274 M L ((8 : Int32))) = (7 : Int32)) → (q_X9_sessionOn_274_279 (g_X9_notes_274 M))) ∧ ((¬ ((5 : Int32) ≤ (f_X9_draw_274 M L ((8 : Int32))))) → (q_X9_puts_274_279 (g_X9_notes_274 M) (f_X9_draw_274 M (h_X9_draw_274 M L ((8 : Int32))) ((8 : Int32))))) ∧ True
set_option maxRecDepth 20000 in
theorem c_X9_drawn_274 {d : Nat} (M : Nat → Nat → Int32) (L : Nat → Nat → Int64)   (hpre : q_X9_drawn_274 M L) : z_C (d + 8) 157 [.ref 274] (z_SH, M, L) none (z_SH, g_X9_drawn_274 M L, h_X9_drawn_274 M L) := by
  unfold q_X9_drawn_274 at hpre
  obtain ⟨p1, p2, p3, p4, p5, p6, p7, p8, -⟩ := hpre
  refine z_mkA (tb := tb_X9_drawn) rfl (by decide) rfl rfl rfl ?_
  refine g_k 2 (pc' := 3) (LI' := [some (.ref 274), none, none, none]) (LL' := []) (st' := [.int 8, .ref 274]) (S' := (z_SH, M, L)) (fun nq hq => And.intro rfl (And.intro rfl hq)) ?_
  refine g_k 1 (pc' := 6) (LI' := [some (.ref 274), none, none, none]) (LL' := []) (st' := [.int (f_X9_draw_274 M L ((8 : Int32)))]) (S' := (z_SH, M, h_X9_draw_274 M L ((8 : Int32)))) (fun nq hq => And.intro rfl (Exists.intro _ (Exists.intro _ (And.intro (c_X9_draw_274 (d := d + 6) M L ((8 : Int32)) p1) (And.intro (z_fit_same _ _ _ _ _ _ _ _) hq))))) ?_
  generalize hg1 : f_X9_draw_274 M L ((8 : Int32)) = r1 at *
  generalize hg2 : h_X9_draw_274 M L ((8 : Int32)) = w2 at *
  refine g_k 3 (pc' := 10) (LI' := [some (.ref 274), some (.int r1), none, none]) (LL' := []) (st' := [.int 8, .ref 274]) (S' := (z_SH, M, w2)) (fun nq hq => And.intro rfl (And.intro rfl (And.intro rfl hq))) ?_
  refine g_k 1 (pc' := 13) (LI' := [some (.ref 274), some (.int r1), none, none]) (LL' := []) (st' := [.int (f_X9_draw_274 M w2 ((8 : Int32)))]) (S' := (z_SH, M, h_X9_draw_274 M w2 ((8 : Int32)))) (fun nq hq => And.intro rfl (Exists.intro _ (Exists.intro _ (And.intro (c_X9_draw_274 (d := d + 6) M w2 ((8 : Int32)) p2) (And.intro (z_fit_same _ _ _ _ _ _ _ _) hq))))) ?_
  generalize hg3 : f_X9_draw_274 M w2 ((8 : Int32)) = r3 at *
  generalize hg4 : h_X9_draw_274 M w2 ((8 : Int32)) = w4 at *
  refine g_k 2 (pc' := 15) (LI' := [some (.ref 274), some (.int r1), some (.int r3), none]) (LL' := []) (st' := [.ref 274]) (S' := (z_SH, M, w4)) (fun nq hq => And.intro rfl (And.intro rfl hq)) ?_
  refine g_k 1 (pc' := 18) (LI' := [some (.ref 274), some (.int r1), some (.int r3), none]) (LL' := []) (st' := []) (S' := (z_SH, g_X9_notes_274 M, w4)) (fun nq hq => And.intro rfl (Exists.intro _ (Exists.intro _ (And.intro (c_X9_notes_274 (d := d + 5) M  p3) (And.intro (z_fit_same _ _ _ _ _ _ _ _) hq))))) ?_
  generalize hg5 : g_X9_notes_274 M = m5 at *
  refine g_k 3 (pc' := (if z_cmp .ge r1 ((5 : Int32)) = true then 36 else 23)) (LI' := [some (.ref 274), some (.int r1), some (.int r3), none]) (LL' := []) (st' := []) (S' := (z_SH, m5, w4)) (fun nq hq => And.intro rfl (And.intro rfl (And.intro rfl hq))) ?_
  refine g_ge (fun hc1 => ?_) (fun hc1 => ?_)
  · refine g_k 3 (pc' := (if z_cmp .ne r1 ((7 : Int32)) = true then 53 else 42)) (LI' := [some (.ref 274), some (.int r1), some (.int r3), none]) (LL' := []) (st' := []) (S' := (z_SH, m5, w4)) (fun nq hq => And.intro rfl (And.intro rfl (And.intro rfl hq))) ?_
    refine g_ne (fun hc2 => ?_) (fun hc2 => ?_)
    · refine g_k 5 (pc' := (if z_cmp .le (m5 279 10) ((0 : Int32)) = true then 94 else 63)) (LI' := [some (.ref 274), some (.int r1), some (.int r3), none]) (LL' := []) (st' := []) (S' := (z_SH, m5, w4)) (fun nq hq => And.intro rfl (And.intro rfl (And.intro rfl (And.intro rfl (And.intro rfl hq))))) ?_
      refine g_le (fun hc3 => ?_) (fun hc3 => ?_)
      · exact ⟨1, And.intro rfl (⟨rfl, (by subst hg5; subst hg4; subst hg3; subst hg2; subst hg1; unfold h_X9_drawn_274 g_X9_drawn_274; (try simp only [if_pos hc1]); (try simp only [if_pos hc2]); (try simp only [if_pos hc3]); try rfl)⟩)⟩
      · refine g_k 5 (pc' := 71) (LI' := [some (.ref 274), some (.int r1), some (.int r3), none]) (LL' := []) (st' := [.int (m5 279 10), .ref 274]) (S' := (z_SH, m5, w4)) (fun nq hq => And.intro rfl (And.intro rfl (And.intro rfl (And.intro rfl (And.intro rfl hq))))) ?_
        refine g_k 1 (pc' := 74) (LI' := [some (.ref 274), some (.int r1), some (.int r3), none]) (LL' := []) (st' := [.int (f_X9_draw_274 m5 w4 (m5 279 10))]) (S' := (z_SH, m5, h_X9_draw_274 m5 w4 (m5 279 10))) (fun nq hq => And.intro rfl (Exists.intro _ (Exists.intro _ (And.intro (c_X9_draw_274 (d := d + 6) m5 w4 (m5 279 10) (p4 hc1 hc2 hc3)) (And.intro (z_fit_same _ _ _ _ _ _ _ _) hq))))) ?_
        generalize hg6 : f_X9_draw_274 m5 w4 (m5 279 10) = r6 at *
        generalize hg7 : h_X9_draw_274 m5 w4 (m5 279 10) = w7 at *
        refine g_k 4 (pc' := 80) (LI' := [some (.ref 274), some (.int r1), some (.int r3), some (.int r6)]) (LL' := []) (st' := [.int r6, .ref 279]) (S' := (z_SH, m5, w7)) (fun nq hq => And.intro rfl (And.intro rfl (And.intro rfl (And.intro rfl hq)))) ?_
        refine g_k 1 (pc' := 83) (LI' := [some (.ref 274), some (.int r1), some (.int r3), some (.int r6)]) (LL' := []) (st' := [.int (f_X9_holds_279 m5 r6)]) (S' := (z_SH, m5, w7)) (fun nq hq => And.intro rfl (Exists.intro _ (Exists.intro _ (And.intro (c_X9_holds_279 (d := d + 6) m5 r6 (p5 hc1 hc2 hc3)) (And.intro (z_fit_same _ _ _ _ _ _ _ _) hq))))) ?_
        generalize hg8 : f_X9_holds_279 m5 r6 = r8 at *
        refine g_k 1 (pc' := (if z_cmp .eq r8 ((0 : Int32)) = true then 94 else 86)) (LI' := [some (.ref 274), some (.int r1), some (.int r3), some (.int r6)]) (LL' := []) (st' := []) (S' := (z_SH, m5, w7)) (fun nq hq => And.intro rfl hq) ?_
        refine g_eq (fun hc4 => ?_) (fun hc4 => ?_)
        · exact ⟨1, And.intro rfl (⟨rfl, (by subst hg8; subst hg7; subst hg6; subst hg5; subst hg4; subst hg3; subst hg2; subst hg1; unfold h_X9_drawn_274 g_X9_drawn_274; (try simp only [if_pos hc1]); (try simp only [if_pos hc2]); (try simp only [if_neg hc3]); (try simp only [if_pos hc4]); try rfl)⟩)⟩
        · refine g_k 3 (pc' := 91) (LI' := [some (.ref 274), some (.int r1), some (.int r3), some (.int r6)]) (LL' := []) (st' := [.int r6, .ref 279]) (S' := (z_SH, m5, w7)) (fun nq hq => And.intro rfl (And.intro rfl (And.intro rfl hq))) ?_
          refine g_k 1 (pc' := 94) (LI' := [some (.ref 274), some (.int r1), some (.int r3), some (.int r6)]) (LL' := []) (st' := []) (S' := (z_SH, g_X9_lets_279 m5 r6, w7)) (fun nq hq => And.intro rfl (Exists.intro _ (Exists.intro _ (And.intro (c_X9_lets_279 (d := d + 6) m5 r6 (p6 hc1 hc2 hc3 hc4)) (And.intro (z_fit_same _ _ _ _ _ _ _ _) hq))))) ?_
          generalize hg9 : g_X9_lets_279 m5 r6 = m9 at *
          exact ⟨1, And.intro rfl (⟨rfl, (by subst hg9; subst hg8; subst hg7; subst hg6; subst hg5; subst hg4; subst hg3; subst hg2; subst hg1; unfold h_X9_drawn_274 g_X9_drawn_274; (try simp only [if_pos hc1]); (try simp only [if_pos hc2]); (try simp only [if_neg hc3]); (try simp only [if_neg hc4]); try rfl)⟩)⟩
    · refine g_k 3 (pc' := 47) (LI' := [some (.ref 274), some (.int r1), some (.int r3), none]) (LL' := []) (st' := [.ref 279, .ref 274]) (S' := (z_SH, m5, w4)) (fun nq hq => And.intro rfl (And.intro rfl (And.intro rfl hq))) ?_
      refine g_k 1 (pc' := 50) (LI' := [some (.ref 274), some (.int r1), some (.int r3), none]) (LL' := []) (st' := []) (S' := (z_SH, g_X9_sessionOn_274_279 m5, w4)) (fun nq hq => And.intro rfl (Exists.intro _ (Exists.intro _ (And.intro (c_X9_sessionOn_274_279 (d := d + 6) m5  (p7 hc1 hc2)) (And.intro (z_fit_same _ _ _ _ _ _ _ _) hq))))) ?_
      generalize hg10 : g_X9_sessionOn_274_279 m5 = m10 at *
      refine g_k 1 (pc' := 94) (LI' := [some (.ref 274), some (.int r1), some (.int r3), none]) (LL' := []) (st' := []) (S' := (z_SH, m10, w4)) (fun nq hq => And.intro rfl hq) ?_
      exact ⟨1, And.intro rfl (⟨rfl, (by subst hg10; subst hg5; subst hg4; subst hg3; subst hg2; subst hg1; unfold h_X9_drawn_274 g_X9_drawn_274; (try simp only [if_pos hc1]); (try simp only [if_neg (not_not_intro hc2)]); try rfl)⟩)⟩
  · refine g_k 4 (pc' := 29) (LI' := [some (.ref 274), some (.int r1), some (.int r3), none]) (LL' := []) (st' := [.int r3, .ref 279, .ref 274]) (S' := (z_SH, m5, w4)) (fun nq hq => And.intro rfl (And.intro rfl (And.intro rfl (And.intro rfl hq)))) ?_
    refine g_k 1 (pc' := 32) (LI' := [some (.ref 274), some (.int r1), some (.int r3), none]) (LL' := []) (st' := [.int (f_X9_puts_274_279 m5 r3)]) (S' := (z_SH, g_X9_puts_274_279 m5 r3, w4)) (fun nq hq => And.intro rfl (Exists.intro _ (Exists.intro _ (And.intro (c_X9_puts_274_279 (d := d) m5 r3 (p8 hc1)) (And.intro (z_fit_same _ _ _ _ _ _ _ _) hq))))) ?_
    generalize hg11 : f_X9_puts_274_279 m5 r3 = r11 at *
    generalize hg12 : g_X9_puts_274_279 m5 r3 = m12 at *
    refine g_k 2 (pc' := 94) (LI' := [some (.ref 274), some (.int r1), some (.int r3), none]) (LL' := []) (st' := []) (S' := (z_SH, m12, w4)) (fun nq hq => And.intro rfl (And.intro rfl hq)) ?_
    exact ⟨1, And.intro rfl (⟨rfl, (by subst hg12; subst hg11; subst hg5; subst hg4; subst hg3; subst hg2; subst hg1; unfold h_X9_drawn_274 g_X9_drawn_274; (try simp only [if_neg hc1]); try rfl)⟩)⟩
def f_X9_seed_274 (M : Nat → Nat → Int32) (L : Nat → Nat → Int64) (v : Int32) : Int32 := if (0 : Int32) ≤ v then (L 274 12).toInt32 else (-1000000002 : Int32)
def h_X9_seed_274 (M : Nat → Nat → Int32) (L : Nat → Nat → Int64) (v : Int32) : Nat → Nat → Int64 := if (0 : Int32) ≤ v then z_row L 274 (vp_updL (L 274) 12 v.toInt64) else L
set_option maxRecDepth 20000 in
theorem c_X9_seed_274 {d : Nat} (M : Nat → Nat → Int32) (L : Nat → Nat → Int64) (v : Int32)  : z_C (d + 1) 177 [.ref 274, .int v] (z_SH, M, L) (some (.int (f_X9_seed_274 M L v))) (z_SH, M, h_X9_seed_274 M L v) := by
  refine z_mkA (tb := tb_X9_seed) rfl (by decide) rfl rfl rfl ?_
  refine g_k 2 (pc' := (if z_cmp .ge v ((0 : Int32)) = true then 7 else 4)) (LI' := [some (.ref 274), some (.int v), none]) (LL' := []) (st' := []) (S' := (z_SH, M, L)) (fun nq hq => And.intro rfl (And.intro rfl hq)) ?_
  refine g_ge (fun hc1 => ?_) (fun hc1 => ?_)
  · refine g_k 9 (pc' := 20) (LI' := [some (.ref 274), some (.int v), some (.int ((L 274 12).toInt32))]) (LL' := []) (st' := [.int ((L 274 12).toInt32)]) (S' := (z_SH, M, z_row L 274 (vp_updL (L 274) 12 v.toInt64))) (fun nq hq => And.intro rfl (And.intro rfl (And.intro rfl (And.intro rfl (And.intro rfl (And.intro rfl (And.intro rfl (And.intro rfl (And.intro rfl hq))))))))) ?_
    exact ⟨1, And.intro rfl (⟨(by unfold f_X9_seed_274; (first | rw [if_pos hc1] | skip); try rfl), (by unfold h_X9_seed_274 ; (try simp only [if_pos hc1]); try rfl)⟩)⟩
  · refine g_k 1 (pc' := 6) (LI' := [some (.ref 274), some (.int v), none]) (LL' := []) (st' := [.int (-1000000002)]) (S' := (z_SH, M, L)) (fun nq hq => And.intro rfl hq) ?_
    exact ⟨1, And.intro rfl (⟨(by unfold f_X9_seed_274; (first | rw [if_neg hc1] | skip); try rfl), (by unfold h_X9_seed_274 ; (try simp only [if_neg hc1]); try rfl)⟩)⟩
def e_X9_bring_279_282_3_M (M : Nat → Nat → Int32) (a1 : Int32) (a3 : Int32) (a4 : Int32) (i : Int32)  : Nat → Nat → Int32 := z_row M 282 (upd (M 282) ((a3 + i).toNatClampNeg) (M 279 ((a1 + i).toNatClampNeg)))
def qi_X9_bring_279_282_3 (M : Nat → Nat → Int32) (a1 : Int32) (a3 : Int32) (a4 : Int32) (i : Int32)  : Prop := (z_vin (a1 + i) 83 = true) ∧ (z_vin (a3 + i) 166 = true) ∧ True
set_option maxRecDepth 20000 in
theorem it_X9_bring_279_282_3 {d : Nat} {L : Nat → Nat → Int64} {Q : Option Value → z_St → Prop} (M : Nat → Nat → Int32) (a1 : Int32) (a3 : Int32) (a4 : Int32) (i : Int32)  (hc : ¬ (a4 ≤ i)) (p1 : qi_X9_bring_279_282_3 M a1 a3 a4 i) (h : z_G (d + 0) tb_X9_bring 3 [some (.ref 279), some (.int a1), some (.ref 282), some (.int a3), some (.int a4), some (.int (i + 1))] [] [] (z_SH, e_X9_bring_279_282_3_M M a1 a3 a4 i, L) Q) : z_G (d + 0) tb_X9_bring 3 [some (.ref 279), some (.int a1), some (.ref 282), some (.int a3), some (.int a4), some (.int i)] [] [] (z_SH, M, L) Q := by
  unfold qi_X9_bring_279_282_3 at p1
  obtain ⟨p1, p2, -⟩ := p1
  refine g_k 3 (pc' := (if z_cmp .ge i a4 = true then 28 else 10)) (LI' := [some (.ref 279), some (.int a1), some (.ref 282), some (.int a3), some (.int a4), some (.int i)]) (LL' := []) (st' := []) (S' := (z_SH, M, L)) (fun nq hq => And.intro rfl (And.intro rfl (And.intro rfl hq))) ?_
  refine g_ge (fun hc1 => ?_) (fun hc1 => ?_)
  · exact absurd hc1 hc
  · refine g_k 9 (pc' := 21) (LI' := [some (.ref 279), some (.int a1), some (.ref 282), some (.int a3), some (.int a4), some (.int i)]) (LL' := []) (st' := [.int (M 279 ((a1 + i).toNatClampNeg)), .int (a3 + i), .ref 282]) (S' := (z_SH, M, L)) (fun nq hq => And.intro rfl (And.intro rfl (And.intro rfl (And.intro rfl (And.intro rfl (And.intro rfl (And.intro rfl (And.intro rfl (And.intro p1 hq))))))))) ?_
    refine g_k 3 (pc' := 3) (LI' := [some (.ref 279), some (.int a1), some (.ref 282), some (.int a3), some (.int a4), some (.int (i + 1))]) (LL' := []) (st' := []) (S' := (z_SH, z_row M 282 (upd (M 282) ((a3 + i).toNatClampNeg) (M 279 ((a1 + i).toNatClampNeg))), L)) (fun nq hq => And.intro p2 (And.intro rfl (And.intro rfl hq))) ?_
    (unfold e_X9_bring_279_282_3_M at h; exact h )
def s_X9_bring_279_282_3 (M : Nat → Nat → Int32) (a1 : Int32) (a3 : Int32) (a4 : Int32)  (n : Nat) : (Nat → Nat → Int32) := Nat.rec (motive := fun _ => (Nat → Nat → Int32)) (M) (fun k r => (e_X9_bring_279_282_3_M r a1 a3 a4 (nI k))) n
theorem fr_e_X9_bring_279_282_3_M (M : Nat → Nat → Int32) (a1 : Int32) (a3 : Int32) (a4 : Int32) (i : Int32)  (c : Nat) (h282 : c ≠ 282) : e_X9_bring_279_282_3_M M a1 a3 a4 i c = M c := by
  unfold e_X9_bring_279_282_3_M
  repeat' split
  all_goals simp only [z_row_ne h282]
theorem fr_s_X9_bring_279_282_3 (M : Nat → Nat → Int32) (a1 : Int32) (a3 : Int32) (a4 : Int32)  (n : Nat) (c : Nat) (h282 : c ≠ 282) : ((s_X9_bring_279_282_3 M a1 a3 a4 n)) c = M c := by
  induction n with
  | zero => rfl
  | succ n ih => exact (fr_e_X9_bring_279_282_3_M _ a1 a3 a4 (nI n)  c h282).trans ih
theorem l_X9_bring_279_282_3 {d : Nat} {L : Nat → Nat → Int64} {Q : Option Value → z_St → Prop} (M : Nat → Nat → Int32) (a1 : Int32) (a3 : Int32) (a4 : Int32)  (n : Nat) : (∀ k, k < n → ¬ (a4 ≤ (nI k))) → (∀ k, k < n → qi_X9_bring_279_282_3 ((s_X9_bring_279_282_3 M a1 a3 a4 k)) a1 a3 a4 (nI k)) → (z_G (d + 0) tb_X9_bring 3 [some (.ref 279), some (.int a1), some (.ref 282), some (.int a3), some (.int a4), some (.int (nI n))] [] [] (z_SH, (s_X9_bring_279_282_3 M a1 a3 a4 n), L) Q) → z_G (d + 0) tb_X9_bring 3 [some (.ref 279), some (.int a1), some (.ref 282), some (.int a3), some (.int a4), some (.int (nI 0))] [] [] (z_SH, M, L) Q := by
  induction n with
  | zero =>
    intro hc p1 h
    exact h
  | succ n ih =>
    intro hc p1 h
    refine ih (fun k hk => hc k (by omega)) (fun k hk => p1 k (by omega)) ?_
    have hcn := hc n (by omega)
    have p1n := p1 n (by omega)
    clear ih hc p1
    have hs : s_X9_bring_279_282_3 M a1 a3 a4 (n + 1) = (e_X9_bring_279_282_3_M ((s_X9_bring_279_282_3 M a1 a3 a4 n)) a1 a3 a4 (nI n)) := rfl
    rw [hs] at h
    clear hs
    generalize s_X9_bring_279_282_3 M a1 a3 a4 n = sg at *
    refine it_X9_bring_279_282_3 sg a1 a3 a4 (nI n)  hcn p1n ?_
    rw [nI_1]
    exact h
def g_X9_bring_279_282 (M : Nat → Nat → Int32) (a1 : Int32) (a3 : Int32) (a4 : Int32) : Nat → Nat → Int32 := ((s_X9_bring_279_282_3 M a1 a3 a4 ((a4).toNatClampNeg)))
theorem fr_g_X9_bring_279_282 (M : Nat → Nat → Int32) (a1 : Int32) (a3 : Int32) (a4 : Int32) (c : Nat) (h282 : c ≠ 282) : g_X9_bring_279_282 M a1 a3 a4 c = M c := by
  unfold g_X9_bring_279_282
  repeat' split
  all_goals simp only [z_row_ne h282, fr_s_X9_bring_279_282_3 (c := c) (h282 := h282)]
def q_X9_bring_279_282 (M : Nat → Nat → Int32) (a1 : Int32) (a3 : Int32) (a4 : Int32) : Prop := (∀ k115, k115 < (a4).toNatClampNeg → qi_X9_bring_279_282_3 ((s_X9_bring_279_282_3 M a1 a3 a4 k115)) a1 a3 a4 (nI k115)) ∧ True
set_option maxRecDepth 20000 in
theorem c_X9_bring_279_282 {d : Nat} {L : Nat → Nat → Int64} (M : Nat → Nat → Int32) (a1 : Int32) (a3 : Int32) (a4 : Int32)  (hpre : q_X9_bring_279_282 M a1 a3 a4) : z_C (d + 1) 111 [.ref 279, .int a1, .ref 282, .int a3, .int a4] (z_SH, M, L) none (z_SH, g_X9_bring_279_282 M a1 a3 a4, L) := by
  unfold q_X9_bring_279_282 at hpre
  obtain ⟨p1, -⟩ := hpre
  refine z_mkA (tb := tb_X9_bring) rfl (by decide) rfl rfl rfl ?_
  refine g_k 2 (pc' := 3) (LI' := [some (.ref 279), some (.int a1), some (.ref 282), some (.int a3), some (.int a4), some (.int 0)]) (LL' := []) (st' := []) (S' := (z_SH, M, L)) (fun nq hq => And.intro rfl (And.intro rfl hq)) ?_
  refine l_X9_bring_279_282_3 (d := d) M a1 a3 a4 ((a4).toNatClampNeg) (fun k hk => z_lpc hk) p1 ?_ 
  have hx1 : a4 ≤ nI ((a4).toNatClampNeg) := z_lpe
  generalize hg1 : nI ((a4).toNatClampNeg) = r1 at *
  generalize hg2 : (s_X9_bring_279_282_3 M a1 a3 a4 ((a4).toNatClampNeg)) = m2 at *
  refine g_k 3 (pc' := (if z_cmp .ge r1 a4 = true then 28 else 10)) (LI' := [some (.ref 279), some (.int a1), some (.ref 282), some (.int a3), some (.int a4), some (.int r1)]) (LL' := []) (st' := []) (S' := (z_SH, m2, L)) (fun nq hq => And.intro rfl (And.intro rfl (And.intro rfl hq))) ?_
  refine g_ge (fun hc1 => ?_) (fun hc1 => absurd (hx1) hc1)
  exact ⟨1, And.intro rfl (⟨rfl, (by subst hg2; subst hg1; rfl)⟩)⟩
def f_X9_keep_274 (M : Nat → Nat → Int32) (L : Nat → Nat → Int64) (v : Int32) : Int32 := if ¬ (f_X9_in M v ((0 : Int32)) ((1 : Int32))) = (0 : Int32) then (1 : Int32) else (-1000000001 : Int32)
def g_X9_keep_274 (M : Nat → Nat → Int32) (L : Nat → Nat → Int64) (v : Int32) : Nat → Nat → Int32 := if ¬ (f_X9_in M v ((0 : Int32)) ((1 : Int32))) = (0 : Int32) then z_row (z_row (g_X9_bring_279_282 M ((0 : Int32)) (((83 : Int32)) * v) ((83 : Int32))) 284 (upd ((g_X9_bring_279_282 M ((0 : Int32)) (((83 : Int32)) * v) ((83 : Int32))) 284) ((v).toNatClampNeg) ((1 : Int32)))) 274 (upd ((g_X9_bring_279_282 M ((0 : Int32)) (((83 : Int32)) * v) ((83 : Int32))) 274) 11 ((0 : Int32))) else M
def h_X9_keep_274 (M : Nat → Nat → Int32) (L : Nat → Nat → Int64) (v : Int32) : Nat → Nat → Int64 := if ¬ (f_X9_in M v ((0 : Int32)) ((1 : Int32))) = (0 : Int32) then z_row L 283 (vp_updL (L 283) (v).toNatClampNeg (L 274 12)) else L
theorem fr_g_X9_keep_274 (M : Nat → Nat → Int32) (L : Nat → Nat → Int64) (v : Int32) (c : Nat) (h274 : c ≠ 274) (h282 : c ≠ 282) (h284 : c ≠ 284) : g_X9_keep_274 M L v c = M c := by
  unfold g_X9_keep_274
  repeat' split
  all_goals simp only [z_row_ne h274, z_row_ne h282, z_row_ne h284, fr_g_X9_bring_279_282 (c := c) (h282 := h282)]
def q_X9_keep_274 (M : Nat → Nat → Int32) (L : Nat → Nat → Int64) (v : Int32) : Prop := ((¬ (f_X9_in M v ((0 : Int32)) ((1 : Int32))) = (0 : Int32)) → (q_X9_bring_279_282 M ((0 : Int32)) (((83 : Int32)) * v) ((83 : Int32)))) ∧ ((¬ (f_X9_in M v ((0 : Int32)) ((1 : Int32))) = (0 : Int32)) → (z_vin v 2 = true)) ∧ True
set_option maxRecDepth 20000 in
theorem c_X9_keep_274 {d : Nat} (M : Nat → Nat → Int32) (L : Nat → Nat → Int64) (v : Int32)  (hpre : q_X9_keep_274 M L v) : z_C (d + 2) 178 [.ref 274, .int v] (z_SH, M, L) (some (.int (f_X9_keep_274 M L v))) (z_SH, g_X9_keep_274 M L v, h_X9_keep_274 M L v) := by
  unfold q_X9_keep_274 at hpre
  obtain ⟨p1, p2, -⟩ := hpre
  refine z_mkA (tb := tb_X9_keep) rfl (by decide) rfl rfl rfl ?_
  refine g_k 3 (pc' := 3) (LI' := [some (.ref 274), some (.int v)]) (LL' := []) (st' := [.int 1, .int 0, .int v]) (S' := (z_SH, M, L)) (fun nq hq => And.intro rfl (And.intro rfl (And.intro rfl hq))) ?_
  refine g_k 1 (pc' := 6) (LI' := [some (.ref 274), some (.int v)]) (LL' := []) (st' := [.int (f_X9_in M v ((0 : Int32)) ((1 : Int32)))]) (S' := (z_SH, M, L)) (fun nq hq => And.intro rfl (Exists.intro _ (Exists.intro _ (And.intro (c_X9_in (d := d) M v ((0 : Int32)) ((1 : Int32))) (And.intro (z_fit_same _ _ _ _ _ _ _ _) hq))))) ?_
  generalize hg1 : f_X9_in M v ((0 : Int32)) ((1 : Int32)) = r1 at *
  refine g_k 1 (pc' := (if z_cmp .ne r1 ((0 : Int32)) = true then 12 else 9)) (LI' := [some (.ref 274), some (.int v)]) (LL' := []) (st' := []) (S' := (z_SH, M, L)) (fun nq hq => And.intro rfl hq) ?_
  refine g_ne (fun hc1 => ?_) (fun hc1 => ?_)
  · refine g_k 9 (pc' := 27) (LI' := [some (.ref 274), some (.int v)]) (LL' := []) (st' := [.int 83, .int (((83 : Int32)) * v), .ref 282, .int 0, .ref 279]) (S' := (z_SH, M, L)) (fun nq hq => And.intro rfl (And.intro rfl (And.intro rfl (And.intro rfl (And.intro rfl (And.intro rfl (And.intro rfl (And.intro rfl (And.intro rfl hq))))))))) ?_
    refine g_k 1 (pc' := 30) (LI' := [some (.ref 274), some (.int v)]) (LL' := []) (st' := []) (S' := (z_SH, g_X9_bring_279_282 M ((0 : Int32)) (((83 : Int32)) * v) ((83 : Int32)), L)) (fun nq hq => And.intro rfl (Exists.intro _ (Exists.intro _ (And.intro (c_X9_bring_279_282 (d := d) M ((0 : Int32)) (((83 : Int32)) * v) ((83 : Int32)) (p1 hc1)) (And.intro (z_fit_same _ _ _ _ _ _ _ _) hq))))) ?_
    generalize hg2 : g_X9_bring_279_282 M ((0 : Int32)) (((83 : Int32)) * v) ((83 : Int32)) = m2 at *
    refine g_k 9 (pc' := 45) (LI' := [some (.ref 274), some (.int v)]) (LL' := []) (st' := [.int v, .ref 284]) (S' := (z_SH, m2, z_row L 283 (vp_updL (L 283) (v).toNatClampNeg (L 274 12)))) (fun nq hq => And.intro rfl (And.intro rfl (And.intro rfl (And.intro rfl (And.intro rfl (And.intro (p2 hc1) (And.intro rfl (And.intro rfl (And.intro rfl hq))))))))) ?_
    refine g_k 6 (pc' := 53) (LI' := [some (.ref 274), some (.int v)]) (LL' := []) (st' := [.int 1]) (S' := (z_SH, z_row (z_row m2 284 (upd (m2 284) ((v).toNatClampNeg) ((1 : Int32)))) 274 (upd ((z_row m2 284 (upd (m2 284) ((v).toNatClampNeg) ((1 : Int32)))) 274) 11 ((0 : Int32))), z_row L 283 (vp_updL (L 283) (v).toNatClampNeg (L 274 12)))) (fun nq hq => And.intro rfl (And.intro (p2 hc1) (And.intro rfl (And.intro rfl (And.intro rfl (And.intro rfl hq)))))) ?_
    exact ⟨1, And.intro rfl (⟨(by subst hg2; subst hg1; unfold f_X9_keep_274; (first | rw [if_pos hc1] | skip); try rfl), (by subst hg2; subst hg1; unfold h_X9_keep_274 g_X9_keep_274; simp only [if_pos hc1]; rw [z_row_ne (show (274 : Nat) ≠ 284 by decide)])⟩)⟩
  · refine g_k 1 (pc' := 11) (LI' := [some (.ref 274), some (.int v)]) (LL' := []) (st' := [.int (-1000000001)]) (S' := (z_SH, M, L)) (fun nq hq => And.intro rfl hq) ?_
    exact ⟨1, And.intro rfl (⟨(by subst hg1; unfold f_X9_keep_274; (first | rw [if_neg (not_not_intro hc1)] | skip); try rfl), (by subst hg1; unfold h_X9_keep_274 g_X9_keep_274; (try simp only [if_neg (not_not_intro hc1)]); try rfl)⟩)⟩
def e_X9_bring_282_279_3_M (M : Nat → Nat → Int32) (a1 : Int32) (a3 : Int32) (a4 : Int32) (i : Int32)  : Nat → Nat → Int32 := z_row M 279 (upd (M 279) ((a3 + i).toNatClampNeg) (M 282 ((a1 + i).toNatClampNeg)))
def qi_X9_bring_282_279_3 (M : Nat → Nat → Int32) (a1 : Int32) (a3 : Int32) (a4 : Int32) (i : Int32)  : Prop := (z_vin (a1 + i) 166 = true) ∧ (z_vin (a3 + i) 83 = true) ∧ True
set_option maxRecDepth 20000 in
theorem it_X9_bring_282_279_3 {d : Nat} {L : Nat → Nat → Int64} {Q : Option Value → z_St → Prop} (M : Nat → Nat → Int32) (a1 : Int32) (a3 : Int32) (a4 : Int32) (i : Int32)  (hc : ¬ (a4 ≤ i)) (p1 : qi_X9_bring_282_279_3 M a1 a3 a4 i) (h : z_G (d + 0) tb_X9_bring 3 [some (.ref 282), some (.int a1), some (.ref 279), some (.int a3), some (.int a4), some (.int (i + 1))] [] [] (z_SH, e_X9_bring_282_279_3_M M a1 a3 a4 i, L) Q) : z_G (d + 0) tb_X9_bring 3 [some (.ref 282), some (.int a1), some (.ref 279), some (.int a3), some (.int a4), some (.int i)] [] [] (z_SH, M, L) Q := by
  unfold qi_X9_bring_282_279_3 at p1
  obtain ⟨p1, p2, -⟩ := p1
  refine g_k 3 (pc' := (if z_cmp .ge i a4 = true then 28 else 10)) (LI' := [some (.ref 282), some (.int a1), some (.ref 279), some (.int a3), some (.int a4), some (.int i)]) (LL' := []) (st' := []) (S' := (z_SH, M, L)) (fun nq hq => And.intro rfl (And.intro rfl (And.intro rfl hq))) ?_
  refine g_ge (fun hc1 => ?_) (fun hc1 => ?_)
  · exact absurd hc1 hc
  · refine g_k 9 (pc' := 21) (LI' := [some (.ref 282), some (.int a1), some (.ref 279), some (.int a3), some (.int a4), some (.int i)]) (LL' := []) (st' := [.int (M 282 ((a1 + i).toNatClampNeg)), .int (a3 + i), .ref 279]) (S' := (z_SH, M, L)) (fun nq hq => And.intro rfl (And.intro rfl (And.intro rfl (And.intro rfl (And.intro rfl (And.intro rfl (And.intro rfl (And.intro rfl (And.intro p1 hq))))))))) ?_
    refine g_k 3 (pc' := 3) (LI' := [some (.ref 282), some (.int a1), some (.ref 279), some (.int a3), some (.int a4), some (.int (i + 1))]) (LL' := []) (st' := []) (S' := (z_SH, z_row M 279 (upd (M 279) ((a3 + i).toNatClampNeg) (M 282 ((a1 + i).toNatClampNeg))), L)) (fun nq hq => And.intro p2 (And.intro rfl (And.intro rfl hq))) ?_
    (unfold e_X9_bring_282_279_3_M at h; exact h )
def s_X9_bring_282_279_3 (M : Nat → Nat → Int32) (a1 : Int32) (a3 : Int32) (a4 : Int32)  (n : Nat) : (Nat → Nat → Int32) := Nat.rec (motive := fun _ => (Nat → Nat → Int32)) (M) (fun k r => (e_X9_bring_282_279_3_M r a1 a3 a4 (nI k))) n
theorem fr_e_X9_bring_282_279_3_M (M : Nat → Nat → Int32) (a1 : Int32) (a3 : Int32) (a4 : Int32) (i : Int32)  (c : Nat) (h279 : c ≠ 279) : e_X9_bring_282_279_3_M M a1 a3 a4 i c = M c := by
  unfold e_X9_bring_282_279_3_M
  repeat' split
  all_goals simp only [z_row_ne h279]
theorem fr_s_X9_bring_282_279_3 (M : Nat → Nat → Int32) (a1 : Int32) (a3 : Int32) (a4 : Int32)  (n : Nat) (c : Nat) (h279 : c ≠ 279) : ((s_X9_bring_282_279_3 M a1 a3 a4 n)) c = M c := by
  induction n with
  | zero => rfl
  | succ n ih => exact (fr_e_X9_bring_282_279_3_M _ a1 a3 a4 (nI n)  c h279).trans ih
theorem l_X9_bring_282_279_3 {d : Nat} {L : Nat → Nat → Int64} {Q : Option Value → z_St → Prop} (M : Nat → Nat → Int32) (a1 : Int32) (a3 : Int32) (a4 : Int32)  (n : Nat) : (∀ k, k < n → ¬ (a4 ≤ (nI k))) → (∀ k, k < n → qi_X9_bring_282_279_3 ((s_X9_bring_282_279_3 M a1 a3 a4 k)) a1 a3 a4 (nI k)) → (z_G (d + 0) tb_X9_bring 3 [some (.ref 282), some (.int a1), some (.ref 279), some (.int a3), some (.int a4), some (.int (nI n))] [] [] (z_SH, (s_X9_bring_282_279_3 M a1 a3 a4 n), L) Q) → z_G (d + 0) tb_X9_bring 3 [some (.ref 282), some (.int a1), some (.ref 279), some (.int a3), some (.int a4), some (.int (nI 0))] [] [] (z_SH, M, L) Q := by
  induction n with
  | zero =>
    intro hc p1 h
    exact h
  | succ n ih =>
    intro hc p1 h
    refine ih (fun k hk => hc k (by omega)) (fun k hk => p1 k (by omega)) ?_
    have hcn := hc n (by omega)
    have p1n := p1 n (by omega)
    clear ih hc p1
    have hs : s_X9_bring_282_279_3 M a1 a3 a4 (n + 1) = (e_X9_bring_282_279_3_M ((s_X9_bring_282_279_3 M a1 a3 a4 n)) a1 a3 a4 (nI n)) := rfl
    rw [hs] at h
    clear hs
    generalize s_X9_bring_282_279_3 M a1 a3 a4 n = sg at *
    refine it_X9_bring_282_279_3 sg a1 a3 a4 (nI n)  hcn p1n ?_
    rw [nI_1]
    exact h
def g_X9_bring_282_279 (M : Nat → Nat → Int32) (a1 : Int32) (a3 : Int32) (a4 : Int32) : Nat → Nat → Int32 := ((s_X9_bring_282_279_3 M a1 a3 a4 ((a4).toNatClampNeg)))
theorem fr_g_X9_bring_282_279 (M : Nat → Nat → Int32) (a1 : Int32) (a3 : Int32) (a4 : Int32) (c : Nat) (h279 : c ≠ 279) : g_X9_bring_282_279 M a1 a3 a4 c = M c := by
  unfold g_X9_bring_282_279
  repeat' split
  all_goals simp only [z_row_ne h279, fr_s_X9_bring_282_279_3 (c := c) (h279 := h279)]
def q_X9_bring_282_279 (M : Nat → Nat → Int32) (a1 : Int32) (a3 : Int32) (a4 : Int32) : Prop := (∀ k116, k116 < (a4).toNatClampNeg → qi_X9_bring_282_279_3 ((s_X9_bring_282_279_3 M a1 a3 a4 k116)) a1 a3 a4 (nI k116)) ∧ True
set_option maxRecDepth 20000 in
theorem c_X9_bring_282_279 {d : Nat} {L : Nat → Nat → Int64} (M : Nat → Nat → Int32) (a1 : Int32) (a3 : Int32) (a4 : Int32)  (hpre : q_X9_bring_282_279 M a1 a3 a4) : z_C (d + 1) 111 [.ref 282, .int a1, .ref 279, .int a3, .int a4] (z_SH, M, L) none (z_SH, g_X9_bring_282_279 M a1 a3 a4, L) := by
  unfold q_X9_bring_282_279 at hpre
  obtain ⟨p1, -⟩ := hpre
  refine z_mkA (tb := tb_X9_bring) rfl (by decide) rfl rfl rfl ?_
  refine g_k 2 (pc' := 3) (LI' := [some (.ref 282), some (.int a1), some (.ref 279), some (.int a3), some (.int a4), some (.int 0)]) (LL' := []) (st' := []) (S' := (z_SH, M, L)) (fun nq hq => And.intro rfl (And.intro rfl hq)) ?_
  refine l_X9_bring_282_279_3 (d := d) M a1 a3 a4 ((a4).toNatClampNeg) (fun k hk => z_lpc hk) p1 ?_ 
  have hx1 : a4 ≤ nI ((a4).toNatClampNeg) := z_lpe
  generalize hg1 : nI ((a4).toNatClampNeg) = r1 at *
  generalize hg2 : (s_X9_bring_282_279_3 M a1 a3 a4 ((a4).toNatClampNeg)) = m2 at *
  refine g_k 3 (pc' := (if z_cmp .ge r1 a4 = true then 28 else 10)) (LI' := [some (.ref 282), some (.int a1), some (.ref 279), some (.int a3), some (.int a4), some (.int r1)]) (LL' := []) (st' := []) (S' := (z_SH, m2, L)) (fun nq hq => And.intro rfl (And.intro rfl (And.intro rfl hq))) ?_
  refine g_ge (fun hc1 => ?_) (fun hc1 => absurd (hx1) hc1)
  exact ⟨1, And.intro rfl (⟨rfl, (by subst hg2; subst hg1; rfl)⟩)⟩
def f_X9_goBack_274 (M : Nat → Nat → Int32) (L : Nat → Nat → Int64) (v : Int32) : Int32 := if ¬ (f_X9_in M v ((0 : Int32)) ((1 : Int32))) = (0 : Int32) then if ¬ M 284 ((v).toNatClampNeg) = (0 : Int32) then (1 : Int32) else (-1000000003 : Int32) else (-1000000001 : Int32)
def g_X9_goBack_274 (M : Nat → Nat → Int32) (L : Nat → Nat → Int64) (v : Int32) : Nat → Nat → Int32 := if ¬ (f_X9_in M v ((0 : Int32)) ((1 : Int32))) = (0 : Int32) then if ¬ M 284 ((v).toNatClampNeg) = (0 : Int32) then z_row (g_X9_bring_282_279 M (((83 : Int32)) * v) ((0 : Int32)) ((83 : Int32))) 274 (upd ((g_X9_bring_282_279 M (((83 : Int32)) * v) ((0 : Int32)) ((83 : Int32))) 274) 11 ((0 : Int32))) else M else M
def h_X9_goBack_274 (M : Nat → Nat → Int32) (L : Nat → Nat → Int64) (v : Int32) : Nat → Nat → Int64 := if ¬ (f_X9_in M v ((0 : Int32)) ((1 : Int32))) = (0 : Int32) then if ¬ M 284 ((v).toNatClampNeg) = (0 : Int32) then z_row L 274 (vp_updL (L 274) 12 (L 283 (v).toNatClampNeg)) else L else L
theorem fr_g_X9_goBack_274 (M : Nat → Nat → Int32) (L : Nat → Nat → Int64) (v : Int32) (c : Nat) (h274 : c ≠ 274) (h279 : c ≠ 279) : g_X9_goBack_274 M L v c = M c := by
  unfold g_X9_goBack_274
  repeat' split
  all_goals simp only [z_row_ne h274, z_row_ne h279, fr_g_X9_bring_282_279 (c := c) (h279 := h279)]
def q_X9_goBack_274 (M : Nat → Nat → Int32) (L : Nat → Nat → Int64) (v : Int32) : Prop := ((¬ (f_X9_in M v ((0 : Int32)) ((1 : Int32))) = (0 : Int32)) → (z_vin v 2 = true)) ∧ ((¬ (f_X9_in M v ((0 : Int32)) ((1 : Int32))) = (0 : Int32)) → (¬ M 284 ((v).toNatClampNeg) = (0 : Int32)) → (q_X9_bring_282_279 M (((83 : Int32)) * v) ((0 : Int32)) ((83 : Int32)))) ∧ True
set_option maxRecDepth 20000 in
theorem c_X9_goBack_274 {d : Nat} (M : Nat → Nat → Int32) (L : Nat → Nat → Int64) (v : Int32)  (hpre : q_X9_goBack_274 M L v) : z_C (d + 2) 179 [.ref 274, .int v] (z_SH, M, L) (some (.int (f_X9_goBack_274 M L v))) (z_SH, g_X9_goBack_274 M L v, h_X9_goBack_274 M L v) := by
  unfold q_X9_goBack_274 at hpre
  obtain ⟨p1, p2, -⟩ := hpre
  refine z_mkA (tb := tb_X9_goBack) rfl (by decide) rfl rfl rfl ?_
  refine g_k 2 (pc' := 2) (LI' := [some (.ref 274), some (.int v)]) (LL' := []) (st' := [.int 0, .int v]) (S' := (z_SH, M, L)) (fun nq hq => And.intro rfl (And.intro rfl hq)) ?_
  refine g_k 1 (pc' := 3) (LI' := [some (.ref 274), some (.int v)]) (LL' := []) (st' := [.int 1, .int 0, .int v]) (S' := (z_SH, M, L)) (fun nq hq => And.intro rfl hq) ?_
  refine g_k 1 (pc' := 6) (LI' := [some (.ref 274), some (.int v)]) (LL' := []) (st' := [.int (f_X9_in M v ((0 : Int32)) ((1 : Int32)))]) (S' := (z_SH, M, L)) (fun nq hq => And.intro rfl (Exists.intro _ (Exists.intro _ (And.intro (c_X9_in (d := d) M v ((0 : Int32)) ((1 : Int32))) (And.intro (z_fit_same _ _ _ _ _ _ _ _) hq))))) ?_
  generalize hg1 : f_X9_in M v ((0 : Int32)) ((1 : Int32)) = r1 at *
  refine g_k 1 (pc' := (if z_cmp .ne r1 ((0 : Int32)) = true then 12 else 9)) (LI' := [some (.ref 274), some (.int v)]) (LL' := []) (st' := []) (S' := (z_SH, M, L)) (fun nq hq => And.intro rfl hq) ?_
  refine g_ne (fun hc1 => ?_) (fun hc1 => ?_)
  · refine g_k 2 (pc' := 16) (LI' := [some (.ref 274), some (.int v)]) (LL' := []) (st' := [.ref 284]) (S' := (z_SH, M, L)) (fun nq hq => And.intro rfl (And.intro rfl hq)) ?_
    refine g_k 2 (pc' := 18) (LI' := [some (.ref 274), some (.int v)]) (LL' := []) (st' := [.int (M 284 ((v).toNatClampNeg))]) (S' := (z_SH, M, L)) (fun nq hq => And.intro rfl (And.intro (p1 hc1) hq)) ?_
    refine g_k 1 (pc' := (if z_cmp .ne (M 284 ((v).toNatClampNeg)) ((0 : Int32)) = true then 24 else 21)) (LI' := [some (.ref 274), some (.int v)]) (LL' := []) (st' := []) (S' := (z_SH, M, L)) (fun nq hq => And.intro rfl hq) ?_
    refine g_ne (fun hc2 => ?_) (fun hc2 => ?_)
    · refine g_k 2 (pc' := 28) (LI' := [some (.ref 274), some (.int v)]) (LL' := []) (st' := [.ref 282]) (S' := (z_SH, M, L)) (fun nq hq => And.intro rfl (And.intro rfl hq)) ?_
      refine g_k 2 (pc' := 31) (LI' := [some (.ref 274), some (.int v)]) (LL' := []) (st' := [.int v, .int 83, .ref 282]) (S' := (z_SH, M, L)) (fun nq hq => And.intro rfl (And.intro rfl hq)) ?_
      refine g_k 2 (pc' := 33) (LI' := [some (.ref 274), some (.int v)]) (LL' := []) (st' := [.ref 274, .int (((83 : Int32)) * v), .ref 282]) (S' := (z_SH, M, L)) (fun nq hq => And.intro rfl (And.intro rfl hq)) ?_
      refine g_k 2 (pc' := 37) (LI' := [some (.ref 274), some (.int v)]) (LL' := []) (st' := [.int 0, .ref 279, .int (((83 : Int32)) * v), .ref 282]) (S' := (z_SH, M, L)) (fun nq hq => And.intro rfl (And.intro rfl hq)) ?_
      refine g_k 1 (pc' := 39) (LI' := [some (.ref 274), some (.int v)]) (LL' := []) (st' := [.int 83, .int 0, .ref 279, .int (((83 : Int32)) * v), .ref 282]) (S' := (z_SH, M, L)) (fun nq hq => And.intro rfl hq) ?_
      refine g_k 1 (pc' := 42) (LI' := [some (.ref 274), some (.int v)]) (LL' := []) (st' := []) (S' := (z_SH, g_X9_bring_282_279 M (((83 : Int32)) * v) ((0 : Int32)) ((83 : Int32)), L)) (fun nq hq => And.intro rfl (Exists.intro _ (Exists.intro _ (And.intro (c_X9_bring_282_279 (d := d) M (((83 : Int32)) * v) ((0 : Int32)) ((83 : Int32)) (p2 hc1 hc2)) (And.intro (z_fit_same _ _ _ _ _ _ _ _) hq))))) ?_
      generalize hg2 : g_X9_bring_282_279 M (((83 : Int32)) * v) ((0 : Int32)) ((83 : Int32)) = m2 at *
      refine g_k 2 (pc' := 44) (LI' := [some (.ref 274), some (.int v)]) (LL' := []) (st' := [.ref 274, .ref 274]) (S' := (z_SH, m2, L)) (fun nq hq => And.intro rfl (And.intro rfl hq)) ?_
      refine g_k 2 (pc' := 48) (LI' := [some (.ref 274), some (.int v)]) (LL' := []) (st' := [.int v, .ref 283, .ref 274]) (S' := (z_SH, m2, L)) (fun nq hq => And.intro rfl (And.intro rfl hq)) ?_
      refine g_k 2 (pc' := 52) (LI' := [some (.ref 274), some (.int v)]) (LL' := []) (st' := []) (S' := (z_SH, m2, z_row L 274 (vp_updL (L 274) 12 (L 283 (v).toNatClampNeg)))) (fun nq hq => And.intro (p1 hc1) (And.intro rfl hq)) ?_
      refine g_k 2 (pc' := 54) (LI' := [some (.ref 274), some (.int v)]) (LL' := []) (st' := [.int 0, .ref 274]) (S' := (z_SH, m2, z_row L 274 (vp_updL (L 274) 12 (L 283 (v).toNatClampNeg)))) (fun nq hq => And.intro rfl (And.intro rfl hq)) ?_
      refine g_k 2 (pc' := 58) (LI' := [some (.ref 274), some (.int v)]) (LL' := []) (st' := [.int 1]) (S' := (z_SH, z_row m2 274 (upd (m2 274) 11 ((0 : Int32))), z_row L 274 (vp_updL (L 274) 12 (L 283 (v).toNatClampNeg)))) (fun nq hq => And.intro rfl (And.intro rfl hq)) ?_
      exact ⟨1, And.intro rfl (⟨(by subst hg2; subst hg1; unfold f_X9_goBack_274; (first | rw [if_pos hc1] | skip); (first | rw [if_pos hc2] | skip); try rfl), (by subst hg2; subst hg1; unfold h_X9_goBack_274 g_X9_goBack_274; (try simp only [if_pos hc1]); (try simp only [if_pos hc2]); try rfl)⟩)⟩
    · refine g_k 1 (pc' := 23) (LI' := [some (.ref 274), some (.int v)]) (LL' := []) (st' := [.int (-1000000003)]) (S' := (z_SH, M, L)) (fun nq hq => And.intro rfl hq) ?_
      exact ⟨1, And.intro rfl (⟨(by subst hg1; unfold f_X9_goBack_274; (first | rw [if_pos hc1] | skip); (first | rw [if_neg (not_not_intro hc2)] | skip); try rfl), (by subst hg1; unfold h_X9_goBack_274 g_X9_goBack_274; (try simp only [if_pos hc1]); (try simp only [if_neg (not_not_intro hc2)]); try rfl)⟩)⟩
  · refine g_k 1 (pc' := 11) (LI' := [some (.ref 274), some (.int v)]) (LL' := []) (st' := [.int (-1000000001)]) (S' := (z_SH, M, L)) (fun nq hq => And.intro rfl hq) ?_
    exact ⟨1, And.intro rfl (⟨(by subst hg1; unfold f_X9_goBack_274; (first | rw [if_neg (not_not_intro hc1)] | skip); try rfl), (by subst hg1; unfold h_X9_goBack_274 g_X9_goBack_274; (try simp only [if_neg (not_not_intro hc1)]); try rfl)⟩)⟩
