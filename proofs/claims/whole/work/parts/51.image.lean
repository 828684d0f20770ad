/-! a world copied; image, restore, ahead -/
section WCP
variable {o : q_H} {g S : Nat → Nat → Int32} {N : Nat → Nat}
/-- a table copied: what changed -/
theorem s_cp {t u M W : Nat} (ht : q_tb t M W) (hu : q_tb u M W) (htu : u ≠ t + 1) (d : Nat) (g : Nat → Nat → Int32) : ∃ g2, q_sem (d + 1) mX7_copyFrom 0 [.ref t, .ref u] [] (q_K o g) = some (none, q_K o g2) ∧ g2 t 3 = g u 3 ∧ (∀ k, k < M * W → g2 (t + 1) k = g (u + 1) k) ∧ ∀ p k, ¬ (p = t + 1) → ¬ (p = t ∧ k = 3) → g2 p k = g p k := by
  refine ⟨_, s_copyFrom d ht hu, ?_, ?_, ?_⟩
  · rw [q_upE]
    unfold q_cg
    rw [if_neg (fun z => htu z.1)]
  · intro k hk
    rw [q_upN (by omega)]
    unfold q_cg
    rw [if_pos ⟨rfl, hk⟩]
  · intro p k h1 h2
    rw [q_up_ne h2]
    unfold q_cg
    rw [if_neg (fun z => h1 z.1)]
theorem c_copyFrom {w u : Nat} (hw : q_W w) (hd : w + 22 ≤ u ∨ u + 22 ≤ w) {S0 : Nat → Nat → Int32} {N0 : Nat → Nat} (hr0 : repC w g S0 N0) (hr : repC u g S N) (d : Nat) : ∃ g2, q_sem (d + 3) mX10_copyFrom 0 [.ref w, .ref u] [] (q_K o g) = some (none, q_K o g2) ∧ repC w g2 S N ∧ q_fr w g g2 := by
  have hu := hr.1
  obtain ⟨g1, e1, r1, a1, f1⟩ := s_cp (o := o) (W_tb hw (1, 6, 3, 3, 0, 1) (by decide)) (W_tb hu (1, 6, 3, 3, 0, 1) (by decide)) (by omega) (d + 1) g
  dsimp only at e1 r1 a1 f1
  obtain ⟨g2, e2, r2, a2, f2⟩ := s_cp (o := o) (W_tb hw (3, 8, 2, 2, 1, 4) (by decide)) (W_tb hu (3, 8, 2, 2, 1, 4) (by decide)) (by omega) (d + 1) g1
  dsimp only at e2 r2 a2 f2
  obtain ⟨g3, e3, r3, a3, f3⟩ := s_cp (o := o) (W_tb hw (5, 24, 3, 3, 2, 6) (by decide)) (W_tb hu (5, 24, 3, 3, 2, 6) (by decide)) (by omega) (d + 1) g2
  dsimp only at e3 r3 a3 f3
  obtain ⟨g4, e4, r4, a4, f4⟩ := s_cp (o := o) (W_tb hw (7, 5, 1, 1, 3, 9) (by decide)) (W_tb hu (7, 5, 1, 1, 3, 9) (by decide)) (by omega) (d + 1) g3
  dsimp only at e4 r4 a4 f4
  obtain ⟨g5, e5, r5, a5, f5⟩ := s_cp (o := o) (W_tb hw (9, 6, 4, 4, 4, 10) (by decide)) (W_tb hu (9, 6, 4, 4, 4, 10) (by decide)) (by omega) (d + 1) g4
  dsimp only at e5 r5 a5 f5
  obtain ⟨g6, e6, r6, a6, f6⟩ := s_cp (o := o) (W_tb hw (11, 16, 12, 12, 5, 14) (by decide)) (W_tb hu (11, 16, 12, 12, 5, 14) (by decide)) (by omega) (d + 1) g5
  dsimp only at e6 r6 a6 f6
  obtain ⟨g7, e7, r7, a7, f7⟩ := s_cp (o := o) (W_tb hw (13, 20, 1, 1, 11, 32) (by decide)) (W_tb hu (13, 20, 1, 1, 11, 32) (by decide)) (by omega) (d + 1) g6
  dsimp only at e7 r7 a7 f7
  obtain ⟨g8, e8, r8, a8, f8⟩ := s_cp (o := o) (W_tb hw (16, 12, 53, 3, 6, 26) (by decide)) (W_tb hu (16, 12, 53, 3, 6, 26) (by decide)) (by omega) d g7
  dsimp only at e8 r8 a8 f8
  obtain ⟨g9, e9, r9, a9, f9⟩ := s_cp (o := o) (W_tb hw (18, 50, 1, 1, 8, 31) (by decide)) (W_tb hu (18, 50, 1, 1, 8, 31) (by decide)) (by omega) d g8
  dsimp only at e9 r9 a9 f9
  have F : ∀ p k, ¬ (w ≤ p ∧ p < w + 22) → g9 p k = g p k := fun p k h => by rw [f9 _ _ (by omega) (by omega), f8 _ _ (by omega) (by omega), f7 _ _ (by omega) (by omega), f6 _ _ (by omega) (by omega), f5 _ _ (by omega) (by omega), f4 _ _ (by omega) (by omega), f3 _ _ (by omega) (by omega), f2 _ _ (by omega) (by omega), f1 _ _ (by omega) (by omega)]
  have R1 : g9 (w + 1) 3 = g (u + 1) 3 := by rw [f9 _ _ (by omega) (by omega), f8 _ _ (by omega) (by omega), f7 _ _ (by omega) (by omega), f6 _ _ (by omega) (by omega), f5 _ _ (by omega) (by omega), f4 _ _ (by omega) (by omega), f3 _ _ (by omega) (by omega), f2 _ _ (by omega) (by omega)]; exact r1
  have A1 : ∀ k, k < 6 * 3 → g9 (w + 1 + 1) k = g (u + 1 + 1) k := fun k hk => by rw [f9 _ _ (by omega) (by omega), f8 _ _ (by omega) (by omega), f7 _ _ (by omega) (by omega), f6 _ _ (by omega) (by omega), f5 _ _ (by omega) (by omega), f4 _ _ (by omega) (by omega), f3 _ _ (by omega) (by omega), f2 _ _ (by omega) (by omega)]; exact (a1 k hk)
  have Z1 : ∀ k, k ≠ 3 → g9 (w + 1) k = g (w + 1) k := fun k hk => by rw [f9 _ _ (by omega) (by omega), f8 _ _ (by omega) (by omega), f7 _ _ (by omega) (by omega), f6 _ _ (by omega) (by omega), f5 _ _ (by omega) (by omega), f4 _ _ (by omega) (by omega), f3 _ _ (by omega) (by omega), f2 _ _ (by omega) (by omega), f1 _ _ (by omega) (by omega)]
  have R2 : g9 (w + 3) 3 = g (u + 3) 3 := by rw [f9 _ _ (by omega) (by omega), f8 _ _ (by omega) (by omega), f7 _ _ (by omega) (by omega), f6 _ _ (by omega) (by omega), f5 _ _ (by omega) (by omega), f4 _ _ (by omega) (by omega), f3 _ _ (by omega) (by omega)]; exact r2.trans (by rw [f1 _ _ (by omega) (by omega)])
  have A2 : ∀ k, k < 8 * 2 → g9 (w + 3 + 1) k = g (u + 3 + 1) k := fun k hk => by rw [f9 _ _ (by omega) (by omega), f8 _ _ (by omega) (by omega), f7 _ _ (by omega) (by omega), f6 _ _ (by omega) (by omega), f5 _ _ (by omega) (by omega), f4 _ _ (by omega) (by omega), f3 _ _ (by omega) (by omega)]; exact (a2 k hk).trans (by rw [f1 _ _ (by omega) (by omega)])
  have Z2 : ∀ k, k ≠ 3 → g9 (w + 3) k = g (w + 3) k := fun k hk => by rw [f9 _ _ (by omega) (by omega), f8 _ _ (by omega) (by omega), f7 _ _ (by omega) (by omega), f6 _ _ (by omega) (by omega), f5 _ _ (by omega) (by omega), f4 _ _ (by omega) (by omega), f3 _ _ (by omega) (by omega), f2 _ _ (by omega) (by omega), f1 _ _ (by omega) (by omega)]
  have R3 : g9 (w + 5) 3 = g (u + 5) 3 := by rw [f9 _ _ (by omega) (by omega), f8 _ _ (by omega) (by omega), f7 _ _ (by omega) (by omega), f6 _ _ (by omega) (by omega), f5 _ _ (by omega) (by omega), f4 _ _ (by omega) (by omega)]; exact r3.trans (by rw [f2 _ _ (by omega) (by omega), f1 _ _ (by omega) (by omega)])
  have A3 : ∀ k, k < 24 * 3 → g9 (w + 5 + 1) k = g (u + 5 + 1) k := fun k hk => by rw [f9 _ _ (by omega) (by omega), f8 _ _ (by omega) (by omega), f7 _ _ (by omega) (by omega), f6 _ _ (by omega) (by omega), f5 _ _ (by omega) (by omega), f4 _ _ (by omega) (by omega)]; exact (a3 k hk).trans (by rw [f2 _ _ (by omega) (by omega), f1 _ _ (by omega) (by omega)])
  have Z3 : ∀ k, k ≠ 3 → g9 (w + 5) k = g (w + 5) k := fun k hk => by rw [f9 _ _ (by omega) (by omega), f8 _ _ (by omega) (by omega), f7 _ _ (by omega) (by omega), f6 _ _ (by omega) (by omega), f5 _ _ (by omega) (by omega), f4 _ _ (by omega) (by omega), f3 _ _ (by omega) (by omega), f2 _ _ (by omega) (by omega), f1 _ _ (by omega) (by omega)]
  have R4 : g9 (w + 7) 3 = g (u + 7) 3 := by rw [f9 _ _ (by omega) (by omega), f8 _ _ (by omega) (by omega), f7 _ _ (by omega) (by omega), f6 _ _ (by omega) (by omega), f5 _ _ (by omega) (by omega)]; exact r4.trans (by rw [f3 _ _ (by omega) (by omega), f2 _ _ (by omega) (by omega), f1 _ _ (by omega) (by omega)])
  have A4 : ∀ k, k < 5 * 1 → g9 (w + 7 + 1) k = g (u + 7 + 1) k := fun k hk => by rw [f9 _ _ (by omega) (by omega), f8 _ _ (by omega) (by omega), f7 _ _ (by omega) (by omega), f6 _ _ (by omega) (by omega), f5 _ _ (by omega) (by omega)]; exact (a4 k hk).trans (by rw [f3 _ _ (by omega) (by omega), f2 _ _ (by omega) (by omega), f1 _ _ (by omega) (by omega)])
  have Z4 : ∀ k, k ≠ 3 → g9 (w + 7) k = g (w + 7) k := fun k hk => by rw [f9 _ _ (by omega) (by omega), f8 _ _ (by omega) (by omega), f7 _ _ (by omega) (by omega), f6 _ _ (by omega) (by omega), f5 _ _ (by omega) (by omega), f4 _ _ (by omega) (by omega), f3 _ _ (by omega) (by omega), f2 _ _ (by omega) (by omega), f1 _ _ (by omega) (by omega)]
  have R5 : g9 (w + 9) 3 = g (u + 9) 3 := by rw [f9 _ _ (by omega) (by omega), f8 _ _ (by omega) (by omega), f7 _ _ (by omega) (by omega), f6 _ _ (by omega) (by omega)]; exact r5.trans (by rw [f4 _ _ (by omega) (by omega), f3 _ _ (by omega) (by omega), f2 _ _ (by omega) (by omega), f1 _ _ (by omega) (by omega)])
  have A5 : ∀ k, k < 6 * 4 → g9 (w + 9 + 1) k = g (u + 9 + 1) k := fun k hk => by rw [f9 _ _ (by omega) (by omega), f8 _ _ (by omega) (by omega), f7 _ _ (by omega) (by omega), f6 _ _ (by omega) (by omega)]; exact (a5 k hk).trans (by rw [f4 _ _ (by omega) (by omega), f3 _ _ (by omega) (by omega), f2 _ _ (by omega) (by omega), f1 _ _ (by omega) (by omega)])
  have Z5 : ∀ k, k ≠ 3 → g9 (w + 9) k = g (w + 9) k := fun k hk => by rw [f9 _ _ (by omega) (by omega), f8 _ _ (by omega) (by omega), f7 _ _ (by omega) (by omega), f6 _ _ (by omega) (by omega), f5 _ _ (by omega) (by omega), f4 _ _ (by omega) (by omega), f3 _ _ (by omega) (by omega), f2 _ _ (by omega) (by omega), f1 _ _ (by omega) (by omega)]
  have R6 : g9 (w + 11) 3 = g (u + 11) 3 := by rw [f9 _ _ (by omega) (by omega), f8 _ _ (by omega) (by omega), f7 _ _ (by omega) (by omega)]; exact r6.trans (by rw [f5 _ _ (by omega) (by omega), f4 _ _ (by omega) (by omega), f3 _ _ (by omega) (by omega), f2 _ _ (by omega) (by omega), f1 _ _ (by omega) (by omega)])
  have A6 : ∀ k, k < 16 * 12 → g9 (w + 11 + 1) k = g (u + 11 + 1) k := fun k hk => by rw [f9 _ _ (by omega) (by omega), f8 _ _ (by omega) (by omega), f7 _ _ (by omega) (by omega)]; exact (a6 k hk).trans (by rw [f5 _ _ (by omega) (by omega), f4 _ _ (by omega) (by omega), f3 _ _ (by omega) (by omega), f2 _ _ (by omega) (by omega), f1 _ _ (by omega) (by omega)])
  have Z6 : ∀ k, k ≠ 3 → g9 (w + 11) k = g (w + 11) k := fun k hk => by rw [f9 _ _ (by omega) (by omega), f8 _ _ (by omega) (by omega), f7 _ _ (by omega) (by omega), f6 _ _ (by omega) (by omega), f5 _ _ (by omega) (by omega), f4 _ _ (by omega) (by omega), f3 _ _ (by omega) (by omega), f2 _ _ (by omega) (by omega), f1 _ _ (by omega) (by omega)]
  have R7 : g9 (w + 13) 3 = g (u + 13) 3 := by rw [f9 _ _ (by omega) (by omega), f8 _ _ (by omega) (by omega)]; exact r7.trans (by rw [f6 _ _ (by omega) (by omega), f5 _ _ (by omega) (by omega), f4 _ _ (by omega) (by omega), f3 _ _ (by omega) (by omega), f2 _ _ (by omega) (by omega), f1 _ _ (by omega) (by omega)])
  have A7 : ∀ k, k < 20 * 1 → g9 (w + 13 + 1) k = g (u + 13 + 1) k := fun k hk => by rw [f9 _ _ (by omega) (by omega), f8 _ _ (by omega) (by omega)]; exact (a7 k hk).trans (by rw [f6 _ _ (by omega) (by omega), f5 _ _ (by omega) (by omega), f4 _ _ (by omega) (by omega), f3 _ _ (by omega) (by omega), f2 _ _ (by omega) (by omega), f1 _ _ (by omega) (by omega)])
  have Z7 : ∀ k, k ≠ 3 → g9 (w + 13) k = g (w + 13) k := fun k hk => by rw [f9 _ _ (by omega) (by omega), f8 _ _ (by omega) (by omega), f7 _ _ (by omega) (by omega), f6 _ _ (by omega) (by omega), f5 _ _ (by omega) (by omega), f4 _ _ (by omega) (by omega), f3 _ _ (by omega) (by omega), f2 _ _ (by omega) (by omega), f1 _ _ (by omega) (by omega)]
  have R8 : g9 (w + 16) 3 = g (u + 16) 3 := by rw [f9 _ _ (by omega) (by omega)]; exact r8.trans (by rw [f7 _ _ (by omega) (by omega), f6 _ _ (by omega) (by omega), f5 _ _ (by omega) (by omega), f4 _ _ (by omega) (by omega), f3 _ _ (by omega) (by omega), f2 _ _ (by omega) (by omega), f1 _ _ (by omega) (by omega)])
  have A8 : ∀ k, k < 12 * 53 → g9 (w + 16 + 1) k = g (u + 16 + 1) k := fun k hk => by rw [f9 _ _ (by omega) (by omega)]; exact (a8 k hk).trans (by rw [f7 _ _ (by omega) (by omega), f6 _ _ (by omega) (by omega), f5 _ _ (by omega) (by omega), f4 _ _ (by omega) (by omega), f3 _ _ (by omega) (by omega), f2 _ _ (by omega) (by omega), f1 _ _ (by omega) (by omega)])
  have Z8 : ∀ k, k ≠ 3 → g9 (w + 16) k = g (w + 16) k := fun k hk => by rw [f9 _ _ (by omega) (by omega), f8 _ _ (by omega) (by omega), f7 _ _ (by omega) (by omega), f6 _ _ (by omega) (by omega), f5 _ _ (by omega) (by omega), f4 _ _ (by omega) (by omega), f3 _ _ (by omega) (by omega), f2 _ _ (by omega) (by omega), f1 _ _ (by omega) (by omega)]
  have R9 : g9 (w + 18) 3 = g (u + 18) 3 := by exact r9.trans (by rw [f8 _ _ (by omega) (by omega), f7 _ _ (by omega) (by omega), f6 _ _ (by omega) (by omega), f5 _ _ (by omega) (by omega), f4 _ _ (by omega) (by omega), f3 _ _ (by omega) (by omega), f2 _ _ (by omega) (by omega), f1 _ _ (by omega) (by omega)])
  have A9 : ∀ k, k < 50 * 1 → g9 (w + 18 + 1) k = g (u + 18 + 1) k := fun k hk => by exact (a9 k hk).trans (by rw [f8 _ _ (by omega) (by omega), f7 _ _ (by omega) (by omega), f6 _ _ (by omega) (by omega), f5 _ _ (by omega) (by omega), f4 _ _ (by omega) (by omega), f3 _ _ (by omega) (by omega), f2 _ _ (by omega) (by omega), f1 _ _ (by omega) (by omega)])
  have Z9 : ∀ k, k ≠ 3 → g9 (w + 18) k = g (w + 18) k := fun k hk => by rw [f9 _ _ (by omega) (by omega), f8 _ _ (by omega) (by omega), f7 _ _ (by omega) (by omega), f6 _ _ (by omega) (by omega), f5 _ _ (by omega) (by omega), f4 _ _ (by omega) (by omega), f3 _ _ (by omega) (by omega), f2 _ _ (by omega) (by omega), f1 _ _ (by omega) (by omega)]
  have hfin : ∀ p k, p ≠ w → q_up (q_up (q_up g9 w 8 (g9 u 8)) w 9 (g9 u 9)) w 10 (g9 u 10) p k = g9 p k := fun p k h => by rw [q_upN h, q_upN h, q_upN h]
  refine ⟨q_up (q_up (q_up g9 w 8 (g9 u 8)) w 9 (g9 u 9)) w 10 (g9 u 10), ?_, ⟨hw, ?_, ?_, ?_, ?_, ?_⟩, fun p k h => by rw [hfin _ _ (by omega)]; exact F p k h⟩
  · have hwu : u ≠ w := by omega
    simp only [B_X10_copyFrom_0 hw hu, B_X10_copyFrom_11 hw hu, B_X10_copyFrom_22 hw hu, B_X10_copyFrom_33 hw hu, B_X10_copyFrom_44 hw hu, B_X10_copyFrom_55 hw hu, B_X10_copyFrom_66 hw hu, B_X10_copyFrom_77 hw hu, B_X10_copyFrom_88 hw hu, B_X5_copyFrom_0 hw hu, B_X5_copyFrom_11 hw hu, B_X5_copyFrom_22 hw hu, Option.bind_some, Option.toList_some, Option.toList_none, List.cons_append, List.nil_append, e1, e2, e3, e4, e5, e6, e7, e8, e9, q_upN hwu]
  · intro q hq
    have hs := q_tbs_sm q hq
    have key : q_tr g9 (w + q.1) q.2.1 q.2.2.1 q.2.2.2.1 (N q.2.2.2.2.1) q.2.2.2.2.2 S := by
      have h0 := hr0.2.1 q hq
      have h1 := hr.2.1 q hq
      revert h0 h1
      unfold q_tbs at hq
      simp only [List.mem_cons, List.not_mem_nil, or_false] at hq
      rcases hq with rfl | rfl | rfl | rfl | rfl | rfl | rfl | rfl | rfl
      · intro h0 h1
        refine ⟨⟨(Z1 0 (by decide)).trans h0.1.1, (Z1 1 (by decide)).trans h0.1.2.1, R1.trans h1.1.2.2.1, h1.1.2.2.2⟩, fun c r hc hr => ?_⟩
        have hr2 := h1.1.2.2.2
        dsimp only at hc hr hr2 h1 ⊢
        exact (A1 _ (by omega)).trans (h1.2 c r hc hr)
      · intro h0 h1
        refine ⟨⟨(Z2 0 (by decide)).trans h0.1.1, (Z2 1 (by decide)).trans h0.1.2.1, R2.trans h1.1.2.2.1, h1.1.2.2.2⟩, fun c r hc hr => ?_⟩
        have hr2 := h1.1.2.2.2
        dsimp only at hc hr hr2 h1 ⊢
        exact (A2 _ (by omega)).trans (h1.2 c r hc hr)
      · intro h0 h1
        refine ⟨⟨(Z3 0 (by decide)).trans h0.1.1, (Z3 1 (by decide)).trans h0.1.2.1, R3.trans h1.1.2.2.1, h1.1.2.2.2⟩, fun c r hc hr => ?_⟩
        have hr2 := h1.1.2.2.2
        dsimp only at hc hr hr2 h1 ⊢
        exact (A3 _ (by omega)).trans (h1.2 c r hc hr)
      · intro h0 h1
        refine ⟨⟨(Z4 0 (by decide)).trans h0.1.1, (Z4 1 (by decide)).trans h0.1.2.1, R4.trans h1.1.2.2.1, h1.1.2.2.2⟩, fun c r hc hr => ?_⟩
        have hr2 := h1.1.2.2.2
        dsimp only at hc hr hr2 h1 ⊢
        exact (A4 _ (by omega)).trans (h1.2 c r hc hr)
      · intro h0 h1
        refine ⟨⟨(Z5 0 (by decide)).trans h0.1.1, (Z5 1 (by decide)).trans h0.1.2.1, R5.trans h1.1.2.2.1, h1.1.2.2.2⟩, fun c r hc hr => ?_⟩
        have hr2 := h1.1.2.2.2
        dsimp only at hc hr hr2 h1 ⊢
        exact (A5 _ (by omega)).trans (h1.2 c r hc hr)
      · intro h0 h1
        refine ⟨⟨(Z6 0 (by decide)).trans h0.1.1, (Z6 1 (by decide)).trans h0.1.2.1, R6.trans h1.1.2.2.1, h1.1.2.2.2⟩, fun c r hc hr => ?_⟩
        have hr2 := h1.1.2.2.2
        dsimp only at hc hr hr2 h1 ⊢
        exact (A6 _ (by omega)).trans (h1.2 c r hc hr)
      · intro h0 h1
        refine ⟨⟨(Z7 0 (by decide)).trans h0.1.1, (Z7 1 (by decide)).trans h0.1.2.1, R7.trans h1.1.2.2.1, h1.1.2.2.2⟩, fun c r hc hr => ?_⟩
        have hr2 := h1.1.2.2.2
        dsimp only at hc hr hr2 h1 ⊢
        exact (A7 _ (by omega)).trans (h1.2 c r hc hr)
      · intro h0 h1
        refine ⟨⟨(Z8 0 (by decide)).trans h0.1.1, (Z8 1 (by decide)).trans h0.1.2.1, R8.trans h1.1.2.2.1, h1.1.2.2.2⟩, fun c r hc hr => ?_⟩
        have hr2 := h1.1.2.2.2
        dsimp only at hc hr hr2 h1 ⊢
        exact (A8 _ (by omega)).trans (h1.2 c r hc hr)
      · intro h0 h1
        refine ⟨⟨(Z9 0 (by decide)).trans h0.1.1, (Z9 1 (by decide)).trans h0.1.2.1, R9.trans h1.1.2.2.1, h1.1.2.2.2⟩, fun c r hc hr => ?_⟩
        have hr2 := h1.1.2.2.2
        dsimp only at hc hr hr2 h1 ⊢
        exact (A9 _ (by omega)).trans (h1.2 c r hc hr)
    exact q_tr_fr key (fun k => hfin _ _ (by omega)) (fun k => hfin _ _ (by omega)) (fun _ _ _ _ _ => rfl)
  · intro r h1 i h2 h3
    have hN6 := n_cnt_ru hr
    rw [hfin _ _ (by omega)]
    exact (A8 (r * 53 + 3 + i) (by omega)).trans (hr.2.2.1 r h1 i h2 h3)
  · rw [q_upJ (by decide), q_upJ (by decide), q_upE, F _ _ (by omega)]; exact hr.2.2.2.1
  · rw [q_upJ (by decide), q_upE, F _ _ (by omega)]; exact hr.2.2.2.2.1
  · rw [q_upE, F _ _ (by omega)]; exact hr.2.2.2.2.2
end WCP
/-- the same rows, as far as they go -/
theorem m_frL {h h2 S : Nat → Nat → Int32} {N : Nat → Nat} (hm : repM h S N) (hh : ∀ q ∈ q_kpl, ∀ k, k < q.2 → h2 q.1 k = h q.1 k) : repM h2 S N := by
  have hN6 := m_c6 hm
  have hN5 := m_c5 hm
  have hl : ∀ q ∈ q_mps, (q.2.1, q.2.2.2) ∈ q_kpl := by decide
  refine ⟨?_, ?_, ?_, ?_, ?_, ?_, ?_, hm.2.2.2.2.2.2.2⟩
  · intro q hq
    have h1 := (hm.1 q hq).1
    exact ⟨h1, fun i hi => (hh _ (hl q hq) i (by dsimp only; omega)).trans ((hm.1 q hq).2 i hi)⟩
  · intro i h1 h3
    rw [hh (121, 16) (by decide) i (by dsimp only; omega)]
    exact hm.2.1 i h1 h3
  · intro r h1 i h3 h4
    rw [hh (129, 600) (by decide) _ (by dsimp only; omega), hh (130, 600) (by decide) _ (by dsimp only; omega)]
    exact hm.2.2.1 r h1 i h3 h4
  · intro j hj
    have := q_nms_1 j hj
    rw [hh (100, 12) (by decide) j (by dsimp only; omega)]
    exact hm.2.2.2.1 j hj
  · rw [hh (100, 12) (by decide) 7 (by decide)]; exact hm.2.2.2.2.1
  · rw [hh (100, 12) (by decide) 9 (by decide)]; exact hm.2.2.2.2.2.1
  · rw [hh (100, 12) (by decide) 10 (by decide)]; exact hm.2.2.2.2.2.2.1
theorem q_kpt_l : ∀ q ∈ q_kpl, ∃ z ∈ q_kpt, z.1 = q.1 ∧ z.2.1 = q.2 := by decide
theorem q_kpt_p : ∀ z ∈ q_kpt, 100 ≤ z.1 ∧ z.1 < 133 ∧ (z.1, z.2.1) ∈ q_kpl := by decide
theorem law_image {o : q_H} {n : Nat} {g : Nat → Nat → Int32} (hR : q_R n g) (ho : q_oR o) (d : Nat) : ∃ v g1 g2, q_sem (d + 30) mX11_image 0 [.ref 0] [] (q_K o g) = some (some (.int v), q_K o g1) ∧ q_sem (d + 30) mX12_image 0 [.ref 98] [] (q_K o g1) = some (some (.int v), q_K o g2) ∧ q_R (n + 1) g2 := by
  obtain ⟨⟨S, N, hr, hm, hk⟩, ha⟩ := id hR
  obtain ⟨k, Sk, Nk, i1, i2, i3, i4, i5, i6⟩ := ha.2.2.2.1
  obtain ⟨g1, e1, hr1, hf1⟩ := c_copyFrom (o := o) (w := 23) (u := 1) (by unfold q_W; omega) (by omega) i5 hr (d + 26)
  have hm1 : repM (q_up g1 0 10 (nI (k + 1))) S N := m_fr hm (fun p a b j => by rw [q_upN (by omega)]; exact hf1 _ _ (by omega))
  obtain ⟨g2, e2, I1, I2, I3⟩ := m_allOut (o := o) (b := 133) ⟨by decide, rfl, rfl⟩ (Or.inl rfl) (q_up g1 0 10 (nI (k + 1))) (d + 28)
  have hg1 : ∀ p j, ¬ (23 ≤ p ∧ p < 45) → p ≠ 0 → q_up g1 0 10 (nI (k + 1)) p j = g p j := fun p j h h0 => by rw [q_upN h0]; exact hf1 _ _ (by omega)
  have hfi : ∀ p j, p ≠ 133 → p ≠ 98 → q_up (q_up g2 98 37 1) 98 38 (nI (k + 1)) p j = q_up g1 0 10 (nI (k + 1)) p j := fun p j h h0 => by rw [q_upN h0, q_upN h0]; exact I2 p j h (by omega)
  have hall : ∀ p j, ¬ (23 ≤ p ∧ p < 45) → p ≠ 0 → p ≠ 133 → p ≠ 98 → q_up (q_up g2 98 37 1) 98 38 (nI (k + 1)) p j = g p j := fun p j h h0 h1 h2 => (hfi p j h1 h2).trans (hg1 p j h h0)
  refine ⟨nI (k + 1), q_up g1 0 10 (nI (k + 1)), q_up (q_up g2 98 37 1) 98 38 (nI (k + 1)), ?_, ?_, ⟨S, N, repC_fr hr (fun p j a b => hall _ _ (by omega) (by omega) (by omega) (by omega)), m_fr hm (fun p a b j => hall _ _ (by omega) (by omega) (by omega) (by omega)), hk⟩, fnd_fr ha.1 (fun j => hall _ _ (by omega) (by omega) (by omega) (by omega)) (fun j => hall _ _ (by omega) (by omega) (by omega) (by omega)), shs_fr ha.2.1 (fun p j z => hall _ _ (by omega) (by omega) (by omega) (by omega)), ?_, ⟨k + 1, S, N, by omega, ?_, ?_, ?_, ?_, fun _ => ⟨hk, g, hm, ?_⟩⟩, gss_fr ha.2.2.2.2.1 (fun p j z => hall _ _ (by omega) (by omega) (by omega) (by omega)), tis_fr ha.2.2.2.2.2 (fun p j z => hall _ _ (by omega) (by omega) (by omega) (by omega))⟩
  · have e10 : g1 0 10 = nI k := (hf1 _ _ (by omega)).trans i2
    simp only [B_X11_image_0, B_X11_image_11, Option.bind_some, Option.toList_some, Option.toList_none, List.cons_append, List.nil_append, e1, e10, nI_1, q_upE]
  · have e38 : g2 98 38 = nI k := by rw [I2 _ _ (by decide) (by decide), hg1 _ _ (by decide) (by decide)]; exact i3
    simp only [B_X12_image_0, B_X12_image_9, Option.bind_some, Option.toList_some, Option.toList_none, List.cons_append, List.nil_append, e2, q_upJ (show 38 ≠ 37 by decide), e38, nI_1, q_upE]
  · obtain ⟨R, t1, t2, t3⟩ := ha.2.2.1
    refine ⟨R, ti_fr t1 (fun j => hall _ _ (by decide) (by decide) (by decide) (by decide)), ?_, fun i hi => ?_⟩
    · rw [q_upJ (by decide), q_upJ (by decide), I2 _ _ (by decide) (by decide), hg1 _ _ (by decide) (by decide)]; exact t2
    · rw [hall _ _ (by decide) (by decide) (by decide) (by decide), hall _ _ (by decide) (by decide) (by decide) (by decide)]; exact t3 i hi
  · rw [hfi _ _ (by decide) (by decide), q_upE]
  · rw [q_upE]
  · rw [q_upJ (by decide), q_upE, if_neg (by omega)]
  · exact repC_fr hr1 (fun p j a b => by rw [hfi _ _ (by omega) (by omega), q_upN (by omega)])
  · intro q hq j hj
    have hz := q_kpt_p q hq
    rw [q_upN (by decide), q_upN (by decide), (I1 q hq).2 j hj, hg1 _ _ (by omega) (by omega)]
theorem law_restore {o : q_H} {n : Nat} {g : Nat → Nat → Int32} (hR : q_R n g) (ho : q_oR o) (d : Nat) (hn : n ≤ 512) : ∃ v g1 g2, q_sem (d + 30) mX11_restore 0 [.ref 0] [] (q_K o g) = some (some (.int v), q_K o g1) ∧ q_sem (d + 30) mX12_restore 0 [.ref 98] [] (q_K o g1) = some (some (.int v), q_K o g2) ∧ q_R n g2 := by
  obtain ⟨⟨S, N, hr, hm, hk⟩, ha⟩ := id hR
  obtain ⟨k, Sk, Nk, i1, i2, i3, i4, i5, i6⟩ := ha.2.2.2.1
  by_cases hk0 : k = 0
  · have h1 : g 0 10 = 0 := by rw [i2, hk0]; rfl
    have h2 : q_fb g 2 98 37 = 0 := by rw [q_fb_ne (by decide), i4, if_pos hk0]
    exact ⟨-1000002, q_fb g 2, q_fm (q_fb g 2) 2, by simp only [B_X11_restore_0, B_X11_restore_12, B_X11_restore_24, z_within, z_isCell, z_fin1, z_fin2, z_fin3, z_fin4, z_fin5, Option.bind_some, Option.toList_some, Option.toList_none, List.cons_append, List.nil_append, bI_t, bI_f, i10, i00, i11, i01, ↓reduceIte, Bool.false_eq_true, h1], (by have hm := repM_fb (k := 2) hm; simp only [B_X12_restore_0, B_X12_restore_13, B_X12_restore_23, y_in, y_isCell, y_fin1, y_fin2, y_fin3, y_fin4, y_fin5, Option.bind_some, Option.toList_some, Option.toList_none, List.cons_append, List.nil_append, bI_t, bI_f, i10, i00, i11, i01, ↓reduceIte, Bool.false_eq_true, h2]), R_fin hR (by decide)⟩
  obtain ⟨hkk, h, hmh, hI⟩ := i6 hk0
  obtain ⟨g1, e1, hr1, hf1⟩ := c_copyFrom (o := o) (w := 1) (u := 23) (by unfold q_W; omega) (by omega) hr i5 (d + 26)
  obtain ⟨g2, e2, I1, I2, I3⟩ := m_allIn (o := o) (b := 133) ⟨by decide, rfl, rfl⟩ (Or.inl rfl) g1 (d + 28)
  have hnp : ∀ p, ¬ (100 ≤ p ∧ p < 133) → ∀ q ∈ q_kpt, p ≠ q.1 := fun p hp q hq z => by have := q_kpt_p q hq; omega
  have hg2 : ∀ p j, ¬ (100 ≤ p ∧ p < 133) → ¬ (p = 98 ∧ j = 36) → g2 p j = g1 p j := fun p j h1 h2 => I2 p j (hnp p h1) h2
  have hm2 : repM g2 Sk Nk := m_frL hmh (fun q hq j hj => by
    obtain ⟨z, hz, z1, z2⟩ := q_kpt_l q hq
    have h1 := I1 z hz j (by omega)
    rw [z1] at h1
    rw [h1, hf1 _ _ (by omega), hI z hz j (by omega), z1])
  have e0 : ¬ g 0 10 = 0 := by rw [i2]; exact nI_ne0 (by omega) (by omega)
  refine ⟨Sk 0 7, g1, g2, ?_, ?_, R_mk (repC_fr hr1 (fun p j a b => hg2 _ _ (by omega) (by omega))) hm2 hkk ha (fun p j z => by unfold q_dep at z; exact (hg2 _ _ (by omega) (by omega)).trans (hf1 _ _ (by omega)))⟩
  · simp only [B_X11_restore_0, B_X11_restore_12, B_X11_restore_24, Option.bind_some, Option.toList_some, Option.toList_none, List.cons_append, List.nil_append, e0, ↓reduceIte, e1, hr1.2.2.2.1]
  · have e37 : ¬ g1 98 37 = 0 := by rw [hf1 _ _ (by omega), i4, if_neg hk0]; decide
    simp only [B_X12_restore_0, B_X12_restore_13, B_X12_restore_23, Option.bind_some, Option.toList_some, Option.toList_none, List.cons_append, List.nil_append, e37, ↓reduceIte, e2, hm2.2.2.2.2.1]
theorem law_ahead {o : q_H} {n : Nat} {g : Nat → Nat → Int32} (hR : q_R n g) (ho : q_oR o) (d : Nat) (x1 : Int32) (x2 : Int32) (x3 : Int32) : ∃ v g1 g2, q_sem (d + 30) mX11_ahead 0 [.ref 0, .int x1, .int x2, .int x3, .retAddr 0] [] (q_K o g) = some (some (.int v), q_K o g1) ∧ q_sem (d + 30) mX12_ahead 0 [.ref 98, .int x1, .int x2, .int x3, .retAddr 0] [] (q_K o g1) = some (some (.int v), q_K o g2) ∧ q_R n g2 := by
  obtain ⟨⟨S, N, hr, hm, hk⟩, ha⟩ := id hR
  have hN5 := n_cnt_fl hr
  have hN4 := n_cnt_to hr
  have hN3 := n_cnt_fi hr
  cases c1 : q_in x1 0 200
  · exact ⟨-1000001, q_fb g 1, q_fm (q_fb g 1) 1, by simp only [B_X11_ahead_0, B_X11_ahead_8, B_X11_ahead_40, B_X11_ahead_32, B_X11_ahead_74, B_X11_ahead_57, B_X11_ahead_82, B_X11_ahead_94, B_X11_ahead_164, B_X11_ahead_177, B_X11_ahead_190, B_X11_ahead_204, B_X11_ahead_217, B_X11_ahead_230, B_X11_ahead_110, z_within, z_isCell, z_fin1, z_fin2, z_fin3, z_fin4, z_fin5, Option.bind_some, Option.toList_some, Option.toList_none, List.cons_append, List.nil_append, bI_t, bI_f, i10, i00, i11, i01, ↓reduceIte, Bool.false_eq_true, c1], (by have hm := repM_fb (k := 1) hm; simp only [B_X12_ahead_0, B_X12_ahead_8, B_X12_ahead_59, B_X12_ahead_32, B_X12_ahead_50, B_X12_ahead_69, B_X12_ahead_174, B_X12_ahead_82, y_in, y_isCell, y_fin1, y_fin2, y_fin3, y_fin4, y_fin5, Option.bind_some, Option.toList_some, Option.toList_none, List.cons_append, List.nil_append, bI_t, bI_f, i10, i00, i11, i01, ↓reduceIte, Bool.false_eq_true, c1]), R_fin hR (by decide)⟩
  obtain ⟨k, _, hk200, rfl⟩ := q_in_t (a := 0) (b := 200) c1 (by decide) (by decide)
  obtain ⟨t, ht, et⟩ := hk.1.2.2.2.2.2.2
  have e8 : g 1 8 = nI t := hr.2.2.2.1.trans et
  have e7 : g 100 7 = nI t := hm.2.2.2.2.1.trans et
  have e7b : q_fb g 1 100 7 = nI t := (q_fb_ne (by decide)).trans e7
  by_cases c2 : t + k ≤ 1000
  rotate_left
  · have c3 : 1000 < nI (t + k) := (by decide : (1000 : Int32) = nI 1000) ▸ nI_lt (by omega) (by omega)
    exact ⟨-1000001, q_fb g 1, q_fm (q_fb g 1) 1, by simp only [B_X11_ahead_0, B_X11_ahead_8, B_X11_ahead_40, B_X11_ahead_32, B_X11_ahead_74, B_X11_ahead_57, B_X11_ahead_82, B_X11_ahead_94, B_X11_ahead_164, B_X11_ahead_177, B_X11_ahead_190, B_X11_ahead_204, B_X11_ahead_217, B_X11_ahead_230, B_X11_ahead_110, z_within, z_isCell, z_fin1, z_fin2, z_fin3, z_fin4, z_fin5, Option.bind_some, Option.toList_some, Option.toList_none, List.cons_append, List.nil_append, bI_t, bI_f, i10, i00, i11, i01, ↓reduceIte, Bool.false_eq_true, e8, nI_add, c1, c3], (by have hm := repM_fb (k := 1) hm; simp only [B_X12_ahead_0, B_X12_ahead_8, B_X12_ahead_59, B_X12_ahead_32, B_X12_ahead_50, B_X12_ahead_69, B_X12_ahead_174, B_X12_ahead_82, y_in, y_isCell, y_fin1, y_fin2, y_fin3, y_fin4, y_fin5, Option.bind_some, Option.toList_some, Option.toList_none, List.cons_append, List.nil_append, bI_t, bI_f, i10, i00, i11, i01, ↓reduceIte, Bool.false_eq_true, e7b, nI_add, c1, c3]), R_fin hR (by decide)⟩
  have c3 : ¬ 1000 < nI (t + k) := (by decide : (1000 : Int32) = nI 1000) ▸ nI_nlt c2 (by omega)
  cases c4 : q_in x2 0 5
  · exact ⟨-1000001, q_fb g 1, q_fm (q_fb g 1) 1, by simp only [B_X11_ahead_0, B_X11_ahead_8, B_X11_ahead_40, B_X11_ahead_32, B_X11_ahead_74, B_X11_ahead_57, B_X11_ahead_82, B_X11_ahead_94, B_X11_ahead_164, B_X11_ahead_177, B_X11_ahead_190, B_X11_ahead_204, B_X11_ahead_217, B_X11_ahead_230, B_X11_ahead_110, z_within, z_isCell, z_fin1, z_fin2, z_fin3, z_fin4, z_fin5, Option.bind_some, Option.toList_some, Option.toList_none, List.cons_append, List.nil_append, bI_t, bI_f, i10, i00, i11, i01, ↓reduceIte, Bool.false_eq_true, e8, nI_add, c1, c3, c4], (by have hm := repM_fb (k := 1) hm; simp only [B_X12_ahead_0, B_X12_ahead_8, B_X12_ahead_59, B_X12_ahead_32, B_X12_ahead_50, B_X12_ahead_69, B_X12_ahead_174, B_X12_ahead_82, y_in, y_isCell, y_fin1, y_fin2, y_fin3, y_fin4, y_fin5, Option.bind_some, Option.toList_some, Option.toList_none, List.cons_append, List.nil_append, bI_t, bI_f, i10, i00, i11, i01, ↓reduceIte, Bool.false_eq_true, e7b, nI_add, c1, c3, c4]), R_fin hR (by decide)⟩
  obtain ⟨S0, N0, hr0⟩ := ha.2.2.2.2.1
  obtain ⟨g1, e1, hr1, hf1⟩ := c_copyFrom (o := o) (w := 45) (u := 1) (by unfold q_W; omega) (by omega) hr0 hr (d + 26)
  have zl : ∀ j i g S t x2 x3, i + j = k → t + j ≤ 1000 → S 0 7 = nI t → repC 45 g S N → q_ok S N → ∃ g1, q_sem (d + 30) mX11_ahead 97 [.ref 0, .int (nI k), .int x2, .int x3, .int (nI i)] [] (q_K o g) = q_sem (d + 30) mX11_ahead 97 [.ref 0, .int (nI k), .int x2, .int x3, .int (nI k)] [] (q_K o g1) ∧ repC 45 g1 (q_psn N j S) N ∧ q_fr 45 g g1 := by
    intro j
    induction j with
    | zero =>
      intro i g S t x2 x3 hi ht et hr hk
      rw [show i = k by omega]
      exact ⟨g, rfl, hr, q_fr_rf⟩
    | succ j ih =>
      intro i g S t x2 x3 hi ht et hr hk
      have c4 : ¬ nI k ≤ nI i := nI_ge (by omega) (by omega)
      obtain ⟨g1, e1, hr1, hk1, hf1⟩ := c_pass (o := o) hr hk ho ⟨t, by omega, et⟩ (d + 23)
      obtain ⟨g2, e2, hr2, hf2⟩ := ih (i + 1) g1 (q_pass S N) (t + 1) x2 x3 (by omega) (by omega) (by rw [pass_min, et, nI_1]) hr1 hk1
      refine ⟨g2, ?_, hr2, q_fr_tr hf1 hf2⟩
      rw [B_X11_ahead_97, if_neg c4, e1]
      simp only [Option.bind_some, Option.toList_some, Option.toList_none, List.cons_append, List.nil_append, B_X11_ahead_110, nI_1]
      exact e2
  have ml : ∀ j i g S t x2 x3, i + j = k → t + j ≤ 1000 → S 0 7 = nI t → repM g S N → q_ok S N → ∃ g1, q_sem (d + 30) mX12_ahead 72 [.ref 98, .int (nI k), .int x2, .int x3, .int (nI i)] [] (q_K o g) = q_sem (d + 30) mX12_ahead 72 [.ref 98, .int (nI k), .int x2, .int x3, .int (nI k)] [] (q_K o g1) ∧ repM g1 (q_psn N j S) N ∧ q_fM g g1 := by
    intro j
    induction j with
    | zero =>
      intro i g S t x2 x3 hi ht et hm hk
      rw [show i = k by omega]
      exact ⟨g, rfl, hm, fM_rf⟩
    | succ j ih =>
      intro i g S t x2 x3 hi ht et hm hk
      have c4 : ¬ nI k ≤ nI i := nI_ge (by omega) (by omega)
      obtain ⟨g1, e1, hm1, hf1⟩ := m_ends (o := o) hm hk ho ⟨t, by omega, et⟩ (d + 23)
      have hk1 : q_ok (q_pass S N) N := ok_pass hk ⟨t, by omega, et⟩ (m_c5 hm) (m_c3 hm)
      obtain ⟨g2, e2, hm2, hf2⟩ := ih (i + 1) g1 (q_pass S N) (t + 1) x2 x3 (by omega) (by omega) (by rw [pass_min, et, nI_1]) hm1 hk1
      refine ⟨g2, ?_, hm2, fM_tr hf1 hf2⟩
      rw [B_X12_ahead_72, if_neg c4, e1]
      simp only [Option.bind_some, Option.toList_some, Option.toList_none, List.cons_append, List.nil_append, B_X12_ahead_82, nI_1]
      exact e2
  have ckk : nI k ≤ nI k := nI_le (Nat.le_refl _) (by omega)
  -- what stays behind it
  have fin : ∀ x2 x3, ∃ g2 g3 g4 g5, repC 45 g2 (q_psn N k S) N ∧ repM g4 (q_psn N k S) N ∧ repM g2 S N ∧ q_sem (d + 30) mX11_ahead 97 [.ref 0, .int (nI k), .int x2, .int x3, .int 0] [] (q_K o g1) = q_sem (d + 30) mX11_ahead 97 [.ref 0, .int (nI k), .int x2, .int x3, .int (nI k)] [] (q_K o g2) ∧ q_sem (d + 29) mX12_copiesAll 0 [.ref 98, .ref 134, .int 1] [] (q_K o g2) = some (none, q_K o g3) ∧ q_sem (d + 30) mX12_ahead 72 [.ref 98, .int (nI k), .int x2, .int x3, .int 0] [] (q_K o g3) = q_sem (d + 30) mX12_ahead 72 [.ref 98, .int (nI k), .int x2, .int x3, .int (nI k)] [] (q_K o g4) ∧ q_sem (d + 29) mX12_copiesAll 0 [.ref 98, .ref 134, .int 0] [] (q_K o g4) = some (none, q_K o g5) ∧ q_R n g5 := by
    intro x2 x3
    obtain ⟨g2, e2, hr2, hf2⟩ := zl k 0 g1 S t x2 x3 (by omega) c2 et hr1 hk
    have hf12 : ∀ p j, ¬ (45 ≤ p ∧ p < 67) → g2 p j = g p j := fun p j z => (hf2 _ _ (by omega)).trans (hf1 _ _ (by omega))
    have hm2 : repM g2 S N := m_fr hm (fun p a b j => hf12 _ _ (by omega))
    obtain ⟨g3, e3, I1, I2, I3⟩ := m_allOut (o := o) (b := 134) ⟨by decide, rfl, rfl⟩ (Or.inr rfl) g2 (d + 28)
    have hm3 : repM g3 S N := m_fr hm2 (fun p a b j => I2 _ _ (by omega) (by omega))
    obtain ⟨g4, e4, hm4, hf4⟩ := ml k 0 g3 S t x2 x3 (by omega) c2 et hm3 hk
    obtain ⟨g5, e5, J1, J2, J3⟩ := m_allIn (o := o) (b := 134) ⟨by decide, rfl, rfl⟩ (Or.inr rfl) g4 (d + 28)
    have hnp : ∀ p, ¬ (100 ≤ p ∧ p < 133) → ∀ q ∈ q_kpt, p ≠ q.1 := fun p hp q hq z => by have := q_kpt_p q hq; omega
    have hm5 : repM g5 S N := m_frL hm2 (fun q hq j hj => by
      obtain ⟨z, hz, z1, z2⟩ := q_kpt_l q hq
      have h1 := J1 z hz j (by omega)
      rw [z1] at h1
      have h2 := (I1 z hz).2 j (by omega)
      rw [z1] at h2
      rw [h1, hf4 _ _ (by omega), h2])
    have h25 : ∀ p j, p < 98 ∨ p = 99 ∨ (p = 98 ∧ (j = 37 ∨ j = 38 ∨ j = 68)) ∨ p = 133 ∨ (135 ≤ p ∧ p < 138) ∨ p = 149 → g5 p j = g2 p j := fun p j z => (J2 p j (hnp p (by omega)) (by omega)).trans ((hf4 p j (by omega)).trans (I2 p j (by omega) (by omega)))
    have hall : ∀ p j, (p < 45 ∨ (67 ≤ p ∧ p < 98)) ∨ p = 99 ∨ (p = 98 ∧ (j = 37 ∨ j = 38 ∨ j = 68)) ∨ p = 133 ∨ (135 ≤ p ∧ p < 138) ∨ p = 149 → g5 p j = g p j := fun p j z => (h25 p j (by omega)).trans (hf12 p j (by omega))
    rw [nI_0] at e2 e4
    refine ⟨g2, g3, g4, g5, hr2, hm4, hm2, e2, e3, e4, e5, ⟨S, N, repC_fr hr (fun p j a b => hall _ _ (by omega)), hm5, hk⟩, fnd_fr ha.1 (fun j => hall _ _ (by omega)) (fun j => hall _ _ (by omega)), shs_fr ha.2.1 (fun p j z => hall _ _ (by omega)), trc_fr ha.2.2.1 (fun p j z => hall _ _ (by omega)), img_fr ha.2.2.2.1 (fun p j z => hall _ _ (by omega)), ⟨_, _, repC_fr hr2 (fun p j a b => h25 _ _ (by omega))⟩, tis_fr ha.2.2.2.2.2 (fun p j z => hall _ _ (by omega))⟩
  rcases q_in5c c4 with rfl | rfl | rfl | rfl | rfl | rfl
  · cases c5 : q_hs x3 (N 5)
    · exact ⟨-1000001, q_fb g 1, q_fm (q_fb g 1) 1, by simp only [B_X11_ahead_0, B_X11_ahead_8, B_X11_ahead_40, B_X11_ahead_32, B_X11_ahead_74, B_X11_ahead_57, B_X11_ahead_82, B_X11_ahead_94, B_X11_ahead_164, B_X11_ahead_177, B_X11_ahead_190, B_X11_ahead_204, B_X11_ahead_217, B_X11_ahead_230, B_X11_ahead_110, z_within, z_isCell, z_fin1, z_fin2, z_fin3, z_fin4, z_fin5, Option.bind_some, Option.toList_some, Option.toList_none, List.cons_append, List.nil_append, bI_t, bI_f, i10, i00, i11, i01, ↓reduceIte, Bool.false_eq_true, e8, nI_add, z_has_fl hr, c1, c3, c4, (by decide : ¬ (4 : Int32) ≤ 0), c5], (by have hm := repM_fb (k := 1) hm; simp only [B_X12_ahead_0, B_X12_ahead_8, B_X12_ahead_59, B_X12_ahead_32, B_X12_ahead_50, B_X12_ahead_69, B_X12_ahead_174, B_X12_ahead_82, y_in, y_isCell, y_fin1, y_fin2, y_fin3, y_fin4, y_fin5, Option.bind_some, Option.toList_some, Option.toList_none, List.cons_append, List.nil_append, bI_t, bI_f, i10, i00, i11, i01, ↓reduceIte, Bool.false_eq_true, e7b, nI_add, y_isOf5 hm, c1, c3, c4, (by decide : ¬ (4 : Int32) ≤ 0), c5]), R_fin hR (by decide)⟩
    obtain ⟨i, hi, rfl⟩ := q_hs_t c5 (by omega)
    obtain ⟨g2, g3, g4, g5, hr2, hm4, hm2, e2, e3, e4, e5, hR5⟩ := fin 0 (nI i)
    have e7c : g2 100 7 = nI t := hm2.2.2.2.2.1.trans et
    have zg : ∀ d, q_sem (d + 1) mX7_get 0 [.ref 56, .int (nI i), .int 1] [] (q_K o g2) = some (some (.int (q_psn N k S 15 i)), q_K o g2) := fun d => (w_get_fl1 hr2 d (nI i)).trans (by rw [q_at_in hi (by omega)])
    refine ⟨q_psn N k S 15 i, g2, g5, ?_, ?_, hR5⟩
    · simp only [B_X11_ahead_0, B_X11_ahead_8, B_X11_ahead_32, B_X11_ahead_74, B_X11_ahead_57, B_X11_ahead_94, z_within, z_isCell, z_fin1, z_fin2, z_fin3, z_fin4, z_fin5, Option.bind_some, Option.toList_some, Option.toList_none, List.cons_append, List.nil_append, bI_t, bI_f, i10, i00, i11, i01, ↓reduceIte, Bool.false_eq_true, c1, e8, nI_add, c3, c4, (by decide : ¬ (4 : Int32) ≤ 0), z_has_fl hr, c5, e1, e2]
      rw [B_X11_ahead_97, if_pos ckk]
      simp only [z_within, z_isCell, z_fin1, z_fin2, z_fin3, z_fin4, z_fin5, Option.bind_some, Option.toList_some, Option.toList_none, List.cons_append, List.nil_append, bI_t, bI_f, i10, i00, i11, i01, ↓reduceIte, Bool.false_eq_true, zg, B_X11_ahead_8, B_X11_ahead_40, B_X11_ahead_32, B_X11_ahead_74, B_X11_ahead_57, B_X11_ahead_82, B_X11_ahead_94, B_X11_ahead_164, B_X11_ahead_177, B_X11_ahead_190, B_X11_ahead_204, B_X11_ahead_217, B_X11_ahead_230, B_X11_ahead_110]
    · simp only [B_X12_ahead_0, B_X12_ahead_8, B_X12_ahead_32, B_X12_ahead_50, B_X12_ahead_69, y_in, y_isCell, y_fin1, y_fin2, y_fin3, y_fin4, y_fin5, Option.bind_some, Option.toList_some, Option.toList_none, List.cons_append, List.nil_append, bI_t, bI_f, i10, i00, i11, i01, ↓reduceIte, Bool.false_eq_true, c1, e7c, nI_add, c3, c4, (by decide : ¬ (4 : Int32) ≤ 0), y_isOf5 hm2, c5, e3, e4]
      rw [B_X12_ahead_72, if_pos ckk]
      simp only [y_in, y_isCell, y_fin1, y_fin2, y_fin3, y_fin4, y_fin5, Option.bind_some, Option.toList_some, Option.toList_none, List.cons_append, List.nil_append, bI_t, bI_f, i10, i00, i11, i01, ↓reduceIte, Bool.false_eq_true, q_rgN (show i < 16 by omega) (show 16 < 2 ^ 31 by decide), m_f15 hm4 hi, e5, B_X12_ahead_174]
  · cases c5 : q_hs x3 (N 5)
    · exact ⟨-1000001, q_fb g 1, q_fm (q_fb g 1) 1, by simp only [B_X11_ahead_0, B_X11_ahead_8, B_X11_ahead_40, B_X11_ahead_32, B_X11_ahead_74, B_X11_ahead_57, B_X11_ahead_82, B_X11_ahead_94, B_X11_ahead_164, B_X11_ahead_177, B_X11_ahead_190, B_X11_ahead_204, B_X11_ahead_217, B_X11_ahead_230, B_X11_ahead_110, z_within, z_isCell, z_fin1, z_fin2, z_fin3, z_fin4, z_fin5, Option.bind_some, Option.toList_some, Option.toList_none, List.cons_append, List.nil_append, bI_t, bI_f, i10, i00, i11, i01, ↓reduceIte, Bool.false_eq_true, e8, nI_add, z_has_fl hr, c1, c3, c4, (by decide : ¬ (4 : Int32) ≤ 1), c5], (by have hm := repM_fb (k := 1) hm; simp only [B_X12_ahead_0, B_X12_ahead_8, B_X12_ahead_59, B_X12_ahead_32, B_X12_ahead_50, B_X12_ahead_69, B_X12_ahead_174, B_X12_ahead_82, y_in, y_isCell, y_fin1, y_fin2, y_fin3, y_fin4, y_fin5, Option.bind_some, Option.toList_some, Option.toList_none, List.cons_append, List.nil_append, bI_t, bI_f, i10, i00, i11, i01, ↓reduceIte, Bool.false_eq_true, e7b, nI_add, y_isOf5 hm, c1, c3, c4, (by decide : ¬ (4 : Int32) ≤ 1), c5]), R_fin hR (by decide)⟩
    obtain ⟨i, hi, rfl⟩ := q_hs_t c5 (by omega)
    obtain ⟨g2, g3, g4, g5, hr2, hm4, hm2, e2, e3, e4, e5, hR5⟩ := fin 1 (nI i)
    have e7c : g2 100 7 = nI t := hm2.2.2.2.2.1.trans et
    have zg : ∀ d, q_sem (d + 1) mX7_get 0 [.ref 56, .int (nI i), .int 2] [] (q_K o g2) = some (some (.int (q_psn N k S 16 i)), q_K o g2) := fun d => (w_get_fl2 hr2 d (nI i)).trans (by rw [q_at_in hi (by omega)])
    refine ⟨q_psn N k S 16 i, g2, g5, ?_, ?_, hR5⟩
    · simp only [B_X11_ahead_0, B_X11_ahead_8, B_X11_ahead_32, B_X11_ahead_74, B_X11_ahead_57, B_X11_ahead_94, z_within, z_isCell, z_fin1, z_fin2, z_fin3, z_fin4, z_fin5, Option.bind_some, Option.toList_some, Option.toList_none, List.cons_append, List.nil_append, bI_t, bI_f, i10, i00, i11, i01, ↓reduceIte, Bool.false_eq_true, c1, e8, nI_add, c3, c4, (by decide : ¬ (4 : Int32) ≤ 1), z_has_fl hr, c5, e1, e2]
      rw [B_X11_ahead_97, if_pos ckk]
      simp only [z_within, z_isCell, z_fin1, z_fin2, z_fin3, z_fin4, z_fin5, Option.bind_some, Option.toList_some, Option.toList_none, List.cons_append, List.nil_append, bI_t, bI_f, i10, i00, i11, i01, ↓reduceIte, Bool.false_eq_true, zg, B_X11_ahead_8, B_X11_ahead_40, B_X11_ahead_32, B_X11_ahead_74, B_X11_ahead_57, B_X11_ahead_82, B_X11_ahead_94, B_X11_ahead_164, B_X11_ahead_177, B_X11_ahead_190, B_X11_ahead_204, B_X11_ahead_217, B_X11_ahead_230, B_X11_ahead_110]
    · simp only [B_X12_ahead_0, B_X12_ahead_8, B_X12_ahead_32, B_X12_ahead_50, B_X12_ahead_69, y_in, y_isCell, y_fin1, y_fin2, y_fin3, y_fin4, y_fin5, Option.bind_some, Option.toList_some, Option.toList_none, List.cons_append, List.nil_append, bI_t, bI_f, i10, i00, i11, i01, ↓reduceIte, Bool.false_eq_true, c1, e7c, nI_add, c3, c4, (by decide : ¬ (4 : Int32) ≤ 1), y_isOf5 hm2, c5, e3, e4]
      rw [B_X12_ahead_72, if_pos ckk]
      simp only [y_in, y_isCell, y_fin1, y_fin2, y_fin3, y_fin4, y_fin5, Option.bind_some, Option.toList_some, Option.toList_none, List.cons_append, List.nil_append, bI_t, bI_f, i10, i00, i11, i01, ↓reduceIte, Bool.false_eq_true, q_rgN (show i < 16 by omega) (show 16 < 2 ^ 31 by decide), m_f16 hm4 hi, e5, B_X12_ahead_174]
  · cases c5 : q_hs x3 (N 5)
    · exact ⟨-1000001, q_fb g 1, q_fm (q_fb g 1) 1, by simp only [B_X11_ahead_0, B_X11_ahead_8, B_X11_ahead_40, B_X11_ahead_32, B_X11_ahead_74, B_X11_ahead_57, B_X11_ahead_82, B_X11_ahead_94, B_X11_ahead_164, B_X11_ahead_177, B_X11_ahead_190, B_X11_ahead_204, B_X11_ahead_217, B_X11_ahead_230, B_X11_ahead_110, z_within, z_isCell, z_fin1, z_fin2, z_fin3, z_fin4, z_fin5, Option.bind_some, Option.toList_some, Option.toList_none, List.cons_append, List.nil_append, bI_t, bI_f, i10, i00, i11, i01, ↓reduceIte, Bool.false_eq_true, e8, nI_add, z_has_fl hr, c1, c3, c4, (by decide : ¬ (4 : Int32) ≤ 2), c5], (by have hm := repM_fb (k := 1) hm; simp only [B_X12_ahead_0, B_X12_ahead_8, B_X12_ahead_59, B_X12_ahead_32, B_X12_ahead_50, B_X12_ahead_69, B_X12_ahead_174, B_X12_ahead_82, y_in, y_isCell, y_fin1, y_fin2, y_fin3, y_fin4, y_fin5, Option.bind_some, Option.toList_some, Option.toList_none, List.cons_append, List.nil_append, bI_t, bI_f, i10, i00, i11, i01, ↓reduceIte, Bool.false_eq_true, e7b, nI_add, y_isOf5 hm, c1, c3, c4, (by decide : ¬ (4 : Int32) ≤ 2), c5]), R_fin hR (by decide)⟩
    obtain ⟨i, hi, rfl⟩ := q_hs_t c5 (by omega)
    obtain ⟨g2, g3, g4, g5, hr2, hm4, hm2, e2, e3, e4, e5, hR5⟩ := fin 2 (nI i)
    have e7c : g2 100 7 = nI t := hm2.2.2.2.2.1.trans et
    have zg : ∀ d, q_sem (d + 1) mX7_get 0 [.ref 56, .int (nI i), .int 5] [] (q_K o g2) = some (some (.int (q_psn N k S 19 i)), q_K o g2) := fun d => (w_get_fl5 hr2 d (nI i)).trans (by rw [q_at_in hi (by omega)])
    refine ⟨q_psn N k S 19 i, g2, g5, ?_, ?_, hR5⟩
    · simp only [B_X11_ahead_0, B_X11_ahead_8, B_X11_ahead_32, B_X11_ahead_74, B_X11_ahead_57, B_X11_ahead_94, z_within, z_isCell, z_fin1, z_fin2, z_fin3, z_fin4, z_fin5, Option.bind_some, Option.toList_some, Option.toList_none, List.cons_append, List.nil_append, bI_t, bI_f, i10, i00, i11, i01, ↓reduceIte, Bool.false_eq_true, c1, e8, nI_add, c3, c4, (by decide : ¬ (4 : Int32) ≤ 2), z_has_fl hr, c5, e1, e2]
      rw [B_X11_ahead_97, if_pos ckk]
      simp only [z_within, z_isCell, z_fin1, z_fin2, z_fin3, z_fin4, z_fin5, Option.bind_some, Option.toList_some, Option.toList_none, List.cons_append, List.nil_append, bI_t, bI_f, i10, i00, i11, i01, ↓reduceIte, Bool.false_eq_true, zg, B_X11_ahead_8, B_X11_ahead_40, B_X11_ahead_32, B_X11_ahead_74, B_X11_ahead_57, B_X11_ahead_82, B_X11_ahead_94, B_X11_ahead_164, B_X11_ahead_177, B_X11_ahead_190, B_X11_ahead_204, B_X11_ahead_217, B_X11_ahead_230, B_X11_ahead_110, (by decide : ¬ (2 : Int32) = 0), (by decide : ¬ (2 : Int32) = 1)]
    · simp only [B_X12_ahead_0, B_X12_ahead_8, B_X12_ahead_32, B_X12_ahead_50, B_X12_ahead_69, y_in, y_isCell, y_fin1, y_fin2, y_fin3, y_fin4, y_fin5, Option.bind_some, Option.toList_some, Option.toList_none, List.cons_append, List.nil_append, bI_t, bI_f, i10, i00, i11, i01, ↓reduceIte, Bool.false_eq_true, c1, e7c, nI_add, c3, c4, (by decide : ¬ (4 : Int32) ≤ 2), y_isOf5 hm2, c5, e3, e4]
      rw [B_X12_ahead_72, if_pos ckk]
      simp only [y_in, y_isCell, y_fin1, y_fin2, y_fin3, y_fin4, y_fin5, Option.bind_some, Option.toList_some, Option.toList_none, List.cons_append, List.nil_append, bI_t, bI_f, i10, i00, i11, i01, ↓reduceIte, Bool.false_eq_true, q_rgN (show i < 16 by omega) (show 16 < 2 ^ 31 by decide), m_f19 hm4 hi, e5, B_X12_ahead_174, (by decide : ¬ (2 : Int32) = 0), (by decide : ¬ (2 : Int32) = 1)]
  · cases c5 : q_hs x3 (N 5)
    · exact ⟨-1000001, q_fb g 1, q_fm (q_fb g 1) 1, by simp only [B_X11_ahead_0, B_X11_ahead_8, B_X11_ahead_40, B_X11_ahead_32, B_X11_ahead_74, B_X11_ahead_57, B_X11_ahead_82, B_X11_ahead_94, B_X11_ahead_164, B_X11_ahead_177, B_X11_ahead_190, B_X11_ahead_204, B_X11_ahead_217, B_X11_ahead_230, B_X11_ahead_110, z_within, z_isCell, z_fin1, z_fin2, z_fin3, z_fin4, z_fin5, Option.bind_some, Option.toList_some, Option.toList_none, List.cons_append, List.nil_append, bI_t, bI_f, i10, i00, i11, i01, ↓reduceIte, Bool.false_eq_true, e8, nI_add, z_has_fl hr, c1, c3, c4, (by decide : ¬ (4 : Int32) ≤ 3), c5], (by have hm := repM_fb (k := 1) hm; simp only [B_X12_ahead_0, B_X12_ahead_8, B_X12_ahead_59, B_X12_ahead_32, B_X12_ahead_50, B_X12_ahead_69, B_X12_ahead_174, B_X12_ahead_82, y_in, y_isCell, y_fin1, y_fin2, y_fin3, y_fin4, y_fin5, Option.bind_some, Option.toList_some, Option.toList_none, List.cons_append, List.nil_append, bI_t, bI_f, i10, i00, i11, i01, ↓reduceIte, Bool.false_eq_true, e7b, nI_add, y_isOf5 hm, c1, c3, c4, (by decide : ¬ (4 : Int32) ≤ 3), c5]), R_fin hR (by decide)⟩
    obtain ⟨i, hi, rfl⟩ := q_hs_t c5 (by omega)
    obtain ⟨g2, g3, g4, g5, hr2, hm4, hm2, e2, e3, e4, e5, hR5⟩ := fin 3 (nI i)
    have e7c : g2 100 7 = nI t := hm2.2.2.2.2.1.trans et
    have zg : ∀ d, q_sem (d + 1) mX7_get 0 [.ref 56, .int (nI i), .int 6] [] (q_K o g2) = some (some (.int (q_psn N k S 20 i)), q_K o g2) := fun d => (w_get_fl6 hr2 d (nI i)).trans (by rw [q_at_in hi (by omega)])
    refine ⟨q_psn N k S 20 i, g2, g5, ?_, ?_, hR5⟩
    · simp only [B_X11_ahead_0, B_X11_ahead_8, B_X11_ahead_32, B_X11_ahead_74, B_X11_ahead_57, B_X11_ahead_94, z_within, z_isCell, z_fin1, z_fin2, z_fin3, z_fin4, z_fin5, Option.bind_some, Option.toList_some, Option.toList_none, List.cons_append, List.nil_append, bI_t, bI_f, i10, i00, i11, i01, ↓reduceIte, Bool.false_eq_true, c1, e8, nI_add, c3, c4, (by decide : ¬ (4 : Int32) ≤ 3), z_has_fl hr, c5, e1, e2]
      rw [B_X11_ahead_97, if_pos ckk]
      simp only [z_within, z_isCell, z_fin1, z_fin2, z_fin3, z_fin4, z_fin5, Option.bind_some, Option.toList_some, Option.toList_none, List.cons_append, List.nil_append, bI_t, bI_f, i10, i00, i11, i01, ↓reduceIte, Bool.false_eq_true, zg, B_X11_ahead_8, B_X11_ahead_40, B_X11_ahead_32, B_X11_ahead_74, B_X11_ahead_57, B_X11_ahead_82, B_X11_ahead_94, B_X11_ahead_164, B_X11_ahead_177, B_X11_ahead_190, B_X11_ahead_204, B_X11_ahead_217, B_X11_ahead_230, B_X11_ahead_110, (by decide : ¬ (3 : Int32) = 0), (by decide : ¬ (3 : Int32) = 1), (by decide : ¬ (3 : Int32) = 2)]
    · simp only [B_X12_ahead_0, B_X12_ahead_8, B_X12_ahead_32, B_X12_ahead_50, B_X12_ahead_69, y_in, y_isCell, y_fin1, y_fin2, y_fin3, y_fin4, y_fin5, Option.bind_some, Option.toList_some, Option.toList_none, List.cons_append, List.nil_append, bI_t, bI_f, i10, i00, i11, i01, ↓reduceIte, Bool.false_eq_true, c1, e7c, nI_add, c3, c4, (by decide : ¬ (4 : Int32) ≤ 3), y_isOf5 hm2, c5, e3, e4]
      rw [B_X12_ahead_72, if_pos ckk]
      simp only [y_in, y_isCell, y_fin1, y_fin2, y_fin3, y_fin4, y_fin5, Option.bind_some, Option.toList_some, Option.toList_none, List.cons_append, List.nil_append, bI_t, bI_f, i10, i00, i11, i01, ↓reduceIte, Bool.false_eq_true, q_rgN (show i < 16 by omega) (show 16 < 2 ^ 31 by decide), m_f20 hm4 hi, e5, B_X12_ahead_174, (by decide : ¬ (3 : Int32) = 0), (by decide : ¬ (3 : Int32) = 1), (by decide : ¬ (3 : Int32) = 2)]
  · cases c5 : q_hs x3 (N 4)
    · exact ⟨-1000001, q_fb g 1, q_fm (q_fb g 1) 1, by simp only [B_X11_ahead_0, B_X11_ahead_8, B_X11_ahead_40, B_X11_ahead_32, B_X11_ahead_74, B_X11_ahead_57, B_X11_ahead_82, B_X11_ahead_94, B_X11_ahead_164, B_X11_ahead_177, B_X11_ahead_190, B_X11_ahead_204, B_X11_ahead_217, B_X11_ahead_230, B_X11_ahead_110, z_within, z_isCell, z_fin1, z_fin2, z_fin3, z_fin4, z_fin5, Option.bind_some, Option.toList_some, Option.toList_none, List.cons_append, List.nil_append, bI_t, bI_f, i10, i00, i11, i01, ↓reduceIte, Bool.false_eq_true, e8, nI_add, z_has_to hr, c1, c3, c4, (by decide : (4 : Int32) ≤ 4), c5], (by have hm := repM_fb (k := 1) hm; simp only [B_X12_ahead_0, B_X12_ahead_8, B_X12_ahead_59, B_X12_ahead_32, B_X12_ahead_50, B_X12_ahead_69, B_X12_ahead_174, B_X12_ahead_82, y_in, y_isCell, y_fin1, y_fin2, y_fin3, y_fin4, y_fin5, Option.bind_some, Option.toList_some, Option.toList_none, List.cons_append, List.nil_append, bI_t, bI_f, i10, i00, i11, i01, ↓reduceIte, Bool.false_eq_true, e7b, nI_add, y_isOf4 hm, c1, c3, c4, (by decide : (4 : Int32) ≤ 4), c5]), R_fin hR (by decide)⟩
    obtain ⟨i, hi, rfl⟩ := q_hs_t c5 (by omega)
    obtain ⟨g2, g3, g4, g5, hr2, hm4, hm2, e2, e3, e4, e5, hR5⟩ := fin 4 (nI i)
    have e7c : g2 100 7 = nI t := hm2.2.2.2.2.1.trans et
    have zg : ∀ d, q_sem (d + 1) mX7_get 0 [.ref 54, .int (nI i), .int 2] [] (q_K o g2) = some (some (.int (q_psn N k S 12 i)), q_K o g2) := fun d => (w_get_to2 hr2 d (nI i)).trans (by rw [q_at_in hi (by omega)])
    refine ⟨q_psn N k S 12 i, g2, g5, ?_, ?_, hR5⟩
    · simp only [B_X11_ahead_0, B_X11_ahead_8, B_X11_ahead_32, B_X11_ahead_74, B_X11_ahead_57, B_X11_ahead_94, z_within, z_isCell, z_fin1, z_fin2, z_fin3, z_fin4, z_fin5, Option.bind_some, Option.toList_some, Option.toList_none, List.cons_append, List.nil_append, bI_t, bI_f, i10, i00, i11, i01, ↓reduceIte, Bool.false_eq_true, c1, e8, nI_add, c3, c4, (by decide : (4 : Int32) ≤ 4), z_has_to hr, c5, e1, e2]
      rw [B_X11_ahead_97, if_pos ckk]
      simp only [z_within, z_isCell, z_fin1, z_fin2, z_fin3, z_fin4, z_fin5, Option.bind_some, Option.toList_some, Option.toList_none, List.cons_append, List.nil_append, bI_t, bI_f, i10, i00, i11, i01, ↓reduceIte, Bool.false_eq_true, zg, B_X11_ahead_8, B_X11_ahead_40, B_X11_ahead_32, B_X11_ahead_74, B_X11_ahead_57, B_X11_ahead_82, B_X11_ahead_94, B_X11_ahead_164, B_X11_ahead_177, B_X11_ahead_190, B_X11_ahead_204, B_X11_ahead_217, B_X11_ahead_230, B_X11_ahead_110, (by decide : ¬ (4 : Int32) = 0), (by decide : ¬ (4 : Int32) = 1), (by decide : ¬ (4 : Int32) = 2), (by decide : ¬ (4 : Int32) = 3)]
    · simp only [B_X12_ahead_0, B_X12_ahead_8, B_X12_ahead_32, B_X12_ahead_50, B_X12_ahead_69, y_in, y_isCell, y_fin1, y_fin2, y_fin3, y_fin4, y_fin5, Option.bind_some, Option.toList_some, Option.toList_none, List.cons_append, List.nil_append, bI_t, bI_f, i10, i00, i11, i01, ↓reduceIte, Bool.false_eq_true, c1, e7c, nI_add, c3, c4, (by decide : (4 : Int32) ≤ 4), y_isOf4 hm2, c5, e3, e4]
      rw [B_X12_ahead_72, if_pos ckk]
      simp only [y_in, y_isCell, y_fin1, y_fin2, y_fin3, y_fin4, y_fin5, Option.bind_some, Option.toList_some, Option.toList_none, List.cons_append, List.nil_append, bI_t, bI_f, i10, i00, i11, i01, ↓reduceIte, Bool.false_eq_true, q_rgN (show i < 6 by omega) (show 6 < 2 ^ 31 by decide), m_f12 hm4 hi, e5, B_X12_ahead_174, (by decide : ¬ (4 : Int32) = 0), (by decide : ¬ (4 : Int32) = 1), (by decide : ¬ (4 : Int32) = 2), (by decide : ¬ (4 : Int32) = 3)]
  · cases c5 : q_hs x3 (N 4)
    · exact ⟨-1000001, q_fb g 1, q_fm (q_fb g 1) 1, by simp only [B_X11_ahead_0, B_X11_ahead_8, B_X11_ahead_40, B_X11_ahead_32, B_X11_ahead_74, B_X11_ahead_57, B_X11_ahead_82, B_X11_ahead_94, B_X11_ahead_164, B_X11_ahead_177, B_X11_ahead_190, B_X11_ahead_204, B_X11_ahead_217, B_X11_ahead_230, B_X11_ahead_110, z_within, z_isCell, z_fin1, z_fin2, z_fin3, z_fin4, z_fin5, Option.bind_some, Option.toList_some, Option.toList_none, List.cons_append, List.nil_append, bI_t, bI_f, i10, i00, i11, i01, ↓reduceIte, Bool.false_eq_true, e8, nI_add, z_has_to hr, c1, c3, c4, (by decide : (4 : Int32) ≤ 5), c5], (by have hm := repM_fb (k := 1) hm; simp only [B_X12_ahead_0, B_X12_ahead_8, B_X12_ahead_59, B_X12_ahead_32, B_X12_ahead_50, B_X12_ahead_69, B_X12_ahead_174, B_X12_ahead_82, y_in, y_isCell, y_fin1, y_fin2, y_fin3, y_fin4, y_fin5, Option.bind_some, Option.toList_some, Option.toList_none, List.cons_append, List.nil_append, bI_t, bI_f, i10, i00, i11, i01, ↓reduceIte, Bool.false_eq_true, e7b, nI_add, y_isOf4 hm, c1, c3, c4, (by decide : (4 : Int32) ≤ 5), c5]), R_fin hR (by decide)⟩
    obtain ⟨i, hi, rfl⟩ := q_hs_t c5 (by omega)
    obtain ⟨g2, g3, g4, g5, hr2, hm4, hm2, e2, e3, e4, e5, hR5⟩ := fin 5 (nI i)
    have e7c : g2 100 7 = nI t := hm2.2.2.2.2.1.trans et
    have zg : ∀ d, q_sem (d + 1) mX7_get 0 [.ref 54, .int (nI i), .int 3] [] (q_K o g2) = some (some (.int (q_psn N k S 13 i)), q_K o g2) := fun d => (w_get_to3 hr2 d (nI i)).trans (by rw [q_at_in hi (by omega)])
    refine ⟨q_psn N k S 13 i, g2, g5, ?_, ?_, hR5⟩
    · simp only [B_X11_ahead_0, B_X11_ahead_8, B_X11_ahead_32, B_X11_ahead_74, B_X11_ahead_57, B_X11_ahead_94, z_within, z_isCell, z_fin1, z_fin2, z_fin3, z_fin4, z_fin5, Option.bind_some, Option.toList_some, Option.toList_none, List.cons_append, List.nil_append, bI_t, bI_f, i10, i00, i11, i01, ↓reduceIte, Bool.false_eq_true, c1, e8, nI_add, c3, c4, (by decide : (4 : Int32) ≤ 5), z_has_to hr, c5, e1, e2]
      rw [B_X11_ahead_97, if_pos ckk]
      simp only [z_within, z_isCell, z_fin1, z_fin2, z_fin3, z_fin4, z_fin5, Option.bind_some, Option.toList_some, Option.toList_none, List.cons_append, List.nil_append, bI_t, bI_f, i10, i00, i11, i01, ↓reduceIte, Bool.false_eq_true, zg, B_X11_ahead_8, B_X11_ahead_40, B_X11_ahead_32, B_X11_ahead_74, B_X11_ahead_57, B_X11_ahead_82, B_X11_ahead_94, B_X11_ahead_164, B_X11_ahead_177, B_X11_ahead_190, B_X11_ahead_204, B_X11_ahead_217, B_X11_ahead_230, B_X11_ahead_110, (by decide : ¬ (5 : Int32) = 0), (by decide : ¬ (5 : Int32) = 1), (by decide : ¬ (5 : Int32) = 2), (by decide : ¬ (5 : Int32) = 3), (by decide : ¬ (5 : Int32) = 4)]
    · simp only [B_X12_ahead_0, B_X12_ahead_8, B_X12_ahead_32, B_X12_ahead_50, B_X12_ahead_69, y_in, y_isCell, y_fin1, y_fin2, y_fin3, y_fin4, y_fin5, Option.bind_some, Option.toList_some, Option.toList_none, List.cons_append, List.nil_append, bI_t, bI_f, i10, i00, i11, i01, ↓reduceIte, Bool.false_eq_true, c1, e7c, nI_add, c3, c4, (by decide : (4 : Int32) ≤ 5), y_isOf4 hm2, c5, e3, e4]
      rw [B_X12_ahead_72, if_pos ckk]
      simp only [y_in, y_isCell, y_fin1, y_fin2, y_fin3, y_fin4, y_fin5, Option.bind_some, Option.toList_some, Option.toList_none, List.cons_append, List.nil_append, bI_t, bI_f, i10, i00, i11, i01, ↓reduceIte, Bool.false_eq_true, q_rgN (show i < 6 by omega) (show 6 < 2 ^ 31 by decide), m_f13 hm4 hi, e5, B_X12_ahead_174, (by decide : ¬ (5 : Int32) = 0), (by decide : ¬ (5 : Int32) = 1), (by decide : ¬ (5 : Int32) = 2), (by decide : ¬ (5 : Int32) = 3), (by decide : ¬ (5 : Int32) = 4)]
