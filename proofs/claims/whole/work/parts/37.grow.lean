/-! a row more, on both sides -/
theorem repM_fb {g S : Nat → Nat → Int32} {N : Nat → Nat} {k : Nat} (hm : repM g S N) : repM (q_fb g k) S N := m_fr hm (fun p a b j => q_upN (by omega))
theorem fw_gr {S S2 : Nat → Nat → Int32} {N N2 : Nat → Nat} {i : Nat} (h : q_fw S N i) (hS : ∀ f, 14 ≤ f → f < 26 → S2 f i = S f i) (h3 : N 3 ≤ N2 3) (h5 : N 5 ≤ N2 5) (hj : ∀ j, j < N 5 → S2 14 j = S 14 j) : q_fw S2 N2 i := by
  obtain ⟨a, b, c, e, f⟩ := h
  unfold q_fw
  rw [hS 15 (by decide) (by decide), hS 14 (by decide) (by decide), hS 18 (by decide) (by decide), hS 20 (by decide) (by decide), hS 19 (by decide) (by decide), hS 25 (by decide) (by decide), hS 21 (by decide) (by decide), hS 22 (by decide) (by decide), hS 23 (by decide) (by decide)]
  refine ⟨a, b, c, e, fun z => ?_⟩
  obtain ⟨⟨x, x1, x2⟩, f2, f3, f4⟩ := f z
  refine ⟨⟨x, by omega, x2⟩, f2, f3, ?_⟩
  rcases f4 with f4 | ⟨j, j1, j2, j3⟩
  · exact Or.inl f4
  · exact Or.inr ⟨j, by omega, j2, by rw [hj j j1]; exact j3⟩
theorem ok_N {S : Nat → Nat → Int32} {N N2 : Nat → Nat} (h : q_ok S N) (hN : ∀ j, j < 7 → N2 j = N j) : q_ok S N2 := by
  have h0 := hN 0 (by decide); have h1 := hN 1 (by decide); have h2 := hN 2 (by decide); have h3 := hN 3 (by decide); have h4 := hN 4 (by decide); have h5 := hN 5 (by decide); have h6 := hN 6 (by decide)
  unfold q_ok q_wf q_rw q_fw
  simp only [h0, h1, h2, h3, h4, h5, h6]
  exact h
theorem q_mps0 : ∀ q ∈ q_mps, q.2.2.1 = 0 → q = (1, 101, 0, 6) ∨ q = (2, 102, 0, 6) ∨ q = (3, 103, 0, 6) := by
  intro q hq e
  have h : ∀ q ∈ q_mps, q.2.2.1 = 0 → q ∈ ([(1, 101, 0, 6), (2, 102, 0, 6), (3, 103, 0, 6)] : List (Nat × Nat × Nat × Nat)) := by decide
  have h2 := h q hq e
  simp only [List.mem_cons, List.not_mem_nil, or_false] at h2
  exact h2
theorem q_mpsn0 : ∀ q ∈ q_mps, q.2.2.1 ≠ 0 → (q.1 < 1 ∨ 4 ≤ q.1) ∧ (q.2.1 < 101 ∨ 104 ≤ q.2.1) := by decide
theorem m_gr_ma {h h2 S S2 : Nat → Nat → Int32} {N : Nat → Nat} (hm : repM h S N) (hN : N 0 < 6) (hS : ∀ f k, (k ≠ N 0 ∨ f < 1 ∨ 4 ≤ f) → S2 f k = S f k) (hh : ∀ p k, 100 ≤ p → p < 133 → ((k ≠ N 0 ∨ p < 101 ∨ 104 ≤ p) ∧ (p = 100 → k ≠ 0)) → h2 p k = h p k) (hn : h2 100 0 = nI (N 0 + 1)) (e1 : h2 101 (N 0) = S2 1 (N 0)) (e2 : h2 102 (N 0) = S2 2 (N 0)) (e3 : h2 103 (N 0) = S2 3 (N 0)) : repM h2 S2 (q_nu N 0 (N 0 + 1)) := by
  refine m_add hm (c := 0) (by decide) (by decide) hn ?_ ?_ ?_ ?_ ?_ ?_ (fun z => absurd z (by decide))
  · intro q hq e
    rcases q_mps0 q hq e with rfl | rfl | rfl <;> exact hN
  · intro q hq e
    rcases q_mps0 q hq e with rfl | rfl | rfl
    · exact e1
    · exact e2
    · exact e3
  · intro q k a b c e
    refine hh q k a b ⟨?_, fun z => by omega⟩
    rcases e with e | e | e | e | ⟨z, hz, rfl, e⟩
    · exact Or.inl e
    · omega
    · omega
    · omega
    · have := q_mpsn0 z hz e; omega
  · intro f k e
    refine hS f k ?_
    rcases e with e | e | e | ⟨z, hz, rfl, e⟩
    · exact Or.inl e
    · omega
    · omega
    · have := q_mpsn0 z hz e; omega
  · intro z; exact absurd z (by decide)
  · intro _ k; exact ⟨hh 121 k (by decide) (by decide) ⟨by omega, by omega⟩, hS 25 k (by omega)⟩
theorem ok_gr_ma {S S2 : Nat → Nat → Int32} {N : Nat → Nat} (hk : q_ok S N) (hS : ∀ f k, (k ≠ N 0 ∨ f < 1 ∨ 4 ≤ f) → S2 f k = S f k) (hc : q_ce (S2 1 (N 0))) : q_ok S2 (q_nu N 0 (N 0 + 1)) := by
  refine ⟨⟨?_, ?_, ?_, ?_, ?_, ?_, ?_⟩, rw_of hk.2 (q_nu_ne (by decide)) (fun _ => hS _ _ (by omega)) (fun _ => hS _ _ (by omega))⟩
  · intro i hi
    rw [q_nu_eq] at hi
    by_cases e : i = N 0
    · subst e; exact hc
    · rw [hS _ _ (by omega)]; exact hk.1.1 i (by omega)
  · intro i hi
    rw [q_nu_ne (by decide)] at hi
    rw [hS _ _ (by omega)]; exact hk.1.2.1 i hi
  · intro i hi
    rw [q_nu_ne (by decide)] at hi
    rw [hS _ _ (by omega)]; exact hk.1.2.2.1 i hi
  · intro i hi
    rw [q_nu_ne (by decide)] at hi
    rw [hS _ _ (by omega)]; exact hk.1.2.2.2.1 i hi
  · intro i hi
    rw [q_nu_ne (by decide)] at hi
    rw [hS _ _ (by omega)]; exact hk.1.2.2.2.2.1 i hi
  · intro i hi
    rw [q_nu_ne (by decide)] at hi
    exact fw_gr (hk.1.2.2.2.2.2.1 i hi) (fun f a b => hS _ _ (by omega)) (by rw [q_nu_ne (by decide)]; omega) (by rw [q_nu_ne (by decide)]; omega) (fun j _ => hS _ _ (by omega))
  · rw [hS 0 7 (by omega)]; exact hk.1.2.2.2.2.2.2
theorem q_mps1 : ∀ q ∈ q_mps, q.2.2.1 = 1 → q = (4, 104, 1, 8) ∨ q = (5, 105, 1, 8) := by
  intro q hq e
  have h : ∀ q ∈ q_mps, q.2.2.1 = 1 → q ∈ ([(4, 104, 1, 8), (5, 105, 1, 8)] : List (Nat × Nat × Nat × Nat)) := by decide
  have h2 := h q hq e
  simp only [List.mem_cons, List.not_mem_nil, or_false] at h2
  exact h2
theorem q_mpsn1 : ∀ q ∈ q_mps, q.2.2.1 ≠ 1 → (q.1 < 4 ∨ 6 ≤ q.1) ∧ (q.2.1 < 104 ∨ 106 ≤ q.2.1) := by decide
theorem m_gr_po {h h2 S S2 : Nat → Nat → Int32} {N : Nat → Nat} (hm : repM h S N) (hN : N 1 < 8) (hS : ∀ f k, (k ≠ N 1 ∨ f < 4 ∨ 6 ≤ f) → S2 f k = S f k) (hh : ∀ p k, 100 ≤ p → p < 133 → ((k ≠ N 1 ∨ p < 104 ∨ 106 ≤ p) ∧ (p = 100 → k ≠ 1)) → h2 p k = h p k) (hn : h2 100 1 = nI (N 1 + 1)) (e4 : h2 104 (N 1) = S2 4 (N 1)) (e5 : h2 105 (N 1) = S2 5 (N 1)) : repM h2 S2 (q_nu N 1 (N 1 + 1)) := by
  refine m_add hm (c := 1) (by decide) (by decide) hn ?_ ?_ ?_ ?_ ?_ ?_ (fun z => absurd z (by decide))
  · intro q hq e
    rcases q_mps1 q hq e with rfl | rfl <;> exact hN
  · intro q hq e
    rcases q_mps1 q hq e with rfl | rfl
    · exact e4
    · exact e5
  · intro q k a b c e
    refine hh q k a b ⟨?_, fun z => by omega⟩
    rcases e with e | e | e | e | ⟨z, hz, rfl, e⟩
    · exact Or.inl e
    · omega
    · omega
    · omega
    · have := q_mpsn1 z hz e; omega
  · intro f k e
    refine hS f k ?_
    rcases e with e | e | e | ⟨z, hz, rfl, e⟩
    · exact Or.inl e
    · omega
    · omega
    · have := q_mpsn1 z hz e; omega
  · intro z; exact absurd z (by decide)
  · intro _ k; exact ⟨hh 121 k (by decide) (by decide) ⟨by omega, by omega⟩, hS 25 k (by omega)⟩
theorem ok_gr_po {S S2 : Nat → Nat → Int32} {N : Nat → Nat} (hk : q_ok S N) (hS : ∀ f k, (k ≠ N 1 ∨ f < 4 ∨ 6 ≤ f) → S2 f k = S f k) (hc : q_ce (S2 4 (N 1))) : q_ok S2 (q_nu N 1 (N 1 + 1)) := by
  refine ⟨⟨?_, ?_, ?_, ?_, ?_, ?_, ?_⟩, rw_of hk.2 (q_nu_ne (by decide)) (fun _ => hS _ _ (by omega)) (fun _ => hS _ _ (by omega))⟩
  · intro i hi
    rw [q_nu_ne (by decide)] at hi
    rw [hS _ _ (by omega)]; exact hk.1.1 i hi
  · intro i hi
    rw [q_nu_eq] at hi
    by_cases e : i = N 1
    · subst e; exact hc
    · rw [hS _ _ (by omega)]; exact hk.1.2.1 i (by omega)
  · intro i hi
    rw [q_nu_ne (by decide)] at hi
    rw [hS _ _ (by omega)]; exact hk.1.2.2.1 i hi
  · intro i hi
    rw [q_nu_ne (by decide)] at hi
    rw [hS _ _ (by omega)]; exact hk.1.2.2.2.1 i hi
  · intro i hi
    rw [q_nu_ne (by decide)] at hi
    rw [hS _ _ (by omega)]; exact hk.1.2.2.2.2.1 i hi
  · intro i hi
    rw [q_nu_ne (by decide)] at hi
    exact fw_gr (hk.1.2.2.2.2.2.1 i hi) (fun f a b => hS _ _ (by omega)) (by rw [q_nu_ne (by decide)]; omega) (by rw [q_nu_ne (by decide)]; omega) (fun j _ => hS _ _ (by omega))
  · rw [hS 0 7 (by omega)]; exact hk.1.2.2.2.2.2.2
theorem q_mps2 : ∀ q ∈ q_mps, q.2.2.1 = 2 → q = (6, 106, 2, 24) ∨ q = (7, 107, 2, 24) ∨ q = (8, 108, 2, 24) := by
  intro q hq e
  have h : ∀ q ∈ q_mps, q.2.2.1 = 2 → q ∈ ([(6, 106, 2, 24), (7, 107, 2, 24), (8, 108, 2, 24)] : List (Nat × Nat × Nat × Nat)) := by decide
  have h2 := h q hq e
  simp only [List.mem_cons, List.not_mem_nil, or_false] at h2
  exact h2
theorem q_mpsn2 : ∀ q ∈ q_mps, q.2.2.1 ≠ 2 → (q.1 < 6 ∨ 9 ≤ q.1) ∧ (q.2.1 < 106 ∨ 109 ≤ q.2.1) := by decide
theorem m_gr_pl {h h2 S S2 : Nat → Nat → Int32} {N : Nat → Nat} (hm : repM h S N) (hN : N 2 < 24) (hS : ∀ f k, (k ≠ N 2 ∨ f < 6 ∨ 9 ≤ f) → S2 f k = S f k) (hh : ∀ p k, 100 ≤ p → p < 133 → ((k ≠ N 2 ∨ p < 106 ∨ 109 ≤ p) ∧ (p = 100 → k ≠ 2)) → h2 p k = h p k) (hn : h2 100 2 = nI (N 2 + 1)) (e6 : h2 106 (N 2) = S2 6 (N 2)) (e7 : h2 107 (N 2) = S2 7 (N 2)) (e8 : h2 108 (N 2) = S2 8 (N 2)) : repM h2 S2 (q_nu N 2 (N 2 + 1)) := by
  refine m_add hm (c := 2) (by decide) (by decide) hn ?_ ?_ ?_ ?_ ?_ ?_ (fun z => absurd z (by decide))
  · intro q hq e
    rcases q_mps2 q hq e with rfl | rfl | rfl <;> exact hN
  · intro q hq e
    rcases q_mps2 q hq e with rfl | rfl | rfl
    · exact e6
    · exact e7
    · exact e8
  · intro q k a b c e
    refine hh q k a b ⟨?_, fun z => by omega⟩
    rcases e with e | e | e | e | ⟨z, hz, rfl, e⟩
    · exact Or.inl e
    · omega
    · omega
    · omega
    · have := q_mpsn2 z hz e; omega
  · intro f k e
    refine hS f k ?_
    rcases e with e | e | e | ⟨z, hz, rfl, e⟩
    · exact Or.inl e
    · omega
    · omega
    · have := q_mpsn2 z hz e; omega
  · intro z; exact absurd z (by decide)
  · intro _ k; exact ⟨hh 121 k (by decide) (by decide) ⟨by omega, by omega⟩, hS 25 k (by omega)⟩
theorem ok_gr_pl {S S2 : Nat → Nat → Int32} {N : Nat → Nat} (hk : q_ok S N) (hS : ∀ f k, (k ≠ N 2 ∨ f < 6 ∨ 9 ≤ f) → S2 f k = S f k) (hc : q_ce (S2 6 (N 2))) : q_ok S2 (q_nu N 2 (N 2 + 1)) := by
  refine ⟨⟨?_, ?_, ?_, ?_, ?_, ?_, ?_⟩, rw_of hk.2 (q_nu_ne (by decide)) (fun _ => hS _ _ (by omega)) (fun _ => hS _ _ (by omega))⟩
  · intro i hi
    rw [q_nu_ne (by decide)] at hi
    rw [hS _ _ (by omega)]; exact hk.1.1 i hi
  · intro i hi
    rw [q_nu_ne (by decide)] at hi
    rw [hS _ _ (by omega)]; exact hk.1.2.1 i hi
  · intro i hi
    rw [q_nu_eq] at hi
    by_cases e : i = N 2
    · subst e; exact hc
    · rw [hS _ _ (by omega)]; exact hk.1.2.2.1 i (by omega)
  · intro i hi
    rw [q_nu_ne (by decide)] at hi
    rw [hS _ _ (by omega)]; exact hk.1.2.2.2.1 i hi
  · intro i hi
    rw [q_nu_ne (by decide)] at hi
    rw [hS _ _ (by omega)]; exact hk.1.2.2.2.2.1 i hi
  · intro i hi
    rw [q_nu_ne (by decide)] at hi
    exact fw_gr (hk.1.2.2.2.2.2.1 i hi) (fun f a b => hS _ _ (by omega)) (by rw [q_nu_ne (by decide)]; omega) (by rw [q_nu_ne (by decide)]; omega) (fun j _ => hS _ _ (by omega))
  · rw [hS 0 7 (by omega)]; exact hk.1.2.2.2.2.2.2
theorem q_mps3 : ∀ q ∈ q_mps, q.2.2.1 = 3 → q = (9, 109, 3, 5) := by
  intro q hq e
  have h : ∀ q ∈ q_mps, q.2.2.1 = 3 → q ∈ ([(9, 109, 3, 5)] : List (Nat × Nat × Nat × Nat)) := by decide
  have h2 := h q hq e
  simp only [List.mem_cons, List.not_mem_nil, or_false] at h2
  exact h2
theorem q_mpsn3 : ∀ q ∈ q_mps, q.2.2.1 ≠ 3 → (q.1 < 9 ∨ 10 ≤ q.1) ∧ (q.2.1 < 109 ∨ 110 ≤ q.2.1) := by decide
theorem m_gr_fi {h h2 S S2 : Nat → Nat → Int32} {N : Nat → Nat} (hm : repM h S N) (hN : N 3 < 5) (hS : ∀ f k, (k ≠ N 3 ∨ f < 9 ∨ 10 ≤ f) → S2 f k = S f k) (hh : ∀ p k, 100 ≤ p → p < 133 → ((k ≠ N 3 ∨ p < 109 ∨ 110 ≤ p) ∧ (p = 100 → k ≠ 3)) → h2 p k = h p k) (hn : h2 100 3 = nI (N 3 + 1)) (e9 : h2 109 (N 3) = S2 9 (N 3)) : repM h2 S2 (q_nu N 3 (N 3 + 1)) := by
  refine m_add hm (c := 3) (by decide) (by decide) hn ?_ ?_ ?_ ?_ ?_ ?_ (fun z => absurd z (by decide))
  · intro q hq e
    rcases q_mps3 q hq e with rfl <;> exact hN
  · intro q hq e
    rcases q_mps3 q hq e with rfl
    · exact e9
  · intro q k a b c e
    refine hh q k a b ⟨?_, fun z => by omega⟩
    rcases e with e | e | e | e | ⟨z, hz, rfl, e⟩
    · exact Or.inl e
    · omega
    · omega
    · omega
    · have := q_mpsn3 z hz e; omega
  · intro f k e
    refine hS f k ?_
    rcases e with e | e | e | ⟨z, hz, rfl, e⟩
    · exact Or.inl e
    · omega
    · omega
    · have := q_mpsn3 z hz e; omega
  · intro z; exact absurd z (by decide)
  · intro _ k; exact ⟨hh 121 k (by decide) (by decide) ⟨by omega, by omega⟩, hS 25 k (by omega)⟩
theorem ok_gr_fi {S S2 : Nat → Nat → Int32} {N : Nat → Nat} (hk : q_ok S N) (hS : ∀ f k, (k ≠ N 3 ∨ f < 9 ∨ 10 ≤ f) → S2 f k = S f k) (hc : q_ce (S2 9 (N 3))) : q_ok S2 (q_nu N 3 (N 3 + 1)) := by
  refine ⟨⟨?_, ?_, ?_, ?_, ?_, ?_, ?_⟩, rw_of hk.2 (q_nu_ne (by decide)) (fun _ => hS _ _ (by omega)) (fun _ => hS _ _ (by omega))⟩
  · intro i hi
    rw [q_nu_ne (by decide)] at hi
    rw [hS _ _ (by omega)]; exact hk.1.1 i hi
  · intro i hi
    rw [q_nu_ne (by decide)] at hi
    rw [hS _ _ (by omega)]; exact hk.1.2.1 i hi
  · intro i hi
    rw [q_nu_ne (by decide)] at hi
    rw [hS _ _ (by omega)]; exact hk.1.2.2.1 i hi
  · intro i hi
    rw [q_nu_eq] at hi
    by_cases e : i = N 3
    · subst e; exact hc
    · rw [hS _ _ (by omega)]; exact hk.1.2.2.2.1 i (by omega)
  · intro i hi
    rw [q_nu_ne (by decide)] at hi
    rw [hS _ _ (by omega)]; exact hk.1.2.2.2.2.1 i hi
  · intro i hi
    rw [q_nu_ne (by decide)] at hi
    exact fw_gr (hk.1.2.2.2.2.2.1 i hi) (fun f a b => hS _ _ (by omega)) (by rw [q_nu_eq]; omega) (by rw [q_nu_ne (by decide)]; omega) (fun j _ => hS _ _ (by omega))
  · rw [hS 0 7 (by omega)]; exact hk.1.2.2.2.2.2.2
theorem q_mps4 : ∀ q ∈ q_mps, q.2.2.1 = 4 → q = (10, 110, 4, 6) ∨ q = (11, 111, 4, 6) ∨ q = (12, 112, 4, 6) ∨ q = (13, 113, 4, 6) := by
  intro q hq e
  have h : ∀ q ∈ q_mps, q.2.2.1 = 4 → q ∈ ([(10, 110, 4, 6), (11, 111, 4, 6), (12, 112, 4, 6), (13, 113, 4, 6)] : List (Nat × Nat × Nat × Nat)) := by decide
  have h2 := h q hq e
  simp only [List.mem_cons, List.not_mem_nil, or_false] at h2
  exact h2
theorem q_mpsn4 : ∀ q ∈ q_mps, q.2.2.1 ≠ 4 → (q.1 < 10 ∨ 14 ≤ q.1) ∧ (q.2.1 < 110 ∨ 114 ≤ q.2.1) := by decide
theorem m_gr_to {h h2 S S2 : Nat → Nat → Int32} {N : Nat → Nat} (hm : repM h S N) (hN : N 4 < 6) (hS : ∀ f k, (k ≠ N 4 ∨ f < 10 ∨ 14 ≤ f) → S2 f k = S f k) (hh : ∀ p k, 100 ≤ p → p < 133 → ((k ≠ N 4 ∨ p < 110 ∨ 114 ≤ p) ∧ (p = 100 → k ≠ 4)) → h2 p k = h p k) (hn : h2 100 4 = nI (N 4 + 1)) (e10 : h2 110 (N 4) = S2 10 (N 4)) (e11 : h2 111 (N 4) = S2 11 (N 4)) (e12 : h2 112 (N 4) = S2 12 (N 4)) (e13 : h2 113 (N 4) = S2 13 (N 4)) : repM h2 S2 (q_nu N 4 (N 4 + 1)) := by
  refine m_add hm (c := 4) (by decide) (by decide) hn ?_ ?_ ?_ ?_ ?_ ?_ (fun z => absurd z (by decide))
  · intro q hq e
    rcases q_mps4 q hq e with rfl | rfl | rfl | rfl <;> exact hN
  · intro q hq e
    rcases q_mps4 q hq e with rfl | rfl | rfl | rfl
    · exact e10
    · exact e11
    · exact e12
    · exact e13
  · intro q k a b c e
    refine hh q k a b ⟨?_, fun z => by omega⟩
    rcases e with e | e | e | e | ⟨z, hz, rfl, e⟩
    · exact Or.inl e
    · omega
    · omega
    · omega
    · have := q_mpsn4 z hz e; omega
  · intro f k e
    refine hS f k ?_
    rcases e with e | e | e | ⟨z, hz, rfl, e⟩
    · exact Or.inl e
    · omega
    · omega
    · have := q_mpsn4 z hz e; omega
  · intro z; exact absurd z (by decide)
  · intro _ k; exact ⟨hh 121 k (by decide) (by decide) ⟨by omega, by omega⟩, hS 25 k (by omega)⟩
theorem ok_gr_to {S S2 : Nat → Nat → Int32} {N : Nat → Nat} (hk : q_ok S N) (hS : ∀ f k, (k ≠ N 4 ∨ f < 10 ∨ 14 ≤ f) → S2 f k = S f k) (hc : q_ce (S2 10 (N 4))) : q_ok S2 (q_nu N 4 (N 4 + 1)) := by
  refine ⟨⟨?_, ?_, ?_, ?_, ?_, ?_, ?_⟩, rw_of hk.2 (q_nu_ne (by decide)) (fun _ => hS _ _ (by omega)) (fun _ => hS _ _ (by omega))⟩
  · intro i hi
    rw [q_nu_ne (by decide)] at hi
    rw [hS _ _ (by omega)]; exact hk.1.1 i hi
  · intro i hi
    rw [q_nu_ne (by decide)] at hi
    rw [hS _ _ (by omega)]; exact hk.1.2.1 i hi
  · intro i hi
    rw [q_nu_ne (by decide)] at hi
    rw [hS _ _ (by omega)]; exact hk.1.2.2.1 i hi
  · intro i hi
    rw [q_nu_ne (by decide)] at hi
    rw [hS _ _ (by omega)]; exact hk.1.2.2.2.1 i hi
  · intro i hi
    rw [q_nu_eq] at hi
    by_cases e : i = N 4
    · subst e; exact hc
    · rw [hS _ _ (by omega)]; exact hk.1.2.2.2.2.1 i (by omega)
  · intro i hi
    rw [q_nu_ne (by decide)] at hi
    exact fw_gr (hk.1.2.2.2.2.2.1 i hi) (fun f a b => hS _ _ (by omega)) (by rw [q_nu_ne (by decide)]; omega) (by rw [q_nu_ne (by decide)]; omega) (fun j _ => hS _ _ (by omega))
  · rw [hS 0 7 (by omega)]; exact hk.1.2.2.2.2.2.2
theorem q_mps5 : ∀ q ∈ q_mps, q.2.2.1 = 5 → q = (14, 114, 5, 16) ∨ q = (15, 115, 5, 16) ∨ q = (16, 116, 5, 16) ∨ q = (17, 117, 5, 16) ∨ q = (18, 118, 5, 16) ∨ q = (19, 119, 5, 16) ∨ q = (20, 120, 5, 16) ∨ q = (21, 122, 5, 16) ∨ q = (22, 123, 5, 16) ∨ q = (23, 124, 5, 16) ∨ q = (24, 125, 5, 16) := by
  intro q hq e
  have h : ∀ q ∈ q_mps, q.2.2.1 = 5 → q ∈ ([(14, 114, 5, 16), (15, 115, 5, 16), (16, 116, 5, 16), (17, 117, 5, 16), (18, 118, 5, 16), (19, 119, 5, 16), (20, 120, 5, 16), (21, 122, 5, 16), (22, 123, 5, 16), (23, 124, 5, 16), (24, 125, 5, 16)] : List (Nat × Nat × Nat × Nat)) := by decide
  have h2 := h q hq e
  simp only [List.mem_cons, List.not_mem_nil, or_false] at h2
  exact h2
theorem q_mpsn5 : ∀ q ∈ q_mps, q.2.2.1 ≠ 5 → (q.1 < 14 ∨ 26 ≤ q.1) ∧ (q.2.1 < 114 ∨ 126 ≤ q.2.1) := by decide
theorem m_gr_fl {h h2 S S2 : Nat → Nat → Int32} {N : Nat → Nat} (hm : repM h S N) (hN : N 5 < 16) (hS : ∀ f k, (k ≠ N 5 ∨ f < 14 ∨ 26 ≤ f) → S2 f k = S f k) (hh : ∀ p k, 100 ≤ p → p < 133 → ((k ≠ N 5 ∨ p < 114 ∨ 126 ≤ p) ∧ (p = 100 → k ≠ 5)) → h2 p k = h p k) (hn : h2 100 5 = nI (N 5 + 1)) (e14 : h2 114 (N 5) = S2 14 (N 5)) (e15 : h2 115 (N 5) = S2 15 (N 5)) (e16 : h2 116 (N 5) = S2 16 (N 5)) (e17 : h2 117 (N 5) = S2 17 (N 5)) (e18 : h2 118 (N 5) = S2 18 (N 5)) (e19 : h2 119 (N 5) = S2 19 (N 5)) (e20 : h2 120 (N 5) = S2 20 (N 5)) (e21 : h2 122 (N 5) = S2 21 (N 5)) (e22 : h2 123 (N 5) = S2 22 (N 5)) (e23 : h2 124 (N 5) = S2 23 (N 5)) (e24 : h2 125 (N 5) = S2 24 (N 5)) (e25 : 3 < S2 14 (N 5) → h2 121 (N 5) = S2 25 (N 5)) : repM h2 S2 (q_nu N 5 (N 5 + 1)) := by
  refine m_add hm (c := 5) (by decide) (by decide) hn ?_ ?_ ?_ ?_ ?_ ?_ (fun z => absurd z (by decide))
  · intro q hq e
    rcases q_mps5 q hq e with rfl | rfl | rfl | rfl | rfl | rfl | rfl | rfl | rfl | rfl | rfl <;> exact hN
  · intro q hq e
    rcases q_mps5 q hq e with rfl | rfl | rfl | rfl | rfl | rfl | rfl | rfl | rfl | rfl | rfl
    · exact e14
    · exact e15
    · exact e16
    · exact e17
    · exact e18
    · exact e19
    · exact e20
    · exact e21
    · exact e22
    · exact e23
    · exact e24
  · intro q k a b c e
    refine hh q k a b ⟨?_, fun z => by omega⟩
    rcases e with e | e | e | e | ⟨z, hz, rfl, e⟩
    · exact Or.inl e
    · omega
    · omega
    · omega
    · have := q_mpsn5 z hz e; omega
  · intro f k e
    refine hS f k ?_
    rcases e with e | e | e | ⟨z, hz, rfl, e⟩
    · exact Or.inl e
    · omega
    · omega
    · have := q_mpsn5 z hz e; omega
  · intro _ z; exact e25 z
  · intro z; exact absurd rfl z
theorem ok_gr_fl {S S2 : Nat → Nat → Int32} {N : Nat → Nat} (hk : q_ok S N) (hS : ∀ f k, (k ≠ N 5 ∨ f < 14 ∨ 26 ≤ f) → S2 f k = S f k) (hc : q_fw S2 (q_nu N 5 (N 5 + 1)) (N 5)) : q_ok S2 (q_nu N 5 (N 5 + 1)) := by
  refine ⟨⟨?_, ?_, ?_, ?_, ?_, ?_, ?_⟩, rw_of hk.2 (q_nu_ne (by decide)) (fun _ => hS _ _ (by omega)) (fun _ => hS _ _ (by omega))⟩
  · intro i hi
    rw [q_nu_ne (by decide)] at hi
    rw [hS _ _ (by omega)]; exact hk.1.1 i hi
  · intro i hi
    rw [q_nu_ne (by decide)] at hi
    rw [hS _ _ (by omega)]; exact hk.1.2.1 i hi
  · intro i hi
    rw [q_nu_ne (by decide)] at hi
    rw [hS _ _ (by omega)]; exact hk.1.2.2.1 i hi
  · intro i hi
    rw [q_nu_ne (by decide)] at hi
    rw [hS _ _ (by omega)]; exact hk.1.2.2.2.1 i hi
  · intro i hi
    rw [q_nu_ne (by decide)] at hi
    rw [hS _ _ (by omega)]; exact hk.1.2.2.2.2.1 i hi
  · intro i hi
    rw [q_nu_eq] at hi
    by_cases e : i = N 5
    · subst e; exact hc
    · exact fw_gr (hk.1.2.2.2.2.2.1 i (by omega)) (fun f a b => hS _ _ (by omega)) (by rw [q_nu_ne (by decide)]; omega) (by rw [q_nu_eq]; omega) (fun j _ => hS _ _ (by omega))
  · rw [hS 0 7 (by omega)]; exact hk.1.2.2.2.2.2.2
theorem q_mps11 : ∀ q ∈ q_mps, q.2.2.1 = 11 → q = (32, 132, 11, 20) := by
  intro q hq e
  have h : ∀ q ∈ q_mps, q.2.2.1 = 11 → q ∈ ([(32, 132, 11, 20)] : List (Nat × Nat × Nat × Nat)) := by decide
  have h2 := h q hq e
  simp only [List.mem_cons, List.not_mem_nil, or_false] at h2
  exact h2
theorem q_mpsn11 : ∀ q ∈ q_mps, q.2.2.1 ≠ 11 → (q.1 < 32 ∨ 33 ≤ q.1) ∧ (q.2.1 < 132 ∨ 133 ≤ q.2.1) := by decide
theorem m_gr_wa {h h2 S S2 : Nat → Nat → Int32} {N : Nat → Nat} (hm : repM h S N) (hN : N 11 < 20) (hS : ∀ f k, (k ≠ N 11 ∨ f < 32 ∨ 33 ≤ f) → S2 f k = S f k) (hh : ∀ p k, 100 ≤ p → p < 133 → ((k ≠ N 11 ∨ p < 132 ∨ 133 ≤ p) ∧ (p = 100 → k ≠ 11)) → h2 p k = h p k) (hn : h2 100 11 = nI (N 11 + 1)) (e32 : h2 132 (N 11) = S2 32 (N 11)) : repM h2 S2 (q_nu N 11 (N 11 + 1)) := by
  refine m_add hm (c := 11) (by decide) (by decide) hn ?_ ?_ ?_ ?_ ?_ ?_ (fun z => absurd z (by decide))
  · intro q hq e
    rcases q_mps11 q hq e with rfl <;> exact hN
  · intro q hq e
    rcases q_mps11 q hq e with rfl
    · exact e32
  · intro q k a b c e
    refine hh q k a b ⟨?_, fun z => by omega⟩
    rcases e with e | e | e | e | ⟨z, hz, rfl, e⟩
    · exact Or.inl e
    · omega
    · omega
    · omega
    · have := q_mpsn11 z hz e; omega
  · intro f k e
    refine hS f k ?_
    rcases e with e | e | e | ⟨z, hz, rfl, e⟩
    · exact Or.inl e
    · omega
    · omega
    · have := q_mpsn11 z hz e; omega
  · intro z; exact absurd z (by decide)
  · intro _ k; exact ⟨hh 121 k (by decide) (by decide) ⟨by omega, by omega⟩, hS 25 k (by omega)⟩
theorem ok_gr_wa {S S2 : Nat → Nat → Int32} {N : Nat → Nat} (hk : q_ok S N) (hS : ∀ f k, (k ≠ N 11 ∨ f < 32 ∨ 33 ≤ f) → S2 f k = S f k) : q_ok S2 (q_nu N 11 (N 11 + 1)) := by
  refine ⟨⟨?_, ?_, ?_, ?_, ?_, ?_, ?_⟩, rw_of hk.2 (q_nu_ne (by decide)) (fun _ => hS _ _ (by omega)) (fun _ => hS _ _ (by omega))⟩
  · intro i hi
    rw [q_nu_ne (by decide)] at hi
    rw [hS _ _ (by omega)]; exact hk.1.1 i hi
  · intro i hi
    rw [q_nu_ne (by decide)] at hi
    rw [hS _ _ (by omega)]; exact hk.1.2.1 i hi
  · intro i hi
    rw [q_nu_ne (by decide)] at hi
    rw [hS _ _ (by omega)]; exact hk.1.2.2.1 i hi
  · intro i hi
    rw [q_nu_ne (by decide)] at hi
    rw [hS _ _ (by omega)]; exact hk.1.2.2.2.1 i hi
  · intro i hi
    rw [q_nu_ne (by decide)] at hi
    rw [hS _ _ (by omega)]; exact hk.1.2.2.2.2.1 i hi
  · intro i hi
    rw [q_nu_ne (by decide)] at hi
    exact fw_gr (hk.1.2.2.2.2.2.1 i hi) (fun f a b => hS _ _ (by omega)) (by rw [q_nu_ne (by decide)]; omega) (by rw [q_nu_ne (by decide)]; omega) (fun j _ => hS _ _ (by omega))
  · rw [hS 0 7 (by omega)]; exact hk.1.2.2.2.2.2.2
theorem q_mps8 : ∀ q ∈ q_mps, q.2.2.1 = 8 → q = (31, 131, 8, 50) := by
  intro q hq e
  have h : ∀ q ∈ q_mps, q.2.2.1 = 8 → q ∈ ([(31, 131, 8, 50)] : List (Nat × Nat × Nat × Nat)) := by decide
  have h2 := h q hq e
  simp only [List.mem_cons, List.not_mem_nil, or_false] at h2
  exact h2
theorem q_mpsn8 : ∀ q ∈ q_mps, q.2.2.1 ≠ 8 → (q.1 < 31 ∨ 32 ≤ q.1) ∧ (q.2.1 < 131 ∨ 132 ≤ q.2.1) := by decide
theorem m_gr_ta {h h2 S S2 : Nat → Nat → Int32} {N : Nat → Nat} (hm : repM h S N) (hN : N 8 < 50) (hS : ∀ f k, (k ≠ N 8 ∨ f < 31 ∨ 32 ≤ f) → S2 f k = S f k) (hh : ∀ p k, 100 ≤ p → p < 133 → ((k ≠ N 8 ∨ p < 131 ∨ 132 ≤ p) ∧ (p = 100 → k ≠ 8)) → h2 p k = h p k) (hn : h2 100 8 = nI (N 8 + 1)) (e31 : h2 131 (N 8) = S2 31 (N 8)) (hb : q_ce (S2 31 (N 8))) : repM h2 S2 (q_nu N 8 (N 8 + 1)) := by
  refine m_add hm (c := 8) (by decide) (by decide) hn ?_ ?_ ?_ ?_ ?_ ?_ (fun _ => hb)
  · intro q hq e
    rcases q_mps8 q hq e with rfl <;> exact hN
  · intro q hq e
    rcases q_mps8 q hq e with rfl
    · exact e31
  · intro q k a b c e
    refine hh q k a b ⟨?_, fun z => by omega⟩
    rcases e with e | e | e | e | ⟨z, hz, rfl, e⟩
    · exact Or.inl e
    · omega
    · omega
    · omega
    · have := q_mpsn8 z hz e; omega
  · intro f k e
    refine hS f k ?_
    rcases e with e | e | e | ⟨z, hz, rfl, e⟩
    · exact Or.inl e
    · omega
    · omega
    · have := q_mpsn8 z hz e; omega
  · intro z; exact absurd z (by decide)
  · intro _ k; exact ⟨hh 121 k (by decide) (by decide) ⟨by omega, by omega⟩, hS 25 k (by omega)⟩
theorem ok_gr_ta {S S2 : Nat → Nat → Int32} {N : Nat → Nat} (hk : q_ok S N) (hS : ∀ f k, (k ≠ N 8 ∨ f < 31 ∨ 32 ≤ f) → S2 f k = S f k) : q_ok S2 (q_nu N 8 (N 8 + 1)) := by
  refine ⟨⟨?_, ?_, ?_, ?_, ?_, ?_, ?_⟩, rw_of hk.2 (q_nu_ne (by decide)) (fun _ => hS _ _ (by omega)) (fun _ => hS _ _ (by omega))⟩
  · intro i hi
    rw [q_nu_ne (by decide)] at hi
    rw [hS _ _ (by omega)]; exact hk.1.1 i hi
  · intro i hi
    rw [q_nu_ne (by decide)] at hi
    rw [hS _ _ (by omega)]; exact hk.1.2.1 i hi
  · intro i hi
    rw [q_nu_ne (by decide)] at hi
    rw [hS _ _ (by omega)]; exact hk.1.2.2.1 i hi
  · intro i hi
    rw [q_nu_ne (by decide)] at hi
    rw [hS _ _ (by omega)]; exact hk.1.2.2.2.1 i hi
  · intro i hi
    rw [q_nu_ne (by decide)] at hi
    rw [hS _ _ (by omega)]; exact hk.1.2.2.2.2.1 i hi
  · intro i hi
    rw [q_nu_ne (by decide)] at hi
    exact fw_gr (hk.1.2.2.2.2.2.1 i hi) (fun f a b => hS _ _ (by omega)) (by rw [q_nu_ne (by decide)]; omega) (by rw [q_nu_ne (by decide)]; omega) (fun j _ => hS _ _ (by omega))
  · rw [hS 0 7 (by omega)]; exact hk.1.2.2.2.2.2.2
section QRW
variable {o : q_H} {g S : Nat → Nat → Int32} {N : Nat → Nat}
theorem r_w_ma0 (hr : repC 1 g S N) {i : Nat} (hi : i < N 0) (d : Nat) (v : Int32) : ∃ g2, q_sem (d + 1) mX7_write 0 [.ref 2, .int (nI i), .int 0, .int v] [] (q_K o g) = some (none, q_K o g2) ∧ repC 1 g2 (q_up S 1 i v) N ∧ q_fr 1 g g2 := w_wr (q := (1, 6, 3, 3, 0, 1)) (by decide) hr (c := 0) (by decide) (by decide) d hi v
theorem r_w_ma1 (hr : repC 1 g S N) {i : Nat} (hi : i < N 0) (d : Nat) (v : Int32) : ∃ g2, q_sem (d + 1) mX7_write 0 [.ref 2, .int (nI i), .int 1, .int v] [] (q_K o g) = some (none, q_K o g2) ∧ repC 1 g2 (q_up S 2 i v) N ∧ q_fr 1 g g2 := w_wr (q := (1, 6, 3, 3, 0, 1)) (by decide) hr (c := 1) (by decide) (by decide) d hi v
theorem r_w_ma2 (hr : repC 1 g S N) {i : Nat} (hi : i < N 0) (d : Nat) (v : Int32) : ∃ g2, q_sem (d + 1) mX7_write 0 [.ref 2, .int (nI i), .int 2, .int v] [] (q_K o g) = some (none, q_K o g2) ∧ repC 1 g2 (q_up S 3 i v) N ∧ q_fr 1 g g2 := w_wr (q := (1, 6, 3, 3, 0, 1)) (by decide) hr (c := 2) (by decide) (by decide) d hi v
theorem r_w_po0 (hr : repC 1 g S N) {i : Nat} (hi : i < N 1) (d : Nat) (v : Int32) : ∃ g2, q_sem (d + 1) mX7_write 0 [.ref 4, .int (nI i), .int 0, .int v] [] (q_K o g) = some (none, q_K o g2) ∧ repC 1 g2 (q_up S 4 i v) N ∧ q_fr 1 g g2 := w_wr (q := (3, 8, 2, 2, 1, 4)) (by decide) hr (c := 0) (by decide) (by decide) d hi v
theorem r_w_po1 (hr : repC 1 g S N) {i : Nat} (hi : i < N 1) (d : Nat) (v : Int32) : ∃ g2, q_sem (d + 1) mX7_write 0 [.ref 4, .int (nI i), .int 1, .int v] [] (q_K o g) = some (none, q_K o g2) ∧ repC 1 g2 (q_up S 5 i v) N ∧ q_fr 1 g g2 := w_wr (q := (3, 8, 2, 2, 1, 4)) (by decide) hr (c := 1) (by decide) (by decide) d hi v
theorem r_w_pl0 (hr : repC 1 g S N) {i : Nat} (hi : i < N 2) (d : Nat) (v : Int32) : ∃ g2, q_sem (d + 1) mX7_write 0 [.ref 6, .int (nI i), .int 0, .int v] [] (q_K o g) = some (none, q_K o g2) ∧ repC 1 g2 (q_up S 6 i v) N ∧ q_fr 1 g g2 := w_wr (q := (5, 24, 3, 3, 2, 6)) (by decide) hr (c := 0) (by decide) (by decide) d hi v
theorem r_w_pl1 (hr : repC 1 g S N) {i : Nat} (hi : i < N 2) (d : Nat) (v : Int32) : ∃ g2, q_sem (d + 1) mX7_write 0 [.ref 6, .int (nI i), .int 1, .int v] [] (q_K o g) = some (none, q_K o g2) ∧ repC 1 g2 (q_up S 7 i v) N ∧ q_fr 1 g g2 := w_wr (q := (5, 24, 3, 3, 2, 6)) (by decide) hr (c := 1) (by decide) (by decide) d hi v
theorem r_w_pl2 (hr : repC 1 g S N) {i : Nat} (hi : i < N 2) (d : Nat) (v : Int32) : ∃ g2, q_sem (d + 1) mX7_write 0 [.ref 6, .int (nI i), .int 2, .int v] [] (q_K o g) = some (none, q_K o g2) ∧ repC 1 g2 (q_up S 8 i v) N ∧ q_fr 1 g g2 := w_wr (q := (5, 24, 3, 3, 2, 6)) (by decide) hr (c := 2) (by decide) (by decide) d hi v
theorem r_w_fi0 (hr : repC 1 g S N) {i : Nat} (hi : i < N 3) (d : Nat) (v : Int32) : ∃ g2, q_sem (d + 1) mX7_write 0 [.ref 8, .int (nI i), .int 0, .int v] [] (q_K o g) = some (none, q_K o g2) ∧ repC 1 g2 (q_up S 9 i v) N ∧ q_fr 1 g g2 := w_wr (q := (7, 5, 1, 1, 3, 9)) (by decide) hr (c := 0) (by decide) (by decide) d hi v
theorem r_w_to0 (hr : repC 1 g S N) {i : Nat} (hi : i < N 4) (d : Nat) (v : Int32) : ∃ g2, q_sem (d + 1) mX7_write 0 [.ref 10, .int (nI i), .int 0, .int v] [] (q_K o g) = some (none, q_K o g2) ∧ repC 1 g2 (q_up S 10 i v) N ∧ q_fr 1 g g2 := w_wr (q := (9, 6, 4, 4, 4, 10)) (by decide) hr (c := 0) (by decide) (by decide) d hi v
theorem r_w_to1 (hr : repC 1 g S N) {i : Nat} (hi : i < N 4) (d : Nat) (v : Int32) : ∃ g2, q_sem (d + 1) mX7_write 0 [.ref 10, .int (nI i), .int 1, .int v] [] (q_K o g) = some (none, q_K o g2) ∧ repC 1 g2 (q_up S 11 i v) N ∧ q_fr 1 g g2 := w_wr (q := (9, 6, 4, 4, 4, 10)) (by decide) hr (c := 1) (by decide) (by decide) d hi v
theorem r_w_to2 (hr : repC 1 g S N) {i : Nat} (hi : i < N 4) (d : Nat) (v : Int32) : ∃ g2, q_sem (d + 1) mX7_write 0 [.ref 10, .int (nI i), .int 2, .int v] [] (q_K o g) = some (none, q_K o g2) ∧ repC 1 g2 (q_up S 12 i v) N ∧ q_fr 1 g g2 := w_wr (q := (9, 6, 4, 4, 4, 10)) (by decide) hr (c := 2) (by decide) (by decide) d hi v
theorem r_w_to3 (hr : repC 1 g S N) {i : Nat} (hi : i < N 4) (d : Nat) (v : Int32) : ∃ g2, q_sem (d + 1) mX7_write 0 [.ref 10, .int (nI i), .int 3, .int v] [] (q_K o g) = some (none, q_K o g2) ∧ repC 1 g2 (q_up S 13 i v) N ∧ q_fr 1 g g2 := w_wr (q := (9, 6, 4, 4, 4, 10)) (by decide) hr (c := 3) (by decide) (by decide) d hi v
theorem r_w_fl0 (hr : repC 1 g S N) {i : Nat} (hi : i < N 5) (d : Nat) (v : Int32) : ∃ g2, q_sem (d + 1) mX7_write 0 [.ref 12, .int (nI i), .int 0, .int v] [] (q_K o g) = some (none, q_K o g2) ∧ repC 1 g2 (q_up S 14 i v) N ∧ q_fr 1 g g2 := w_wr (q := (11, 16, 12, 12, 5, 14)) (by decide) hr (c := 0) (by decide) (by decide) d hi v
theorem r_w_fl1 (hr : repC 1 g S N) {i : Nat} (hi : i < N 5) (d : Nat) (v : Int32) : ∃ g2, q_sem (d + 1) mX7_write 0 [.ref 12, .int (nI i), .int 1, .int v] [] (q_K o g) = some (none, q_K o g2) ∧ repC 1 g2 (q_up S 15 i v) N ∧ q_fr 1 g g2 := w_wr (q := (11, 16, 12, 12, 5, 14)) (by decide) hr (c := 1) (by decide) (by decide) d hi v
theorem r_w_fl2 (hr : repC 1 g S N) {i : Nat} (hi : i < N 5) (d : Nat) (v : Int32) : ∃ g2, q_sem (d + 1) mX7_write 0 [.ref 12, .int (nI i), .int 2, .int v] [] (q_K o g) = some (none, q_K o g2) ∧ repC 1 g2 (q_up S 16 i v) N ∧ q_fr 1 g g2 := w_wr (q := (11, 16, 12, 12, 5, 14)) (by decide) hr (c := 2) (by decide) (by decide) d hi v
theorem r_w_fl3 (hr : repC 1 g S N) {i : Nat} (hi : i < N 5) (d : Nat) (v : Int32) : ∃ g2, q_sem (d + 1) mX7_write 0 [.ref 12, .int (nI i), .int 3, .int v] [] (q_K o g) = some (none, q_K o g2) ∧ repC 1 g2 (q_up S 17 i v) N ∧ q_fr 1 g g2 := w_wr (q := (11, 16, 12, 12, 5, 14)) (by decide) hr (c := 3) (by decide) (by decide) d hi v
theorem r_w_fl4 (hr : repC 1 g S N) {i : Nat} (hi : i < N 5) (d : Nat) (v : Int32) : ∃ g2, q_sem (d + 1) mX7_write 0 [.ref 12, .int (nI i), .int 4, .int v] [] (q_K o g) = some (none, q_K o g2) ∧ repC 1 g2 (q_up S 18 i v) N ∧ q_fr 1 g g2 := w_wr (q := (11, 16, 12, 12, 5, 14)) (by decide) hr (c := 4) (by decide) (by decide) d hi v
theorem r_w_fl5 (hr : repC 1 g S N) {i : Nat} (hi : i < N 5) (d : Nat) (v : Int32) : ∃ g2, q_sem (d + 1) mX7_write 0 [.ref 12, .int (nI i), .int 5, .int v] [] (q_K o g) = some (none, q_K o g2) ∧ repC 1 g2 (q_up S 19 i v) N ∧ q_fr 1 g g2 := w_wr (q := (11, 16, 12, 12, 5, 14)) (by decide) hr (c := 5) (by decide) (by decide) d hi v
theorem r_w_fl6 (hr : repC 1 g S N) {i : Nat} (hi : i < N 5) (d : Nat) (v : Int32) : ∃ g2, q_sem (d + 1) mX7_write 0 [.ref 12, .int (nI i), .int 6, .int v] [] (q_K o g) = some (none, q_K o g2) ∧ repC 1 g2 (q_up S 20 i v) N ∧ q_fr 1 g g2 := w_wr (q := (11, 16, 12, 12, 5, 14)) (by decide) hr (c := 6) (by decide) (by decide) d hi v
theorem r_w_fl7 (hr : repC 1 g S N) {i : Nat} (hi : i < N 5) (d : Nat) (v : Int32) : ∃ g2, q_sem (d + 1) mX7_write 0 [.ref 12, .int (nI i), .int 7, .int v] [] (q_K o g) = some (none, q_K o g2) ∧ repC 1 g2 (q_up S 21 i v) N ∧ q_fr 1 g g2 := w_wr (q := (11, 16, 12, 12, 5, 14)) (by decide) hr (c := 7) (by decide) (by decide) d hi v
theorem r_w_fl8 (hr : repC 1 g S N) {i : Nat} (hi : i < N 5) (d : Nat) (v : Int32) : ∃ g2, q_sem (d + 1) mX7_write 0 [.ref 12, .int (nI i), .int 8, .int v] [] (q_K o g) = some (none, q_K o g2) ∧ repC 1 g2 (q_up S 22 i v) N ∧ q_fr 1 g g2 := w_wr (q := (11, 16, 12, 12, 5, 14)) (by decide) hr (c := 8) (by decide) (by decide) d hi v
theorem r_w_fl9 (hr : repC 1 g S N) {i : Nat} (hi : i < N 5) (d : Nat) (v : Int32) : ∃ g2, q_sem (d + 1) mX7_write 0 [.ref 12, .int (nI i), .int 9, .int v] [] (q_K o g) = some (none, q_K o g2) ∧ repC 1 g2 (q_up S 23 i v) N ∧ q_fr 1 g g2 := w_wr (q := (11, 16, 12, 12, 5, 14)) (by decide) hr (c := 9) (by decide) (by decide) d hi v
theorem r_w_fl10 (hr : repC 1 g S N) {i : Nat} (hi : i < N 5) (d : Nat) (v : Int32) : ∃ g2, q_sem (d + 1) mX7_write 0 [.ref 12, .int (nI i), .int 10, .int v] [] (q_K o g) = some (none, q_K o g2) ∧ repC 1 g2 (q_up S 24 i v) N ∧ q_fr 1 g g2 := w_wr (q := (11, 16, 12, 12, 5, 14)) (by decide) hr (c := 10) (by decide) (by decide) d hi v
theorem r_w_fl11 (hr : repC 1 g S N) {i : Nat} (hi : i < N 5) (d : Nat) (v : Int32) : ∃ g2, q_sem (d + 1) mX7_write 0 [.ref 12, .int (nI i), .int 11, .int v] [] (q_K o g) = some (none, q_K o g2) ∧ repC 1 g2 (q_up S 25 i v) N ∧ q_fr 1 g g2 := w_wr (q := (11, 16, 12, 12, 5, 14)) (by decide) hr (c := 11) (by decide) (by decide) d hi v
theorem r_w_wa0 (hr : repC 1 g S N) {i : Nat} (hi : i < N 11) (d : Nat) (v : Int32) : ∃ g2, q_sem (d + 1) mX7_write 0 [.ref 14, .int (nI i), .int 0, .int v] [] (q_K o g) = some (none, q_K o g2) ∧ repC 1 g2 (q_up S 32 i v) N ∧ q_fr 1 g g2 := w_wr (q := (13, 20, 1, 1, 11, 32)) (by decide) hr (c := 0) (by decide) (by decide) d hi v
theorem r_w_ta0 (hr : repC 1 g S N) {i : Nat} (hi : i < N 8) (d : Nat) (v : Int32) : ∃ g2, q_sem (d + 1) mX7_write 0 [.ref 19, .int (nI i), .int 0, .int v] [] (q_K o g) = some (none, q_K o g2) ∧ repC 1 g2 (q_up S 31 i v) N ∧ q_fr 1 g g2 := w_wr (q := (18, 50, 1, 1, 8, 31)) (by decide) hr (c := 0) (by decide) (by decide) d hi v
end QRW
