/-! the Model's picture -/
/-- field, place, count, room -/
def q_mps : List (Nat × Nat × Nat × Nat) := [(1, 101, 0, 6), (2, 102, 0, 6), (3, 103, 0, 6), (4, 104, 1, 8), (5, 105, 1, 8), (6, 106, 2, 24), (7, 107, 2, 24), (8, 108, 2, 24), (9, 109, 3, 5), (10, 110, 4, 6), (11, 111, 4, 6), (12, 112, 4, 6), (13, 113, 4, 6), (14, 114, 5, 16), (15, 115, 5, 16), (16, 116, 5, 16), (17, 117, 5, 16), (18, 118, 5, 16), (19, 119, 5, 16), (20, 120, 5, 16), (21, 122, 5, 16), (22, 123, 5, 16), (23, 124, 5, 16), (24, 125, 5, 16), (26, 126, 6, 12), (27, 127, 6, 12), (28, 128, 6, 12), (31, 131, 8, 50), (32, 132, 11, 20)]
def q_nms : List Nat := [0, 1, 2, 3, 4, 5, 6, 8, 11]
def q_cdM (i of c : Int32) : Prop := (i = 0 ∧ of = c ∧ ∃ n, n < 1000 ∧ c = nI n) ∨ (i = 1 ∧ ∃ n, n < 4 ∧ of = nI n ∧ c = nI (1000 + n)) ∨ (i = 2 ∧ c = 2124) ∨ (i = 3 ∧ c = 2038) ∨ (i = 4 ∧ c = 2060) ∨ (i = 5 ∧ c = 2061) ∨ (i = 6 ∧ c = 2062) ∨ (i = 7 ∧ c = 2043) ∨ (i = 8 ∧ c = 2045) ∨ (i = 9 ∧ c = 2042) ∨ (i = 10 ∧ c = 2033)
def q_mcd (h S : Nat → Nat → Int32) (N : Nat → Nat) : Prop := ∀ r, r < N 6 → ∀ i, i < 50 → nI i < S 28 r → q_cdM (h 129 (50 * r + i)) (h 130 (50 * r + i)) (S 29 (50 * r + i))
def q_mho (h S : Nat → Nat → Int32) (N : Nat → Nat) : Prop := ∀ i, i < N 5 → 3 < S 14 i → h 121 i = S 25 i
def repM (h S : Nat → Nat → Int32) (N : Nat → Nat) : Prop := (∀ q ∈ q_mps, N q.2.2.1 ≤ q.2.2.2 ∧ ∀ i, i < N q.2.2.1 → h q.2.1 i = S q.1 i) ∧ q_mho h S N ∧ q_mcd h S N ∧ (∀ j ∈ q_nms, h 100 j = nI (N j)) ∧ h 100 7 = S 0 7 ∧ h 100 9 = S 0 9 ∧ h 100 10 = S 0 10 ∧ ∀ i, i < N 8 → q_ce (S 31 i)
theorem q_mps_f : ∀ q ∈ q_mps, 1 ≤ q.1 ∧ q.1 < 33 ∧ q.1 ≠ 25 ∧ q.1 ≠ 29 ∧ 100 < q.2.1 ∧ q.2.1 < 133 ∧ q.2.1 ≠ 121 ∧ q.2.1 ≠ 129 ∧ q.2.1 ≠ 130 ∧ q.2.2.2 ≤ 50 ∧ q.2.2.1 < 12 ∧ q.2.2.1 ≠ 7 ∧ q.2.2.1 ≠ 9 ∧ q.2.2.1 ≠ 10 := by decide
theorem q_mps_1 : ∀ q ∈ q_mps, ∀ z ∈ q_mps, q = z ∨ (q.1 ≠ z.1 ∧ q.2.1 ≠ z.2.1) := by decide
theorem q_nms_1 : ∀ j ∈ q_nms, j ≠ 7 ∧ j ≠ 9 ∧ j ≠ 10 ∧ j < 12 := by decide
/-- the places of what an image keeps are as they were -/
theorem m_fr {h h2 S : Nat → Nat → Int32} {N : Nat → Nat} (hm : repM h S N) (hh : ∀ p, 100 ≤ p → p < 133 → ∀ k, h2 p k = h p k) : repM h2 S N := by
  refine ⟨?_, ?_, ?_, ?_, ?_, ?_, ?_, hm.2.2.2.2.2.2.2⟩
  · intro q hq
    have hs := q_mps_f q hq
    exact ⟨(hm.1 q hq).1, fun i hi => by rw [hh _ (by omega) (by omega)]; exact (hm.1 q hq).2 i hi⟩
  · intro i h1 h3
    rw [hh _ (by decide) (by decide)]
    exact hm.2.1 i h1 h3
  · intro r h1 i h3 h4
    rw [hh _ (by decide) (by decide), hh _ (by decide) (by decide)]
    exact hm.2.2.1 r h1 i h3 h4
  · intro j hj
    rw [hh _ (by decide) (by decide)]
    exact hm.2.2.2.1 j hj
  · rw [hh _ (by decide) (by decide)]; exact hm.2.2.2.2.1
  · rw [hh _ (by decide) (by decide)]; exact hm.2.2.2.2.2.1
  · rw [hh _ (by decide) (by decide)]; exact hm.2.2.2.2.2.2.1
section QMM
variable {h S : Nat → Nat → Int32} {N : Nat → Nat} {i : Nat}
/-- one number of a field put -/
theorem m_put {q : Nat × Nat × Nat × Nat} (hq : q ∈ q_mps) (hm : repM h S N) (hf : q.1 ≠ 14 ∧ q.1 ≠ 28 ∧ q.1 ≠ 31) (i : Nat) (v : Int32) : repM (q_up h q.2.1 i v) (q_up S q.1 i v) N := by
  have hs := q_mps_f q hq
  refine ⟨?_, ?_, ?_, ?_, ?_, ?_, ?_, fun k hk => by rw [q_upN (Ne.symm hf.2.2)]; exact hm.2.2.2.2.2.2.2 k hk⟩
  · intro z hz
    refine ⟨(hm.1 z hz).1, fun k hk => ?_⟩
    rcases q_mps_1 z hz q hq with e | e
    · subst e
      by_cases c : k = i
      · subst c; rw [q_upE, q_upE]
      · rw [q_upJ c, q_upJ c]; exact (hm.1 z hz).2 k hk
    · rw [q_upN e.2, q_upN e.1]; exact (hm.1 z hz).2 k hk
  · intro k h1 h3
    rw [q_upN (Ne.symm hf.1)] at h3
    rw [q_upN (by omega), q_upN (by omega)]
    exact hm.2.1 k h1 h3
  · intro r h1 k h3 h4
    rw [q_upN (Ne.symm hf.2.1)] at h4
    rw [q_upN (by omega), q_upN (by omega), q_upN (by omega)]
    exact hm.2.2.1 r h1 k h3 h4
  · intro j hj
    rw [q_upN (by omega)]
    exact hm.2.2.2.1 j hj
  · rw [q_upN (by omega), q_upN (by omega)]; exact hm.2.2.2.2.1
  · rw [q_upN (by omega), q_upN (by omega)]; exact hm.2.2.2.2.2.1
  · rw [q_upN (by omega), q_upN (by omega)]; exact hm.2.2.2.2.2.2.1
/-- a row more: the fields of count c at N c, the rest as it was -/
theorem m_add {h2 S2 : Nat → Nat → Int32} {c : Nat} (hm : repM h S N) (hc : c ≠ 6) (hcn : c ∈ q_nms) (hn : h2 100 c = nI (N c + 1)) (hcap : ∀ q ∈ q_mps, q.2.2.1 = c → N c < q.2.2.2) (hnew : ∀ q ∈ q_mps, q.2.2.1 = c → h2 q.2.1 (N c) = S2 q.1 (N c)) (hh : ∀ p k, 100 ≤ p → p < 133 → ¬ (p = 100 ∧ k = c) → (k ≠ N c ∨ p = 129 ∨ p = 130 ∨ p = 100 ∨ ∃ q ∈ q_mps, q.2.1 = p ∧ q.2.2.1 ≠ c) → h2 p k = h p k) (hS : ∀ f k, (k ≠ N c ∨ f = 0 ∨ f = 29 ∨ ∃ q ∈ q_mps, q.1 = f ∧ q.2.2.1 ≠ c) → S2 f k = S f k) (hho : c = 5 → 3 < S2 14 (N 5) → h2 121 (N 5) = S2 25 (N 5)) (h121 : c ≠ 5 → ∀ k, h2 121 k = h 121 k ∧ S2 25 k = S 25 k) (h31 : c = 8 → q_ce (S2 31 (N 8))) : repM h2 S2 (q_nu N c (N c + 1)) := by
  have hc3 := q_nms_1 c hcn
  refine ⟨?_, ?_, ?_, ?_, ?_, ?_, ?_, ?_⟩
  · intro q hq
    have hs := q_mps_f q hq
    by_cases e : q.2.2.1 = c
    · have e2 : q_nu N c (N c + 1) q.2.2.1 = N c + 1 := by rw [e]; exact q_nu_eq
      rw [e2]
      refine ⟨hcap q hq e, fun k hk => ?_⟩
      by_cases ek : k = N c
      · subst ek; exact hnew q hq e
      · rw [hh _ _ (by omega) (by omega) (fun z => by omega) (Or.inl ek), hS _ _ (Or.inl ek)]
        exact (hm.1 q hq).2 k (by rw [e]; omega)
    · rw [q_nu_ne e]
      refine ⟨(hm.1 q hq).1, fun k hk => ?_⟩
      rw [hh _ _ (by omega) (by omega) (fun z => by omega) (Or.inr (Or.inr (Or.inr (Or.inr ⟨q, hq, rfl, e⟩)))), hS _ _ (Or.inr (Or.inr (Or.inr ⟨q, hq, rfl, e⟩)))]
      exact (hm.1 q hq).2 k hk
  · intro k h1 h3
    by_cases e : c = 5
    · subst e
      rw [q_nu_eq] at h1
      by_cases ek : k = N 5
      · subst ek; exact hho rfl h3
      · rw [hS _ _ (Or.inl ek)] at h3 ⊢
        rw [hh _ _ (by decide) (by decide) (fun z => by omega) (Or.inl ek)]
        exact hm.2.1 k (by omega) h3
    · rw [q_nu_ne (Ne.symm e)] at h1
      have e14 : S2 14 k = S 14 k := hS _ _ (Or.inr (Or.inr (Or.inr ⟨(14, 114, 5, 16), by decide, rfl, fun z => e z.symm⟩)))
      rw [e14] at h3
      rw [(h121 e k).1, (h121 e k).2]
      exact hm.2.1 k h1 h3
  · intro r h1 k h3 h4
    rw [q_nu_ne (Ne.symm hc)] at h1
    have e28 : S2 28 r = S 28 r := hS _ _ (Or.inr (Or.inr (Or.inr ⟨(28, 128, 6, 12), by decide, rfl, fun z => hc z.symm⟩)))
    rw [e28] at h4
    rw [hh _ _ (by decide) (by decide) (fun z => by omega) (Or.inr (Or.inl rfl)), hh _ _ (by decide) (by decide) (fun z => by omega) (Or.inr (Or.inr (Or.inl rfl))), hS _ _ (Or.inr (Or.inr (Or.inl rfl)))]
    exact hm.2.2.1 r h1 k h3 h4
  · intro j hj
    by_cases e : j = c
    · subst e; rw [q_nu_eq]; exact hn
    · rw [q_nu_ne e, hh _ _ (by decide) (by decide) (fun z => e z.2) (Or.inr (Or.inr (Or.inr (Or.inl rfl))))]
      exact hm.2.2.2.1 j hj
  · rw [hh _ _ (by decide) (by decide) (fun z => by omega) (Or.inr (Or.inr (Or.inr (Or.inl rfl)))), hS _ _ (Or.inr (Or.inl rfl))]; exact hm.2.2.2.2.1
  · rw [hh _ _ (by decide) (by decide) (fun z => by omega) (Or.inr (Or.inr (Or.inr (Or.inl rfl)))), hS _ _ (Or.inr (Or.inl rfl))]; exact hm.2.2.2.2.2.1
  · rw [hh _ _ (by decide) (by decide) (fun z => by omega) (Or.inr (Or.inr (Or.inr (Or.inl rfl)))), hS _ _ (Or.inr (Or.inl rfl))]; exact hm.2.2.2.2.2.2.1
  · intro k hk
    by_cases e : c = 8
    · subst e
      rw [q_nu_eq] at hk
      by_cases ek : k = N 8
      · subst ek; exact h31 rfl
      · rw [hS _ _ (Or.inl ek)]; exact hm.2.2.2.2.2.2.2 k (by omega)
    · rw [q_nu_ne (Ne.symm e)] at hk
      rw [hS _ _ (Or.inr (Or.inr (Or.inr ⟨(31, 131, 8, 50), by decide, rfl, fun z => e z.symm⟩)))]
      exact hm.2.2.2.2.2.2.2 k hk
/-- a count that falls to 0 -/
theorem m_clr {c : Nat} (hm : repM h S N) (hc : c ≠ 6) (hc5 : c ≠ 5) (hcn : c ∈ q_nms) : repM (q_up h 100 c 0) S (q_nu N c 0) := by
  have hc3 := q_nms_1 c hcn
  refine ⟨?_, ?_, ?_, ?_, ?_, ?_, ?_, ?_⟩
  · intro q hq
    have hs := q_mps_f q hq
    by_cases e : q.2.2.1 = c
    · rw [e, q_nu_eq]
      exact ⟨Nat.zero_le _, fun k hk => absurd hk (Nat.not_lt_zero k)⟩
    · rw [q_nu_ne e]
      exact ⟨(hm.1 q hq).1, fun k hk => by rw [q_upN (by omega)]; exact (hm.1 q hq).2 k hk⟩
  · intro k h1 h3
    rw [q_nu_ne (Ne.symm hc5)] at h1
    rw [q_upN (by decide)]
    exact hm.2.1 k h1 h3
  · intro r h1 k h3 h4
    rw [q_nu_ne (Ne.symm hc)] at h1
    rw [q_upN (by decide), q_upN (by decide)]
    exact hm.2.2.1 r h1 k h3 h4
  · intro j hj
    by_cases e : j = c
    · subst e; rw [q_nu_eq, q_upE]; rfl
    · rw [q_nu_ne e, q_upJ e]; exact hm.2.2.2.1 j hj
  · rw [q_upJ (by omega)]; exact hm.2.2.2.2.1
  · rw [q_upJ (by omega)]; exact hm.2.2.2.2.2.1
  · rw [q_upJ (by omega)]; exact hm.2.2.2.2.2.2.1
  · intro k hk
    by_cases e : c = 8
    · subst e; rw [q_nu_eq] at hk; exact absurd hk (Nat.not_lt_zero k)
    · rw [q_nu_ne (Ne.symm e)] at hk; exact hm.2.2.2.2.2.2.2 k hk
theorem m_f1 (hm : repM h S N) (hi : i < N 0) : h 101 i = S 1 i := (hm.1 (1, 101, 0, 6) (by decide)).2 i hi
theorem m_u1 (hm : repM h S N) (i : Nat) (v : Int32) : repM (q_up h 101 i v) (q_up S 1 i v) N := m_put (q := (1, 101, 0, 6)) (by decide) hm (by decide) i v
theorem m_f2 (hm : repM h S N) (hi : i < N 0) : h 102 i = S 2 i := (hm.1 (2, 102, 0, 6) (by decide)).2 i hi
theorem m_u2 (hm : repM h S N) (i : Nat) (v : Int32) : repM (q_up h 102 i v) (q_up S 2 i v) N := m_put (q := (2, 102, 0, 6)) (by decide) hm (by decide) i v
theorem m_f3 (hm : repM h S N) (hi : i < N 0) : h 103 i = S 3 i := (hm.1 (3, 103, 0, 6) (by decide)).2 i hi
theorem m_u3 (hm : repM h S N) (i : Nat) (v : Int32) : repM (q_up h 103 i v) (q_up S 3 i v) N := m_put (q := (3, 103, 0, 6)) (by decide) hm (by decide) i v
theorem m_f4 (hm : repM h S N) (hi : i < N 1) : h 104 i = S 4 i := (hm.1 (4, 104, 1, 8) (by decide)).2 i hi
theorem m_u4 (hm : repM h S N) (i : Nat) (v : Int32) : repM (q_up h 104 i v) (q_up S 4 i v) N := m_put (q := (4, 104, 1, 8)) (by decide) hm (by decide) i v
theorem m_f5 (hm : repM h S N) (hi : i < N 1) : h 105 i = S 5 i := (hm.1 (5, 105, 1, 8) (by decide)).2 i hi
theorem m_u5 (hm : repM h S N) (i : Nat) (v : Int32) : repM (q_up h 105 i v) (q_up S 5 i v) N := m_put (q := (5, 105, 1, 8)) (by decide) hm (by decide) i v
theorem m_f6 (hm : repM h S N) (hi : i < N 2) : h 106 i = S 6 i := (hm.1 (6, 106, 2, 24) (by decide)).2 i hi
theorem m_u6 (hm : repM h S N) (i : Nat) (v : Int32) : repM (q_up h 106 i v) (q_up S 6 i v) N := m_put (q := (6, 106, 2, 24)) (by decide) hm (by decide) i v
theorem m_f7 (hm : repM h S N) (hi : i < N 2) : h 107 i = S 7 i := (hm.1 (7, 107, 2, 24) (by decide)).2 i hi
theorem m_u7 (hm : repM h S N) (i : Nat) (v : Int32) : repM (q_up h 107 i v) (q_up S 7 i v) N := m_put (q := (7, 107, 2, 24)) (by decide) hm (by decide) i v
theorem m_f8 (hm : repM h S N) (hi : i < N 2) : h 108 i = S 8 i := (hm.1 (8, 108, 2, 24) (by decide)).2 i hi
theorem m_u8 (hm : repM h S N) (i : Nat) (v : Int32) : repM (q_up h 108 i v) (q_up S 8 i v) N := m_put (q := (8, 108, 2, 24)) (by decide) hm (by decide) i v
theorem m_f9 (hm : repM h S N) (hi : i < N 3) : h 109 i = S 9 i := (hm.1 (9, 109, 3, 5) (by decide)).2 i hi
theorem m_u9 (hm : repM h S N) (i : Nat) (v : Int32) : repM (q_up h 109 i v) (q_up S 9 i v) N := m_put (q := (9, 109, 3, 5)) (by decide) hm (by decide) i v
theorem m_f10 (hm : repM h S N) (hi : i < N 4) : h 110 i = S 10 i := (hm.1 (10, 110, 4, 6) (by decide)).2 i hi
theorem m_u10 (hm : repM h S N) (i : Nat) (v : Int32) : repM (q_up h 110 i v) (q_up S 10 i v) N := m_put (q := (10, 110, 4, 6)) (by decide) hm (by decide) i v
theorem m_f11 (hm : repM h S N) (hi : i < N 4) : h 111 i = S 11 i := (hm.1 (11, 111, 4, 6) (by decide)).2 i hi
theorem m_u11 (hm : repM h S N) (i : Nat) (v : Int32) : repM (q_up h 111 i v) (q_up S 11 i v) N := m_put (q := (11, 111, 4, 6)) (by decide) hm (by decide) i v
theorem m_f12 (hm : repM h S N) (hi : i < N 4) : h 112 i = S 12 i := (hm.1 (12, 112, 4, 6) (by decide)).2 i hi
theorem m_u12 (hm : repM h S N) (i : Nat) (v : Int32) : repM (q_up h 112 i v) (q_up S 12 i v) N := m_put (q := (12, 112, 4, 6)) (by decide) hm (by decide) i v
theorem m_f13 (hm : repM h S N) (hi : i < N 4) : h 113 i = S 13 i := (hm.1 (13, 113, 4, 6) (by decide)).2 i hi
theorem m_u13 (hm : repM h S N) (i : Nat) (v : Int32) : repM (q_up h 113 i v) (q_up S 13 i v) N := m_put (q := (13, 113, 4, 6)) (by decide) hm (by decide) i v
theorem m_f14 (hm : repM h S N) (hi : i < N 5) : h 114 i = S 14 i := (hm.1 (14, 114, 5, 16) (by decide)).2 i hi
theorem m_f15 (hm : repM h S N) (hi : i < N 5) : h 115 i = S 15 i := (hm.1 (15, 115, 5, 16) (by decide)).2 i hi
theorem m_u15 (hm : repM h S N) (i : Nat) (v : Int32) : repM (q_up h 115 i v) (q_up S 15 i v) N := m_put (q := (15, 115, 5, 16)) (by decide) hm (by decide) i v
theorem m_f16 (hm : repM h S N) (hi : i < N 5) : h 116 i = S 16 i := (hm.1 (16, 116, 5, 16) (by decide)).2 i hi
theorem m_u16 (hm : repM h S N) (i : Nat) (v : Int32) : repM (q_up h 116 i v) (q_up S 16 i v) N := m_put (q := (16, 116, 5, 16)) (by decide) hm (by decide) i v
theorem m_f17 (hm : repM h S N) (hi : i < N 5) : h 117 i = S 17 i := (hm.1 (17, 117, 5, 16) (by decide)).2 i hi
theorem m_u17 (hm : repM h S N) (i : Nat) (v : Int32) : repM (q_up h 117 i v) (q_up S 17 i v) N := m_put (q := (17, 117, 5, 16)) (by decide) hm (by decide) i v
theorem m_f18 (hm : repM h S N) (hi : i < N 5) : h 118 i = S 18 i := (hm.1 (18, 118, 5, 16) (by decide)).2 i hi
theorem m_u18 (hm : repM h S N) (i : Nat) (v : Int32) : repM (q_up h 118 i v) (q_up S 18 i v) N := m_put (q := (18, 118, 5, 16)) (by decide) hm (by decide) i v
theorem m_f19 (hm : repM h S N) (hi : i < N 5) : h 119 i = S 19 i := (hm.1 (19, 119, 5, 16) (by decide)).2 i hi
theorem m_u19 (hm : repM h S N) (i : Nat) (v : Int32) : repM (q_up h 119 i v) (q_up S 19 i v) N := m_put (q := (19, 119, 5, 16)) (by decide) hm (by decide) i v
theorem m_f20 (hm : repM h S N) (hi : i < N 5) : h 120 i = S 20 i := (hm.1 (20, 120, 5, 16) (by decide)).2 i hi
theorem m_u20 (hm : repM h S N) (i : Nat) (v : Int32) : repM (q_up h 120 i v) (q_up S 20 i v) N := m_put (q := (20, 120, 5, 16)) (by decide) hm (by decide) i v
theorem m_f21 (hm : repM h S N) (hi : i < N 5) : h 122 i = S 21 i := (hm.1 (21, 122, 5, 16) (by decide)).2 i hi
theorem m_u21 (hm : repM h S N) (i : Nat) (v : Int32) : repM (q_up h 122 i v) (q_up S 21 i v) N := m_put (q := (21, 122, 5, 16)) (by decide) hm (by decide) i v
theorem m_f22 (hm : repM h S N) (hi : i < N 5) : h 123 i = S 22 i := (hm.1 (22, 123, 5, 16) (by decide)).2 i hi
theorem m_u22 (hm : repM h S N) (i : Nat) (v : Int32) : repM (q_up h 123 i v) (q_up S 22 i v) N := m_put (q := (22, 123, 5, 16)) (by decide) hm (by decide) i v
theorem m_f23 (hm : repM h S N) (hi : i < N 5) : h 124 i = S 23 i := (hm.1 (23, 124, 5, 16) (by decide)).2 i hi
theorem m_u23 (hm : repM h S N) (i : Nat) (v : Int32) : repM (q_up h 124 i v) (q_up S 23 i v) N := m_put (q := (23, 124, 5, 16)) (by decide) hm (by decide) i v
theorem m_f24 (hm : repM h S N) (hi : i < N 5) : h 125 i = S 24 i := (hm.1 (24, 125, 5, 16) (by decide)).2 i hi
theorem m_u24 (hm : repM h S N) (i : Nat) (v : Int32) : repM (q_up h 125 i v) (q_up S 24 i v) N := m_put (q := (24, 125, 5, 16)) (by decide) hm (by decide) i v
theorem m_f26 (hm : repM h S N) (hi : i < N 6) : h 126 i = S 26 i := (hm.1 (26, 126, 6, 12) (by decide)).2 i hi
theorem m_u26 (hm : repM h S N) (i : Nat) (v : Int32) : repM (q_up h 126 i v) (q_up S 26 i v) N := m_put (q := (26, 126, 6, 12)) (by decide) hm (by decide) i v
theorem m_f27 (hm : repM h S N) (hi : i < N 6) : h 127 i = S 27 i := (hm.1 (27, 127, 6, 12) (by decide)).2 i hi
theorem m_u27 (hm : repM h S N) (i : Nat) (v : Int32) : repM (q_up h 127 i v) (q_up S 27 i v) N := m_put (q := (27, 127, 6, 12)) (by decide) hm (by decide) i v
theorem m_f28 (hm : repM h S N) (hi : i < N 6) : h 128 i = S 28 i := (hm.1 (28, 128, 6, 12) (by decide)).2 i hi
theorem m_f31 (hm : repM h S N) (hi : i < N 8) : h 131 i = S 31 i := (hm.1 (31, 131, 8, 50) (by decide)).2 i hi
theorem m_f32 (hm : repM h S N) (hi : i < N 11) : h 132 i = S 32 i := (hm.1 (32, 132, 11, 20) (by decide)).2 i hi
theorem m_u32 (hm : repM h S N) (i : Nat) (v : Int32) : repM (q_up h 132 i v) (q_up S 32 i v) N := m_put (q := (32, 132, 11, 20)) (by decide) hm (by decide) i v
theorem m_n0 (hm : repM h S N) : h 100 0 = nI (N 0) := hm.2.2.2.1 0 (by decide)
theorem m_c0 (hm : repM h S N) : N 0 ≤ 6 := (hm.1 (1, 101, 0, 6) (by decide)).1
theorem m_n1 (hm : repM h S N) : h 100 1 = nI (N 1) := hm.2.2.2.1 1 (by decide)
theorem m_c1 (hm : repM h S N) : N 1 ≤ 8 := (hm.1 (4, 104, 1, 8) (by decide)).1
theorem m_n2 (hm : repM h S N) : h 100 2 = nI (N 2) := hm.2.2.2.1 2 (by decide)
theorem m_c2 (hm : repM h S N) : N 2 ≤ 24 := (hm.1 (6, 106, 2, 24) (by decide)).1
theorem m_n3 (hm : repM h S N) : h 100 3 = nI (N 3) := hm.2.2.2.1 3 (by decide)
theorem m_c3 (hm : repM h S N) : N 3 ≤ 5 := (hm.1 (9, 109, 3, 5) (by decide)).1
theorem m_n4 (hm : repM h S N) : h 100 4 = nI (N 4) := hm.2.2.2.1 4 (by decide)
theorem m_c4 (hm : repM h S N) : N 4 ≤ 6 := (hm.1 (10, 110, 4, 6) (by decide)).1
theorem m_n5 (hm : repM h S N) : h 100 5 = nI (N 5) := hm.2.2.2.1 5 (by decide)
theorem m_c5 (hm : repM h S N) : N 5 ≤ 16 := (hm.1 (14, 114, 5, 16) (by decide)).1
theorem m_n6 (hm : repM h S N) : h 100 6 = nI (N 6) := hm.2.2.2.1 6 (by decide)
theorem m_c6 (hm : repM h S N) : N 6 ≤ 12 := (hm.1 (26, 126, 6, 12) (by decide)).1
theorem m_n8 (hm : repM h S N) : h 100 8 = nI (N 8) := hm.2.2.2.1 8 (by decide)
theorem m_c8 (hm : repM h S N) : N 8 ≤ 50 := (hm.1 (31, 131, 8, 50) (by decide)).1
theorem m_n11 (hm : repM h S N) : h 100 11 = nI (N 11) := hm.2.2.2.1 11 (by decide)
theorem m_c11 (hm : repM h S N) : N 11 ≤ 20 := (hm.1 (32, 132, 11, 20) (by decide)).1
end QMM
