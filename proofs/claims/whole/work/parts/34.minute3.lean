/-! what stays as it should -/
theorem wf_up {S : Nat → Nat → Int32} {N : Nat → Nat} (h : q_wf S N) (F i : Nat) (v : Int32) (hF : F ≠ 0 ∧ F ≠ 1 ∧ F ≠ 4 ∧ F ≠ 6 ∧ F ≠ 9 ∧ F ≠ 10 ∧ F ≠ 14) (hx : i < N 5 → q_fw (q_up S F i v) N i) : q_wf (q_up S F i v) N := by
  obtain ⟨f0, f1, f4, f6, f9, f10, f14⟩ := hF
  refine ⟨?_, ?_, ?_, ?_, ?_, ?_, ?_⟩
  · intro k hk; rw [q_upN (Ne.symm f1)]; exact h.1 k hk
  · intro k hk; rw [q_upN (Ne.symm f4)]; exact h.2.1 k hk
  · intro k hk; rw [q_upN (Ne.symm f6)]; exact h.2.2.1 k hk
  · intro k hk; rw [q_upN (Ne.symm f9)]; exact h.2.2.2.1 k hk
  · intro k hk; rw [q_upN (Ne.symm f10)]; exact h.2.2.2.2.1 k hk
  · intro k hk
    by_cases e : k = i
    · subst e; exact hx hk
    · have := h.2.2.2.2.2.1 k hk
      unfold q_fw at this ⊢
      simp only [q_upJ e, q_upN (Ne.symm f14)]
      exact this
  · rw [q_upN (Ne.symm f0)]; exact h.2.2.2.2.2.2
theorem rw_of {S S2 : Nat → Nat → Int32} {N N2 : Nat → Nat} (h : q_rw S N) (hN : N2 6 = N 6) (h28 : ∀ k, S2 28 k = S 28 k) (h29 : ∀ k, S2 29 k = S 29 k) : q_rw S2 N2 := by
  intro r hr
  have := h r (hN ▸ hr)
  unfold q_cs at this ⊢
  simp only [h28, h29]
  exact this
theorem rw_up {S : Nat → Nat → Int32} {N : Nat → Nat} (h : q_rw S N) (F i : Nat) (v : Int32) (hF : F ≠ 28 ∧ F ≠ 29) : q_rw (q_up S F i v) N := rw_of h rfl (fun _ => q_upN (Ne.symm hF.1)) (fun _ => q_upN (Ne.symm hF.2))
/-- all is as it should be -/
def q_ok (S : Nat → Nat → Int32) (N : Nat → Nat) : Prop := q_wf S N ∧ q_rw S N
section QOK
variable {S : Nat → Nat → Int32} {N : Nat → Nat} {i : Nat} {v : Int32}
theorem ok_up15 (h : q_ok S N) (hv : q_ce v) : q_ok (q_up S 15 i v) N := ⟨wf_up h.1 15 i v (by decide) (fun hi => by
  obtain ⟨a, b, c, d, e⟩ := h.1.2.2.2.2.2.1 i hi
  simp only [q_fw, q_upE, q_upN (by decide : 14 ≠ 15), q_upN (by decide : 18 ≠ 15), q_upN (by decide : 19 ≠ 15), q_upN (by decide : 20 ≠ 15), q_upN (by decide : 21 ≠ 15), q_upN (by decide : 22 ≠ 15), q_upN (by decide : 23 ≠ 15), q_upN (by decide : 25 ≠ 15)]
  exact ⟨hv, b, c, d, e⟩), rw_up h.2 15 i v (by decide)⟩
theorem ok_up16 (h : q_ok S N)  : q_ok (q_up S 16 i v) N := ⟨wf_up h.1 16 i v (by decide) (fun hi => by
  obtain ⟨a, b, c, d, e⟩ := h.1.2.2.2.2.2.1 i hi
  simp only [q_fw, q_upE, q_upN (by decide : 14 ≠ 16), q_upN (by decide : 15 ≠ 16), q_upN (by decide : 18 ≠ 16), q_upN (by decide : 19 ≠ 16), q_upN (by decide : 20 ≠ 16), q_upN (by decide : 21 ≠ 16), q_upN (by decide : 22 ≠ 16), q_upN (by decide : 23 ≠ 16), q_upN (by decide : 25 ≠ 16)]
  exact ⟨a, b, c, d, e⟩), rw_up h.2 16 i v (by decide)⟩
theorem ok_up17 (h : q_ok S N)  : q_ok (q_up S 17 i v) N := ⟨wf_up h.1 17 i v (by decide) (fun hi => by
  obtain ⟨a, b, c, d, e⟩ := h.1.2.2.2.2.2.1 i hi
  simp only [q_fw, q_upE, q_upN (by decide : 14 ≠ 17), q_upN (by decide : 15 ≠ 17), q_upN (by decide : 18 ≠ 17), q_upN (by decide : 19 ≠ 17), q_upN (by decide : 20 ≠ 17), q_upN (by decide : 21 ≠ 17), q_upN (by decide : 22 ≠ 17), q_upN (by decide : 23 ≠ 17), q_upN (by decide : 25 ≠ 17)]
  exact ⟨a, b, c, d, e⟩), rw_up h.2 17 i v (by decide)⟩
theorem ok_up24 (h : q_ok S N)  : q_ok (q_up S 24 i v) N := ⟨wf_up h.1 24 i v (by decide) (fun hi => by
  obtain ⟨a, b, c, d, e⟩ := h.1.2.2.2.2.2.1 i hi
  simp only [q_fw, q_upE, q_upN (by decide : 14 ≠ 24), q_upN (by decide : 15 ≠ 24), q_upN (by decide : 18 ≠ 24), q_upN (by decide : 19 ≠ 24), q_upN (by decide : 20 ≠ 24), q_upN (by decide : 21 ≠ 24), q_upN (by decide : 22 ≠ 24), q_upN (by decide : 23 ≠ 24), q_upN (by decide : 25 ≠ 24)]
  exact ⟨a, b, c, d, e⟩), rw_up h.2 24 i v (by decide)⟩
theorem ok_up19 (h : q_ok S N) (hv : ∃ n, n < 100 ∧ v = nI n) : q_ok (q_up S 19 i v) N := ⟨wf_up h.1 19 i v (by decide) (fun hi => by
  obtain ⟨a, b, c, d, e⟩ := h.1.2.2.2.2.2.1 i hi
  simp only [q_fw, q_upE, q_upN (by decide : 14 ≠ 19), q_upN (by decide : 15 ≠ 19), q_upN (by decide : 18 ≠ 19), q_upN (by decide : 20 ≠ 19), q_upN (by decide : 21 ≠ 19), q_upN (by decide : 22 ≠ 19), q_upN (by decide : 23 ≠ 19), q_upN (by decide : 25 ≠ 19)]
  exact ⟨a, b, c, ⟨d.1, hv⟩, e⟩), rw_up h.2 19 i v (by decide)⟩
theorem ok_up20 (h : q_ok S N) (hv : v = 0 ∨ v = 1 ∨ v = 2) : q_ok (q_up S 20 i v) N := ⟨wf_up h.1 20 i v (by decide) (fun hi => by
  obtain ⟨a, b, c, d, e⟩ := h.1.2.2.2.2.2.1 i hi
  simp only [q_fw, q_upE, q_upN (by decide : 14 ≠ 20), q_upN (by decide : 15 ≠ 20), q_upN (by decide : 18 ≠ 20), q_upN (by decide : 19 ≠ 20), q_upN (by decide : 21 ≠ 20), q_upN (by decide : 22 ≠ 20), q_upN (by decide : 23 ≠ 20), q_upN (by decide : 25 ≠ 20)]
  exact ⟨a, b, c, ⟨hv, d.2⟩, e⟩), rw_up h.2 20 i v (by decide)⟩
theorem ok_up21 (h : q_ok S N) (hv : ∃ n, n < 100 ∧ v = nI n) : q_ok (q_up S 21 i v) N := ⟨wf_up h.1 21 i v (by decide) (fun hi => by
  obtain ⟨a, b, c, d, e⟩ := h.1.2.2.2.2.2.1 i hi
  simp only [q_fw, q_upE, q_upN (by decide : 14 ≠ 21), q_upN (by decide : 15 ≠ 21), q_upN (by decide : 18 ≠ 21), q_upN (by decide : 19 ≠ 21), q_upN (by decide : 20 ≠ 21), q_upN (by decide : 22 ≠ 21), q_upN (by decide : 23 ≠ 21), q_upN (by decide : 25 ≠ 21)]
  exact ⟨a, b, c, d, fun z => ⟨(e z).1, hv, (e z).2.2⟩⟩), rw_up h.2 21 i v (by decide)⟩
theorem ok_up22 (h : q_ok S N) (hv : ∃ n, n < 100 ∧ v = nI n) : q_ok (q_up S 22 i v) N := ⟨wf_up h.1 22 i v (by decide) (fun hi => by
  obtain ⟨a, b, c, d, e⟩ := h.1.2.2.2.2.2.1 i hi
  simp only [q_fw, q_upE, q_upN (by decide : 14 ≠ 22), q_upN (by decide : 15 ≠ 22), q_upN (by decide : 18 ≠ 22), q_upN (by decide : 19 ≠ 22), q_upN (by decide : 20 ≠ 22), q_upN (by decide : 21 ≠ 22), q_upN (by decide : 23 ≠ 22), q_upN (by decide : 25 ≠ 22)]
  exact ⟨a, b, c, d, fun z => ⟨(e z).1, (e z).2.1, hv, (e z).2.2.2⟩⟩), rw_up h.2 22 i v (by decide)⟩
theorem ok_up23 (h : q_ok S N) (hv : v = -1 ∨ ∃ j, j < N 5 ∧ v = nI j ∧ ¬ 3 < S 14 j) : q_ok (q_up S 23 i v) N := ⟨wf_up h.1 23 i v (by decide) (fun hi => by
  obtain ⟨a, b, c, d, e⟩ := h.1.2.2.2.2.2.1 i hi
  simp only [q_fw, q_upE, q_upN (by decide : 14 ≠ 23), q_upN (by decide : 15 ≠ 23), q_upN (by decide : 18 ≠ 23), q_upN (by decide : 19 ≠ 23), q_upN (by decide : 20 ≠ 23), q_upN (by decide : 21 ≠ 23), q_upN (by decide : 22 ≠ 23), q_upN (by decide : 25 ≠ 23)]
  exact ⟨a, b, c, d, fun z => ⟨(e z).1, (e z).2.1, (e z).2.2.1, hv⟩⟩), rw_up h.2 23 i v (by decide)⟩
theorem ok_up11 (h : q_ok S N) : q_ok (q_up S 11 i v) N := ⟨wf_up h.1 11 i v (by decide) (fun hi => by
  have := h.1.2.2.2.2.2.1 i hi
  simp only [q_fw, q_upN (by decide : 14 ≠ 11), q_upN (by decide : 15 ≠ 11), q_upN (by decide : 18 ≠ 11), q_upN (by decide : 19 ≠ 11), q_upN (by decide : 20 ≠ 11), q_upN (by decide : 21 ≠ 11), q_upN (by decide : 22 ≠ 11), q_upN (by decide : 23 ≠ 11), q_upN (by decide : 25 ≠ 11)]
  exact this), rw_up h.2 11 i v (by decide)⟩
theorem ok_up12 (h : q_ok S N) : q_ok (q_up S 12 i v) N := ⟨wf_up h.1 12 i v (by decide) (fun hi => by
  have := h.1.2.2.2.2.2.1 i hi
  simp only [q_fw, q_upN (by decide : 14 ≠ 12), q_upN (by decide : 15 ≠ 12), q_upN (by decide : 18 ≠ 12), q_upN (by decide : 19 ≠ 12), q_upN (by decide : 20 ≠ 12), q_upN (by decide : 21 ≠ 12), q_upN (by decide : 22 ≠ 12), q_upN (by decide : 23 ≠ 12), q_upN (by decide : 25 ≠ 12)]
  exact this), rw_up h.2 12 i v (by decide)⟩
theorem ok_up13 (h : q_ok S N) : q_ok (q_up S 13 i v) N := ⟨wf_up h.1 13 i v (by decide) (fun hi => by
  have := h.1.2.2.2.2.2.1 i hi
  simp only [q_fw, q_upN (by decide : 14 ≠ 13), q_upN (by decide : 15 ≠ 13), q_upN (by decide : 18 ≠ 13), q_upN (by decide : 19 ≠ 13), q_upN (by decide : 20 ≠ 13), q_upN (by decide : 21 ≠ 13), q_upN (by decide : 22 ≠ 13), q_upN (by decide : 23 ≠ 13), q_upN (by decide : 25 ≠ 13)]
  exact this), rw_up h.2 13 i v (by decide)⟩
theorem ok_up2 (h : q_ok S N) : q_ok (q_up S 2 i v) N := ⟨wf_up h.1 2 i v (by decide) (fun hi => by
  have := h.1.2.2.2.2.2.1 i hi
  simp only [q_fw, q_upN (by decide : 14 ≠ 2), q_upN (by decide : 15 ≠ 2), q_upN (by decide : 18 ≠ 2), q_upN (by decide : 19 ≠ 2), q_upN (by decide : 20 ≠ 2), q_upN (by decide : 21 ≠ 2), q_upN (by decide : 22 ≠ 2), q_upN (by decide : 23 ≠ 2), q_upN (by decide : 25 ≠ 2)]
  exact this), rw_up h.2 2 i v (by decide)⟩
theorem ok_up3 (h : q_ok S N) : q_ok (q_up S 3 i v) N := ⟨wf_up h.1 3 i v (by decide) (fun hi => by
  have := h.1.2.2.2.2.2.1 i hi
  simp only [q_fw, q_upN (by decide : 14 ≠ 3), q_upN (by decide : 15 ≠ 3), q_upN (by decide : 18 ≠ 3), q_upN (by decide : 19 ≠ 3), q_upN (by decide : 20 ≠ 3), q_upN (by decide : 21 ≠ 3), q_upN (by decide : 22 ≠ 3), q_upN (by decide : 23 ≠ 3), q_upN (by decide : 25 ≠ 3)]
  exact this), rw_up h.2 3 i v (by decide)⟩
theorem ok_up5 (h : q_ok S N) : q_ok (q_up S 5 i v) N := ⟨wf_up h.1 5 i v (by decide) (fun hi => by
  have := h.1.2.2.2.2.2.1 i hi
  simp only [q_fw, q_upN (by decide : 14 ≠ 5), q_upN (by decide : 15 ≠ 5), q_upN (by decide : 18 ≠ 5), q_upN (by decide : 19 ≠ 5), q_upN (by decide : 20 ≠ 5), q_upN (by decide : 21 ≠ 5), q_upN (by decide : 22 ≠ 5), q_upN (by decide : 23 ≠ 5), q_upN (by decide : 25 ≠ 5)]
  exact this), rw_up h.2 5 i v (by decide)⟩
theorem ok_up7 (h : q_ok S N) : q_ok (q_up S 7 i v) N := ⟨wf_up h.1 7 i v (by decide) (fun hi => by
  have := h.1.2.2.2.2.2.1 i hi
  simp only [q_fw, q_upN (by decide : 14 ≠ 7), q_upN (by decide : 15 ≠ 7), q_upN (by decide : 18 ≠ 7), q_upN (by decide : 19 ≠ 7), q_upN (by decide : 20 ≠ 7), q_upN (by decide : 21 ≠ 7), q_upN (by decide : 22 ≠ 7), q_upN (by decide : 23 ≠ 7), q_upN (by decide : 25 ≠ 7)]
  exact this), rw_up h.2 7 i v (by decide)⟩
theorem ok_up8 (h : q_ok S N) : q_ok (q_up S 8 i v) N := ⟨wf_up h.1 8 i v (by decide) (fun hi => by
  have := h.1.2.2.2.2.2.1 i hi
  simp only [q_fw, q_upN (by decide : 14 ≠ 8), q_upN (by decide : 15 ≠ 8), q_upN (by decide : 18 ≠ 8), q_upN (by decide : 19 ≠ 8), q_upN (by decide : 20 ≠ 8), q_upN (by decide : 21 ≠ 8), q_upN (by decide : 22 ≠ 8), q_upN (by decide : 23 ≠ 8), q_upN (by decide : 25 ≠ 8)]
  exact this), rw_up h.2 8 i v (by decide)⟩
theorem ok_go (h : q_ok S N) (hi : i < N 5) : q_ok (q_goS S i) N := by
  unfold q_goS
  split
  · exact ok_up20 h (Or.inr (Or.inr rfl))
  · rename_i h0
    exact ok_up15 h (q_fl_cell h0)
theorem ok_lnd (h : q_ok S N) : q_ok (q_lnd S i) N := by
  unfold q_lnd
  split
  · exact ok_up16 (ok_up20 h (Or.inr (Or.inl rfl)))
  · exact h
theorem ok_stp2 (h : q_ok S N) {b : Nat} (h1 : q_ce (S 15 i)) (hb : b < 256) (ah : Int32) : q_ok (q_stp2 S i b ah) N := ok_up15 (ok_up16 h) (q_ce_of (q_spB (q_spB h1.1 hb) hb))
theorem q_tk_n {j a b : Nat} (ha : S 22 i = nI a) (hb : S 19 j = nI b) (ha2 : a < 100) (hb2 : b < 100) : q_tk S i j = nI (min a b) := by
  unfold q_tk
  rw [ha, hb]
  by_cases h : b < a
  · rw [if_pos (nI_lt h (by omega)), Nat.min_eq_right (by omega)]
  · rw [if_neg (nI_nlt (by omega) (by omega)), Nat.min_eq_left (by omega)]
theorem nI_sub {a b : Nat} (h : b ≤ a) : nI a - nI b = nI (a - b) := by
  obtain ⟨c, rfl⟩ := Nat.exists_eq_add_of_le h
  rw [Nat.add_sub_cancel_left, ← nI_add, Int32.add_comm, Int32.sub_eq_add_neg, Int32.add_assoc, ← Int32.sub_eq_add_neg, Int32.sub_self, Int32.add_zero]
theorem ok_met (h : q_ok S N) (hi : i < N 5) {j : Nat} (hj : j < N 5) (hk : 3 < S 14 i) : q_ok (q_met S i j) N := by
  obtain ⟨a, ha, ea⟩ := ((h.1.2.2.2.2.2.1 i hi).2.2.2.2 hk).2.2.1
  obtain ⟨b, hb, eb⟩ := (h.1.2.2.2.2.2.1 j hj).2.2.2.1.2
  have et := q_tk_n ea eb ha hb
  have h1 : q_ok (q_met1 S i j) N := by
    unfold q_met1
    rw [et, ea, eb, nI_sub (by omega), nI_sub (by omega)]
    exact ok_up19 (ok_up22 h ⟨_, by omega, rfl⟩) ⟨_, by omega, rfl⟩
  have h2 : q_ok (q_met2 S i j) N := by
    unfold q_met2
    split
    · exact ok_up20 h1 (Or.inr (Or.inr rfl))
    · exact h1
  unfold q_met
  split
  · split
    · exact ok_up23 h2 (Or.inl rfl)
    · exact h2
  · exact h
theorem ok_fly (h : q_ok S N) (hi : i < N 5) (hk : 3 < S 14 i) (hN : N 5 ≤ 16) (hN3 : N 3 ≤ 5) : q_ok (q_fly S i) N := by
  obtain ⟨h1, _, _, _, hfl⟩ := h.1.2.2.2.2.2.1 i hi
  obtain ⟨⟨k, hh, e25⟩, ⟨n, hn, e21⟩, _, h23⟩ := hfl hk
  have h9 := h.1.2.2.2.1 k hh
  have eh : q_cl2 (S 25 i) = k := by rw [e25]; exact nI_clamp (by omega)
  unfold q_fly
  split
  · exact ok_up23 (ok_up20 (ok_up21 h ⟨0, by decide, rfl⟩) (Or.inr (Or.inr rfl))) (Or.inl rfl)
  · rename_i h0
    have hv : ∃ m, m < 100 ∧ S 21 i - 1 = nI m := by
      rw [e21] at h0 ⊢
      cases n with
      | zero => exact absurd (by decide) h0
      | succ n => exact ⟨n, by omega, nI_pred n⟩
    have o1 : q_ok (q_up S 21 i (S 21 i - 1)) N := ok_up21 h hv
    have f15 : q_ce (q_up S 21 i (S 21 i - 1) 15 i) := by rw [q_upN (by decide)]; exact h1
    split
    · refine ok_lnd (ok_stp2 (ok_up23 o1 (Or.inl rfl)) ?_ ?_ 0)
      · rw [q_upN (by decide)]; exact f15
      · rw [eh]; exact h9.1
    · rename_i h3
      rcases h23 with h23 | ⟨j, hj, h23, hkj⟩
      · exact absurd (Or.inl (by rw [h23]; decide)) h3
      · have ej : q_cl2 (S 23 i) = j := by rw [h23]; exact nI_clamp (by omega)
        rw [ej]
        have o2 := ok_met (ok_stp2 o1 f15 (h.1.2.2.2.2.2.1 j hj).1.1 (S 16 j)) hi hj (by unfold q_stp2; rw [q_upN (by decide), q_upN (by decide), q_upN (by decide)]; exact hk)
        split
        · exact ok_lnd o2
        · exact o2
theorem ok_snd (h : q_ok S N) {t : Nat} : q_ok (q_snd S N t) N := by
  unfold q_snd
  split
  · exact ok_up13 (ok_up11 h)
  · exact ok_up12 (ok_up11 h)
theorem ok_min (h : q_ok S N) (hm : ∃ n, n < 1000 ∧ S 0 7 = nI n) : q_ok (q_up S 0 7 (S 0 7 + 1)) N := by
  obtain ⟨n, hn, en⟩ := hm
  refine ⟨?_, rw_up h.2 0 7 _ (by decide)⟩
  obtain ⟨a, b, c, d, e, f, _⟩ := h.1
  have hx : ∀ k, q_fw S N k → q_fw (q_up S 0 7 (S 0 7 + 1)) N k := by
    intro k hk
    simp only [q_fw, q_upN (by decide : 14 ≠ 0), q_upN (by decide : 15 ≠ 0), q_upN (by decide : 18 ≠ 0), q_upN (by decide : 19 ≠ 0), q_upN (by decide : 20 ≠ 0), q_upN (by decide : 21 ≠ 0), q_upN (by decide : 22 ≠ 0), q_upN (by decide : 23 ≠ 0), q_upN (by decide : 25 ≠ 0)]
    exact hk
  exact ⟨a, b, c, d, e, fun k hk => hx k (f k hk), n + 1, by omega, by rw [q_upE, en, nI_1]⟩
end QOK
/-- a minute -/
def q_p1F (i : Nat) (S : Nat → Nat → Int32) : Nat → Nat → Int32 := if S 20 i = 0 ∧ ¬ 3 < S 14 i then q_goS S i else S
def q_p2F (i : Nat) (S : Nat → Nat → Int32) : Nat → Nat → Int32 := if S 20 i = 0 ∧ 3 < S 14 i then q_fly S i else S
def q_p3F (N : Nat → Nat) (t : Nat) (S : Nat → Nat → Int32) : Nat → Nat → Int32 := q_snd S N t
def q_pass (S : Nat → Nat → Int32) (N : Nat → Nat) : Nat → Nat → Int32 := q_fo (q_p3F N) 0 (N 4) (q_fo q_p2F 0 (N 5) (q_fo q_p1F 0 (N 5) (q_up S 0 7 (S 0 7 + 1))))
theorem ok_p1 {S : Nat → Nat → Int32} {N : Nat → Nat} {i : Nat} (h : q_ok S N) (hi : i < N 5) : q_ok (q_p1F i S) N := by
  unfold q_p1F
  split
  · exact ok_go h hi
  · exact h
theorem ok_p2 {S : Nat → Nat → Int32} {N : Nat → Nat} {i : Nat} (h : q_ok S N) (hi : i < N 5) (hN : N 5 ≤ 16) (hN3 : N 3 ≤ 5) : q_ok (q_p2F i S) N := by
  unfold q_p2F
  split
  · rename_i hh; exact ok_fly h hi hh.2 hN hN3
  · exact h

section QPA
variable {o : q_H} {w : Nat} {N : Nat → Nat}
theorem repC_min {g S : Nat → Nat → Int32} (hr : repC w g S N) : repC w (q_up g w 8 (g w 8 + 1)) (q_up S 0 7 (S 0 7 + 1)) N := by
  have em := hr.2.2.2.1
  refine ⟨hr.1, ?_, ?_, ?_, ?_, ?_⟩
  · intro q hq
    have hs := q_tbs_sm q hq
    exact q_tr_fr (hr.2.1 q hq) (fun k => q_upN (by omega)) (fun k => q_upN (by omega)) (fun f i h1 h2 _ => q_upN (by omega))
  · intro r h1 i h2 h3
    rw [q_upN (by omega), q_upN (by decide)]
    rw [q_upN (by decide)] at h3
    exact hr.2.2.1 r h1 i h2 h3
  · rw [q_upE, q_upE, em]
  · rw [q_upJ (by decide), q_upJ (by decide)]; exact hr.2.2.2.2.1
  · rw [q_upJ (by decide), q_upJ (by decide)]; exact hr.2.2.2.2.2
theorem c_pass1 (ho : q_oR o) (d : Nat) : ∀ n m g S, m + n = N 5 → repC w g S N → q_ok S N → ∃ g2, q_sem (d + 6) mX2_pass 12 [.ref w, .int (nI m)] [] (q_K o g) = q_sem (d + 6) mX2_pass 54 [.ref w, .int 0] [] (q_K o g2) ∧ repC w g2 (q_fo q_p1F m n S) N ∧ q_ok (q_fo q_p1F m n S) N ∧ q_fr w g g2 := by
  intro n
  induction n with
  | zero =>
    intro m g S hm hr hk
    have hw := hr.1
    have hN := n_cnt_fl hr
    refine ⟨g, ?_, hr, hk, q_fr_rf⟩
    have c1 : nI (N 5) ≤ nI m := nI_le (by omega) (by omega)
    rw [B_X2_pass_12 hw]
    simp only [B_X2_pass_20 hw, w_get_fl0 hr, w_get_fl1 hr, w_get_fl2 hr, w_get_fl3 hr, w_get_fl4 hr, w_get_fl5 hr, w_get_fl6 hr, w_get_fl7 hr, w_get_fl8 hr, w_get_fl9 hr, w_get_fl10 hr, w_get_fl11 hr, w_size_fl hr, w_has_fl hr, w_full_fl hr, Option.bind_some, Option.toList_some, Option.toList_none, List.cons_append, List.nil_append, c1, ↓reduceIte]
  | succ n ih =>
    intro m g S hm hr hk
    have hw := hr.1
    have hN := n_cnt_fl hr
    have hm2 : m < N 5 := by omega
    have hI := q_atI hm2 (by omega)
    have c1 : ¬ nI (N 5) ≤ nI m := nI_ge hm2 (by omega)
    have hk1 := ok_p1 hk hm2
    have key : ∃ g1, q_sem (d + 6) mX2_pass 12 [.ref w, .int (nI m)] [] (q_K o g) = q_sem (d + 6) mX2_pass 12 [.ref w, .int (nI (m + 1))] [] (q_K o g1) ∧ repC w g1 (q_p1F m S) N ∧ q_fr w g g1 := by
      unfold q_p1F
      rw [B_X2_pass_12 hw]
      simp only [B_X2_pass_20 hw, w_get_fl0 hr, w_get_fl1 hr, w_get_fl2 hr, w_get_fl3 hr, w_get_fl4 hr, w_get_fl5 hr, w_get_fl6 hr, w_get_fl7 hr, w_get_fl8 hr, w_get_fl9 hr, w_get_fl10 hr, w_get_fl11 hr, w_size_fl hr, w_has_fl hr, w_full_fl hr, Option.bind_some, Option.toList_some, Option.toList_none, List.cons_append, List.nil_append, c1, ↓reduceIte, c_stands hr, hI, B_X2_pass_29 hw, q_i0]
      by_cases h1 : S 20 m = 0
      · rw [if_neg (fun z => z h1)]
        simp only [c_isA4 hr hk.1 ho, hI, Option.bind_some, Option.toList_some, Option.toList_none, List.cons_append, List.nil_append, B_X2_pass_38 hw, q_i0]
        by_cases h2 : 3 < S 14 m
        · rw [if_neg (fun z => z h2), if_neg (fun z => z.2 h2)]
          exact ⟨g, by rw [nI_1], hr, q_fr_rf⟩
        · rw [if_pos h2, if_pos ⟨h1, h2⟩]
          obtain ⟨g1, e1, hr1, hf1⟩ := c_goOn (o := o) hr hk.1 ho (d + 2) hm2
          refine ⟨g1, ?_, hr1, hf1⟩
          rw [e1]
          simp only [Option.bind_some, Option.toList_some, Option.toList_none, List.cons_append, List.nil_append, B_X2_pass_46 hw, nI_1]
      · rw [if_pos h1, if_neg (fun z => h1 z.1)]
        exact ⟨g, by rw [nI_1], hr, q_fr_rf⟩
    obtain ⟨g1, e1, hr1, hf1⟩ := key
    obtain ⟨g2, e2, hr2, hk2, hf2⟩ := ih (m + 1) g1 (q_p1F m S) (by omega) hr1 hk1
    exact ⟨g2, e1.trans e2, hr2, hk2, q_fr_tr hf1 hf2⟩
theorem c_pass2 (ho : q_oR o) (d : Nat) : ∀ n m g S, m + n = N 5 → repC w g S N → q_ok S N → ∃ g2, q_sem (d + 6) mX2_pass 54 [.ref w, .int (nI m)] [] (q_K o g) = q_sem (d + 6) mX2_pass 96 [.ref w, .int 0] [] (q_K o g2) ∧ repC w g2 (q_fo q_p2F m n S) N ∧ q_ok (q_fo q_p2F m n S) N ∧ q_fr w g g2 := by
  intro n
  induction n with
  | zero =>
    intro m g S hm hr hk
    have hw := hr.1
    have hN := n_cnt_fl hr
    refine ⟨g, ?_, hr, hk, q_fr_rf⟩
    have c1 : nI (N 5) ≤ nI m := nI_le (by omega) (by omega)
    rw [B_X2_pass_54 hw]
    simp only [B_X2_pass_62 hw, w_get_fl0 hr, w_get_fl1 hr, w_get_fl2 hr, w_get_fl3 hr, w_get_fl4 hr, w_get_fl5 hr, w_get_fl6 hr, w_get_fl7 hr, w_get_fl8 hr, w_get_fl9 hr, w_get_fl10 hr, w_get_fl11 hr, w_size_fl hr, w_has_fl hr, w_full_fl hr, Option.bind_some, Option.toList_some, Option.toList_none, List.cons_append, List.nil_append, c1, ↓reduceIte]
  | succ n ih =>
    intro m g S hm hr hk
    have hw := hr.1
    have hN := n_cnt_fl hr
    have hm2 : m < N 5 := by omega
    have hI := q_atI hm2 (by omega)
    have c1 : ¬ nI (N 5) ≤ nI m := nI_ge hm2 (by omega)
    have hk1 := ok_p2 hk hm2 hN (n_cnt_fi hr)
    have key : ∃ g1, q_sem (d + 6) mX2_pass 54 [.ref w, .int (nI m)] [] (q_K o g) = q_sem (d + 6) mX2_pass 54 [.ref w, .int (nI (m + 1))] [] (q_K o g1) ∧ repC w g1 (q_p2F m S) N ∧ q_fr w g g1 := by
      unfold q_p2F
      rw [B_X2_pass_54 hw]
      simp only [B_X2_pass_62 hw, w_get_fl0 hr, w_get_fl1 hr, w_get_fl2 hr, w_get_fl3 hr, w_get_fl4 hr, w_get_fl5 hr, w_get_fl6 hr, w_get_fl7 hr, w_get_fl8 hr, w_get_fl9 hr, w_get_fl10 hr, w_get_fl11 hr, w_size_fl hr, w_has_fl hr, w_full_fl hr, Option.bind_some, Option.toList_some, Option.toList_none, List.cons_append, List.nil_append, c1, ↓reduceIte, c_stands hr, hI, B_X2_pass_71 hw, q_i0]
      by_cases h1 : S 20 m = 0
      · rw [if_neg (fun z => z h1)]
        simp only [c_isA4 hr hk.1 ho, hI, Option.bind_some, Option.toList_some, Option.toList_none, List.cons_append, List.nil_append, B_X2_pass_80 hw, q_i0]
        by_cases h2 : 3 < S 14 m
        · rw [if_neg (fun z => z h2), if_pos ⟨h1, h2⟩]
          obtain ⟨g1, e1, hr1, hf1⟩ := c_flyOn (o := o) hr hk.1 (d + 1) hm2 h2
          refine ⟨g1, ?_, hr1, hf1⟩
          rw [e1]
          simp only [Option.bind_some, Option.toList_some, Option.toList_none, List.cons_append, List.nil_append, B_X2_pass_88 hw, nI_1]
        · rw [if_pos h2, if_neg (fun z => h2 z.2)]
          exact ⟨g, by rw [nI_1], hr, q_fr_rf⟩
      · rw [if_pos h1, if_neg (fun z => h1 z.1)]
        exact ⟨g, by rw [nI_1], hr, q_fr_rf⟩
    obtain ⟨g1, e1, hr1, hf1⟩ := key
    obtain ⟨g2, e2, hr2, hk2, hf2⟩ := ih (m + 1) g1 (q_p2F m S) (by omega) hr1 hk1
    exact ⟨g2, e1.trans e2, hr2, hk2, q_fr_tr hf1 hf2⟩
theorem c_pass3 (ho : q_oR o) (d : Nat) : ∀ n m g S, m + n = N 4 → repC w g S N → q_ok S N → ∃ g2, q_sem (d + 6) mX2_pass 96 [.ref w, .int (nI m)] [] (q_K o g) = some (none, q_K o g2) ∧ repC w g2 (q_fo (q_p3F N) m n S) N ∧ q_ok (q_fo (q_p3F N) m n S) N ∧ q_fr w g g2 := by
  intro n
  induction n with
  | zero =>
    intro m g S hm hr hk
    have hw := hr.1
    have hN := n_cnt_to hr
    refine ⟨g, ?_, hr, hk, q_fr_rf⟩
    have c1 : nI (N 4) ≤ nI m := nI_le (by omega) (by omega)
    rw [B_X2_pass_96 hw]
    simp only [B_X2_pass_104 hw, w_get_to0 hr, w_get_to1 hr, w_get_to2 hr, w_get_to3 hr, w_size_to hr, w_has_to hr, w_full_to hr, Option.bind_some, Option.toList_some, Option.toList_none, List.cons_append, List.nil_append, c1, ↓reduceIte]
  | succ n ih =>
    intro m g S hm hr hk
    have hw := hr.1
    have hN := n_cnt_to hr
    have hm2 : m < N 4 := by omega
    have c1 : ¬ nI (N 4) ≤ nI m := nI_ge hm2 (by omega)
    obtain ⟨g1, e1, hr1, hf1⟩ := c_sound (o := o) hr hk.1 hk.2 ho d hm2
    obtain ⟨g2, e2, hr2, hk2, hf2⟩ := ih (m + 1) g1 (q_p3F N m S) (by omega) hr1 (ok_snd hk)
    refine ⟨g2, ?_, hr2, hk2, q_fr_tr hf1 hf2⟩
    rw [B_X2_pass_96 hw]
    simp only [B_X2_pass_104 hw, w_get_to0 hr, w_get_to1 hr, w_get_to2 hr, w_get_to3 hr, w_size_to hr, w_has_to hr, w_full_to hr, Option.bind_some, Option.toList_some, Option.toList_none, List.cons_append, List.nil_append, c1, ↓reduceIte, e1, B_X2_pass_112 hw, nI_1]
    exact e2
theorem c_pass {g S : Nat → Nat → Int32} (hr : repC w g S N) (hk : q_ok S N) (ho : q_oR o) (hm : ∃ n, n < 1000 ∧ S 0 7 = nI n) (d : Nat) : ∃ g2, q_sem (d + 6) mX2_pass 0 [.ref w, .retAddr 0] [] (q_K o g) = some (none, q_K o g2) ∧ repC w g2 (q_pass S N) N ∧ q_ok (q_pass S N) N ∧ q_fr w g g2 := by
  have hw := hr.1
  have hf0 : q_fr w g (q_up g w 8 (g w 8 + 1)) := fun p k h => q_upN (by omega)
  obtain ⟨g1, e1, hr1, hk1, hf1⟩ := c_pass1 (o := o) ho d (N 5) 0 _ _ (by omega) (repC_min hr) (ok_min hk hm)
  obtain ⟨g2, e2, hr2, hk2, hf2⟩ := c_pass2 (o := o) ho d (N 5) 0 _ _ (by omega) hr1 hk1
  obtain ⟨g3, e3, hr3, hk3, hf3⟩ := c_pass3 (o := o) ho d (N 4) 0 _ _ (by omega) hr2 hk2
  refine ⟨g3, ?_, hr3, hk3, q_fr_tr (q_fr_tr (q_fr_tr hf0 hf1) hf2) hf3⟩
  rw [B_X2_pass_0 hw]
  exact e1.trans (e2.trans e3)
end QPA
