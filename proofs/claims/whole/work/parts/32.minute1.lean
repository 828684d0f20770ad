/-! the end of a minute: one flyer, one town -/
theorem q_up_self {S : Nat → Nat → Int32} {f i : Nat} {v : Int32} (h : S f i = v) : q_up S f i v = S := by
  funext a b
  unfold q_up
  by_cases c : a = f ∧ b = i
  · obtain ⟨rfl, rfl⟩ := c
    rw [if_pos ⟨rfl, rfl⟩, h]
  · rw [if_neg c]
def q_goS (S : Nat → Nat → Int32) (i : Nat) : Nat → Nat → Int32 := if q_fl (q_cl2 (S 15 i)) (q_cl2 (S 18 i)) (S 17 i) < 0 then q_up S 20 i 2 else q_up S 15 i (q_fl (q_cl2 (S 15 i)) (q_cl2 (S 18 i)) (S 17 i))
def q_lnd (S : Nat → Nat → Int32) (i : Nat) : Nat → Nat → Int32 := if S 15 i = S 9 (q_cl2 (S 25 i)) then q_up (q_up S 20 i 1) 16 i 0 else S
def q_tk (S : Nat → Nat → Int32) (i j : Nat) : Int32 := if S 19 j < S 22 i then S 19 j else S 22 i
def q_met1 (S : Nat → Nat → Int32) (i j : Nat) : Nat → Nat → Int32 := q_up (q_up S 22 i (S 22 i - q_tk S i j)) 19 j (S 19 j - q_tk S i j)
def q_met2 (S : Nat → Nat → Int32) (i j : Nat) : Nat → Nat → Int32 := if S 19 j = q_tk S i j then q_up (q_met1 S i j) 20 j 2 else q_met1 S i j
def q_met (S : Nat → Nat → Int32) (i j : Nat) : Nat → Nat → Int32 := if S 16 j ≤ S 16 i ∧ nI (q_ap (q_cl2 (S 15 i)) (q_cl2 (S 15 j))) ≤ 1 then (if S 22 i = q_tk S i j then q_up (q_met2 S i j) 23 i (-1) else q_met2 S i j) else S
def q_stp2 (S : Nat → Nat → Int32) (i aim : Nat) (ah : Int32) : Nat → Nat → Int32 := q_up (q_up S 16 i (q_cl (S 16 i) ah)) 15 i (nI (q_sp (q_sp (q_cl2 (S 15 i)) aim) aim))
def q_fly (S : Nat → Nat → Int32) (i : Nat) : Nat → Nat → Int32 :=
  if S 21 i - 1 < 0 then q_up (q_up (q_up S 21 i 0) 20 i 2) 23 i (-1)
  else if S 23 i < 0 ∨ ¬ S 20 (q_cl2 (S 23 i)) = 0 then q_lnd (q_stp2 (q_up (q_up S 21 i (S 21 i - 1)) 23 i (-1)) i (q_cl2 (S 9 (q_cl2 (S 25 i)))) 0) i
  else if q_met (q_stp2 (q_up S 21 i (S 21 i - 1)) i (q_cl2 (S 15 (q_cl2 (S 23 i)))) (S 16 (q_cl2 (S 23 i)))) i (q_cl2 (S 23 i)) 23 i < 0 then q_lnd (q_met (q_stp2 (q_up S 21 i (S 21 i - 1)) i (q_cl2 (S 15 (q_cl2 (S 23 i)))) (S 16 (q_cl2 (S 23 i)))) i (q_cl2 (S 23 i))) i
  else q_met (q_stp2 (q_up S 21 i (S 21 i - 1)) i (q_cl2 (S 15 (q_cl2 (S 23 i)))) (S 16 (q_cl2 (S 23 i)))) i (q_cl2 (S 23 i))
def q_snd (S : Nat → Nat → Int32) (N : Nat → Nat) (t : Nat) : Nat → Nat → Int32 := if q_wl S N t = 0 then q_up (q_up S 11 t 0) 13 t (S 13 t + q_fo (q_htB S (S 10 t)) 0 (N 5) 0) else q_up (q_up S 11 t 1) 12 t (S 12 t + 1)
section QME
variable {o : q_H} {w : Nat} {g S : Nat → Nat → Int32} {N : Nat → Nat}
theorem w_wr {q : Nat × Nat × Nat × Nat × Nat × Nat} (hq : q ∈ q_tbs) (hr : repC w g S N) {c : Nat} (hc : c < q.2.2.2.1) (h16 : q.1 ≠ 16) (d : Nat) {i : Nat} (hi : i < N q.2.2.2.2.1) (v : Int32) : ∃ g2, q_sem (d + 1) mX7_write 0 [.ref (w + q.1), .int (nI i), .int (nI c), .int v] [] (q_K o g) = some (none, q_K o g2) ∧ repC w g2 (q_up S (q.2.2.2.2.2 + c) i v) N ∧ q_fr w g g2 := by
  obtain ⟨g2, e, h, hf⟩ := w_write (o := o) hq hr hc h16 d (nI i) v
  rw [q_aw_in hi (by have := w_cnt hq hr; have := (q_tbs_sm q hq).2.2.2.2.2.2.2.1; omega)] at h
  exact ⟨g2, e, h, hf⟩
theorem w_wfl (hr : repC w g S N) {i : Nat} (hi : i < N 5) (c : Nat) (hc : c < 12) (v : Int32) (d : Nat) : ∃ g2, q_sem (d + 1) mX7_write 0 [.ref (w + 11), .int (nI i), .int (nI c), .int v] [] (q_K o g) = some (none, q_K o g2) ∧ repC w g2 (q_up S (14 + c) i v) N ∧ q_fr w g g2 := w_wr (q := (11, 16, 12, 12, 5, 14)) (by decide) hr hc (by decide) d hi v
theorem w_wto (hr : repC w g S N) {i : Nat} (hi : i < N 4) (c : Nat) (hc : c < 4) (v : Int32) (d : Nat) : ∃ g2, q_sem (d + 1) mX7_write 0 [.ref (w + 9), .int (nI i), .int (nI c), .int v] [] (q_K o g) = some (none, q_K o g2) ∧ repC w g2 (q_up S (10 + c) i v) N ∧ q_fr w g g2 := w_wr (q := (9, 6, 4, 4, 4, 10)) (by decide) hr hc (by decide) d hi v
theorem q_atI {i n : Nat} (hi : i < n) (hn : n < 2 ^ 31) : ∀ (S : Nat → Nat → Int32) (f : Nat), q_at S n f (nI i) = S f i := fun _ _ => q_at_in hi hn
theorem q_upN {S : Nat → Nat → Int32} {f i f2 j : Nat} {v : Int32} (h : f2 ≠ f) : q_up S f i v f2 j = S f2 j := q_up_ne (fun z => h z.1)
theorem q_upE {S : Nat → Nat → Int32} {f i : Nat} {v : Int32} : q_up S f i v f i = v := q_up_eq
theorem q_upJ {S : Nat → Nat → Int32} {f i f2 j : Nat} {v : Int32} (h : j ≠ i) : q_up S f i v f2 j = S f2 j := q_up_ne (fun z => h z.2)
theorem c_goOn (hr : repC w g S N) (hf : q_wf S N) (ho : q_oR o) (d : Nat) {i : Nat} (hi : i < N 5) : ∃ g2, q_sem (d + 3) mX2_goOn 0 [.ref w, .int (nI i), .retAddr 0, .retAddr 0] [] (q_K o g) = some (none, q_K o g2) ∧ repC w g2 (q_goS S i) N ∧ q_fr w g g2 := by
  have hw := hr.1
  have hN := n_cnt_fl hr
  have hI := q_atI hi (by omega)
  have h1 := (hf.2.2.2.2.2.1 i hi).1
  obtain ⟨y, hy, ey⟩ := (hf.2.2.2.2.2.1 i hi).2.2.1
  have hfl := s_flown (o := o) (g := g) d ho h1.1 hy (S 17 i)
  have ey2 : q_cl2 (S 18 i) = y := by rw [ey]; exact nI_clamp (by omega)
  rw [← h1.2, ← ey] at hfl
  unfold q_goS
  rw [ey2]
  by_cases h0 : q_fl (q_cl2 (S 15 i)) y (S 17 i) < 0
  · have h0' : ¬ 0 ≤ q_fl (q_cl2 (S 15 i)) y (S 17 i) := by rw [q_ltN]; exact h0
    obtain ⟨g2, e2, hr2, hf2⟩ := w_wfl (o := o) hr hi 6 (by decide) 2 (d + 1)
    rw [if_pos h0]
    refine ⟨g2, ?_, hr2, hf2⟩
    simp only [B_X2_goOn_0 hw, B_X2_goOn_11 hw, B_X2_goOn_17 hw, B_X2_goOn_23 hw, B_X2_goOn_26 hw, B_X2_goOn_49 hw, B_X2_goOn_39 hw, w_get_fl0 hr, w_get_fl1 hr, w_get_fl2 hr, w_get_fl3 hr, w_get_fl4 hr, w_get_fl5 hr, w_get_fl6 hr, w_get_fl7 hr, w_get_fl8 hr, w_get_fl9 hr, w_get_fl10 hr, w_get_fl11 hr, w_size_fl hr, w_has_fl hr, w_full_fl hr, Option.bind_some, Option.toList_some, Option.toList_none, List.cons_append, List.nil_append, hI, hfl, h0', ↓reduceIte]
    rw [show (6 : Int32) = nI 6 from rfl, e2]
    simp only [B_X2_goOn_0 hw, B_X2_goOn_11 hw, B_X2_goOn_17 hw, B_X2_goOn_23 hw, B_X2_goOn_26 hw, B_X2_goOn_49 hw, B_X2_goOn_39 hw, Option.bind_some, Option.toList_some, Option.toList_none, List.cons_append, List.nil_append]
  · have h0' : 0 ≤ q_fl (q_cl2 (S 15 i)) y (S 17 i) := by rw [← q_leN]; exact h0
    obtain ⟨g2, e2, hr2, hf2⟩ := w_wfl (o := o) hr hi 1 (by decide) (q_fl (q_cl2 (S 15 i)) y (S 17 i)) (d + 1)
    rw [if_neg h0]
    refine ⟨g2, ?_, hr2, hf2⟩
    simp only [B_X2_goOn_0 hw, B_X2_goOn_11 hw, B_X2_goOn_17 hw, B_X2_goOn_23 hw, B_X2_goOn_26 hw, B_X2_goOn_49 hw, B_X2_goOn_39 hw, w_get_fl0 hr, w_get_fl1 hr, w_get_fl2 hr, w_get_fl3 hr, w_get_fl4 hr, w_get_fl5 hr, w_get_fl6 hr, w_get_fl7 hr, w_get_fl8 hr, w_get_fl9 hr, w_get_fl10 hr, w_get_fl11 hr, w_size_fl hr, w_has_fl hr, w_full_fl hr, Option.bind_some, Option.toList_some, Option.toList_none, List.cons_append, List.nil_append, hI, hfl, h0', ↓reduceIte]
    rw [show (1 : Int32) = nI 1 from rfl, e2]
    simp only [B_X2_goOn_0 hw, B_X2_goOn_11 hw, B_X2_goOn_17 hw, B_X2_goOn_23 hw, B_X2_goOn_26 hw, B_X2_goOn_49 hw, B_X2_goOn_39 hw, Option.bind_some, Option.toList_some, Option.toList_none, List.cons_append, List.nil_append]
theorem c_fieldOf (hr : repC w g S N) (d : Nat) {i h : Nat} (hi : i < N 5) (hh : h < N 3) (e25 : S 25 i = nI h) : q_sem (d + 2) mX2_fieldOf 0 [.ref w, .int (nI i)] [] (q_K o g) = some (some (.int (S 9 h)), q_K o g) := by
  have hw := hr.1
  have hN := n_cnt_fl hr
  have hN3 := n_cnt_fi hr
  simp only [B_X2_fieldOf_0 hw, B_X2_fieldOf_14 hw, B_X2_fieldOf_18 hw, w_get_fl0 hr, w_get_fl1 hr, w_get_fl2 hr, w_get_fl3 hr, w_get_fl4 hr, w_get_fl5 hr, w_get_fl6 hr, w_get_fl7 hr, w_get_fl8 hr, w_get_fl9 hr, w_get_fl10 hr, w_get_fl11 hr, w_size_fl hr, w_has_fl hr, w_full_fl hr, w_get_fi0 hr, w_size_fi hr, w_has_fi hr, w_full_fi hr, Option.bind_some, Option.toList_some, Option.toList_none, List.cons_append, List.nil_append, q_atI hi (by omega), e25, q_atI hh (by omega)]
theorem c_land (hr : repC w g S N) (d : Nat) {i h : Nat} (hi : i < N 5) (hh : h < N 3) (e25 : S 25 i = nI h) : ∃ g2, q_sem (d + 3) mX2_land 0 [.ref w, .int (nI i)] [] (q_K o g) = some (none, q_K o g2) ∧ repC w g2 (q_lnd S i) N ∧ q_fr w g g2 := by
  have hw := hr.1
  have hN := n_cnt_fl hr
  have hN3 := n_cnt_fi hr
  have eh : q_cl2 (S 25 i) = h := by rw [e25]; exact nI_clamp (by omega)
  unfold q_lnd
  rw [eh]
  by_cases h0 : S 15 i = S 9 h
  · rw [if_pos h0]
    obtain ⟨g1, e1, hr1, hf1⟩ := w_wfl (o := o) hr hi 6 (by decide) 1 (d + 1)
    obtain ⟨g2, e2, hr2, hf2⟩ := w_wfl (o := o) hr1 hi 2 (by decide) 0 (d + 1)
    refine ⟨g2, ?_, hr2, q_fr_tr hf1 hf2⟩
    rw [show nI 6 = (6 : Int32) from rfl] at e1
    rw [show nI 2 = (2 : Int32) from rfl] at e2
    simp only [B_X2_land_0 hw, B_X2_land_9 hw, B_X2_land_14 hw, B_X2_land_28 hw, B_X2_land_38 hw, w_get_fl0 hr, w_get_fl1 hr, w_get_fl2 hr, w_get_fl3 hr, w_get_fl4 hr, w_get_fl5 hr, w_get_fl6 hr, w_get_fl7 hr, w_get_fl8 hr, w_get_fl9 hr, w_get_fl10 hr, w_get_fl11 hr, w_size_fl hr, w_has_fl hr, w_full_fl hr, Option.bind_some, Option.toList_some, Option.toList_none, List.cons_append, List.nil_append, q_atI hi (by omega), c_fieldOf hr _ hi hh e25, if_pos h0, e1, e2]
  · rw [if_neg h0]
    refine ⟨g, ?_, hr, q_fr_rf⟩
    simp only [B_X2_land_0 hw, B_X2_land_9 hw, B_X2_land_14 hw, B_X2_land_28 hw, B_X2_land_38 hw, w_get_fl0 hr, w_get_fl1 hr, w_get_fl2 hr, w_get_fl3 hr, w_get_fl4 hr, w_get_fl5 hr, w_get_fl6 hr, w_get_fl7 hr, w_get_fl8 hr, w_get_fl9 hr, w_get_fl10 hr, w_get_fl11 hr, w_size_fl hr, w_has_fl hr, w_full_fl hr, Option.bind_some, Option.toList_some, Option.toList_none, List.cons_append, List.nil_append, q_atI hi (by omega), c_fieldOf hr _ hi hh e25, if_neg h0]
theorem c_meet (hr : repC w g S N) (d : Nat) {i j : Nat} (hi : i < N 5) (hj : j < N 5) (h1 : q_ce (S 15 i)) (h2 : q_ce (S 15 j)) : ∃ g2, q_sem (d + 3) mX2_meet 0 [.ref w, .int (nI i), .int (nI j), .retAddr 0, .retAddr 0, .retAddr 0, .retAddr 0] [] (q_K o g) = some (none, q_K o g2) ∧ repC w g2 (q_met S i j) N ∧ q_fr w g g2 := by
  have hw := hr.1
  have hN := n_cnt_fl hr
  have hI := q_atI hi (by omega)
  have hJ := q_atI hj (by omega)
  have hm := c_meets (o := o) (g := g) h1.1 h2.1 d (S 16 i) (S 16 j)
  rw [← h1.2, ← h2.2] at hm
  unfold q_met
  by_cases h0 : S 16 j ≤ S 16 i ∧ nI (q_ap (q_cl2 (S 15 i)) (q_cl2 (S 15 j))) ≤ 1
  · rw [if_pos h0]
    obtain ⟨g1, e1, hr1, hf1⟩ := w_wfl (o := o) hr hi 8 (by decide) (S 22 i - q_tk S i j) (d + 1)
    obtain ⟨g2, e2, hr2, hf2⟩ := w_wfl (o := o) hr1 hj 5 (by decide) (S 19 j - q_tk S i j) (d + 1)
    rw [show nI 8 = (8 : Int32) from rfl] at e1
    rw [show nI 5 = (5 : Int32) from rfl] at e2
    have hr2 : repC w g2 (q_met1 S i j) N := hr2
    have et : (if S 19 j < S 22 i then S 19 j else S 22 i) = q_tk S i j := rfl
    have e85 : q_sem (d + 3) mX2_meet 0 [.ref w, .int (nI i), .int (nI j), .retAddr 0, .retAddr 0, .retAddr 0, .retAddr 0] [] (q_K o g) = q_sem (d + 3) mX2_meet 85 [.ref w, .int (nI i), .int (nI j), .ref (w + 11), .int (S 22 i), .int (S 19 j), .int (q_tk S i j)] [] (q_K o g2) := by
      simp only [B_X2_meet_0 hw, B_X2_meet_11 hw, B_X2_meet_17 hw, B_X2_meet_23 hw, B_X2_meet_29 hw, B_X2_meet_32 hw, B_X2_meet_43 hw, B_X2_meet_51 hw, B_X2_meet_74 hw, w_get_fl0 hr, w_get_fl1 hr, w_get_fl2 hr, w_get_fl3 hr, w_get_fl4 hr, w_get_fl5 hr, w_get_fl6 hr, w_get_fl7 hr, w_get_fl8 hr, w_get_fl9 hr, w_get_fl10 hr, w_get_fl11 hr, w_size_fl hr, w_has_fl hr, w_full_fl hr, Option.bind_some, Option.toList_some, Option.toList_none, List.cons_append, List.nil_append, hI, hJ, hm, q_i0, if_neg (fun z : ¬ _ => z h0), et, e1, e2]
    have step3 : ∃ g3, q_sem (d + 3) mX2_meet 85 [.ref w, .int (nI i), .int (nI j), .ref (w + 11), .int (S 22 i), .int (S 19 j), .int (q_tk S i j)] [] (q_K o g2) = q_sem (d + 3) mX2_meet 100 [.ref w, .int (nI i), .int (nI j), .ref (w + 11), .int (S 22 i), .int (S 19 j), .int (q_tk S i j)] [] (q_K o g3) ∧ repC w g3 (q_met2 S i j) N ∧ q_fr w g2 g3 := by
      unfold q_met2
      by_cases h5 : S 19 j = q_tk S i j
      · rw [if_pos h5]
        obtain ⟨g3, e3, hr3, hf3⟩ := w_wfl (o := o) hr2 hj 6 (by decide) 2 (d + 1)
        rw [show nI 6 = (6 : Int32) from rfl] at e3
        refine ⟨g3, ?_, hr3, hf3⟩
        rw [B_X2_meet_85 hw, if_pos h5, e3]
        rfl
      · rw [if_neg h5]
        refine ⟨g2, ?_, hr2, q_fr_rf⟩
        rw [B_X2_meet_85 hw, if_neg h5, B_X2_meet_100 hw]
    obtain ⟨g3, e3, hr3, hf3⟩ := step3
    by_cases h6 : S 22 i = q_tk S i j
    · rw [if_pos h6]
      obtain ⟨g4, e4, hr4, hf4⟩ := w_wfl (o := o) hr3 hi 9 (by decide) (-1) (d + 1)
      rw [show nI 9 = (9 : Int32) from rfl] at e4
      refine ⟨g4, ?_, hr4, q_fr_tr (q_fr_tr (q_fr_tr hf1 hf2) hf3) hf4⟩
      rw [e85, e3, B_X2_meet_100 hw, if_pos h6, e4]
      simp only [B_X2_meet_0 hw, B_X2_meet_11 hw, B_X2_meet_17 hw, B_X2_meet_23 hw, B_X2_meet_29 hw, B_X2_meet_32 hw, B_X2_meet_43 hw, B_X2_meet_51 hw, B_X2_meet_74 hw, B_X2_meet_85 hw, B_X2_meet_100 hw, B_X2_meet_115 hw, Option.bind_some, Option.toList_some, Option.toList_none, List.cons_append, List.nil_append]
    · rw [if_neg h6]
      refine ⟨g3, ?_, hr3, q_fr_tr (q_fr_tr hf1 hf2) hf3⟩
      rw [e85, e3, B_X2_meet_100 hw, if_neg h6]
  · rw [if_neg h0]
    refine ⟨g, ?_, hr, q_fr_rf⟩
    simp only [B_X2_meet_0 hw, B_X2_meet_11 hw, B_X2_meet_17 hw, B_X2_meet_23 hw, B_X2_meet_29 hw, B_X2_meet_32 hw, w_get_fl0 hr, w_get_fl1 hr, w_get_fl2 hr, w_get_fl3 hr, w_get_fl4 hr, w_get_fl5 hr, w_get_fl6 hr, w_get_fl7 hr, w_get_fl8 hr, w_get_fl9 hr, w_get_fl10 hr, w_get_fl11 hr, w_size_fl hr, w_has_fl hr, w_full_fl hr, Option.bind_some, Option.toList_some, Option.toList_none, List.cons_append, List.nil_append, hI, hJ, hm, q_i0, if_pos h0]
end QME
