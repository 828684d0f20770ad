/-! the end of a minute: flights, towns, all -/
section QMF
variable {o : q_H} {w : Nat} {g S : Nat → Nat → Int32} {N : Nat → Nat}
theorem c_fly129 (hr : repC w g S N) (d : Nat) {i b : Nat} (hi : i < N 5) (h1 : q_ce (S 15 i)) (hb : b < 256) (x3 x4 ah : Int32) : ∃ g2, q_sem (d + 4) mX2_flyOn 129 [.ref w, .int (nI i), .ref (w + 11), .int x3, .int x4, .int (nI b), .int ah] [.int (S 16 i), .int 2, .int (nI i), .ref (w + 11)] (q_K o g) = q_sem (d + 4) mX2_flyOn 154 [.ref w, .int (nI i), .ref (w + 11), .int x3, .int x4, .int (nI b), .int ah] [] (q_K o g2) ∧ repC w g2 (q_stp2 S i b ah) N ∧ q_fr w g g2 := by
  have hw := hr.1
  have hN := n_cnt_fl hr
  have hI := q_atI hi (by omega)
  obtain ⟨g1, e1, hr1, hf1⟩ := w_wfl (o := o) hr hi 2 (by decide) (q_cl (S 16 i) ah) (d + 2)
  have hr1 : repC w g1 (q_up S 16 i (q_cl (S 16 i) ah)) N := hr1
  obtain ⟨g2, e2, hr2, hf2⟩ := w_wfl (o := o) hr1 hi 1 (by decide) (nI (q_sp (q_sp (q_cl2 (S 15 i)) b) b)) (d + 2)
  rw [show nI 2 = (2 : Int32) from rfl] at e1
  rw [show nI 1 = (1 : Int32) from rfl] at e2
  refine ⟨g2, ?_, hr2, q_fr_tr hf1 hf2⟩
  have e15 : q_up S 16 i (q_cl (S 16 i) ah) 15 i = nI (q_cl2 (S 15 i)) := (q_upN (by decide)).trans h1.2
  simp only [B_X2_flyOn_129 hw, B_X2_flyOn_134 hw, B_X2_flyOn_137 hw, B_X2_flyOn_146 hw, B_X2_flyOn_151 hw, w_get_fl0 hr1, w_get_fl1 hr1, w_get_fl2 hr1, w_get_fl3 hr1, w_get_fl4 hr1, w_get_fl5 hr1, w_get_fl6 hr1, w_get_fl7 hr1, w_get_fl8 hr1, w_get_fl9 hr1, w_get_fl10 hr1, w_get_fl11 hr1, w_size_fl hr1, w_has_fl hr1, w_full_fl hr1, Option.bind_some, Option.toList_some, Option.toList_none, List.cons_append, List.nil_append, hI, s_climbed, e1, e15, s_nearer _ h1.1 hb, e2]
theorem c_flyEnd (hr : repC w g S N) (d : Nat) {i h : Nat} (hi : i < N 5) (hh : h < N 3) (e25 : S 25 i = nI h) (x3 x4 x5 x6 : Int32) : ∃ g2, q_sem (d + 4) mX2_flyOn 173 [.ref w, .int (nI i), .ref (w + 11), .int x3, .int x4, .int x5, .int x6] [.int (S 23 i)] (q_K o g) = some (none, q_K o g2) ∧ repC w g2 (if S 23 i < 0 then q_lnd S i else S) N ∧ q_fr w g g2 := by
  have hw := hr.1
  by_cases h0 : S 23 i < 0
  · have h0' : ¬ 0 ≤ S 23 i := by rw [q_ltN]; exact h0
    obtain ⟨g2, e2, hr2, hf2⟩ := c_land (o := o) hr d hi hh e25
    rw [if_pos h0]
    refine ⟨g2, ?_, hr2, hf2⟩
    rw [B_X2_flyOn_173 hw, if_neg h0', e2]
    simp only [B_X2_flyOn_0 hw, B_X2_flyOn_12 hw, B_X2_flyOn_27 hw, B_X2_flyOn_56 hw, B_X2_flyOn_39 hw, B_X2_flyOn_60 hw, B_X2_flyOn_47 hw, B_X2_flyOn_71 hw, B_X2_flyOn_78 hw, B_X2_flyOn_100 hw, B_X2_flyOn_90 hw, B_X2_flyOn_118 hw, B_X2_flyOn_129 hw, B_X2_flyOn_134 hw, B_X2_flyOn_137 hw, B_X2_flyOn_146 hw, B_X2_flyOn_151 hw, B_X2_flyOn_154 hw, B_X2_flyOn_173 hw, B_X2_flyOn_166 hw, B_X2_flyOn_181 hw, Option.bind_some, Option.toList_some, Option.toList_none, List.cons_append, List.nil_append]
  · have h0' : 0 ≤ S 23 i := by rw [← q_leN]; exact h0
    rw [if_neg h0]
    refine ⟨g, ?_, hr, q_fr_rf⟩
    rw [B_X2_flyOn_173 hw, if_pos h0']
theorem c_flyHome (hr : repC w g S N) (d : Nat) {i h : Nat} (hi : i < N 5) (h1 : q_ce (S 15 i)) (hh : h < N 3) (e25 : S 25 i = nI h) (h9 : q_ce (S 9 h)) (e23 : S 23 i = -1) (x3 : Int32) : ∃ g2, q_sem (d + 4) mX2_flyOn 78 [.ref w, .int (nI i), .ref (w + 11), .int x3, .retAddr 0, .retAddr 0, .retAddr 0] [.int (-1)] (q_K o g) = some (none, q_K o g2) ∧ repC w g2 (q_lnd (q_stp2 S i (q_cl2 (S 9 h)) 0) i) N ∧ q_fr w g g2 := by
  have hw := hr.1
  have hN := n_cnt_fl hr
  have hI := q_atI hi (by omega)
  obtain ⟨g1, e1, hr1, hf1⟩ := c_fly129 (o := o) hr d hi h1 h9.1 x3 (-1) 0
  have e23' : q_stp2 S i (q_cl2 (S 9 h)) 0 23 i = -1 := by unfold q_stp2; rw [q_upN (by decide), q_upN (by decide)]; exact e23
  have e25' : q_stp2 S i (q_cl2 (S 9 h)) 0 25 i = nI h := by unfold q_stp2; rw [q_upN (by decide), q_upN (by decide)]; exact e25
  obtain ⟨g2, e2, hr2, hf2⟩ := c_flyEnd (o := o) hr1 d hi hh e25' x3 (-1) (nI (q_cl2 (S 9 h))) 0
  rw [e23', if_pos (by decide)] at hr2
  rw [e23'] at e2
  refine ⟨g2, ?_, hr2, q_fr_tr hf1 hf2⟩
  have ef := c_fieldOf (o := o) hr (d + 1) hi hh e25
  rw [h9.2] at ef
  simp only [B_X2_flyOn_78 hw, B_X2_flyOn_90 hw, (by decide : ¬ (0 : Int32) ≤ -1), ↓reduceIte, ef, w_get_fl0 hr, w_get_fl1 hr, w_get_fl2 hr, w_get_fl3 hr, w_get_fl4 hr, w_get_fl5 hr, w_get_fl6 hr, w_get_fl7 hr, w_get_fl8 hr, w_get_fl9 hr, w_get_fl10 hr, w_get_fl11 hr, w_size_fl hr, w_has_fl hr, w_full_fl hr, Option.bind_some, Option.toList_some, Option.toList_none, List.cons_append, List.nil_append, hI, e1]
  rw [B_X2_flyOn_154 hw, if_pos (by decide)]
  simp only [w_get_fl0 hr1, w_get_fl1 hr1, w_get_fl2 hr1, w_get_fl3 hr1, w_get_fl4 hr1, w_get_fl5 hr1, w_get_fl6 hr1, w_get_fl7 hr1, w_get_fl8 hr1, w_get_fl9 hr1, w_get_fl10 hr1, w_get_fl11 hr1, w_size_fl hr1, w_has_fl hr1, w_full_fl hr1, Option.bind_some, Option.toList_some, Option.toList_none, List.cons_append, List.nil_append, hI, e23', e2]
theorem c_flyAfter (hr : repC w g S N) (d : Nat) {i j h : Nat} (hi : i < N 5) (hj : j < N 5) (hij : j ≠ i) (h1 : q_ce (S 15 i)) (h2 : q_ce (S 15 j)) (hh : h < N 3) (e25 : S 25 i = nI h) (x3 : Int32) : ∃ g2, q_sem (d + 4) mX2_flyOn 78 [.ref w, .int (nI i), .ref (w + 11), .int x3, .retAddr 0, .retAddr 0, .retAddr 0] [.int (nI j)] (q_K o g) = some (none, q_K o g2) ∧ repC w g2 (if q_met (q_stp2 S i (q_cl2 (S 15 j)) (S 16 j)) i j 23 i < 0 then q_lnd (q_met (q_stp2 S i (q_cl2 (S 15 j)) (S 16 j)) i j) i else q_met (q_stp2 S i (q_cl2 (S 15 j)) (S 16 j)) i j) N ∧ q_fr w g g2 := by
  have hw := hr.1
  have hN := n_cnt_fl hr
  have hI := q_atI hi (by omega)
  have hJ := q_atI hj (by omega)
  have c1 : 0 ≤ nI j := nI_pos' (by omega)
  have c2 : ¬ nI j < 0 := nI_pos (by omega)
  obtain ⟨g1, e1, hr1, hf1⟩ := c_fly129 (o := o) hr d hi h1 h2.1 x3 (nI j) (S 16 j)
  have f1 : q_ce (q_stp2 S i (q_cl2 (S 15 j)) (S 16 j) 15 i) := by unfold q_stp2; rw [q_upE]; exact q_ce_of (q_spB (q_spB h1.1 h2.1) h2.1)
  have f2 : q_ce (q_stp2 S i (q_cl2 (S 15 j)) (S 16 j) 15 j) := by unfold q_stp2; rw [q_upJ hij, q_upN (by decide)]; exact h2
  obtain ⟨g2, e2, hr2, hf2⟩ := c_meet (o := o) hr1 d hi hj f1 f2
  have e25' : q_met (q_stp2 S i (q_cl2 (S 15 j)) (S 16 j)) i j 25 i = nI h := by
    have : ∀ S : Nat → Nat → Int32, q_met S i j 25 i = S 25 i := by
      intro S
      unfold q_met q_met2 q_met1
      repeat' split
      all_goals simp only [q_upN (by decide : 25 ≠ 23), q_upN (by decide : 25 ≠ 20), q_upN (by decide : 25 ≠ 19), q_upN (by decide : 25 ≠ 22)]
    rw [this]
    unfold q_stp2
    rw [q_upN (by decide), q_upN (by decide)]
    exact e25
  obtain ⟨g3, e3, hr3, hf3⟩ := c_flyEnd (o := o) hr2 d hi hh e25' x3 (nI j) (nI (q_cl2 (S 15 j))) (S 16 j)
  refine ⟨g3, ?_, hr3, q_fr_tr (q_fr_tr hf1 hf2) hf3⟩
  have e15 : S 15 j = nI (q_cl2 (S 15 j)) := h2.2
  simp only [B_X2_flyOn_78 hw, B_X2_flyOn_100 hw, B_X2_flyOn_118 hw, c1, ↓reduceIte, w_get_fl0 hr, w_get_fl1 hr, w_get_fl2 hr, w_get_fl3 hr, w_get_fl4 hr, w_get_fl5 hr, w_get_fl6 hr, w_get_fl7 hr, w_get_fl8 hr, w_get_fl9 hr, w_get_fl10 hr, w_get_fl11 hr, w_size_fl hr, w_has_fl hr, w_full_fl hr, Option.bind_some, Option.toList_some, Option.toList_none, List.cons_append, List.nil_append, hI, hJ]
  rw [← e15] at e1 e3
  rw [e1, B_X2_flyOn_154 hw, if_neg c2]
  simp only [e2, Option.bind_some, Option.toList_some, Option.toList_none, List.cons_append, List.nil_append, B_X2_flyOn_166 hw, w_get_fl0 hr2, w_get_fl1 hr2, w_get_fl2 hr2, w_get_fl3 hr2, w_get_fl4 hr2, w_get_fl5 hr2, w_get_fl6 hr2, w_get_fl7 hr2, w_get_fl8 hr2, w_get_fl9 hr2, w_get_fl10 hr2, w_get_fl11 hr2, w_size_fl hr2, w_has_fl hr2, w_full_fl hr2, hI, e3]
theorem c_flyOn (hr : repC w g S N) (hf : q_wf S N) (d : Nat) {i : Nat} (hi : i < N 5) (hk : 3 < S 14 i) : ∃ g2, q_sem (d + 4) mX2_flyOn 0 [.ref w, .int (nI i), .retAddr 0, .retAddr 0, .retAddr 0, .retAddr 0, .retAddr 0] [] (q_K o g) = some (none, q_K o g2) ∧ repC w g2 (q_fly S i) N ∧ q_fr w g g2 := by
  have hw := hr.1
  have hN := n_cnt_fl hr
  have hN3 := n_cnt_fi hr
  have hI := q_atI hi (by omega)
  obtain ⟨h1, _, _, _, hfl⟩ := hf.2.2.2.2.2.1 i hi
  obtain ⟨⟨h, hh, e25⟩, ⟨n, hn, e21⟩, _, h23⟩ := hfl hk
  have h9 := hf.2.2.2.1 h hh
  have eh : q_cl2 (S 25 i) = h := by rw [e25]; exact nI_clamp (by omega)
  unfold q_fly
  by_cases h0 : S 21 i - 1 < 0
  · have h0' : ¬ 0 ≤ S 21 i - 1 := by rw [q_ltN]; exact h0
    obtain ⟨g1, e1, hr1, hf1⟩ := w_wfl (o := o) hr hi 7 (by decide) 0 (d + 2)
    obtain ⟨g2, e2, hr2, hf2⟩ := w_wfl (o := o) hr1 hi 6 (by decide) 2 (d + 2)
    obtain ⟨g3, e3, hr3, hf3⟩ := w_wfl (o := o) hr2 hi 9 (by decide) (-1) (d + 2)
    rw [show nI 7 = (7 : Int32) from rfl] at e1
    rw [show nI 6 = (6 : Int32) from rfl] at e2
    rw [show nI 9 = (9 : Int32) from rfl] at e3
    rw [if_pos h0]
    refine ⟨g3, ?_, hr3, q_fr_tr (q_fr_tr hf1 hf2) hf3⟩
    simp only [B_X2_flyOn_0 hw, B_X2_flyOn_12 hw, B_X2_flyOn_27 hw, B_X2_flyOn_39 hw, B_X2_flyOn_47 hw, w_get_fl0 hr, w_get_fl1 hr, w_get_fl2 hr, w_get_fl3 hr, w_get_fl4 hr, w_get_fl5 hr, w_get_fl6 hr, w_get_fl7 hr, w_get_fl8 hr, w_get_fl9 hr, w_get_fl10 hr, w_get_fl11 hr, w_size_fl hr, w_has_fl hr, w_full_fl hr, Option.bind_some, Option.toList_some, Option.toList_none, List.cons_append, List.nil_append, hI, if_pos h0, e1, if_neg h0', e2, e3]
  · have h0' : 0 ≤ S 21 i - 1 := by rw [← q_leN]; exact h0
    obtain ⟨g1, e1, hr1, hf1⟩ := w_wfl (o := o) hr hi 7 (by decide) (S 21 i - 1) (d + 2)
    rw [show nI 7 = (7 : Int32) from rfl] at e1
    have hr1 : repC w g1 (q_up S 21 i (S 21 i - 1)) N := hr1
    rw [if_neg h0]
    have e56 : q_sem (d + 4) mX2_flyOn 0 [.ref w, .int (nI i), .retAddr 0, .retAddr 0, .retAddr 0, .retAddr 0, .retAddr 0] [] (q_K o g) = q_sem (d + 4) mX2_flyOn 60 [.ref w, .int (nI i), .ref (w + 11), .int (S 21 i - 1), .retAddr 0, .retAddr 0, .retAddr 0] [.int (if q_at (q_up S 21 i (S 21 i - 1)) (N 5) 20 (S 23 i) = 0 then 1 else 0)] (q_K o g1) := by
      simp only [B_X2_flyOn_0 hw, B_X2_flyOn_12 hw, B_X2_flyOn_27 hw, B_X2_flyOn_56 hw, w_get_fl0 hr, w_get_fl1 hr, w_get_fl2 hr, w_get_fl3 hr, w_get_fl4 hr, w_get_fl5 hr, w_get_fl6 hr, w_get_fl7 hr, w_get_fl8 hr, w_get_fl9 hr, w_get_fl10 hr, w_get_fl11 hr, w_size_fl hr, w_has_fl hr, w_full_fl hr, w_get_fl0 hr1, w_get_fl1 hr1, w_get_fl2 hr1, w_get_fl3 hr1, w_get_fl4 hr1, w_get_fl5 hr1, w_get_fl6 hr1, w_get_fl7 hr1, w_get_fl8 hr1, w_get_fl9 hr1, w_get_fl10 hr1, w_get_fl11 hr1, w_size_fl hr1, w_has_fl hr1, w_full_fl hr1, Option.bind_some, Option.toList_some, Option.toList_none, List.cons_append, List.nil_append, hI, if_neg h0, e1, if_pos h0', q_upN (by decide : 23 ≠ 21), c_stands hr1]
    have f15 : q_ce (q_up S 21 i (S 21 i - 1) 15 i) := by rw [q_upN (by decide)]; exact h1
    have f25 : q_up S 21 i (S 21 i - 1) 25 i = nI h := by rw [q_upN (by decide)]; exact e25
    have f9 : q_up S 21 i (S 21 i - 1) 9 h = S 9 h := q_upN (by decide)
    rcases h23 with h23 | ⟨j, hj, h23, hkj⟩
    · -- after none
      have e23 : q_up S 21 i (S 21 i - 1) 23 i = -1 := by rw [q_upN (by decide)]; exact h23
      obtain ⟨g2, e2, hr2, hf2⟩ := c_flyHome (o := o) hr1 d hi f15 hh f25 (by rw [f9]; exact h9) e23 (S 21 i - 1)
      rw [f9] at hr2
      rw [if_pos (Or.inl (by rw [h23]; decide)), q_up_self e23, eh]
      refine ⟨g2, ?_, hr2, q_fr_tr hf1 hf2⟩
      rw [e56, h23, q_at_neg (by decide), if_pos rfl, B_X2_flyOn_60 hw, if_neg (by decide)]
      simp only [w_get_fl0 hr1, w_get_fl1 hr1, w_get_fl2 hr1, w_get_fl3 hr1, w_get_fl4 hr1, w_get_fl5 hr1, w_get_fl6 hr1, w_get_fl7 hr1, w_get_fl8 hr1, w_get_fl9 hr1, w_get_fl10 hr1, w_get_fl11 hr1, w_size_fl hr1, w_has_fl hr1, w_full_fl hr1, Option.bind_some, Option.toList_some, Option.toList_none, List.cons_append, List.nil_append, hI, e23, e2]
    · have ej : q_cl2 (S 23 i) = j := by rw [h23]; exact nI_clamp (by omega)
      have hij : j ≠ i := fun z => hkj (z ▸ hk)
      have hJ := q_atI hj (by omega)
      have f20 : q_up S 21 i (S 21 i - 1) 20 j = S 20 j := q_upN (by decide)
      have c2 : ¬ S 23 i < 0 := by rw [h23]; exact nI_pos (by omega)
      rw [ej]
      by_cases h20 : S 20 j = 0
      · -- goes on after it
        have g15 : q_up S 21 i (S 21 i - 1) 15 j = S 15 j := q_upN (by decide)
        have g16 : q_up S 21 i (S 21 i - 1) 16 j = S 16 j := q_upN (by decide)
        have e23 : q_up S 21 i (S 21 i - 1) 23 i = nI j := by rw [q_upN (by decide)]; exact h23
        obtain ⟨g2, e2, hr2, hf2⟩ := c_flyAfter (o := o) hr1 d hi hj hij f15 (by rw [g15]; exact (hf.2.2.2.2.2.1 j hj).1) hh f25 (S 21 i - 1)
        rw [g15, g16] at hr2
        rw [if_neg (fun z => by rcases z with z | z; exact c2 z; exact z h20)]
        refine ⟨g2, ?_, hr2, q_fr_tr hf1 hf2⟩
        rw [e56, h23, hJ, f20, if_pos h20, B_X2_flyOn_60 hw, if_neg (by decide)]
        simp only [w_get_fl0 hr1, w_get_fl1 hr1, w_get_fl2 hr1, w_get_fl3 hr1, w_get_fl4 hr1, w_get_fl5 hr1, w_get_fl6 hr1, w_get_fl7 hr1, w_get_fl8 hr1, w_get_fl9 hr1, w_get_fl10 hr1, w_get_fl11 hr1, w_size_fl hr1, w_has_fl hr1, w_full_fl hr1, Option.bind_some, Option.toList_some, Option.toList_none, List.cons_append, List.nil_append, hI, e23, e2]
      · -- turns home
        obtain ⟨g2, e2, hr2, hf2⟩ := w_wfl (o := o) hr1 hi 9 (by decide) (-1) (d + 2)
        rw [show nI 9 = (9 : Int32) from rfl] at e2
        have hr2 : repC w g2 (q_up (q_up S 21 i (S 21 i - 1)) 23 i (-1)) N := hr2
        have k9 : q_up (q_up S 21 i (S 21 i - 1)) 23 i (-1) 9 h = S 9 h := by rw [q_upN (by decide)]; exact f9
        obtain ⟨g3, e3, hr3, hf3⟩ := c_flyHome (o := o) hr2 d hi (by rw [q_upN (by decide)]; exact f15) hh (by rw [q_upN (by decide)]; exact f25) (by rw [k9]; exact h9) q_upE (S 21 i - 1)
        rw [k9] at hr3
        rw [if_pos (Or.inr h20), eh]
        refine ⟨g3, ?_, hr3, q_fr_tr (q_fr_tr hf1 hf2) hf3⟩
        rw [e56, h23, hJ, f20, if_neg h20, B_X2_flyOn_60 hw, if_pos rfl, e2]
        simp only [B_X2_flyOn_71 hw, w_get_fl0 hr2, w_get_fl1 hr2, w_get_fl2 hr2, w_get_fl3 hr2, w_get_fl4 hr2, w_get_fl5 hr2, w_get_fl6 hr2, w_get_fl7 hr2, w_get_fl8 hr2, w_get_fl9 hr2, w_get_fl10 hr2, w_get_fl11 hr2, w_size_fl hr2, w_has_fl hr2, w_full_fl hr2, Option.bind_some, Option.toList_some, Option.toList_none, List.cons_append, List.nil_append, hI, q_upE, e3]
theorem c_sound (hr : repC w g S N) (hf : q_wf S N) (hv : q_rw S N) (ho : q_oR o) (d : Nat) {t : Nat} (ht : t < N 4) : ∃ g2, q_sem (d + 5) mX2_sound 0 [.ref w, .int (nI t), .retAddr 0, .retAddr 0, .retAddr 0] [] (q_K o g) = some (none, q_K o g2) ∧ repC w g2 (q_snd S N t) N ∧ q_fr w g g2 := by
  have hw := hr.1
  have hN := n_cnt_to hr
  have hT := q_atI ht (by omega)
  obtain ⟨g1, e1, hr1, hf1⟩ := c_wails (o := o) hr hf hv ho d ht
  have hwl : q_wl S N t = 0 ∨ q_wl S N t = 1 := by
    unfold q_wl
    repeat' split
    all_goals first | exact Or.inl rfl | exact Or.inr rfl
  unfold q_snd
  rcases hwl with h0 | h0
  · rw [if_pos h0]
    rw [h0] at e1
    have eh := c_hits (o := o) hr1 hf ho (d + 1) (S 10 t)
    obtain ⟨g2, e2, hr2, hf2⟩ := w_wto (o := o) hr1 ht 1 (by decide) 0 (d + 3)
    rw [show nI 1 = (1 : Int32) from rfl] at e2
    have hr2 : repC w g2 (q_up S 11 t 0) N := hr2
    obtain ⟨g3, e3, hr3, hf3⟩ := w_wto (o := o) hr2 ht 3 (by decide) (S 13 t + q_fo (q_htB S (S 10 t)) 0 (N 5) 0) (d + 3)
    rw [show nI 3 = (3 : Int32) from rfl] at e3
    refine ⟨g3, ?_, hr3, q_fr_tr (q_fr_tr hf1 hf2) hf3⟩
    simp only [B_X2_sound_0 hw, B_X2_sound_5 hw, B_X2_sound_34 hw, B_X2_sound_57 hw, B_X2_sound_37 hw, B_X2_sound_72 hw, B_X2_sound_78 hw, Option.bind_some, Option.toList_some, Option.toList_none, List.cons_append, List.nil_append, e1, ↓reduceIte, w_get_to0 hr1, w_get_to1 hr1, w_get_to2 hr1, w_get_to3 hr1, w_size_to hr1, w_has_to hr1, w_full_to hr1, w_get_to0 hr2, w_get_to1 hr2, w_get_to2 hr2, w_get_to3 hr2, w_size_to hr2, w_has_to hr2, w_full_to hr2, hT, eh, e2, q_upN (by decide : 13 ≠ 11), e3]
  · rw [h0, if_neg (by decide)]
    rw [h0] at e1
    obtain ⟨g2, e2, hr2, hf2⟩ := w_wto (o := o) hr1 ht 1 (by decide) 1 (d + 3)
    rw [show nI 1 = (1 : Int32) from rfl] at e2
    have hr2 : repC w g2 (q_up S 11 t 1) N := hr2
    obtain ⟨g3, e3, hr3, hf3⟩ := w_wto (o := o) hr2 ht 2 (by decide) (S 12 t + 1) (d + 3)
    rw [show nI 2 = (2 : Int32) from rfl] at e3
    refine ⟨g3, ?_, hr3, q_fr_tr (q_fr_tr hf1 hf2) hf3⟩
    simp only [B_X2_sound_0 hw, B_X2_sound_5 hw, B_X2_sound_34 hw, B_X2_sound_57 hw, B_X2_sound_37 hw, B_X2_sound_72 hw, B_X2_sound_78 hw, Option.bind_some, Option.toList_some, Option.toList_none, List.cons_append, List.nil_append, e1, (by decide : ¬ (1 : Int32) = 0), ↓reduceIte, w_get_to0 hr1, w_get_to1 hr1, w_get_to2 hr1, w_get_to3 hr1, w_size_to hr1, w_has_to hr1, w_full_to hr1, w_get_to0 hr2, w_get_to1 hr2, w_get_to2 hr2, w_get_to3 hr2, w_size_to hr2, w_has_to hr2, w_full_to hr2, hT, e2, q_upN (by decide : 12 ≠ 11), e3]
end QMF
