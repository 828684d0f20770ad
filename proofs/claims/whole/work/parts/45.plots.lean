/-! plots, rules asked, check, count -/
section PLO
variable {o : q_H} {g S : Nat → Nat → Int32} {N : Nat → Nat}
theorem m_mayFollow (hm : repM g S N) (hf : q_wf S N) (d : Nat) {i j : Nat} (hi : i < N 2) (hj : j < N 2) : q_sem (d + 3) mX12_mayFollow 0 [.ref 98, .int (nI i), .int (nI j), .retAddr 0] [] (q_K o g) = some (some (.int (bI (decide (q_mf S i j)))), q_K o g) := by
  have hN := m_c2 hm
  have h1 := hf.2.2.1 i hi
  have h2 := hf.2.2.1 j hj
  have ea := n_apart (o := o) (g := g) d h1.1 h2.1
  rw [← h1.2, ← h2.2] at ea
  simp only [B_X12_mayFollow_0, B_X12_mayFollow_33, q_rgN (show i < 24 by omega) (show 24 < 2 ^ 31 by decide), q_rgN (show j < 24 by omega) (show 24 < 2 ^ 31 by decide), m_f8 hm hi, m_f8 hm hj, m_f6 hm hi, m_f6 hm hj, ea, Option.bind_some, Option.toList_some, Option.toList_none, List.cons_append, List.nil_append, hm.2.2.2.2.2.2.1]
  by_cases h3 : S 8 j - S 8 i ≤ 0
  · have h4 : ¬ q_mf S i j := fun z => by have := z.1; rw [← q_ltN] at this; exact this h3
    rw [if_pos h3, decide_eq_false h4]; rfl
  · rw [if_neg h3]
    by_cases h5 : S 0 10 * (S 8 j - S 8 i) < nI (q_ap (q_cl2 (S 6 i)) (q_cl2 (S 6 j)))
    · have h4 : ¬ q_mf S i j := fun z => by have := z.2; rw [← q_leN] at this; exact this h5
      rw [if_pos h5, decide_eq_false h4]; rfl
    · have h4 : q_mf S i j := ⟨by rw [← q_ltN]; exact h3, by rw [← q_leN]; exact h5⟩
      rw [if_neg h5, decide_eq_true h4]; rfl
theorem z_mayBeFollowed (hr : repC 1 g S N) (hf : q_wf S N) (d : Nat) {i j : Nat} (hi : i < N 2) (hj : j < N 2) : q_sem (d + 3) mX10_mayBeFollowed 0 [.ref 1, .int (nI i), .int (nI j), .retAddr 0] [] (q_K o g) = some (some (.int (bI (decide (q_mf S i j)))), q_K o g) := by rw [c_mayBeFollowed hr hf d hi hj, bI_d]
/-- a new plot -/
def q_np (S : Nat → Nat → Int32) (i : Nat) (c m : Int32) : Nat → Nat → Int32 := q_up (q_up (q_an S 6 3 i c) 7 i m) 8 i (S 0 7)
theorem q_np_ne {i : Nat} {c m : Int32} {f j : Nat} (h : j ≠ i ∨ f < 6 ∨ 9 ≤ f) : q_np S i c m f j = S f j := by
  unfold q_np
  rw [q_up_ne (by omega), q_up_ne (by omega), q_an_ne (by omega)]
theorem z_addPlot (hr : repC 1 g S N) (hN : N 2 < 24) (d : Nat) (c m : Int32) : ∃ g2, q_sem (d + 3) mX10_addPlot 0 [.ref 1, .int c, .int m, .retAddr 0] [] (q_K o g) = some (some (.int (nI (N 2))), q_K o g2) ∧ repC 1 g2 (q_np S (N 2) c m) (q_nu N 2 (N 2 + 1)) ∧ q_fr 1 g g2 := by
  have hw := hr.1
  have hi : N 2 < q_nu N 2 (N 2 + 1) 2 := by rw [q_nu_eq]; omega
  obtain ⟨g0, e0, hr0, hf0⟩ := r_add_pl (o := o) hr hN d c
  obtain ⟨g1, e1, hr1, hf1⟩ := r_w_pl1 (o := o) hr0 hi (d + 1) m
  have e8 : g1 1 8 = S 0 7 := by rw [hr1.2.2.2.1, q_upN (by decide), q_an_ne (by omega)]
  obtain ⟨g2, e2, hr2, hf2⟩ := r_w_pl2 (o := o) hr1 hi (d + 1) (S 0 7)
  refine ⟨g2, ?_, hr2, q_fr_tr (q_fr_tr hf0 hf1) hf2⟩
  simp only [B_X10_addPlot_0 hw, B_X10_addPlot_8 hw, B_X10_addPlot_19 hw, B_X10_addPlot_32 hw, Option.bind_some, Option.toList_some, Option.toList_none, List.cons_append, List.nil_append, show 1 + 5 = 6 from rfl, e0, e1, e8, e2]
theorem z_addPlotF (hr : repC 1 g S N) (hN : N 2 = 24) (d : Nat) (c m : Int32) : q_sem (d + 3) mX10_addPlot 0 [.ref 1, .int c, .int m, .retAddr 0] [] (q_K o g) = some (some (.int (-1)), q_K o g) := by
  have hw := hr.1
  have ew : ∀ (c : Nat), ∀ v d, q_sem (d + 1) mX7_write 0 [.ref 6, .int (-1), .int (nI c), .int v] [] (q_K o g) = some (none, q_K o g) := by
    intro c v d
    have ht := W_tb hw (5, 24, 3, 3, 2, 6) (by decide)
    have hi := (hr.2.1 (5, 24, 3, 3, 2, 6) (by decide)).1
    have h := s_write (o := o) d ht hi (-1) (nI c) v
    have e : q_pt g (1 + 5) 3 (N 2) (-1) (nI c) v = g := by unfold q_pt; rw [if_neg (fun z => absurd z.1 (by decide))]
    rw [show q_pt g (1 + (5, 24, 3, 3, 2, 6).1) _ _ (-1) (nI c) v = g from e] at h
    exact h
  have e1 := ew 1 m
  have e2 := ew 2 (g 1 8)
  rw [show nI 1 = (1 : Int32) from rfl] at e1
  rw [show nI 2 = (2 : Int32) from rfl] at e2
  simp only [B_X10_addPlot_0 hw, B_X10_addPlot_8 hw, B_X10_addPlot_19 hw, B_X10_addPlot_32 hw, Option.bind_some, Option.toList_some, Option.toList_none, List.cons_append, List.nil_append, show 1 + 5 = 6 from rfl, r_addF_pl hr hN, e1, e2]
theorem m_makes (hm : repM g S N) (hN : N 2 < 24) (d : Nat) (c m : Int32) : ∃ g2, q_sem d mX12_makes 0 [.ref 98, .int c, .int m, .retAddr 0] [] (q_K o g) = some (some (.int (nI (N 2))), q_K o g2) ∧ repM g2 (q_np S (N 2) c m) (q_nu N 2 (N 2 + 1)) ∧ q_fM g g2 := by
  refine ⟨q_up (q_up (q_up (q_up g 106 (N 2) c) 107 (N 2) m) 108 (N 2) (S 0 7)) 100 2 (nI (N 2 + 1)), ?_, ?_, fM_up (fM_up (fM_up (fM_up fM_rf (by decide)) (by decide)) (by decide)) (by decide)⟩
  · rw [B_X12_makes_0]
    simp only [m_n2 hm, q_rgN hN (show 24 < 2 ^ 31 by decide), q_upN (show 100 ≠ 106 by decide), q_upN (show 100 ≠ 107 by decide), q_upN (show 100 ≠ 108 by decide), hm.2.2.2.2.1, nI_1]
  · refine m_gr_pl hm hN (fun f k z => q_np_ne z) (fun p k a b e => by rw [q_up_ne (by omega), q_up_ne (by omega), q_up_ne (by omega), q_up_ne (by omega)]) q_upE ?_ ?_ ?_
    · simp [q_up, q_np, q_an]
    · simp [q_up, q_np, q_an]
    · simp [q_up, q_np, q_an]
theorem ok_np (hk : q_ok S N) {c : Nat} (hc : c < 256) (m : Int32) : q_ok (q_np S (N 2) (nI c) m) (q_nu N 2 (N 2 + 1)) :=
  ok_gr_pl hk (fun f k z => q_np_ne z) (by
    have e : q_np S (N 2) (nI c) m 6 (N 2) = nI c := by simp [q_up, q_np, q_an]
    rw [e]
    exact q_ce_of hc)
end PLO
theorem law_plotIs {o : q_H} {n : Nat} {g : Nat → Nat → Int32} (hR : q_R n g) (ho : q_oR o) (d : Nat) (x1 : Int32) (x2 : Int32) : ∃ v g1 g2, q_sem (d + 30) mX11_plotIs 0 [.ref 0, .int x1, .int x2] [] (q_K o g) = some (some (.int v), q_K o g1) ∧ q_sem (d + 30) mX12_plotIs 0 [.ref 98, .int x1, .int x2] [] (q_K o g1) = some (some (.int v), q_K o g2) ∧ q_R n g2 := by
  obtain ⟨⟨S, N, hr, hm, hk⟩, ha⟩ := id hR
  have hN := n_cnt_pl hr
  cases c1 : q_hs x1 (N 2)
  · exact ⟨-1000001, q_fb g 1, q_fm (q_fb g 1) 1, by simp only [B_X11_plotIs_0, B_X11_plotIs_11, B_X11_plotIs_43, B_X11_plotIs_20, B_X11_plotIs_35, z_within, z_isCell, z_fin1, z_fin2, z_fin3, z_fin4, z_fin5, Option.bind_some, Option.toList_some, Option.toList_none, List.cons_append, List.nil_append, bI_t, bI_f, i10, i00, i11, i01, ↓reduceIte, Bool.false_eq_true, z_has_pl hr, c1], (by have hm := repM_fb (k := 1) hm; simp only [B_X12_plotIs_0, B_X12_plotIs_6, B_X12_plotIs_24, B_X12_plotIs_15, y_in, y_isCell, y_fin1, y_fin2, y_fin3, y_fin4, y_fin5, Option.bind_some, Option.toList_some, Option.toList_none, List.cons_append, List.nil_append, bI_t, bI_f, i10, i00, i11, i01, ↓reduceIte, Bool.false_eq_true, y_isOf2 hm, c1]), R_fin hR (by decide)⟩
  cases c2 : q_in x2 0 2
  · exact ⟨-1000001, q_fb g 1, q_fm (q_fb g 1) 1, by simp only [B_X11_plotIs_0, B_X11_plotIs_11, B_X11_plotIs_43, B_X11_plotIs_20, B_X11_plotIs_35, z_within, z_isCell, z_fin1, z_fin2, z_fin3, z_fin4, z_fin5, Option.bind_some, Option.toList_some, Option.toList_none, List.cons_append, List.nil_append, bI_t, bI_f, i10, i00, i11, i01, ↓reduceIte, Bool.false_eq_true, z_has_pl hr, c1, c2], (by have hm := repM_fb (k := 1) hm; simp only [B_X12_plotIs_0, B_X12_plotIs_6, B_X12_plotIs_24, B_X12_plotIs_15, y_in, y_isCell, y_fin1, y_fin2, y_fin3, y_fin4, y_fin5, Option.bind_some, Option.toList_some, Option.toList_none, List.cons_append, List.nil_append, bI_t, bI_f, i10, i00, i11, i01, ↓reduceIte, Bool.false_eq_true, y_isOf2 hm, c1, c2]), R_fin hR (by decide)⟩
  obtain ⟨i, hi, rfl⟩ := q_hs_t c1 (by omega)
  have hI := q_atI hi (show N 2 < 2 ^ 31 by omega)
  rcases q_in2c c2 with rfl | rfl | rfl
  · refine ⟨S 6 i, g, g, ?_, ?_, hR⟩
    · simp only [B_X11_plotIs_0, B_X11_plotIs_11, B_X11_plotIs_43, B_X11_plotIs_20, B_X11_plotIs_35, z_within, z_isCell, z_fin1, z_fin2, z_fin3, z_fin4, z_fin5, Option.bind_some, Option.toList_some, Option.toList_none, List.cons_append, List.nil_append, bI_t, bI_f, i10, i00, i11, i01, ↓reduceIte, Bool.false_eq_true, z_has_pl hr, c1, c2, r_get_pl0 hr, hI]
    · simp only [B_X12_plotIs_0, B_X12_plotIs_6, B_X12_plotIs_24, B_X12_plotIs_15, y_in, y_isCell, y_fin1, y_fin2, y_fin3, y_fin4, y_fin5, Option.bind_some, Option.toList_some, Option.toList_none, List.cons_append, List.nil_append, bI_t, bI_f, i10, i00, i11, i01, ↓reduceIte, Bool.false_eq_true, y_isOf2 hm, c1, c2, q_rgN (show i < 24 by omega) (show 24 < 2 ^ 31 by decide), m_f6 hm hi]
  · refine ⟨S 7 i, g, g, ?_, ?_, hR⟩
    · simp only [B_X11_plotIs_0, B_X11_plotIs_11, B_X11_plotIs_43, B_X11_plotIs_20, B_X11_plotIs_35, z_within, z_isCell, z_fin1, z_fin2, z_fin3, z_fin4, z_fin5, Option.bind_some, Option.toList_some, Option.toList_none, List.cons_append, List.nil_append, bI_t, bI_f, i10, i00, i11, i01, ↓reduceIte, Bool.false_eq_true, z_has_pl hr, c1, c2, r_get_pl1 hr, hI]
    · simp only [B_X12_plotIs_0, B_X12_plotIs_6, B_X12_plotIs_24, B_X12_plotIs_15, y_in, y_isCell, y_fin1, y_fin2, y_fin3, y_fin4, y_fin5, Option.bind_some, Option.toList_some, Option.toList_none, List.cons_append, List.nil_append, bI_t, bI_f, i10, i00, i11, i01, ↓reduceIte, Bool.false_eq_true, y_isOf2 hm, c1, c2, q_rgN (show i < 24 by omega) (show 24 < 2 ^ 31 by decide), m_f7 hm hi]
  · refine ⟨S 8 i, g, g, ?_, ?_, hR⟩
    · simp only [B_X11_plotIs_0, B_X11_plotIs_11, B_X11_plotIs_43, B_X11_plotIs_20, B_X11_plotIs_35, z_within, z_isCell, z_fin1, z_fin2, z_fin3, z_fin4, z_fin5, Option.bind_some, Option.toList_some, Option.toList_none, List.cons_append, List.nil_append, bI_t, bI_f, i10, i00, i11, i01, ↓reduceIte, Bool.false_eq_true, z_has_pl hr, c1, c2, r_get_pl2 hr, hI]
    · simp only [B_X12_plotIs_0, B_X12_plotIs_6, B_X12_plotIs_24, B_X12_plotIs_15, y_in, y_isCell, y_fin1, y_fin2, y_fin3, y_fin4, y_fin5, Option.bind_some, Option.toList_some, Option.toList_none, List.cons_append, List.nil_append, bI_t, bI_f, i10, i00, i11, i01, ↓reduceIte, Bool.false_eq_true, y_isOf2 hm, c1, c2, (by decide : ¬ (2 : Int32) = 0), (by decide : ¬ (2 : Int32) = 1), q_rgN (show i < 24 by omega) (show 24 < 2 ^ 31 by decide), m_f8 hm hi]
theorem law_follows {o : q_H} {n : Nat} {g : Nat → Nat → Int32} (hR : q_R n g) (ho : q_oR o) (d : Nat) (x1 : Int32) (x2 : Int32) : ∃ v g1 g2, q_sem (d + 30) mX11_follows 0 [.ref 0, .int x1, .int x2] [] (q_K o g) = some (some (.int v), q_K o g1) ∧ q_sem (d + 30) mX12_follows 0 [.ref 98, .int x1, .int x2] [] (q_K o g1) = some (some (.int v), q_K o g2) ∧ q_R n g2 := by
  obtain ⟨⟨S, N, hr, hm, hk⟩, ha⟩ := id hR
  have hN := n_cnt_pl hr
  cases c1 : q_hs x1 (N 2)
  · exact ⟨-1000001, q_fb g 1, q_fm (q_fb g 1) 1, by simp only [B_X11_follows_0, B_X11_follows_11, B_X11_follows_33, B_X11_follows_25, B_X11_follows_43, z_within, z_isCell, z_fin1, z_fin2, z_fin3, z_fin4, z_fin5, Option.bind_some, Option.toList_some, Option.toList_none, List.cons_append, List.nil_append, bI_t, bI_f, i10, i00, i11, i01, ↓reduceIte, Bool.false_eq_true, z_has_pl hr, c1], (by have hm := repM_fb (k := 1) hm; simp only [B_X12_follows_0, B_X12_follows_6, B_X12_follows_24, B_X12_follows_15, B_X12_follows_33, y_in, y_isCell, y_fin1, y_fin2, y_fin3, y_fin4, y_fin5, Option.bind_some, Option.toList_some, Option.toList_none, List.cons_append, List.nil_append, bI_t, bI_f, i10, i00, i11, i01, ↓reduceIte, Bool.false_eq_true, y_isOf2 hm, c1]), R_fin hR (by decide)⟩
  cases c2 : q_hs x2 (N 2)
  · exact ⟨-1000001, q_fb g 1, q_fm (q_fb g 1) 1, by simp only [B_X11_follows_0, B_X11_follows_11, B_X11_follows_33, B_X11_follows_25, B_X11_follows_43, z_within, z_isCell, z_fin1, z_fin2, z_fin3, z_fin4, z_fin5, Option.bind_some, Option.toList_some, Option.toList_none, List.cons_append, List.nil_append, bI_t, bI_f, i10, i00, i11, i01, ↓reduceIte, Bool.false_eq_true, z_has_pl hr, c1, c2], (by have hm := repM_fb (k := 1) hm; simp only [B_X12_follows_0, B_X12_follows_6, B_X12_follows_24, B_X12_follows_15, B_X12_follows_33, y_in, y_isCell, y_fin1, y_fin2, y_fin3, y_fin4, y_fin5, Option.bind_some, Option.toList_some, Option.toList_none, List.cons_append, List.nil_append, bI_t, bI_f, i10, i00, i11, i01, ↓reduceIte, Bool.false_eq_true, y_isOf2 hm, c1, c2]), R_fin hR (by decide)⟩
  obtain ⟨i, hi, rfl⟩ := q_hs_t c1 (by omega)
  obtain ⟨j, hj, rfl⟩ := q_hs_t c2 (by omega)
  refine ⟨bI (decide (q_mf S i j)), g, g, ?_, ?_, hR⟩
  · simp only [B_X11_follows_0, B_X11_follows_11, B_X11_follows_33, B_X11_follows_25, B_X11_follows_43, z_within, z_isCell, z_fin1, z_fin2, z_fin3, z_fin4, z_fin5, Option.bind_some, Option.toList_some, Option.toList_none, List.cons_append, List.nil_append, bI_t, bI_f, i10, i00, i11, i01, ↓reduceIte, Bool.false_eq_true, z_has_pl hr, c1, c2, z_mayBeFollowed hr hk.1 _ hi hj]
    cases decide (q_mf S i j) <;> simp [bI]
  · simp only [B_X12_follows_0, B_X12_follows_6, B_X12_follows_24, B_X12_follows_15, B_X12_follows_33, y_in, y_isCell, y_fin1, y_fin2, y_fin3, y_fin4, y_fin5, Option.bind_some, Option.toList_some, Option.toList_none, List.cons_append, List.nil_append, bI_t, bI_f, i10, i00, i11, i01, ↓reduceIte, Bool.false_eq_true, y_isOf2 hm, c1, c2, m_mayFollow hm hk.1 _ hi hj]
    cases decide (q_mf S i j) <;> simp [bI]
theorem law_plot {o : q_H} {n : Nat} {g : Nat → Nat → Int32} (hR : q_R n g) (ho : q_oR o) (d : Nat) (x1 : Int32) (x2 : Int32) : ∃ v g1 g2, q_sem (d + 30) mX11_plot 0 [.ref 0, .int x1, .int x2] [] (q_K o g) = some (some (.int v), q_K o g1) ∧ q_sem (d + 30) mX12_plot 0 [.ref 98, .int x1, .int x2] [] (q_K o g1) = some (some (.int v), q_K o g2) ∧ q_R n g2 := by
  obtain ⟨⟨S, N, hr, hm, hk⟩, ha⟩ := id hR
  have hN := n_cnt_pl hr
  cases c1 : q_in x1 0 255
  · exact ⟨-1000001, q_fb g 1, q_fm (q_fb g 1) 1, by simp only [B_X11_plot_0, B_X11_plot_5, B_X11_plot_13, B_X11_plot_22, B_X11_plot_30, B_X11_plot_41, B_X11_plot_44, z_within, z_isCell, z_fin1, z_fin2, z_fin3, z_fin4, z_fin5, Option.bind_some, Option.toList_some, Option.toList_none, List.cons_append, List.nil_append, bI_t, bI_f, i10, i00, i11, i01, ↓reduceIte, Bool.false_eq_true, z_isTold, Bool.false_and, c1], (by have hm := repM_fb (k := 1) hm; simp only [B_X12_plot_0, B_X12_plot_4, B_X12_plot_23, B_X12_plot_14, B_X12_plot_29, B_X12_plot_38, B_X12_plot_56, B_X12_plot_65, y_in, y_isCell, y_fin1, y_fin2, y_fin3, y_fin4, y_fin5, Option.bind_some, Option.toList_some, Option.toList_none, List.cons_append, List.nil_append, bI_t, bI_f, i10, i00, i11, i01, ↓reduceIte, Bool.false_eq_true, c1]), R_fin hR (by decide)⟩
  cases c2 : q_in x2 1 9
  · exact ⟨-1000001, q_fb g 1, q_fm (q_fb g 1) 1, by simp only [B_X11_plot_0, B_X11_plot_5, B_X11_plot_13, B_X11_plot_22, B_X11_plot_30, B_X11_plot_41, B_X11_plot_44, z_within, z_isCell, z_fin1, z_fin2, z_fin3, z_fin4, z_fin5, Option.bind_some, Option.toList_some, Option.toList_none, List.cons_append, List.nil_append, bI_t, bI_f, i10, i00, i11, i01, ↓reduceIte, Bool.false_eq_true, z_isTold, Bool.and_false, c1, c2], (by have hm := repM_fb (k := 1) hm; simp only [B_X12_plot_0, B_X12_plot_4, B_X12_plot_23, B_X12_plot_14, B_X12_plot_29, B_X12_plot_38, B_X12_plot_56, B_X12_plot_65, y_in, y_isCell, y_fin1, y_fin2, y_fin3, y_fin4, y_fin5, Option.bind_some, Option.toList_some, Option.toList_none, List.cons_append, List.nil_append, bI_t, bI_f, i10, i00, i11, i01, ↓reduceIte, Bool.false_eq_true, c1, c2]), R_fin hR (by decide)⟩
  obtain ⟨c, hc, rfl⟩ := q_inc_t c1
  have zw := fun d => z_isWatched (o := o) hr hk.1 hc d
  cases c3 : q_se S N c || q_he S N c
  · have hw : q_wat S N c = 0 := by have := q_wat0 (S := S) (N := N) (c := c); rw [c3] at this; exact of_decide_eq_true this
    rw [c3] at zw
    exact ⟨-1000003, q_fb g 3, q_fm (q_fb g 3) 3, by simp only [B_X11_plot_0, B_X11_plot_5, B_X11_plot_13, B_X11_plot_22, B_X11_plot_30, B_X11_plot_41, B_X11_plot_44, z_within, z_isCell, z_fin1, z_fin2, z_fin3, z_fin4, z_fin5, Option.bind_some, Option.toList_some, Option.toList_none, List.cons_append, List.nil_append, bI_t, bI_f, i10, i00, i11, i01, ↓reduceIte, Bool.false_eq_true, z_isTold, Bool.and_self, zw, c1, c2], (by have hm := repM_fb (k := 3) hm; simp only [B_X12_plot_0, B_X12_plot_4, B_X12_plot_23, B_X12_plot_14, B_X12_plot_29, B_X12_plot_38, B_X12_plot_56, B_X12_plot_65, y_in, y_isCell, y_fin1, y_fin2, y_fin3, y_fin4, y_fin5, Option.bind_some, Option.toList_some, Option.toList_none, List.cons_append, List.nil_append, bI_t, bI_f, i10, i00, i11, i01, ↓reduceIte, Bool.false_eq_true, m_watch hm hk.1 hc, hw, c1, c2]), R_fin hR (by decide)⟩
  have hw : ¬ q_wat S N c = 0 := by have := q_wat0 (S := S) (N := N) (c := c); rw [c3] at this; exact of_decide_eq_false this
  rw [c3] at zw
  by_cases c4 : N 2 = 24
  · exact ⟨-1000004, q_fb g 4, q_fm (q_fb g 4) 4, by simp only [B_X11_plot_0, B_X11_plot_5, B_X11_plot_13, B_X11_plot_22, B_X11_plot_30, B_X11_plot_41, B_X11_plot_44, z_within, z_isCell, z_fin1, z_fin2, z_fin3, z_fin4, z_fin5, Option.bind_some, Option.toList_some, Option.toList_none, List.cons_append, List.nil_append, bI_t, bI_f, i10, i00, i11, i01, ↓reduceIte, Bool.false_eq_true, z_isTold, Bool.and_self, zw, z_addPlotF hr c4, z_nofF, c1, c2, hw], (by have hm := repM_fb (k := 4) hm; simp only [B_X12_plot_0, B_X12_plot_4, B_X12_plot_23, B_X12_plot_14, B_X12_plot_29, B_X12_plot_38, B_X12_plot_56, B_X12_plot_65, y_in, y_isCell, y_fin1, y_fin2, y_fin3, y_fin4, y_fin5, Option.bind_some, Option.toList_some, Option.toList_none, List.cons_append, List.nil_append, bI_t, bI_f, i10, i00, i11, i01, ↓reduceIte, Bool.false_eq_true, m_watch hm hk.1 hc, m_n2 hm, c4, (by decide : nI 24 = 24), c1, c2, hw]), R_fin hR (by decide)⟩
  have c5 : N 2 < 24 := by omega
  have c6 : ¬ nI (N 2) = 24 := fun z => c4 ((nI_eq (by omega) (by decide)).mp z)
  obtain ⟨g1, e1, hr1, hf1⟩ := z_addPlot (o := o) hr c5 (d + 26) (nI c) x2
  have hm1 := repM_fr1 hm hf1
  obtain ⟨g2, e2, hm2, hf2⟩ := m_makes (o := o) hm1 c5 (d + 29) (nI c) x2
  refine ⟨nI (N 2), g1, g2, ?_, ?_, R_st ha hr1 hf1 hm2 hf2 (ok_np hk hc x2)⟩
  · simp only [B_X11_plot_0, B_X11_plot_5, B_X11_plot_13, B_X11_plot_22, B_X11_plot_30, B_X11_plot_41, B_X11_plot_44, z_within, z_isCell, z_fin1, z_fin2, z_fin3, z_fin4, z_fin5, Option.bind_some, Option.toList_some, Option.toList_none, List.cons_append, List.nil_append, bI_t, bI_f, i10, i00, i11, i01, ↓reduceIte, Bool.false_eq_true, z_isTold, Bool.and_self, c1, c2, zw, e1, z_nof _ (show N 2 < 2 ^ 31 by omega)]
  · simp only [B_X12_plot_0, B_X12_plot_4, B_X12_plot_23, B_X12_plot_14, B_X12_plot_29, B_X12_plot_38, B_X12_plot_56, B_X12_plot_65, y_in, y_isCell, y_fin1, y_fin2, y_fin3, y_fin4, y_fin5, Option.bind_some, Option.toList_some, Option.toList_none, List.cons_append, List.nil_append, bI_t, bI_f, i10, i00, i11, i01, ↓reduceIte, Bool.false_eq_true, c1, c2, m_watch hm1 hk.1 hc, hw, m_n2 hm1, c6, e2]
theorem law_force {o : q_H} {n : Nat} {g : Nat → Nat → Int32} (hR : q_R n g) (ho : q_oR o) (d : Nat) (x1 : Int32) (x2 : Int32) : ∃ v g1 g2, q_sem (d + 30) mX11_force 0 [.ref 0, .int x1, .int x2, .retAddr 0] [] (q_K o g) = some (some (.int v), q_K o g1) ∧ q_sem (d + 30) mX12_force 0 [.ref 98, .int x1, .int x2, .retAddr 0] [] (q_K o g1) = some (some (.int v), q_K o g2) ∧ q_R n g2 := by
  obtain ⟨⟨S, N, hr, hm, hk⟩, ha⟩ := id hR
  have hN := n_cnt_ru hr
  cases c1 : q_in x1 0 2
  · exact ⟨-1000001, q_fb g 1, q_fm (q_fb g 1) 1, by simp only [B_X11_force_0, B_X11_force_6, B_X11_force_25, B_X11_force_17, B_X11_force_38, B_X11_force_48, z_within, z_isCell, z_fin1, z_fin2, z_fin3, z_fin4, z_fin5, Option.bind_some, Option.toList_some, Option.toList_none, List.cons_append, List.nil_append, bI_t, bI_f, i10, i00, i11, i01, ↓reduceIte, Bool.false_eq_true, c1], (by have hm := repM_fb (k := 1) hm; simp only [B_X12_force_0, B_X12_force_6, B_X12_force_26, B_X12_force_17, B_X12_force_33, B_X12_force_44, y_in, y_isCell, y_fin1, y_fin2, y_fin3, y_fin4, y_fin5, Option.bind_some, Option.toList_some, Option.toList_none, List.cons_append, List.nil_append, bI_t, bI_f, i10, i00, i11, i01, ↓reduceIte, Bool.false_eq_true, c1]), R_fin hR (by decide)⟩
  cases c2 : q_in x2 0 1000
  · exact ⟨-1000001, q_fb g 1, q_fm (q_fb g 1) 1, by simp only [B_X11_force_0, B_X11_force_6, B_X11_force_25, B_X11_force_17, B_X11_force_38, B_X11_force_48, z_within, z_isCell, z_fin1, z_fin2, z_fin3, z_fin4, z_fin5, Option.bind_some, Option.toList_some, Option.toList_none, List.cons_append, List.nil_append, bI_t, bI_f, i10, i00, i11, i01, ↓reduceIte, Bool.false_eq_true, c1, c2], (by have hm := repM_fb (k := 1) hm; simp only [B_X12_force_0, B_X12_force_6, B_X12_force_26, B_X12_force_17, B_X12_force_33, B_X12_force_44, y_in, y_isCell, y_fin1, y_fin2, y_fin3, y_fin4, y_fin5, Option.bind_some, Option.toList_some, Option.toList_none, List.cons_append, List.nil_append, bI_t, bI_f, i10, i00, i11, i01, ↓reduceIte, Bool.false_eq_true, c1, c2]), R_fin hR (by decide)⟩
  have zf : ∀ d, q_sem (d + 2) mX5_inForce 0 [.ref 16, .int x1, .int x2, .retAddr 0] [] (q_K o g) = some (some (.int (q_if S x1 x2 (N 6))), q_K o g) := fun d => c_inForce hr d x1 x2
  rcases q_if_cases S x1 x2 (N 6) with h | ⟨r, hrN, h⟩
  · exact ⟨-1000002, q_fb g 2, q_fm (q_fb g 2) 2, by simp only [B_X11_force_0, B_X11_force_6, B_X11_force_25, B_X11_force_17, B_X11_force_38, B_X11_force_48, z_within, z_isCell, z_fin1, z_fin2, z_fin3, z_fin4, z_fin5, Option.bind_some, Option.toList_some, Option.toList_none, List.cons_append, List.nil_append, bI_t, bI_f, i10, i00, i11, i01, ↓reduceIte, Bool.false_eq_true, zf, h, (by decide : ¬ (0 : Int32) ≤ -1), c1, c2], (by have hm := repM_fb (k := 2) hm; simp only [B_X12_force_0, B_X12_force_6, B_X12_force_26, B_X12_force_17, B_X12_force_33, B_X12_force_44, y_in, y_isCell, y_fin1, y_fin2, y_fin3, y_fin4, y_fin5, Option.bind_some, Option.toList_some, Option.toList_none, List.cons_append, List.nil_append, bI_t, bI_f, i10, i00, i11, i01, ↓reduceIte, Bool.false_eq_true, m_inForce hm, h, (by decide : ¬ (0 : Int32) ≤ -1), c1, c2]), R_fin hR (by decide)⟩
  · have c3 : 0 ≤ nI r := nI_pos' (by omega)
    refine ⟨nI r, g, g, ?_, ?_, hR⟩
    · simp only [B_X11_force_0, B_X11_force_6, B_X11_force_25, B_X11_force_17, B_X11_force_38, B_X11_force_48, z_within, z_isCell, z_fin1, z_fin2, z_fin3, z_fin4, z_fin5, Option.bind_some, Option.toList_some, Option.toList_none, List.cons_append, List.nil_append, bI_t, bI_f, i10, i00, i11, i01, ↓reduceIte, Bool.false_eq_true, c1, c2, zf, h, c3]
    · simp only [B_X12_force_0, B_X12_force_6, B_X12_force_26, B_X12_force_17, B_X12_force_33, B_X12_force_44, y_in, y_isCell, y_fin1, y_fin2, y_fin3, y_fin4, y_fin5, Option.bind_some, Option.toList_some, Option.toList_none, List.cons_append, List.nil_append, bI_t, bI_f, i10, i00, i11, i01, ↓reduceIte, Bool.false_eq_true, c1, c2, m_inForce hm, h, c3]
theorem law_says {o : q_H} {n : Nat} {g : Nat → Nat → Int32} (hR : q_R n g) (ho : q_oR o) (d : Nat) (x1 : Int32) (x2 : Int32) (x3 : Int32) (x4 : Int32) (x5 : Int32) : ∃ v g1 g2, q_sem (d + 30) mX11_says 0 [.ref 0, .int x1, .int x2, .int x3, .int x4, .int x5] [] (q_K o g) = some (some (.int v), q_K o g1) ∧ q_sem (d + 30) mX12_says 0 [.ref 98, .int x1, .int x2, .int x3, .int x4, .int x5] [] (q_K o g1) = some (some (.int v), q_K o g2) ∧ q_R n g2 := by
  obtain ⟨⟨S, N, hr, hm, hk⟩, ha⟩ := id hR
  have hN := n_cnt_ru hr
  cases c1 : q_hs x1 (N 6)
  · exact ⟨-1000001, q_fb g 1, q_fm (q_fb g 1) 1, by simp only [B_X11_says_0, B_X11_says_14, B_X11_says_42, B_X11_says_34, z_within, z_isCell, z_fin1, z_fin2, z_fin3, z_fin4, z_fin5, Option.bind_some, Option.toList_some, Option.toList_none, List.cons_append, List.nil_append, bI_t, bI_f, i10, i00, i11, i01, ↓reduceIte, Bool.false_eq_true, z_has_ru hr, c1], (by have hm := repM_fb (k := 1) hm; simp only [B_X12_says_0, B_X12_says_7, B_X12_says_30, B_X12_says_21, y_in, y_isCell, y_fin1, y_fin2, y_fin3, y_fin4, y_fin5, Option.bind_some, Option.toList_some, Option.toList_none, List.cons_append, List.nil_append, bI_t, bI_f, i10, i00, i11, i01, ↓reduceIte, Bool.false_eq_true, y_isOf6 hm, c1]), R_fin hR (by decide)⟩
  obtain ⟨r, hrN, rfl⟩ := q_hs_t c1 (by omega)
  obtain ⟨g1, e1, hr1, hf1⟩ := c_worth (o := o) hr hk.2 (d + 27) hrN x2 x3 x4 x5
  have hm1 := repM_fr1 hm hf1
  obtain ⟨g2, e2, hf2⟩ := m_worth (o := o) hm1 hk.2 (d + 28) hrN x2 x3 x4 x5
  refine ⟨q_wo S r x2 x3 x4 x5, g1, g2, ?_, ?_, R_st ha hr1 hf1 (m_fr hm1 (fun p a b k => hf2 p k (by omega))) (fun p k z => hf2 p k (by omega)) hk⟩
  · rw [show 1 + 15 = 16 from rfl] at e1
    simp only [B_X11_says_0, B_X11_says_14, B_X11_says_42, B_X11_says_34, z_within, z_isCell, z_fin1, z_fin2, z_fin3, z_fin4, z_fin5, Option.bind_some, Option.toList_some, Option.toList_none, List.cons_append, List.nil_append, bI_t, bI_f, i10, i00, i11, i01, ↓reduceIte, Bool.false_eq_true, z_has_ru hr, c1, e1]
  · simp only [B_X12_says_0, B_X12_says_7, B_X12_says_30, B_X12_says_21, y_in, y_isCell, y_fin1, y_fin2, y_fin3, y_fin4, y_fin5, Option.bind_some, Option.toList_some, Option.toList_none, List.cons_append, List.nil_append, bI_t, bI_f, i10, i00, i11, i01, ↓reduceIte, Bool.false_eq_true, y_isOf6 hm1, c1, e2]
/-- the first number told that is not so: its place; c: there is none -/
def q_unt (S : Nat → Nat → Int32) (N : Nat → Nat) : Nat → Nat → Int32
  | _, 0 => -1
  | m, n + 1 => if N 5 ≤ m then nI m else if S 32 m = S 19 m then q_unt S N (m + 1) n else nI m
section CHK
variable {o : q_H} {g S : Nat → Nat → Int32} {N : Nat → Nat}
theorem z_unt_l (hr : repC 1 g S N) (d : Nat) : ∀ n m, m + n = N 11 → q_sem (d + 2) mX11_firstUntrue 2 [.ref 0, .int (nI m)] [] (q_K o g) = some (some (.int (q_unt S N m n)), q_K o g) := by
  have hN := n_cnt_wa hr
  have hN5 := n_cnt_fl hr
  intro n
  induction n with
  | zero =>
    intro m hm
    have c1 : nI (N 11) ≤ nI m := nI_le (by omega) (by omega)
    simp only [B_X11_firstUntrue_2, B_X11_firstUntrue_13, Option.bind_some, Option.toList_some, Option.toList_none, List.cons_append, List.nil_append, r_size_wa hr, c1, ↓reduceIte, q_unt]
  | succ n ih =>
    intro m hm
    have hm2 : m < N 11 := by omega
    have c1 : ¬ nI (N 11) ≤ nI m := nI_ge hm2 (by omega)
    have ih0 := ih (m + 1) (by omega)
    by_cases c2 : N 5 ≤ m
    · have c3 : q_hs (nI m) (N 5) = false := decide_eq_false (fun z => absurd z.2 (nI_nlt c2 (by omega)))
      rw [B_X11_firstUntrue_2]
      simp only [B_X11_firstUntrue_13, B_X11_firstUntrue_27, z_within, z_isCell, z_fin1, z_fin2, z_fin3, z_fin4, z_fin5, Option.bind_some, Option.toList_some, Option.toList_none, List.cons_append, List.nil_append, bI_t, bI_f, i10, i00, i11, i01, ↓reduceIte, Bool.false_eq_true, r_size_wa hr, c1, z_has_fl hr, c3, q_unt, c2]
    · have hm5 : m < N 5 := by omega
      have c3 : q_hs (nI m) (N 5) = true := q_hs_n hm5 (by omega)
      rw [B_X11_firstUntrue_2]
      simp only [B_X11_firstUntrue_13, B_X11_firstUntrue_27, B_X11_firstUntrue_42, B_X11_firstUntrue_54, z_within, z_isCell, z_fin1, z_fin2, z_fin3, z_fin4, z_fin5, Option.bind_some, Option.toList_some, Option.toList_none, List.cons_append, List.nil_append, bI_t, bI_f, i10, i00, i11, i01, ↓reduceIte, Bool.false_eq_true, r_size_wa hr, c1, z_has_fl hr, c3, r_get_fl5 hr, r_get_wa0 hr, q_atI hm5 (show N 5 < 2 ^ 31 by omega), q_atI hm2 (show N 11 < 2 ^ 31 by omega), q_unt, c2, nI_1]
      by_cases c4 : S 32 m = S 19 m
      · rw [if_pos c4.symm, if_pos c4]; exact ih0
      · rw [if_neg (fun z => c4 z.symm), if_neg c4]
theorem m_unt_l (hm : repM g S N) (d : Nat) : ∀ n m, m + n = N 11 → q_sem d mX12_check 18 [.ref 98, .int (nI (N 11)), .int (nI m)] [] (q_K o (q_up g 100 11 0)) = some (some (.int (q_unt S N m n + 1)), q_K o (q_up g 100 11 0)) := by
  have hN := m_c11 hm
  have hN5 := m_c5 hm
  intro n
  induction n with
  | zero =>
    intro m hm0
    have c1 : nI (N 11) ≤ nI m := nI_le (by omega) (by omega)
    rw [B_X12_check_18, if_pos c1, show q_unt S N m 0 + 1 = 0 from (by decide : (-1 : Int32) + 1 = 0)]
  | succ n ih =>
    intro m hm0
    have hm2 : m < N 11 := by omega
    have c1 : ¬ nI (N 11) ≤ nI m := nI_ge hm2 (by omega)
    have ih0 := ih (m + 1) (by omega)
    rw [B_X12_check_18, if_neg c1, q_upJ (show 5 ≠ 11 by decide), m_n5 hm]
    by_cases c2 : N 5 ≤ m
    · have c3 : nI (N 5) ≤ nI m := nI_le c2 (by omega)
      rw [if_pos c3]
      unfold q_unt
      rw [if_pos c2]
    · have hm5 : m < N 5 := by omega
      have c3 : ¬ nI (N 5) ≤ nI m := nI_ge hm5 (by omega)
      rw [if_neg c3, q_rgN (show m < 20 by omega) (by decide), q_rgN (show m < 16 by omega) (by decide), q_upN (show 132 ≠ 100 by decide), q_upN (show 119 ≠ 100 by decide), m_f32 hm hm2, m_f19 hm hm5, nI_1]
      unfold q_unt
      rw [if_neg c2]
      by_cases c4 : S 32 m = S 19 m
      · rw [if_pos c4, if_pos c4]; exact ih0
      · rw [if_neg c4, if_neg c4, nI_1]
end CHK
theorem law_check {o : q_H} {n : Nat} {g : Nat → Nat → Int32} (hR : q_R n g) (ho : q_oR o) (d : Nat) : ∃ v g1 g2, q_sem (d + 30) mX11_check 0 [.ref 0, .retAddr 0] [] (q_K o g) = some (some (.int v), q_K o g1) ∧ q_sem (d + 30) mX12_check 0 [.ref 98, .retAddr 0, .retAddr 0] [] (q_K o g1) = some (some (.int v), q_K o g2) ∧ q_R n g2 := by
  obtain ⟨⟨S, N, hr, hm, hk⟩, ha⟩ := id hR
  obtain ⟨g1, e1, hr1, hf1⟩ := r_clear_wa (o := o) hr (d + 28)
  have hm1 := repM_fr1 hm hf1
  have ez := z_unt_l (o := o) hr (d + 27) (N 11) 0 (by omega)
  have em := m_unt_l (o := o) hm1 (d + 30) (N 11) 0 (by omega)
  rw [nI_0] at ez em
  refine ⟨q_unt S N 0 (N 11) + 1, g1, q_up g1 100 11 0, ?_, ?_, R_st ha hr1 hf1 (m_clr hm1 (by decide) (by decide) (by decide)) (fM_up fM_rf (by decide)) (ok_N hk (fun j hj => q_nu_ne (by omega)))⟩
  · simp only [B_X11_check_0, B_X11_check_4, B_X11_check_15, B_X11_firstUntrue_0, Option.bind_some, Option.toList_some, Option.toList_none, List.cons_append, List.nil_append, ez, e1]
  · rw [B_X12_check_0, m_n11 hm1]
    exact em
section CNT
variable {o : q_H} {g S : Nat → Nat → Int32} {N : Nat → Nat}
def q_sum (f : Nat → Int32) : Nat → Int32
  | 0 => 0
  | n + 1 => q_sum f n + f n
theorem m_raidsUp (hm : repM g S N) (d : Nat) : q_sem (d + 1) mX12_raidsUp 0 [.ref 98, .retAddr 0, .retAddr 0] [] (q_K o g) = some (some (.int (q_fo (q_hmB S 1 0) 0 (N 5) 0)), q_K o g) := by
  have hN := m_c5 hm
  have h : ∀ n m acc, m + n = N 5 → q_sem (d + 1) mX12_raidsUp 4 [.ref 98, .int acc, .int (nI m)] [] (q_K o g) = some (some (.int (q_fo (q_hmB S 1 0) m n acc)), q_K o g) := by
    intro n
    induction n with
    | zero =>
      intro m acc hm0
      have c1 : nI (N 5) ≤ nI m := nI_le (by omega) (by omega)
      rw [B_X12_raidsUp_4, m_n5 hm, if_pos c1]
      rfl
    | succ n ih =>
      intro m acc hm0
      have hm2 : m < N 5 := by omega
      have c1 : ¬ nI (N 5) ≤ nI m := nI_ge hm2 (by omega)
      have ih0 := fun acc => ih (m + 1) acc (by omega)
      have e : q_hmB S 1 0 m acc = acc + bI (q_raB S m) := by
        unfold q_hmB q_raB q_rai
        simp only [q_un1]
        rw [← bI_d]
      rw [B_X12_raidsUp_4, m_n5 hm, if_neg c1]
      simp only [m_isRaid hm hm2, Option.bind_some, Option.toList_some, Option.toList_none, List.cons_append, List.nil_append, B_X12_raidsUp_20, nI_1, q_fo, e, ih0]
      cases q_raB S m <;> simp [bI]
  rw [B_X12_raidsUp_0]
  exact h (N 5) 0 0 (by omega)
theorem m_inState (hm : repM g S N) (hf : q_wf S N) (d : Nat) {b v : Int32} (hb : (b = 0 ∧ v = 0) ∨ (b = 1 ∧ v = 1)) : q_sem (d + 1) mX12_inState 0 [.ref 98, .int b, .retAddr 0, .retAddr 0] [] (q_K o g) = some (some (.int (q_fo (q_hmB S 4 v) 0 (N 5) 0)), q_K o g) := by
  have hN := m_c5 hm
  have h : ∀ n m acc, m + n = N 5 → q_sem (d + 1) mX12_inState 4 [.ref 98, .int b, .int acc, .int (nI m)] [] (q_K o g) = some (some (.int (q_fo (q_hmB S 4 v) m n acc)), q_K o g) := by
    intro n
    induction n with
    | zero =>
      intro m acc hm0
      have c1 : nI (N 5) ≤ nI m := nI_le (by omega) (by omega)
      rw [B_X12_inState_4, m_n5 hm, if_pos c1]
      rfl
    | succ n ih =>
      intro m acc hm0
      have hm2 : m < N 5 := by omega
      have c1 : ¬ nI (N 5) ≤ nI m := nI_ge hm2 (by omega)
      have ih0 := fun acc => ih (m + 1) acc (by omega)
      obtain ⟨k, hk, ek⟩ := (hf.2.2.2.2.2.1 m hm2).2.1
      have e : q_hmB S 4 v m acc = acc + (if 3 < S 14 m ∧ S 20 m = v then 1 else 0) := by
        unfold q_hmB
        rw [ek]
        simp only [q_un4 k hk]
      rw [B_X12_inState_4, m_n5 hm, if_neg c1]
      simp only [m_isFlight hm hm2, Option.bind_some, Option.toList_some, Option.toList_none, List.cons_append, List.nil_append, B_X12_inState_20, nI_1, q_fo, e, ih0, q_rgN (show m < 16 by omega) (show 16 < 2 ^ 31 by decide), m_f20 hm hm2]
      rcases hb with ⟨rfl, rfl⟩ | ⟨rfl, rfl⟩
      · by_cases h1 : 3 < S 14 m <;> by_cases h2 : S 20 m = 0 <;> simp [h1, h2, bI]
      · by_cases h1 : 3 < S 14 m <;> by_cases h2 : S 20 m = 1 <;> simp [h1, h2, bI]
  rw [B_X12_inState_0]
  exact h (N 5) 0 0 (by omega)
theorem m_seenCells (hm : repM g S N) (hf : q_wf S N) (d : Nat) : q_sem (d + 3) mX12_seenCells 0 [.ref 98, .retAddr 0, .retAddr 0] [] (q_K o g) = some (some (.int (q_fo (fun c a => a + (if q_se S N c = true then 1 else 0)) 0 256 0)), q_K o g) := by
  have h : ∀ n m acc, m + n = 256 → q_sem (d + 3) mX12_seenCells 4 [.ref 98, .int acc, .int (nI m)] [] (q_K o g) = some (some (.int (q_fo (fun c a => a + (if q_se S N c = true then 1 else 0)) m n acc)), q_K o g) := by
    intro n
    induction n with
    | zero =>
      intro m acc hm0
      have c1 : 256 ≤ nI m := (by decide : (256 : Int32) = nI 256) ▸ nI_le (by omega) (by omega)
      rw [B_X12_seenCells_4, if_pos c1]
      rfl
    | succ n ih =>
      intro m acc hm0
      have c1 : ¬ 256 ≤ nI m := (by decide : (256 : Int32) = nI 256) ▸ nI_ge (by omega) (by omega)
      have ih0 := fun acc => ih (m + 1) acc (by omega)
      rw [B_X12_seenCells_4, if_neg c1]
      simp only [m_isSeen hm hf (show m < 256 by omega), Option.bind_some, Option.toList_some, Option.toList_none, List.cons_append, List.nil_append, B_X12_seenCells_17, nI_1, q_fo, ih0]
      cases q_se S N m <;> simp [bI]
  rw [B_X12_seenCells_0]
  exact h 256 0 0 (by omega)
theorem m_allOf (hm : repM g S N) (d : Nat) {x : Int32} {f : Nat} (hx : (x = 13 ∧ f = 12) ∨ (x = 14 ∧ f = 13)) : q_sem d mX12_allOf 0 [.ref 98, .int x, .retAddr 0, .retAddr 0] [] (q_K o g) = some (some (.int (q_sum (S f) (N 4))), q_K o g) := by
  have hN := m_c4 hm
  have h : ∀ n m, m + n = N 4 → q_sem d mX12_allOf 4 [.ref 98, .int x, .int (q_sum (S f) m), .int (nI m)] [] (q_K o g) = some (some (.int (q_sum (S f) (N 4))), q_K o g) := by
    intro n
    induction n with
    | zero =>
      intro m hm0
      have c1 : nI (N 4) ≤ nI m := nI_le (by omega) (by omega)
      have em : m = N 4 := by omega
      rw [B_X12_allOf_4, m_n4 hm, if_pos c1, em]
    | succ n ih =>
      intro m hm0
      have hm2 : m < N 4 := by omega
      have c1 : ¬ nI (N 4) ≤ nI m := nI_ge hm2 (by omega)
      have ih0 := ih (m + 1) (by omega)
      rw [B_X12_allOf_4, m_n4 hm, if_neg c1]
      rcases hx with ⟨rfl, rfl⟩ | ⟨rfl, rfl⟩
      · rw [if_pos rfl, q_rgN (show m < 6 by omega) (by decide), m_f12 hm hm2, nI_1]; exact ih0
      · rw [if_neg (by decide), q_rgN (show m < 6 by omega) (by decide), m_f13 hm hm2, nI_1]; exact ih0
  rw [B_X12_allOf_0]
  exact h (N 4) 0 (by omega)
theorem z_total (hr : repC 1 g S N) (d : Nat) {c : Nat} (hc : c < 4) : q_sem (d + 2) mX7_total 0 [.ref 10, .int (nI c), .retAddr 0, .retAddr 0] [] (q_K o g) = some (some (.int (q_sum (S (10 + c)) (N 4))), q_K o g) := by
  have ht := W_tb hr.1 (9, 6, 4, 4, 4, 10) (by decide)
  have hi := hr.2.1 (9, 6, 4, 4, 4, 10) (by decide)
  have h := s_total (o := o) d ht hi.1 hc
  have e : ∀ r, r ≤ N 4 → q_tot g 10 4 c r = q_sum (S (10 + c)) r := by
    intro r
    induction r with
    | zero => intro _; rfl
    | succ r ih =>
      intro hr2
      show q_tot g 10 4 c r + g 11 (r * 4 + c) = q_sum (S (10 + c)) r + S (10 + c) r
      rw [ih (by omega)]
      congr 1
      exact hi.2 c r hc (show r < N 4 by omega)
  rw [← e (N 4) (Nat.le_refl _)]
  exact h
end CNT
theorem q_in15c {x : Int32} (h : q_in x 0 15 = true) : x = 0 ∨ x = 1 ∨ x = 2 ∨ x = 3 ∨ x = 4 ∨ x = 5 ∨ x = 6 ∨ x = 7 ∨ x = 8 ∨ x = 9 ∨ x = 10 ∨ x = 11 ∨ x = 12 ∨ x = 13 ∨ x = 14 ∨ x = 15 := by
  obtain ⟨i, _, hi, rfl⟩ := q_in_t (a := 0) (b := 15) h (by decide) (by decide)
  rcases i with _ | _ | _ | _ | _ | _ | _ | _ | _ | _ | _ | _ | _ | _ | _ | _ | i
  · exact Or.inl rfl
  · exact Or.inr (Or.inl rfl)
  · exact Or.inr (Or.inr (Or.inl rfl))
  · exact Or.inr (Or.inr (Or.inr (Or.inl rfl)))
  · exact Or.inr (Or.inr (Or.inr (Or.inr (Or.inl rfl))))
  · exact Or.inr (Or.inr (Or.inr (Or.inr (Or.inr (Or.inl rfl)))))
  · exact Or.inr (Or.inr (Or.inr (Or.inr (Or.inr (Or.inr (Or.inl rfl))))))
  · exact Or.inr (Or.inr (Or.inr (Or.inr (Or.inr (Or.inr (Or.inr (Or.inl rfl)))))))
  · exact Or.inr (Or.inr (Or.inr (Or.inr (Or.inr (Or.inr (Or.inr (Or.inr (Or.inl rfl))))))))
  · exact Or.inr (Or.inr (Or.inr (Or.inr (Or.inr (Or.inr (Or.inr (Or.inr (Or.inr (Or.inl rfl)))))))))
  · exact Or.inr (Or.inr (Or.inr (Or.inr (Or.inr (Or.inr (Or.inr (Or.inr (Or.inr (Or.inr (Or.inl rfl))))))))))
  · exact Or.inr (Or.inr (Or.inr (Or.inr (Or.inr (Or.inr (Or.inr (Or.inr (Or.inr (Or.inr (Or.inr (Or.inl rfl)))))))))))
  · exact Or.inr (Or.inr (Or.inr (Or.inr (Or.inr (Or.inr (Or.inr (Or.inr (Or.inr (Or.inr (Or.inr (Or.inr (Or.inl rfl))))))))))))
  · exact Or.inr (Or.inr (Or.inr (Or.inr (Or.inr (Or.inr (Or.inr (Or.inr (Or.inr (Or.inr (Or.inr (Or.inr (Or.inr (Or.inl rfl)))))))))))))
  · exact Or.inr (Or.inr (Or.inr (Or.inr (Or.inr (Or.inr (Or.inr (Or.inr (Or.inr (Or.inr (Or.inr (Or.inr (Or.inr (Or.inr (Or.inl rfl))))))))))))))
  · exact Or.inr (Or.inr (Or.inr (Or.inr (Or.inr (Or.inr (Or.inr (Or.inr (Or.inr (Or.inr (Or.inr (Or.inr (Or.inr (Or.inr (Or.inr (rfl)))))))))))))))
  · omega
theorem law_count {o : q_H} {n : Nat} {g : Nat → Nat → Int32} (hR : q_R n g) (ho : q_oR o) (d : Nat) (x1 : Int32) : ∃ v g1 g2, q_sem (d + 30) mX11_count 0 [.ref 0, .int x1] [] (q_K o g) = some (some (.int v), q_K o g1) ∧ q_sem (d + 30) mX12_count 0 [.ref 98, .int x1] [] (q_K o g1) = some (some (.int v), q_K o g2) ∧ q_R n g2 := by
  obtain ⟨⟨S, N, hr, hm, hk⟩, ha⟩ := id hR
  have hN0 := n_cnt_ma hr
  obtain ⟨R, ht, eb, hbb⟩ := ha.2.2.1
  have htb : q_tb 95 40 1 := ⟨⟨by decide, rfl⟩, rfl, rfl, rfl, rfl, ⟨by decide, rfl, rfl⟩, by decide, by decide, by decide⟩
  cases c1 : q_in x1 0 15
  · have n0 : ¬ x1 = 0 := fun z => q_in_f (a := 0) (b := 15) (by decide) (by decide) c1 (i := 0) (by decide) (by decide) z
    have n1 : ¬ x1 = 1 := fun z => q_in_f (a := 0) (b := 15) (by decide) (by decide) c1 (i := 1) (by decide) (by decide) z
    have n2 : ¬ x1 = 2 := fun z => q_in_f (a := 0) (b := 15) (by decide) (by decide) c1 (i := 2) (by decide) (by decide) z
    have n3 : ¬ x1 = 3 := fun z => q_in_f (a := 0) (b := 15) (by decide) (by decide) c1 (i := 3) (by decide) (by decide) z
    have n4 : ¬ x1 = 4 := fun z => q_in_f (a := 0) (b := 15) (by decide) (by decide) c1 (i := 4) (by decide) (by decide) z
    have n5 : ¬ x1 = 5 := fun z => q_in_f (a := 0) (b := 15) (by decide) (by decide) c1 (i := 5) (by decide) (by decide) z
    have n6 : ¬ x1 = 6 := fun z => q_in_f (a := 0) (b := 15) (by decide) (by decide) c1 (i := 6) (by decide) (by decide) z
    have n7 : ¬ x1 = 7 := fun z => q_in_f (a := 0) (b := 15) (by decide) (by decide) c1 (i := 7) (by decide) (by decide) z
    have n8 : ¬ x1 = 8 := fun z => q_in_f (a := 0) (b := 15) (by decide) (by decide) c1 (i := 8) (by decide) (by decide) z
    have n9 : ¬ x1 = 9 := fun z => q_in_f (a := 0) (b := 15) (by decide) (by decide) c1 (i := 9) (by decide) (by decide) z
    have n10 : ¬ x1 = 10 := fun z => q_in_f (a := 0) (b := 15) (by decide) (by decide) c1 (i := 10) (by decide) (by decide) z
    have n11 : ¬ x1 = 11 := fun z => q_in_f (a := 0) (b := 15) (by decide) (by decide) c1 (i := 11) (by decide) (by decide) z
    have n12 : ¬ x1 = 12 := fun z => q_in_f (a := 0) (b := 15) (by decide) (by decide) c1 (i := 12) (by decide) (by decide) z
    have n13 : ¬ x1 = 13 := fun z => q_in_f (a := 0) (b := 15) (by decide) (by decide) c1 (i := 13) (by decide) (by decide) z
    have n14 : ¬ x1 = 14 := fun z => q_in_f (a := 0) (b := 15) (by decide) (by decide) c1 (i := 14) (by decide) (by decide) z
    have n15 : ¬ x1 = 15 := fun z => q_in_f (a := 0) (b := 15) (by decide) (by decide) c1 (i := 15) (by decide) (by decide) z
    have c2 : q_in x1 0 8 = false := by
      cases c : q_in x1 0 8
      · rfl
      · obtain ⟨i, _, hi, rfl⟩ := q_in_t (a := 0) (b := 8) c (by decide) (by decide)
        exact absurd rfl (q_in_f (a := 0) (b := 15) (by decide) (by decide) c1 (i := i) (by omega) (by omega))
    exact ⟨-1000001, q_fb g 1, q_fm (q_fb g 1) 1, by simp only [B_X11_count_0, B_X11_count_90, B_X11_count_101, B_X11_count_112, B_X11_count_123, B_X11_count_134, B_X11_count_145, B_X11_count_159, B_X11_count_181, B_X11_count_192, B_X11_count_203, B_X11_count_213, B_X11_count_223, B_X11_count_235, B_X11_count_247, B_X11_count_255, B_X11_count_261, z_within, z_isCell, z_fin1, z_fin2, z_fin3, z_fin4, z_fin5, Option.bind_some, Option.toList_some, Option.toList_none, List.cons_append, List.nil_append, bI_t, bI_f, i10, i00, i11, i01, ↓reduceIte, Bool.false_eq_true, c2, n0, n1, n2, n3, n4, n5, n6, n7, n8, n9, n10, n11, n12, n13, n14, n15], (by have hm := repM_fb (k := 1) hm; simp only [B_X12_count_0, B_X12_count_7, B_X12_count_77, B_X12_count_83, B_X12_count_89, B_X12_count_94, B_X12_count_101, y_in, y_isCell, y_fin1, y_fin2, y_fin3, y_fin4, y_fin5, Option.bind_some, Option.toList_some, Option.toList_none, List.cons_append, List.nil_append, bI_t, bI_f, i10, i00, i11, i01, ↓reduceIte, Bool.false_eq_true, c2, n0, n1, n2, n3, n4, n5, n6, n7, n8, n9, n10, n11, n12, n13, n14, n15]), R_fin hR (by decide)⟩
  rcases q_in15c c1 with rfl | rfl | rfl | rfl | rfl | rfl | rfl | rfl | rfl | rfl | rfl | rfl | rfl | rfl | rfl | rfl
  · refine ⟨nI (N 0), g, g, ?_, ?_, hR⟩
    · simp only [B_X11_count_0, B_X11_count_90, B_X11_count_101, B_X11_count_112, B_X11_count_123, B_X11_count_134, B_X11_count_145, B_X11_count_159, B_X11_count_181, B_X11_count_192, B_X11_count_203, B_X11_count_213, B_X11_count_223, B_X11_count_235, B_X11_count_247, B_X11_count_255, B_X11_count_261, z_within, z_isCell, z_fin1, z_fin2, z_fin3, z_fin4, z_fin5, Option.bind_some, Option.toList_some, Option.toList_none, List.cons_append, List.nil_append, bI_t, bI_f, i10, i00, i11, i01, ↓reduceIte, Bool.false_eq_true, r_size_ma hr]
    · simp only [B_X12_count_0, B_X12_count_7, B_X12_count_77, B_X12_count_83, B_X12_count_89, B_X12_count_94, B_X12_count_101, y_in, y_isCell, y_fin1, y_fin2, y_fin3, y_fin4, y_fin5, Option.bind_some, Option.toList_some, Option.toList_none, List.cons_append, List.nil_append, bI_t, bI_f, i10, i00, i11, i01, ↓reduceIte, Bool.false_eq_true, (by decide : q_in 0 0 8 = true), (show ∀ k : Nat → Option (Option Value × q_H), q_rg 0 12 k = k 0 from fun k => q_rgN (j := 0) (by decide) (by decide)), m_n0 hm]
  · refine ⟨nI (N 1), g, g, ?_, ?_, hR⟩
    · simp only [B_X11_count_0, B_X11_count_90, B_X11_count_101, B_X11_count_112, B_X11_count_123, B_X11_count_134, B_X11_count_145, B_X11_count_159, B_X11_count_181, B_X11_count_192, B_X11_count_203, B_X11_count_213, B_X11_count_223, B_X11_count_235, B_X11_count_247, B_X11_count_255, B_X11_count_261, z_within, z_isCell, z_fin1, z_fin2, z_fin3, z_fin4, z_fin5, Option.bind_some, Option.toList_some, Option.toList_none, List.cons_append, List.nil_append, bI_t, bI_f, i10, i00, i11, i01, ↓reduceIte, Bool.false_eq_true, r_size_po hr]
    · simp only [B_X12_count_0, B_X12_count_7, B_X12_count_77, B_X12_count_83, B_X12_count_89, B_X12_count_94, B_X12_count_101, y_in, y_isCell, y_fin1, y_fin2, y_fin3, y_fin4, y_fin5, Option.bind_some, Option.toList_some, Option.toList_none, List.cons_append, List.nil_append, bI_t, bI_f, i10, i00, i11, i01, ↓reduceIte, Bool.false_eq_true, (by decide : q_in 1 0 8 = true), (show ∀ k : Nat → Option (Option Value × q_H), q_rg 1 12 k = k 1 from fun k => q_rgN (j := 1) (by decide) (by decide)), m_n1 hm]
  · refine ⟨nI (N 2), g, g, ?_, ?_, hR⟩
    · simp only [B_X11_count_0, B_X11_count_90, B_X11_count_101, B_X11_count_112, B_X11_count_123, B_X11_count_134, B_X11_count_145, B_X11_count_159, B_X11_count_181, B_X11_count_192, B_X11_count_203, B_X11_count_213, B_X11_count_223, B_X11_count_235, B_X11_count_247, B_X11_count_255, B_X11_count_261, z_within, z_isCell, z_fin1, z_fin2, z_fin3, z_fin4, z_fin5, Option.bind_some, Option.toList_some, Option.toList_none, List.cons_append, List.nil_append, bI_t, bI_f, i10, i00, i11, i01, ↓reduceIte, Bool.false_eq_true, (by decide : ¬ (2 : Int32) = 0), (by decide : ¬ (2 : Int32) = 1), r_size_pl hr]
    · simp only [B_X12_count_0, B_X12_count_7, B_X12_count_77, B_X12_count_83, B_X12_count_89, B_X12_count_94, B_X12_count_101, y_in, y_isCell, y_fin1, y_fin2, y_fin3, y_fin4, y_fin5, Option.bind_some, Option.toList_some, Option.toList_none, List.cons_append, List.nil_append, bI_t, bI_f, i10, i00, i11, i01, ↓reduceIte, Bool.false_eq_true, (by decide : q_in 2 0 8 = true), (show ∀ k : Nat → Option (Option Value × q_H), q_rg 2 12 k = k 2 from fun k => q_rgN (j := 2) (by decide) (by decide)), m_n2 hm]
  · refine ⟨nI (N 3), g, g, ?_, ?_, hR⟩
    · simp only [B_X11_count_0, B_X11_count_90, B_X11_count_101, B_X11_count_112, B_X11_count_123, B_X11_count_134, B_X11_count_145, B_X11_count_159, B_X11_count_181, B_X11_count_192, B_X11_count_203, B_X11_count_213, B_X11_count_223, B_X11_count_235, B_X11_count_247, B_X11_count_255, B_X11_count_261, z_within, z_isCell, z_fin1, z_fin2, z_fin3, z_fin4, z_fin5, Option.bind_some, Option.toList_some, Option.toList_none, List.cons_append, List.nil_append, bI_t, bI_f, i10, i00, i11, i01, ↓reduceIte, Bool.false_eq_true, (by decide : ¬ (3 : Int32) = 0), (by decide : ¬ (3 : Int32) = 1), (by decide : ¬ (3 : Int32) = 2), r_size_fi hr]
    · simp only [B_X12_count_0, B_X12_count_7, B_X12_count_77, B_X12_count_83, B_X12_count_89, B_X12_count_94, B_X12_count_101, y_in, y_isCell, y_fin1, y_fin2, y_fin3, y_fin4, y_fin5, Option.bind_some, Option.toList_some, Option.toList_none, List.cons_append, List.nil_append, bI_t, bI_f, i10, i00, i11, i01, ↓reduceIte, Bool.false_eq_true, (by decide : q_in 3 0 8 = true), (show ∀ k : Nat → Option (Option Value × q_H), q_rg 3 12 k = k 3 from fun k => q_rgN (j := 3) (by decide) (by decide)), m_n3 hm]
  · refine ⟨nI (N 4), g, g, ?_, ?_, hR⟩
    · simp only [B_X11_count_0, B_X11_count_90, B_X11_count_101, B_X11_count_112, B_X11_count_123, B_X11_count_134, B_X11_count_145, B_X11_count_159, B_X11_count_181, B_X11_count_192, B_X11_count_203, B_X11_count_213, B_X11_count_223, B_X11_count_235, B_X11_count_247, B_X11_count_255, B_X11_count_261, z_within, z_isCell, z_fin1, z_fin2, z_fin3, z_fin4, z_fin5, Option.bind_some, Option.toList_some, Option.toList_none, List.cons_append, List.nil_append, bI_t, bI_f, i10, i00, i11, i01, ↓reduceIte, Bool.false_eq_true, (by decide : ¬ (4 : Int32) = 0), (by decide : ¬ (4 : Int32) = 1), (by decide : ¬ (4 : Int32) = 2), (by decide : ¬ (4 : Int32) = 3), r_size_to hr]
    · simp only [B_X12_count_0, B_X12_count_7, B_X12_count_77, B_X12_count_83, B_X12_count_89, B_X12_count_94, B_X12_count_101, y_in, y_isCell, y_fin1, y_fin2, y_fin3, y_fin4, y_fin5, Option.bind_some, Option.toList_some, Option.toList_none, List.cons_append, List.nil_append, bI_t, bI_f, i10, i00, i11, i01, ↓reduceIte, Bool.false_eq_true, (by decide : q_in 4 0 8 = true), (show ∀ k : Nat → Option (Option Value × q_H), q_rg 4 12 k = k 4 from fun k => q_rgN (j := 4) (by decide) (by decide)), m_n4 hm]
  · refine ⟨nI (N 5), g, g, ?_, ?_, hR⟩
    · simp only [B_X11_count_0, B_X11_count_90, B_X11_count_101, B_X11_count_112, B_X11_count_123, B_X11_count_134, B_X11_count_145, B_X11_count_159, B_X11_count_181, B_X11_count_192, B_X11_count_203, B_X11_count_213, B_X11_count_223, B_X11_count_235, B_X11_count_247, B_X11_count_255, B_X11_count_261, z_within, z_isCell, z_fin1, z_fin2, z_fin3, z_fin4, z_fin5, Option.bind_some, Option.toList_some, Option.toList_none, List.cons_append, List.nil_append, bI_t, bI_f, i10, i00, i11, i01, ↓reduceIte, Bool.false_eq_true, (by decide : ¬ (5 : Int32) = 0), (by decide : ¬ (5 : Int32) = 1), (by decide : ¬ (5 : Int32) = 2), (by decide : ¬ (5 : Int32) = 3), (by decide : ¬ (5 : Int32) = 4), r_size_fl hr]
    · simp only [B_X12_count_0, B_X12_count_7, B_X12_count_77, B_X12_count_83, B_X12_count_89, B_X12_count_94, B_X12_count_101, y_in, y_isCell, y_fin1, y_fin2, y_fin3, y_fin4, y_fin5, Option.bind_some, Option.toList_some, Option.toList_none, List.cons_append, List.nil_append, bI_t, bI_f, i10, i00, i11, i01, ↓reduceIte, Bool.false_eq_true, (by decide : q_in 5 0 8 = true), (show ∀ k : Nat → Option (Option Value × q_H), q_rg 5 12 k = k 5 from fun k => q_rgN (j := 5) (by decide) (by decide)), m_n5 hm]
  · refine ⟨nI (N 6), g, g, ?_, ?_, hR⟩
    · simp only [B_X11_count_0, B_X11_count_90, B_X11_count_101, B_X11_count_112, B_X11_count_123, B_X11_count_134, B_X11_count_145, B_X11_count_159, B_X11_count_181, B_X11_count_192, B_X11_count_203, B_X11_count_213, B_X11_count_223, B_X11_count_235, B_X11_count_247, B_X11_count_255, B_X11_count_261, z_within, z_isCell, z_fin1, z_fin2, z_fin3, z_fin4, z_fin5, Option.bind_some, Option.toList_some, Option.toList_none, List.cons_append, List.nil_append, bI_t, bI_f, i10, i00, i11, i01, ↓reduceIte, Bool.false_eq_true, (by decide : ¬ (6 : Int32) = 0), (by decide : ¬ (6 : Int32) = 1), (by decide : ¬ (6 : Int32) = 2), (by decide : ¬ (6 : Int32) = 3), (by decide : ¬ (6 : Int32) = 4), (by decide : ¬ (6 : Int32) = 5), r_size_ru hr]
    · simp only [B_X12_count_0, B_X12_count_7, B_X12_count_77, B_X12_count_83, B_X12_count_89, B_X12_count_94, B_X12_count_101, y_in, y_isCell, y_fin1, y_fin2, y_fin3, y_fin4, y_fin5, Option.bind_some, Option.toList_some, Option.toList_none, List.cons_append, List.nil_append, bI_t, bI_f, i10, i00, i11, i01, ↓reduceIte, Bool.false_eq_true, (by decide : q_in 6 0 8 = true), (show ∀ k : Nat → Option (Option Value × q_H), q_rg 6 12 k = k 6 from fun k => q_rgN (j := 6) (by decide) (by decide)), m_n6 hm]
  · refine ⟨S 0 7, g, g, ?_, ?_, hR⟩
    · simp only [B_X11_count_0, B_X11_count_90, B_X11_count_101, B_X11_count_112, B_X11_count_123, B_X11_count_134, B_X11_count_145, B_X11_count_159, B_X11_count_181, B_X11_count_192, B_X11_count_203, B_X11_count_213, B_X11_count_223, B_X11_count_235, B_X11_count_247, B_X11_count_255, B_X11_count_261, z_within, z_isCell, z_fin1, z_fin2, z_fin3, z_fin4, z_fin5, Option.bind_some, Option.toList_some, Option.toList_none, List.cons_append, List.nil_append, bI_t, bI_f, i10, i00, i11, i01, ↓reduceIte, Bool.false_eq_true, (by decide : ¬ (7 : Int32) = 0), (by decide : ¬ (7 : Int32) = 1), (by decide : ¬ (7 : Int32) = 2), (by decide : ¬ (7 : Int32) = 3), (by decide : ¬ (7 : Int32) = 4), (by decide : ¬ (7 : Int32) = 5), (by decide : ¬ (7 : Int32) = 6), hr.2.2.2.1]
    · simp only [B_X12_count_0, B_X12_count_7, B_X12_count_77, B_X12_count_83, B_X12_count_89, B_X12_count_94, B_X12_count_101, y_in, y_isCell, y_fin1, y_fin2, y_fin3, y_fin4, y_fin5, Option.bind_some, Option.toList_some, Option.toList_none, List.cons_append, List.nil_append, bI_t, bI_f, i10, i00, i11, i01, ↓reduceIte, Bool.false_eq_true, (by decide : q_in 7 0 8 = true), (show ∀ k : Nat → Option (Option Value × q_H), q_rg 7 12 k = k 7 from fun k => q_rgN (j := 7) (by decide) (by decide)), hm.2.2.2.2.1]
  · refine ⟨nI (N 8), g, g, ?_, ?_, hR⟩
    · simp only [B_X11_count_0, B_X11_count_90, B_X11_count_101, B_X11_count_112, B_X11_count_123, B_X11_count_134, B_X11_count_145, B_X11_count_159, B_X11_count_181, B_X11_count_192, B_X11_count_203, B_X11_count_213, B_X11_count_223, B_X11_count_235, B_X11_count_247, B_X11_count_255, B_X11_count_261, z_within, z_isCell, z_fin1, z_fin2, z_fin3, z_fin4, z_fin5, Option.bind_some, Option.toList_some, Option.toList_none, List.cons_append, List.nil_append, bI_t, bI_f, i10, i00, i11, i01, ↓reduceIte, Bool.false_eq_true, (by decide : ¬ (8 : Int32) = 0), (by decide : ¬ (8 : Int32) = 1), (by decide : ¬ (8 : Int32) = 2), (by decide : ¬ (8 : Int32) = 3), (by decide : ¬ (8 : Int32) = 4), (by decide : ¬ (8 : Int32) = 5), (by decide : ¬ (8 : Int32) = 6), (by decide : ¬ (8 : Int32) = 7), r_size_ta hr]
    · simp only [B_X12_count_0, B_X12_count_7, B_X12_count_77, B_X12_count_83, B_X12_count_89, B_X12_count_94, B_X12_count_101, y_in, y_isCell, y_fin1, y_fin2, y_fin3, y_fin4, y_fin5, Option.bind_some, Option.toList_some, Option.toList_none, List.cons_append, List.nil_append, bI_t, bI_f, i10, i00, i11, i01, ↓reduceIte, Bool.false_eq_true, (by decide : q_in 8 0 8 = true), (show ∀ k : Nat → Option (Option Value × q_H), q_rg 8 12 k = k 8 from fun k => q_rgN (j := 8) (by decide) (by decide)), m_n8 hm]
  · refine ⟨nI R, g, g, ?_, ?_, hR⟩
    · simp only [B_X11_count_0, B_X11_count_90, B_X11_count_101, B_X11_count_112, B_X11_count_123, B_X11_count_134, B_X11_count_145, B_X11_count_159, B_X11_count_181, B_X11_count_192, B_X11_count_203, B_X11_count_213, B_X11_count_223, B_X11_count_235, B_X11_count_247, B_X11_count_255, B_X11_count_261, z_within, z_isCell, z_fin1, z_fin2, z_fin3, z_fin4, z_fin5, Option.bind_some, Option.toList_some, Option.toList_none, List.cons_append, List.nil_append, bI_t, bI_f, i10, i00, i11, i01, ↓reduceIte, Bool.false_eq_true, (by decide : ¬ (9 : Int32) = 0), (by decide : ¬ (9 : Int32) = 1), (by decide : ¬ (9 : Int32) = 2), (by decide : ¬ (9 : Int32) = 3), (by decide : ¬ (9 : Int32) = 4), (by decide : ¬ (9 : Int32) = 5), (by decide : ¬ (9 : Int32) = 6), (by decide : ¬ (9 : Int32) = 7), (by decide : ¬ (9 : Int32) = 8), s_size _ htb, ht.2.2.1]
    · simp only [B_X12_count_0, B_X12_count_7, B_X12_count_77, B_X12_count_83, B_X12_count_89, B_X12_count_94, B_X12_count_101, y_in, y_isCell, y_fin1, y_fin2, y_fin3, y_fin4, y_fin5, Option.bind_some, Option.toList_some, Option.toList_none, List.cons_append, List.nil_append, bI_t, bI_f, i10, i00, i11, i01, ↓reduceIte, Bool.false_eq_true, (by decide : q_in 9 0 8 = false), eb]
  · refine ⟨nI (N 11), g, g, ?_, ?_, hR⟩
    · simp only [B_X11_count_0, B_X11_count_90, B_X11_count_101, B_X11_count_112, B_X11_count_123, B_X11_count_134, B_X11_count_145, B_X11_count_159, B_X11_count_181, B_X11_count_192, B_X11_count_203, B_X11_count_213, B_X11_count_223, B_X11_count_235, B_X11_count_247, B_X11_count_255, B_X11_count_261, z_within, z_isCell, z_fin1, z_fin2, z_fin3, z_fin4, z_fin5, Option.bind_some, Option.toList_some, Option.toList_none, List.cons_append, List.nil_append, bI_t, bI_f, i10, i00, i11, i01, ↓reduceIte, Bool.false_eq_true, (by decide : ¬ (10 : Int32) = 0), (by decide : ¬ (10 : Int32) = 1), (by decide : ¬ (10 : Int32) = 2), (by decide : ¬ (10 : Int32) = 3), (by decide : ¬ (10 : Int32) = 4), (by decide : ¬ (10 : Int32) = 5), (by decide : ¬ (10 : Int32) = 6), (by decide : ¬ (10 : Int32) = 7), (by decide : ¬ (10 : Int32) = 8), (by decide : ¬ (10 : Int32) = 9), r_size_wa hr]
    · simp only [B_X12_count_0, B_X12_count_7, B_X12_count_77, B_X12_count_83, B_X12_count_89, B_X12_count_94, B_X12_count_101, y_in, y_isCell, y_fin1, y_fin2, y_fin3, y_fin4, y_fin5, Option.bind_some, Option.toList_some, Option.toList_none, List.cons_append, List.nil_append, bI_t, bI_f, i10, i00, i11, i01, ↓reduceIte, Bool.false_eq_true, (by decide : q_in 10 0 8 = false), (by decide : ¬ (10 : Int32) = 9), m_n11 hm]
  · have z1 : ∀ d, q_sem (d + 3) mX10_howMany 0 [.ref 1, .int 1, .int 0, .retAddr 0, .retAddr 0] [] (q_K o g) = _ := fun d => c_howMany hr hk.1 ho d (a := 1) (by decide) 0
    refine ⟨q_fo (q_hmB S 1 0) 0 (N 5) 0, g, g, ?_, ?_, hR⟩
    · simp only [B_X11_count_0, B_X11_count_90, B_X11_count_101, B_X11_count_112, B_X11_count_123, B_X11_count_134, B_X11_count_145, B_X11_count_159, B_X11_count_181, B_X11_count_192, B_X11_count_203, B_X11_count_213, B_X11_count_223, B_X11_count_235, B_X11_count_247, B_X11_count_255, B_X11_count_261, z_within, z_isCell, z_fin1, z_fin2, z_fin3, z_fin4, z_fin5, Option.bind_some, Option.toList_some, Option.toList_none, List.cons_append, List.nil_append, bI_t, bI_f, i10, i00, i11, i01, ↓reduceIte, Bool.false_eq_true, (by decide : ¬ (11 : Int32) = 0), (by decide : ¬ (11 : Int32) = 1), (by decide : ¬ (11 : Int32) = 2), (by decide : ¬ (11 : Int32) = 3), (by decide : ¬ (11 : Int32) = 4), (by decide : ¬ (11 : Int32) = 5), (by decide : ¬ (11 : Int32) = 6), (by decide : ¬ (11 : Int32) = 7), (by decide : ¬ (11 : Int32) = 8), (by decide : ¬ (11 : Int32) = 9), (by decide : ¬ (11 : Int32) = 10), z1]
    · simp only [B_X12_count_0, B_X12_count_7, B_X12_count_77, B_X12_count_83, B_X12_count_89, B_X12_count_94, B_X12_count_101, y_in, y_isCell, y_fin1, y_fin2, y_fin3, y_fin4, y_fin5, Option.bind_some, Option.toList_some, Option.toList_none, List.cons_append, List.nil_append, bI_t, bI_f, i10, i00, i11, i01, ↓reduceIte, Bool.false_eq_true, (by decide : q_in 11 0 8 = false), (by decide : ¬ (11 : Int32) = 9), (by decide : ¬ (11 : Int32) = 10), m_raidsUp hm]
  · have z1 : ∀ d, q_sem (d + 3) mX10_howMany 0 [.ref 1, .int 4, .int 1, .retAddr 0, .retAddr 0] [] (q_K o g) = _ := fun d => c_howMany hr hk.1 ho d (a := 4) (by decide) 1
    refine ⟨q_fo (q_hmB S 4 1) 0 (N 5) 0, g, g, ?_, ?_, hR⟩
    · simp only [B_X11_count_0, B_X11_count_90, B_X11_count_101, B_X11_count_112, B_X11_count_123, B_X11_count_134, B_X11_count_145, B_X11_count_159, B_X11_count_181, B_X11_count_192, B_X11_count_203, B_X11_count_213, B_X11_count_223, B_X11_count_235, B_X11_count_247, B_X11_count_255, B_X11_count_261, z_within, z_isCell, z_fin1, z_fin2, z_fin3, z_fin4, z_fin5, Option.bind_some, Option.toList_some, Option.toList_none, List.cons_append, List.nil_append, bI_t, bI_f, i10, i00, i11, i01, ↓reduceIte, Bool.false_eq_true, (by decide : ¬ (12 : Int32) = 0), (by decide : ¬ (12 : Int32) = 1), (by decide : ¬ (12 : Int32) = 2), (by decide : ¬ (12 : Int32) = 3), (by decide : ¬ (12 : Int32) = 4), (by decide : ¬ (12 : Int32) = 5), (by decide : ¬ (12 : Int32) = 6), (by decide : ¬ (12 : Int32) = 7), (by decide : ¬ (12 : Int32) = 8), (by decide : ¬ (12 : Int32) = 9), (by decide : ¬ (12 : Int32) = 10), (by decide : ¬ (12 : Int32) = 11), z1]
    · simp only [B_X12_count_0, B_X12_count_7, B_X12_count_77, B_X12_count_83, B_X12_count_89, B_X12_count_94, B_X12_count_101, y_in, y_isCell, y_fin1, y_fin2, y_fin3, y_fin4, y_fin5, Option.bind_some, Option.toList_some, Option.toList_none, List.cons_append, List.nil_append, bI_t, bI_f, i10, i00, i11, i01, ↓reduceIte, Bool.false_eq_true, (by decide : q_in 12 0 8 = false), (by decide : ¬ (12 : Int32) = 9), (by decide : ¬ (12 : Int32) = 10), (by decide : ¬ (12 : Int32) = 11), m_inState hm hk.1 _ (Or.inr ⟨rfl, rfl⟩)]
  · have z1 : ∀ d, q_sem (d + 2) mX7_total 0 [.ref 10, .int 2, .retAddr 0, .retAddr 0] [] (q_K o g) = _ := fun d => z_total hr d (c := 2) (by decide)
    refine ⟨q_sum (S 12) (N 4), g, g, ?_, ?_, hR⟩
    · simp only [B_X11_count_0, B_X11_count_90, B_X11_count_101, B_X11_count_112, B_X11_count_123, B_X11_count_134, B_X11_count_145, B_X11_count_159, B_X11_count_181, B_X11_count_192, B_X11_count_203, B_X11_count_213, B_X11_count_223, B_X11_count_235, B_X11_count_247, B_X11_count_255, B_X11_count_261, z_within, z_isCell, z_fin1, z_fin2, z_fin3, z_fin4, z_fin5, Option.bind_some, Option.toList_some, Option.toList_none, List.cons_append, List.nil_append, bI_t, bI_f, i10, i00, i11, i01, ↓reduceIte, Bool.false_eq_true, (by decide : ¬ (13 : Int32) = 0), (by decide : ¬ (13 : Int32) = 1), (by decide : ¬ (13 : Int32) = 2), (by decide : ¬ (13 : Int32) = 3), (by decide : ¬ (13 : Int32) = 4), (by decide : ¬ (13 : Int32) = 5), (by decide : ¬ (13 : Int32) = 6), (by decide : ¬ (13 : Int32) = 7), (by decide : ¬ (13 : Int32) = 8), (by decide : ¬ (13 : Int32) = 9), (by decide : ¬ (13 : Int32) = 10), (by decide : ¬ (13 : Int32) = 11), (by decide : ¬ (13 : Int32) = 12), z1]
    · simp only [B_X12_count_0, B_X12_count_7, B_X12_count_77, B_X12_count_83, B_X12_count_89, B_X12_count_94, B_X12_count_101, y_in, y_isCell, y_fin1, y_fin2, y_fin3, y_fin4, y_fin5, Option.bind_some, Option.toList_some, Option.toList_none, List.cons_append, List.nil_append, bI_t, bI_f, i10, i00, i11, i01, ↓reduceIte, Bool.false_eq_true, (by decide : q_in 13 0 8 = false), (by decide : ¬ (13 : Int32) = 9), (by decide : ¬ (13 : Int32) = 10), (by decide : ¬ (13 : Int32) = 11), (by decide : ¬ (13 : Int32) = 12), m_allOf hm _ (Or.inl ⟨rfl, rfl⟩)]
  · have z1 : ∀ d, q_sem (d + 2) mX7_total 0 [.ref 10, .int 3, .retAddr 0, .retAddr 0] [] (q_K o g) = _ := fun d => z_total hr d (c := 3) (by decide)
    refine ⟨q_sum (S 13) (N 4), g, g, ?_, ?_, hR⟩
    · simp only [B_X11_count_0, B_X11_count_90, B_X11_count_101, B_X11_count_112, B_X11_count_123, B_X11_count_134, B_X11_count_145, B_X11_count_159, B_X11_count_181, B_X11_count_192, B_X11_count_203, B_X11_count_213, B_X11_count_223, B_X11_count_235, B_X11_count_247, B_X11_count_255, B_X11_count_261, z_within, z_isCell, z_fin1, z_fin2, z_fin3, z_fin4, z_fin5, Option.bind_some, Option.toList_some, Option.toList_none, List.cons_append, List.nil_append, bI_t, bI_f, i10, i00, i11, i01, ↓reduceIte, Bool.false_eq_true, (by decide : ¬ (14 : Int32) = 0), (by decide : ¬ (14 : Int32) = 1), (by decide : ¬ (14 : Int32) = 2), (by decide : ¬ (14 : Int32) = 3), (by decide : ¬ (14 : Int32) = 4), (by decide : ¬ (14 : Int32) = 5), (by decide : ¬ (14 : Int32) = 6), (by decide : ¬ (14 : Int32) = 7), (by decide : ¬ (14 : Int32) = 8), (by decide : ¬ (14 : Int32) = 9), (by decide : ¬ (14 : Int32) = 10), (by decide : ¬ (14 : Int32) = 11), (by decide : ¬ (14 : Int32) = 12), (by decide : ¬ (14 : Int32) = 13), z1]
    · simp only [B_X12_count_0, B_X12_count_7, B_X12_count_77, B_X12_count_83, B_X12_count_89, B_X12_count_94, B_X12_count_101, y_in, y_isCell, y_fin1, y_fin2, y_fin3, y_fin4, y_fin5, Option.bind_some, Option.toList_some, Option.toList_none, List.cons_append, List.nil_append, bI_t, bI_f, i10, i00, i11, i01, ↓reduceIte, Bool.false_eq_true, (by decide : q_in 14 0 8 = false), (by decide : ¬ (14 : Int32) = 9), (by decide : ¬ (14 : Int32) = 10), (by decide : ¬ (14 : Int32) = 11), (by decide : ¬ (14 : Int32) = 12), (by decide : ¬ (14 : Int32) = 13), m_allOf hm _ (Or.inr ⟨rfl, rfl⟩)]
  · refine ⟨q_fo (fun c a => a + (if q_se S N c = true then 1 else 0)) 0 256 0, g, g, ?_, ?_, hR⟩
    · simp only [B_X11_count_0, B_X11_count_90, B_X11_count_101, B_X11_count_112, B_X11_count_123, B_X11_count_134, B_X11_count_145, B_X11_count_159, B_X11_count_181, B_X11_count_192, B_X11_count_203, B_X11_count_213, B_X11_count_223, B_X11_count_235, B_X11_count_247, B_X11_count_255, B_X11_count_261, z_within, z_isCell, z_fin1, z_fin2, z_fin3, z_fin4, z_fin5, Option.bind_some, Option.toList_some, Option.toList_none, List.cons_append, List.nil_append, bI_t, bI_f, i10, i00, i11, i01, ↓reduceIte, Bool.false_eq_true, (by decide : ¬ (15 : Int32) = 0), (by decide : ¬ (15 : Int32) = 1), (by decide : ¬ (15 : Int32) = 2), (by decide : ¬ (15 : Int32) = 3), (by decide : ¬ (15 : Int32) = 4), (by decide : ¬ (15 : Int32) = 5), (by decide : ¬ (15 : Int32) = 6), (by decide : ¬ (15 : Int32) = 7), (by decide : ¬ (15 : Int32) = 8), (by decide : ¬ (15 : Int32) = 9), (by decide : ¬ (15 : Int32) = 10), (by decide : ¬ (15 : Int32) = 11), (by decide : ¬ (15 : Int32) = 12), (by decide : ¬ (15 : Int32) = 13), (by decide : ¬ (15 : Int32) = 14), c_cellsSeen hr hk.1]
    · simp only [B_X12_count_0, B_X12_count_7, B_X12_count_77, B_X12_count_83, B_X12_count_89, B_X12_count_94, B_X12_count_101, y_in, y_isCell, y_fin1, y_fin2, y_fin3, y_fin4, y_fin5, Option.bind_some, Option.toList_some, Option.toList_none, List.cons_append, List.nil_append, bI_t, bI_f, i10, i00, i11, i01, ↓reduceIte, Bool.false_eq_true, (by decide : q_in 15 0 8 = false), (by decide : ¬ (15 : Int32) = 9), (by decide : ¬ (15 : Int32) = 10), (by decide : ¬ (15 : Int32) = 11), (by decide : ¬ (15 : Int32) = 12), (by decide : ¬ (15 : Int32) = 13), (by decide : ¬ (15 : Int32) = 14), m_seenCells hm hk.1]
