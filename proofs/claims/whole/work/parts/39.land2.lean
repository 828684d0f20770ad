/-! the land, the rest; what is told, counted, found -/
section LLE
variable {o : q_H} {g S : Nat → Nat → Int32} {N : Nat → Nat}
theorem repC_set (hr : repC 1 g S N) {k : Nat} (hk : k = 9 ∨ k = 10) (v : Int32) : repC 1 (q_up g 1 k v) (q_up S 0 k v) N := by
  refine ⟨hr.1, ?_, ?_, ?_, ?_, ?_⟩
  · intro q hq
    have hs := q_tbs_sm q hq
    exact q_tr_fr (hr.2.1 q hq) (fun j => q_upN (by omega)) (fun j => q_upN (by omega)) (fun f i h1 h2 _ => q_upN (by omega))
  · intro r h1 i h2 h3
    rw [q_upN (by omega), q_upN (by decide)]
    rw [q_upN (by decide)] at h3
    exact hr.2.2.1 r h1 i h2 h3
  · rw [q_upJ (by omega), q_upJ (by omega)]; exact hr.2.2.2.1
  · rcases hk with rfl | rfl
    · rw [q_upE, q_upE]
    · rw [q_upJ (by omega), q_upJ (by omega)]; exact hr.2.2.2.2.1
  · rcases hk with rfl | rfl
    · rw [q_upJ (by omega), q_upJ (by omega)]; exact hr.2.2.2.2.2
    · rw [q_upE, q_upE]
theorem repM_set (hm : repM g S N) {k : Nat} (hk : k = 9 ∨ k = 10) (v : Int32) : repM (q_up g 100 k v) (q_up S 0 k v) N := by
  refine ⟨?_, ?_, ?_, ?_, ?_, ?_, ?_, fun i hi => by rw [q_upN (by decide)]; exact hm.2.2.2.2.2.2.2 i hi⟩
  · intro q hq
    have hs := q_mps_f q hq
    exact ⟨(hm.1 q hq).1, fun i hi => by rw [q_upN (by omega), q_upN (by omega)]; exact (hm.1 q hq).2 i hi⟩
  · intro i h1 h3
    rw [q_upN (by decide)] at h3
    rw [q_upN (by decide), q_upN (by decide)]
    exact hm.2.1 i h1 h3
  · intro r h1 i h3 h4
    rw [q_upN (by decide)] at h4
    rw [q_upN (by decide), q_upN (by decide), q_upN (by decide)]
    exact hm.2.2.1 r h1 i h3 h4
  · intro j hj
    have := q_nms_1 j hj
    rw [q_upJ (by omega)]
    exact hm.2.2.2.1 j hj
  · rw [q_upJ (by omega), q_upJ (by omega)]; exact hm.2.2.2.2.1
  · rcases hk with rfl | rfl
    · rw [q_upE, q_upE]
    · rw [q_upJ (by omega), q_upJ (by omega)]; exact hm.2.2.2.2.2.1
  · rcases hk with rfl | rfl
    · rw [q_upJ (by omega), q_upJ (by omega)]; exact hm.2.2.2.2.2.2.1
    · rw [q_upE, q_upE]
theorem ok_set (h : q_ok S N) {k : Nat} (hk : k = 9 ∨ k = 10) (v : Int32) : q_ok (q_up S 0 k v) N := by
  refine ⟨?_, rw_up h.2 0 k _ (by decide)⟩
  obtain ⟨a, b, c, d, e, f, m⟩ := h.1
  refine ⟨a, b, c, d, e, ?_, ?_⟩
  · intro i hi
    exact fw_gr (f i hi) (fun F _ _ => q_upN (by omega)) (Nat.le_refl _) (Nat.le_refl _) (fun j _ => q_upN (by decide))
  · rw [q_upJ (by omega)]; exact m
theorem z_nof (d : Nat) {i : Nat} (hi : i < 2 ^ 31) : q_sem (d + 1) mX11_numberOrFull 0 [.ref 0, .int (nI i)] [] (q_K o g) = some (some (.int (nI i)), q_K o g) := by
  rw [B_X11_numberOrFull_0, if_pos (nI_pos' hi)]
theorem z_nofF (d : Nat) : q_sem (d + 3) mX11_numberOrFull 0 [.ref 0, .int (-1)] [] (q_K o g) = some (some (.int (-1000004)), q_K o (q_fb g 4)) := by
  simp only [B_X11_numberOrFull_0, B_X11_numberOrFull_9, z_within, z_isCell, z_fin1, z_fin2, z_fin3, z_fin4, z_fin5, Option.bind_some, Option.toList_some, Option.toList_none, List.cons_append, List.nil_append, bI_t, bI_f, i10, i00, i11, i01, ↓reduceIte, Bool.false_eq_true, (by decide : ¬ (0 : Int32) ≤ -1)]
theorem q_in_f {v : Int32} {a b : Nat} (ha : a < 2 ^ 31) (hb : b < 2 ^ 31) (h : q_in v (nI a) (nI b) = false) {i : Nat} (h1 : a ≤ i) (h2 : i ≤ b) : v ≠ nI i := fun e => by
  subst e
  have : q_in (nI i) (nI a) (nI b) = true := decide_eq_true ⟨(nI_leI ha (by omega)).mpr h1, (nI_leI (by omega) hb).mpr h2⟩
  rw [h] at this
  cases this
end LLE
theorem law_post {o : q_H} {n : Nat} {g : Nat → Nat → Int32} (hR : q_R n g) (ho : q_oR o) (d : Nat) (x1 : Int32) (x2 : Int32) : ∃ v g1 g2, q_sem (d + 30) mX11_post 0 [.ref 0, .int x1, .int x2, .retAddr 0] [] (q_K o g) = some (some (.int v), q_K o g1) ∧ q_sem (d + 30) mX12_post 0 [.ref 98, .int x1, .int x2] [] (q_K o g1) = some (some (.int v), q_K o g2) ∧ q_R n g2 := by
  obtain ⟨⟨S, N, hr, hm, hk⟩, ha⟩ := id hR
  have hN := n_cnt_po hr
  cases c1 : q_in x1 0 255
  · exact ⟨-1000001, q_fb g 1, q_fm (q_fb g 1) 1, by simp only [B_X11_post_0, B_X11_post_4, B_X11_post_22, B_X11_post_14, B_X11_post_34, B_X11_post_58, B_X11_post_44, z_within, z_isCell, z_fin1, z_fin2, z_fin3, z_fin4, z_fin5, Option.bind_some, Option.toList_some, Option.toList_none, List.cons_append, List.nil_append, bI_t, bI_f, i10, i00, i11, i01, ↓reduceIte, Bool.false_eq_true, c1], (by have hm := repM_fb (k := 1) hm; simp only [B_X12_post_0, B_X12_post_4, B_X12_post_23, B_X12_post_14, B_X12_post_41, y_in, y_isCell, y_fin1, y_fin2, y_fin3, y_fin4, y_fin5, Option.bind_some, Option.toList_some, Option.toList_none, List.cons_append, List.nil_append, bI_t, bI_f, i10, i00, i11, i01, ↓reduceIte, Bool.false_eq_true, c1]), R_fin hR (by decide)⟩
  cases c2 : q_in x2 0 15
  · exact ⟨-1000001, q_fb g 1, q_fm (q_fb g 1) 1, by simp only [B_X11_post_0, B_X11_post_4, B_X11_post_22, B_X11_post_14, B_X11_post_34, B_X11_post_58, B_X11_post_44, z_within, z_isCell, z_fin1, z_fin2, z_fin3, z_fin4, z_fin5, Option.bind_some, Option.toList_some, Option.toList_none, List.cons_append, List.nil_append, bI_t, bI_f, i10, i00, i11, i01, ↓reduceIte, Bool.false_eq_true, c1, c2], (by have hm := repM_fb (k := 1) hm; simp only [B_X12_post_0, B_X12_post_4, B_X12_post_23, B_X12_post_14, B_X12_post_41, y_in, y_isCell, y_fin1, y_fin2, y_fin3, y_fin4, y_fin5, Option.bind_some, Option.toList_some, Option.toList_none, List.cons_append, List.nil_append, bI_t, bI_f, i10, i00, i11, i01, ↓reduceIte, Bool.false_eq_true, c1, c2]), R_fin hR (by decide)⟩
  obtain ⟨c, hc, rfl⟩ := q_inc_t c1
  by_cases c3 : N 1 = 8
  · exact ⟨-1000004, q_fb g 4, q_fm (q_fb g 4) 4, by simp only [B_X11_post_0, B_X11_post_4, B_X11_post_22, B_X11_post_14, B_X11_post_34, B_X11_post_58, B_X11_post_44, z_within, z_isCell, z_fin1, z_fin2, z_fin3, z_fin4, z_fin5, Option.bind_some, Option.toList_some, Option.toList_none, List.cons_append, List.nil_append, bI_t, bI_f, i10, i00, i11, i01, ↓reduceIte, Bool.false_eq_true, r_addF_po hr c3, (by decide : ¬ (0 : Int32) ≤ -1), c1, c2], (by have hm := repM_fb (k := 4) hm; simp only [B_X12_post_0, B_X12_post_4, B_X12_post_23, B_X12_post_14, B_X12_post_41, y_in, y_isCell, y_fin1, y_fin2, y_fin3, y_fin4, y_fin5, Option.bind_some, Option.toList_some, Option.toList_none, List.cons_append, List.nil_append, bI_t, bI_f, i10, i00, i11, i01, ↓reduceIte, Bool.false_eq_true, m_n1 hm, c3, (by decide : nI 8 = 8), c1, c2]), R_fin hR (by decide)⟩
  have c4 : N 1 < 8 := by omega
  have c5 : ¬ nI (N 1) = 8 := fun z => c3 ((nI_eq (by omega) (by decide)).mp z)
  have c6 : 0 ≤ nI (N 1) := nI_pos' (by omega)
  obtain ⟨g1, e1, hr1, hf1⟩ := r_add_po (o := o) hr c4 (d + 27) (nI c)
  obtain ⟨g2, e2, hr2, hf2⟩ := r_w_po1 (o := o) hr1 (i := N 1) (by rw [q_nu_eq]; omega) (d + 28) x2
  have hf := q_fr_tr hf1 hf2
  have hm2 := repM_fr1 hm hf
  have hS : ∀ f k, (k ≠ N 1 ∨ f < 4 ∨ 6 ≤ f) → q_up (q_an S 4 2 (N 1) (nI c)) 5 (N 1) x2 f k = S f k := fun f k z => by rw [q_up_ne (by omega), q_an_ne (by omega)]
  have v1 : q_up (q_an S 4 2 (N 1) (nI c)) 5 (N 1) x2 4 (N 1) = nI c := by rw [q_upN (by decide)]; simp [q_an]
  have v2 : q_up (q_an S 4 2 (N 1) (nI c)) 5 (N 1) x2 5 (N 1) = x2 := q_upE
  have hm3 : repM (q_up (q_up (q_up g2 104 (N 1) (nI c)) 105 (N 1) x2) 100 1 (nI (N 1 + 1))) (q_up (q_an S 4 2 (N 1) (nI c)) 5 (N 1) x2) (q_nu N 1 (N 1 + 1)) :=
    m_gr_po hm2 c4 hS (fun p k a b e => by rw [q_up_ne (by omega), q_up_ne (by omega), q_up_ne (by omega)]) q_upE (by rw [v1, q_upN (by decide), q_upN (by decide), q_upE]) (by rw [v2, q_upN (by decide), q_upE])
  refine ⟨nI (N 1), g2, _, ?_, ?_, R_st ha hr2 hf hm3 (fM_up (fM_up (fM_up fM_rf (by decide)) (by decide)) (by decide)) (ok_gr_po hk hS (by rw [v1]; exact q_ce_of hc))⟩
  · simp only [B_X11_post_0, B_X11_post_4, B_X11_post_22, B_X11_post_14, B_X11_post_34, B_X11_post_58, B_X11_post_44, z_within, z_isCell, z_fin1, z_fin2, z_fin3, z_fin4, z_fin5, Option.bind_some, Option.toList_some, Option.toList_none, List.cons_append, List.nil_append, bI_t, bI_f, i10, i00, i11, i01, ↓reduceIte, Bool.false_eq_true, c1, c2, e1, c6, e2]
  · simp only [B_X12_post_0, B_X12_post_4, B_X12_post_23, B_X12_post_14, B_X12_post_41, y_in, y_isCell, y_fin1, y_fin2, y_fin3, y_fin4, y_fin5, Option.bind_some, Option.toList_some, Option.toList_none, List.cons_append, List.nil_append, bI_t, bI_f, i10, i00, i11, i01, ↓reduceIte, Bool.false_eq_true, c1, c2, m_n1 hm2, c5, q_rgN c4 (by decide), q_upN (by decide : 100 ≠ 104), q_upN (by decide : 100 ≠ 105), nI_1, q_upE, nI_pred]
theorem law_set {o : q_H} {n : Nat} {g : Nat → Nat → Int32} (hR : q_R n g) (ho : q_oR o) (d : Nat) (x1 : Int32) (x2 : Int32) : ∃ v g1 g2, q_sem (d + 30) mX11_set 0 [.ref 0, .int x1, .int x2, .retAddr 0] [] (q_K o g) = some (some (.int v), q_K o g1) ∧ q_sem (d + 30) mX12_set 0 [.ref 98, .int x1, .int x2, .retAddr 0] [] (q_K o g1) = some (some (.int v), q_K o g2) ∧ q_R n g2 := by
  obtain ⟨⟨S, N, hr, hm, hk⟩, ha⟩ := id hR
  have hf9 : ∀ k v, (k = 9 ∨ k = 10) → q_fr 1 g (q_up g 1 k v) := fun k v _ p j hp => q_upN (by omega)
  have key : ∀ k v, (k = 9 ∨ k = 10) → q_R n (q_up (q_up g 1 k v) 100 k v) ∧ repM (q_up g 1 k v) S N ∧ q_up g 1 k v 100 k = S 0 k ∧ g 1 k = S 0 k := by
    intro k v h
    have hm1 := repM_fr1 hm (hf9 k v h)
    refine ⟨R_st ha (repC_set hr h v) (hf9 k v h) (repM_set hm1 h v) (fM_up fM_rf (by decide)) (ok_set hk h v), hm1, ?_, ?_⟩
    · rcases h with rfl | rfl
      · exact hm1.2.2.2.2.2.1
      · exact hm1.2.2.2.2.2.2.1
    · rcases h with rfl | rfl
      · exact hr.2.2.2.2.1
      · exact hr.2.2.2.2.2
  by_cases h0 : x1 = 0
  · subst h0
    have cm : q_in 0 0 1 = true := by decide
    cases c1 : q_in x2 0 9
    · exact ⟨-1000001, q_fb g 1, q_fm (q_fb g 1) 1, by simp only [B_X11_set_0, B_X11_set_11, B_X11_set_44, B_X11_set_70, z_within, z_isCell, z_fin1, z_fin2, z_fin3, z_fin4, z_fin5, Option.bind_some, Option.toList_some, Option.toList_none, List.cons_append, List.nil_append, bI_t, bI_f, i10, i00, i11, i01, ↓reduceIte, Bool.false_eq_true, c1, cm], (by have hm := repM_fb (k := 1) hm; simp only [B_X12_set_0, B_X12_set_6, B_X12_set_25, B_X12_set_16, y_in, y_isCell, y_fin1, y_fin2, y_fin3, y_fin4, y_fin5, Option.bind_some, Option.toList_some, Option.toList_none, List.cons_append, List.nil_append, bI_t, bI_f, i10, i00, i11, i01, ↓reduceIte, Bool.false_eq_true, c1, cm]), R_fin hR (by decide)⟩
    obtain ⟨hR1, hm1, e2, e1⟩ := key 9 x2 (Or.inl rfl)
    refine ⟨S 0 9, q_up g 1 9 x2, _, ?_, ?_, hR1⟩
    · simp only [B_X11_set_0, B_X11_set_11, B_X11_set_44, B_X11_set_70, z_within, z_isCell, z_fin1, z_fin2, z_fin3, z_fin4, z_fin5, Option.bind_some, Option.toList_some, Option.toList_none, List.cons_append, List.nil_append, bI_t, bI_f, i10, i00, i11, i01, ↓reduceIte, Bool.false_eq_true, c1, e1]
    · simp only [B_X12_set_0, B_X12_set_6, B_X12_set_25, B_X12_set_16, y_in, y_isCell, y_fin1, y_fin2, y_fin3, y_fin4, y_fin5, Option.bind_some, Option.toList_some, Option.toList_none, List.cons_append, List.nil_append, bI_t, bI_f, i10, i00, i11, i01, ↓reduceIte, Bool.false_eq_true, c1, cm, (by decide : (9 : Int32) + 0 = nI 9), q_rgN (show 9 < 12 by decide) (by decide), e2]
  by_cases h1 : x1 = 1
  · subst h1
    have cm : q_in 1 0 1 = true := by decide
    cases c1 : q_in x2 1 9
    · exact ⟨-1000001, q_fb g 1, q_fm (q_fb g 1) 1, by simp only [B_X11_set_0, B_X11_set_11, B_X11_set_44, B_X11_set_70, z_within, z_isCell, z_fin1, z_fin2, z_fin3, z_fin4, z_fin5, Option.bind_some, Option.toList_some, Option.toList_none, List.cons_append, List.nil_append, bI_t, bI_f, i10, i00, i11, i01, ↓reduceIte, Bool.false_eq_true, c1, cm], (by have hm := repM_fb (k := 1) hm; simp only [B_X12_set_0, B_X12_set_6, B_X12_set_25, B_X12_set_16, y_in, y_isCell, y_fin1, y_fin2, y_fin3, y_fin4, y_fin5, Option.bind_some, Option.toList_some, Option.toList_none, List.cons_append, List.nil_append, bI_t, bI_f, i10, i00, i11, i01, ↓reduceIte, Bool.false_eq_true, c1, cm]), R_fin hR (by decide)⟩
    obtain ⟨hR1, hm1, e2, e1⟩ := key 10 x2 (Or.inr rfl)
    refine ⟨S 0 10, q_up g 1 10 x2, _, ?_, ?_, hR1⟩
    · simp only [B_X11_set_0, B_X11_set_11, B_X11_set_44, B_X11_set_70, z_within, z_isCell, z_fin1, z_fin2, z_fin3, z_fin4, z_fin5, Option.bind_some, Option.toList_some, Option.toList_none, List.cons_append, List.nil_append, bI_t, bI_f, i10, i00, i11, i01, ↓reduceIte, Bool.false_eq_true, c1, e1]
    · simp only [B_X12_set_0, B_X12_set_6, B_X12_set_25, B_X12_set_16, y_in, y_isCell, y_fin1, y_fin2, y_fin3, y_fin4, y_fin5, Option.bind_some, Option.toList_some, Option.toList_none, List.cons_append, List.nil_append, bI_t, bI_f, i10, i00, i11, i01, ↓reduceIte, Bool.false_eq_true, c1, cm, (by decide : (9 : Int32) + 1 = nI 10), q_rgN (show 10 < 12 by decide) (by decide), e2]
  · have cm : q_in x1 0 1 = false := by
      cases c : q_in x1 0 1
      · rfl
      · obtain ⟨i, _, hi, rfl⟩ := q_in_t (a := 0) (b := 1) c (by decide) (by decide)
        rcases i with _ | _ | i
        · exact absurd rfl h0
        · exact absurd rfl h1
        · omega
    exact ⟨-1000001, q_fb g 1, q_fm (q_fb g 1) 1, by simp only [B_X11_set_0, B_X11_set_11, B_X11_set_44, B_X11_set_70, z_within, z_isCell, z_fin1, z_fin2, z_fin3, z_fin4, z_fin5, Option.bind_some, Option.toList_some, Option.toList_none, List.cons_append, List.nil_append, bI_t, bI_f, i10, i00, i11, i01, ↓reduceIte, Bool.false_eq_true, h0, h1, cm], (by have hm := repM_fb (k := 1) hm; simp only [B_X12_set_0, B_X12_set_6, B_X12_set_25, B_X12_set_16, y_in, y_isCell, y_fin1, y_fin2, y_fin3, y_fin4, y_fin5, Option.bind_some, Option.toList_some, Option.toList_none, List.cons_append, List.nil_append, bI_t, bI_f, i10, i00, i11, i01, ↓reduceIte, Bool.false_eq_true, h0, h1, cm]), R_fin hR (by decide)⟩
theorem law_field {o : q_H} {n : Nat} {g : Nat → Nat → Int32} (hR : q_R n g) (ho : q_oR o) (d : Nat) (x1 : Int32) : ∃ v g1 g2, q_sem (d + 30) mX11_field 0 [.ref 0, .int x1] [] (q_K o g) = some (some (.int v), q_K o g1) ∧ q_sem (d + 30) mX12_field 0 [.ref 98, .int x1] [] (q_K o g1) = some (some (.int v), q_K o g2) ∧ q_R n g2 := by
  obtain ⟨⟨S, N, hr, hm, hk⟩, ha⟩ := id hR
  have hN := n_cnt_fi hr
  cases c1 : q_in x1 0 255
  · exact ⟨-1000001, q_fb g 1, q_fm (q_fb g 1) 1, by simp only [B_X11_field_0, B_X11_field_4, B_X11_field_12, B_X11_field_25, B_X11_field_28, z_within, z_isCell, z_fin1, z_fin2, z_fin3, z_fin4, z_fin5, Option.bind_some, Option.toList_some, Option.toList_none, List.cons_append, List.nil_append, bI_t, bI_f, i10, i00, i11, i01, ↓reduceIte, Bool.false_eq_true, c1], (by have hm := repM_fb (k := 1) hm; simp only [B_X12_field_0, B_X12_field_4, B_X12_field_13, B_X12_field_30, y_in, y_isCell, y_fin1, y_fin2, y_fin3, y_fin4, y_fin5, Option.bind_some, Option.toList_some, Option.toList_none, List.cons_append, List.nil_append, bI_t, bI_f, i10, i00, i11, i01, ↓reduceIte, Bool.false_eq_true, c1]), R_fin hR (by decide)⟩
  obtain ⟨c, hc, rfl⟩ := q_inc_t c1
  by_cases c3 : N 3 = 5
  · exact ⟨-1000004, q_fb g 4, q_fm (q_fb g 4) 4, by simp only [B_X11_field_0, B_X11_field_4, B_X11_field_12, B_X11_field_25, B_X11_field_28, z_within, z_isCell, z_fin1, z_fin2, z_fin3, z_fin4, z_fin5, Option.bind_some, Option.toList_some, Option.toList_none, List.cons_append, List.nil_append, bI_t, bI_f, i10, i00, i11, i01, ↓reduceIte, Bool.false_eq_true, r_addF_fi hr c3, z_nofF, c1], (by have hm := repM_fb (k := 4) hm; simp only [B_X12_field_0, B_X12_field_4, B_X12_field_13, B_X12_field_30, y_in, y_isCell, y_fin1, y_fin2, y_fin3, y_fin4, y_fin5, Option.bind_some, Option.toList_some, Option.toList_none, List.cons_append, List.nil_append, bI_t, bI_f, i10, i00, i11, i01, ↓reduceIte, Bool.false_eq_true, m_n3 hm, c3, (by decide : nI 5 = 5), c1]), R_fin hR (by decide)⟩
  have c4 : N 3 < 5 := by omega
  have c5 : ¬ nI (N 3) = 5 := fun z => c3 ((nI_eq (by omega) (by decide)).mp z)
  obtain ⟨g1, e1, hr1, hf1⟩ := r_add_fi (o := o) hr c4 (d + 27) (nI c)
  have hm2 := repM_fr1 hm hf1
  have hS : ∀ f k, (k ≠ N 3 ∨ f < 9 ∨ 10 ≤ f) → q_an S 9 1 (N 3) (nI c) f k = S f k := fun f k z => q_an_ne (by omega)
  have v1 : q_an S 9 1 (N 3) (nI c) 9 (N 3) = nI c := by simp [q_an]
  have hm3 : repM (q_up (q_up g1 109 (N 3) (nI c)) 100 3 (nI (N 3 + 1))) (q_an S 9 1 (N 3) (nI c)) (q_nu N 3 (N 3 + 1)) :=
    m_gr_fi hm2 c4 hS (fun p k a b e => by rw [q_up_ne (by omega), q_up_ne (by omega)]) q_upE (by rw [v1, q_upN (by decide), q_upE])
  refine ⟨nI (N 3), g1, _, ?_, ?_, R_st ha hr1 hf1 hm3 (fM_up (fM_up fM_rf (by decide)) (by decide)) (ok_gr_fi hk hS (by rw [v1]; exact q_ce_of hc))⟩
  · simp only [B_X11_field_0, B_X11_field_4, B_X11_field_12, B_X11_field_25, B_X11_field_28, z_within, z_isCell, z_fin1, z_fin2, z_fin3, z_fin4, z_fin5, Option.bind_some, Option.toList_some, Option.toList_none, List.cons_append, List.nil_append, bI_t, bI_f, i10, i00, i11, i01, ↓reduceIte, Bool.false_eq_true, c1, e1, z_nof _ (show N 3 < 2 ^ 31 by omega)]
  · simp only [B_X12_field_0, B_X12_field_4, B_X12_field_13, B_X12_field_30, y_in, y_isCell, y_fin1, y_fin2, y_fin3, y_fin4, y_fin5, Option.bind_some, Option.toList_some, Option.toList_none, List.cons_append, List.nil_append, bI_t, bI_f, i10, i00, i11, i01, ↓reduceIte, Bool.false_eq_true, c1, m_n3 hm2, c5, q_rgN c4 (by decide), q_upN (by decide : 100 ≠ 109), nI_1, q_upE, nI_pred]
theorem law_town {o : q_H} {n : Nat} {g : Nat → Nat → Int32} (hR : q_R n g) (ho : q_oR o) (d : Nat) (x1 : Int32) : ∃ v g1 g2, q_sem (d + 30) mX11_town 0 [.ref 0, .int x1] [] (q_K o g) = some (some (.int v), q_K o g1) ∧ q_sem (d + 30) mX12_town 0 [.ref 98, .int x1, .retAddr 0] [] (q_K o g1) = some (some (.int v), q_K o g2) ∧ q_R n g2 := by
  obtain ⟨⟨S, N, hr, hm, hk⟩, ha⟩ := id hR
  have hN := n_cnt_to hr
  cases c1 : q_in x1 0 255
  · exact ⟨-1000001, q_fb g 1, q_fm (q_fb g 1) 1, by simp only [B_X11_town_0, B_X11_town_4, B_X11_town_12, B_X11_town_25, B_X11_town_28, z_within, z_isCell, z_fin1, z_fin2, z_fin3, z_fin4, z_fin5, Option.bind_some, Option.toList_some, Option.toList_none, List.cons_append, List.nil_append, bI_t, bI_f, i10, i00, i11, i01, ↓reduceIte, Bool.false_eq_true, c1], (by have hm := repM_fb (k := 1) hm; simp only [B_X12_town_0, B_X12_town_4, B_X12_town_13, B_X12_town_31, y_in, y_isCell, y_fin1, y_fin2, y_fin3, y_fin4, y_fin5, Option.bind_some, Option.toList_some, Option.toList_none, List.cons_append, List.nil_append, bI_t, bI_f, i10, i00, i11, i01, ↓reduceIte, Bool.false_eq_true, c1]), R_fin hR (by decide)⟩
  obtain ⟨c, hc, rfl⟩ := q_inc_t c1
  by_cases c3 : N 4 = 6
  · exact ⟨-1000004, q_fb g 4, q_fm (q_fb g 4) 4, by simp only [B_X11_town_0, B_X11_town_4, B_X11_town_12, B_X11_town_25, B_X11_town_28, z_within, z_isCell, z_fin1, z_fin2, z_fin3, z_fin4, z_fin5, Option.bind_some, Option.toList_some, Option.toList_none, List.cons_append, List.nil_append, bI_t, bI_f, i10, i00, i11, i01, ↓reduceIte, Bool.false_eq_true, r_addF_to hr c3, z_nofF, c1], (by have hm := repM_fb (k := 4) hm; simp only [B_X12_town_0, B_X12_town_4, B_X12_town_13, B_X12_town_31, y_in, y_isCell, y_fin1, y_fin2, y_fin3, y_fin4, y_fin5, Option.bind_some, Option.toList_some, Option.toList_none, List.cons_append, List.nil_append, bI_t, bI_f, i10, i00, i11, i01, ↓reduceIte, Bool.false_eq_true, m_n4 hm, c3, (by decide : nI 6 = 6), c1]), R_fin hR (by decide)⟩
  have c4 : N 4 < 6 := by omega
  have c5 : ¬ nI (N 4) = 6 := fun z => c3 ((nI_eq (by omega) (by decide)).mp z)
  obtain ⟨g1, e1, hr1, hf1⟩ := r_add_to (o := o) hr c4 (d + 27) (nI c)
  have hm2 := repM_fr1 hm hf1
  have hS : ∀ f k, (k ≠ N 4 ∨ f < 10 ∨ 14 ≤ f) → q_an S 10 4 (N 4) (nI c) f k = S f k := fun f k z => q_an_ne (by omega)
  have v1 : q_an S 10 4 (N 4) (nI c) 10 (N 4) = nI c := by simp [q_an]
  have v2 : q_an S 10 4 (N 4) (nI c) 11 (N 4) = 0 := by simp [q_an]
  have v3 : q_an S 10 4 (N 4) (nI c) 12 (N 4) = 0 := by simp [q_an]
  have v4 : q_an S 10 4 (N 4) (nI c) 13 (N 4) = 0 := by simp [q_an]
  have hm3 : repM (q_up (q_up (q_up (q_up (q_up g1 110 (N 4) (nI c)) 111 (N 4) 0) 112 (N 4) 0) 113 (N 4) 0) 100 4 (nI (N 4 + 1))) (q_an S 10 4 (N 4) (nI c)) (q_nu N 4 (N 4 + 1)) :=
    m_gr_to hm2 c4 hS (fun p k a b e => by rw [q_up_ne (by omega), q_up_ne (by omega), q_up_ne (by omega), q_up_ne (by omega), q_up_ne (by omega)]) q_upE (by rw [v1, q_upN (by decide), q_upN (by decide), q_upN (by decide), q_upN (by decide), q_upE]) (by rw [v2, q_upN (by decide), q_upN (by decide), q_upN (by decide), q_upE]) (by rw [v3, q_upN (by decide), q_upN (by decide), q_upE]) (by rw [v4, q_upN (by decide), q_upE])
  refine ⟨nI (N 4), g1, _, ?_, ?_, R_st ha hr1 hf1 hm3 (fM_up (fM_up (fM_up (fM_up (fM_up fM_rf (by decide)) (by decide)) (by decide)) (by decide)) (by decide)) (ok_gr_to hk hS (by rw [v1]; exact q_ce_of hc))⟩
  · simp only [B_X11_town_0, B_X11_town_4, B_X11_town_12, B_X11_town_25, B_X11_town_28, z_within, z_isCell, z_fin1, z_fin2, z_fin3, z_fin4, z_fin5, Option.bind_some, Option.toList_some, Option.toList_none, List.cons_append, List.nil_append, bI_t, bI_f, i10, i00, i11, i01, ↓reduceIte, Bool.false_eq_true, c1, e1, z_nof _ (show N 4 < 2 ^ 31 by omega)]
  · simp only [B_X12_town_0, B_X12_town_4, B_X12_town_13, B_X12_town_31, y_in, y_isCell, y_fin1, y_fin2, y_fin3, y_fin4, y_fin5, Option.bind_some, Option.toList_some, Option.toList_none, List.cons_append, List.nil_append, bI_t, bI_f, i10, i00, i11, i01, ↓reduceIte, Bool.false_eq_true, c1, m_n4 hm2, c5, q_rgN c4 (by decide), q_upN (by decide : 100 ≠ 110), q_upN (by decide : 100 ≠ 111), q_upN (by decide : 100 ≠ 112), q_upN (by decide : 100 ≠ 113), nI_1]
theorem law_tell {o : q_H} {n : Nat} {g : Nat → Nat → Int32} (hR : q_R n g) (ho : q_oR o) (d : Nat) (x1 : Int32) : ∃ v g1 g2, q_sem (d + 30) mX11_tell 0 [.ref 0, .int x1] [] (q_K o g) = some (some (.int v), q_K o g1) ∧ q_sem (d + 30) mX12_tell 0 [.ref 98, .int x1] [] (q_K o g1) = some (some (.int v), q_K o g2) ∧ q_R n g2 := by
  obtain ⟨⟨S, N, hr, hm, hk⟩, ha⟩ := id hR
  have hN := n_cnt_wa hr
  by_cases c3 : N 11 = 20
  · exact ⟨-1000004, q_fb g 4, q_fm (q_fb g 4) 4, by simp only [B_X11_tell_0, B_X11_tell_11, B_X11_tell_30, B_X11_tell_19, z_within, z_isCell, z_fin1, z_fin2, z_fin3, z_fin4, z_fin5, Option.bind_some, Option.toList_some, Option.toList_none, List.cons_append, List.nil_append, bI_t, bI_f, i10, i00, i11, i01, ↓reduceIte, Bool.false_eq_true, r_addF_wa hr c3, (by decide : ¬ (0 : Int32) ≤ -1)], (by have hm := repM_fb (k := 4) hm; simp only [B_X12_tell_0, B_X12_tell_18, y_in, y_isCell, y_fin1, y_fin2, y_fin3, y_fin4, y_fin5, Option.bind_some, Option.toList_some, Option.toList_none, List.cons_append, List.nil_append, bI_t, bI_f, i10, i00, i11, i01, ↓reduceIte, Bool.false_eq_true, m_n11 hm, c3, (by decide : nI 20 = 20)]), R_fin hR (by decide)⟩
  have c4 : N 11 < 20 := by omega
  have c5 : ¬ nI (N 11) = 20 := fun z => c3 ((nI_eq (by omega) (by decide)).mp z)
  have c6 : 0 ≤ nI (N 11) := nI_pos' (by omega)
  obtain ⟨g1, e1, hr1, hf1⟩ := r_add_wa (o := o) hr c4 (d + 27) x1
  have hm2 := repM_fr1 hm hf1
  have hS : ∀ f k, (k ≠ N 11 ∨ f < 32 ∨ 33 ≤ f) → q_an S 32 1 (N 11) x1 f k = S f k := fun f k z => q_an_ne (by omega)
  have v1 : q_an S 32 1 (N 11) x1 32 (N 11) = x1 := by simp [q_an]
  have hm3 : repM (q_up (q_up g1 132 (N 11) x1) 100 11 (nI (N 11 + 1))) (q_an S 32 1 (N 11) x1) (q_nu N 11 (N 11 + 1)) :=
    m_gr_wa hm2 c4 hS (fun p k a b e => by rw [q_up_ne (by omega), q_up_ne (by omega)]) q_upE (by rw [v1, q_upN (by decide), q_upE])
  refine ⟨nI (N 11 + 1), g1, _, ?_, ?_, R_st ha hr1 hf1 hm3 (fM_up (fM_up fM_rf (by decide)) (by decide)) (ok_gr_wa hk hS)⟩
  · simp only [B_X11_tell_0, B_X11_tell_11, B_X11_tell_30, B_X11_tell_19, z_within, z_isCell, z_fin1, z_fin2, z_fin3, z_fin4, z_fin5, Option.bind_some, Option.toList_some, Option.toList_none, List.cons_append, List.nil_append, bI_t, bI_f, i10, i00, i11, i01, ↓reduceIte, Bool.false_eq_true, e1, c6, r_size_wa hr1, q_nu_eq]
  · simp only [B_X12_tell_0, B_X12_tell_18, y_in, y_isCell, y_fin1, y_fin2, y_fin3, y_fin4, y_fin5, Option.bind_some, Option.toList_some, Option.toList_none, List.cons_append, List.nil_append, bI_t, bI_f, i10, i00, i11, i01, ↓reduceIte, Bool.false_eq_true, m_n11 hm2, c5, q_rgN c4 (by decide), q_upN (by decide : 100 ≠ 132), nI_1, q_upE]
theorem law_found {o : q_H} {n : Nat} {g : Nat → Nat → Int32} (hR : q_R n g) (ho : q_oR o) (d : Nat) (x1 : Int32) : ∃ v g1 g2, q_sem (d + 30) mX11_found 0 [.ref 0, .int x1] [] (q_K o g) = some (some (.int v), q_K o g1) ∧ q_sem (d + 30) mX12_found 0 [.ref 98, .int x1] [] (q_K o g1) = some (some (.int v), q_K o g2) ∧ q_R n g2 := by
  obtain ⟨⟨S, N, hr, hm, hk⟩, ha⟩ := id hR
  cases c1 : q_in x1 1 5
  · exact ⟨-1000001, q_fb g 1, q_fm (q_fb g 1) 1, by simp only [B_X11_found_0, B_X11_found_6, B_X11_found_23, z_within, z_isCell, z_fin1, z_fin2, z_fin3, z_fin4, z_fin5, Option.bind_some, Option.toList_some, Option.toList_none, List.cons_append, List.nil_append, bI_t, bI_f, i10, i00, i11, i01, ↓reduceIte, Bool.false_eq_true, c1], (by have hm := repM_fb (k := 1) hm; simp only [B_X12_found_0, B_X12_found_6, B_X12_found_24, y_in, y_isCell, y_fin1, y_fin2, y_fin3, y_fin4, y_fin5, Option.bind_some, Option.toList_some, Option.toList_none, List.cons_append, List.nil_append, bI_t, bI_f, i10, i00, i11, i01, ↓reduceIte, Bool.false_eq_true, c1]), R_fin hR (by decide)⟩
  obtain ⟨k, _, hk6, rfl⟩ := q_in_t (a := 1) (b := 5) c1 (by decide) (by decide)
  refine ⟨g 97 k, g, g, ?_, ?_, hR⟩
  · simp only [B_X11_found_0, B_X11_found_6, B_X11_found_23, z_within, z_isCell, z_fin1, z_fin2, z_fin3, z_fin4, z_fin5, Option.bind_some, Option.toList_some, Option.toList_none, List.cons_append, List.nil_append, bI_t, bI_f, i10, i00, i11, i01, ↓reduceIte, Bool.false_eq_true, c1, q_rgN (show k < 6 by omega) (by decide)]
  · simp only [B_X12_found_0, B_X12_found_6, B_X12_found_24, y_in, y_isCell, y_fin1, y_fin2, y_fin3, y_fin4, y_fin5, Option.bind_some, Option.toList_some, Option.toList_none, List.cons_append, List.nil_append, bI_t, bI_f, i10, i00, i11, i01, ↓reduceIte, Bool.false_eq_true, c1, q_rgN (show k < 6 by omega) (by decide), ha.1 k (by omega)]
theorem law_trace {o : q_H} {n : Nat} {g : Nat → Nat → Int32} (hR : q_R n g) (ho : q_oR o) (d : Nat) (x1 : Int32) : ∃ v g1 g2, q_sem (d + 30) mX11_trace 0 [.ref 0, .int x1] [] (q_K o g) = some (some (.int v), q_K o g1) ∧ q_sem (d + 30) mX12_trace 0 [.ref 98, .int x1] [] (q_K o g1) = some (some (.int v), q_K o g2) ∧ q_R n g2 := by
  obtain ⟨⟨S, N, hr, hm, hk⟩, ha⟩ := id hR
  obtain ⟨R, ht, eb, hbb⟩ := ha.2.2.1
  have hR40 := ht.2.2.2
  have htb : q_tb 95 40 1 := ⟨⟨by decide, rfl⟩, rfl, rfl, rfl, rfl, ⟨by decide, rfl, rfl⟩, by decide, by decide, by decide⟩
  have eh : q_in x1 0 (nI R - 1) = q_hs x1 R := by rw [← q_hs_wi x1 (show R < 2 ^ 31 by omega)]; rfl
  have zh : ∀ d, q_sem (d + 1) mX7_has 0 [.ref 95, .int x1] [] (q_K o g) = some (some (.int (bI (q_hs x1 R))), q_K o g) := fun d => by rw [s_has d htb, ht.2.2.1, bI_d]; rfl
  cases c1 : q_hs x1 R
  · refine ⟨-1000002, q_fb g 2, q_fm (q_fb g 2) 2, ?_, ?_, R_fin hR (by decide)⟩
    · simp only [B_X11_trace_0, B_X11_trace_11, B_X11_trace_34, B_X11_trace_26, z_within, z_isCell, z_fin1, z_fin2, z_fin3, z_fin4, z_fin5, Option.bind_some, Option.toList_some, Option.toList_none, List.cons_append, List.nil_append, bI_t, bI_f, i10, i00, i11, i01, ↓reduceIte, Bool.false_eq_true, zh, c1]
    · have eb2 : q_fb g 2 98 68 = nI R := (q_upN (by decide)).trans eb
      simp only [B_X12_trace_0, B_X12_trace_11, B_X12_trace_29, y_in, y_isCell, y_fin1, y_fin2, y_fin3, y_fin4, y_fin5, Option.bind_some, Option.toList_some, Option.toList_none, List.cons_append, List.nil_append, bI_t, bI_f, i10, i00, i11, i01, ↓reduceIte, Bool.false_eq_true, eb2, eh, c1]
  obtain ⟨i, hi, rfl⟩ := q_hs_t c1 (by omega)
  refine ⟨g 149 i, g, g, ?_, ?_, hR⟩
  · have eg : q_gt g 95 1 R (nI i) (nI 0) = g 149 i := by
      rw [q_gt_in hi (by decide) (by omega) (by decide), Nat.mul_one, Nat.add_zero]
      exact hbb i hi
    have e2 := s_get (o := o) (g := g) (d + 28) htb ht (nI i) (nI 0)
    rw [eg] at e2
    simp only [B_X11_trace_0, B_X11_trace_11, B_X11_trace_34, B_X11_trace_26, z_within, z_isCell, z_fin1, z_fin2, z_fin3, z_fin4, z_fin5, Option.bind_some, Option.toList_some, Option.toList_none, List.cons_append, List.nil_append, bI_t, bI_f, i10, i00, i11, i01, ↓reduceIte, Bool.false_eq_true, zh, c1]
    rw [show (0 : Int32) = nI 0 from rfl, e2]
    simp only [B_X11_trace_0, B_X11_trace_11, B_X11_trace_34, B_X11_trace_26, z_within, z_isCell, z_fin1, z_fin2, z_fin3, z_fin4, z_fin5, Option.bind_some, Option.toList_some, Option.toList_none, List.cons_append, List.nil_append, bI_t, bI_f, i10, i00, i11, i01, ↓reduceIte, Bool.false_eq_true]
  · simp only [B_X12_trace_0, B_X12_trace_11, B_X12_trace_29, y_in, y_isCell, y_fin1, y_fin2, y_fin3, y_fin4, y_fin5, Option.bind_some, Option.toList_some, Option.toList_none, List.cons_append, List.nil_append, bI_t, bI_f, i10, i00, i11, i01, ↓reduceIte, Bool.false_eq_true, eb, eh, c1, q_rgN (show i < 40 by omega) (by decide)]
