/-! flyers -/
section FLY
variable {o : q_H} {g S : Nat → Nat → Int32} {N : Nat → Nat}
theorem z_isTold (d : Nat) (c m : Int32) : q_sem (d + 2) mX11_isTold 0 [.int c, .int m] [] (q_K o g) = some (some (.int (bI (q_in c 0 255 && q_in m 1 9))), q_K o g) := by
  simp only [B_X11_isTold_0, B_X11_isTold_4, B_X11_isTold_14, z_within, z_isCell, z_fin1, z_fin2, z_fin3, z_fin4, z_fin5, Option.bind_some, Option.toList_some, Option.toList_none, List.cons_append, List.nil_append, bI_t, bI_f, i10, i00, i11, i01, ↓reduceIte, Bool.false_eq_true]
  cases q_in c 0 255 <;> cases q_in m 1 9 <;> simp [bI]
/-- a new flyer as the class makes it -/
def q_nf (S : Nat → Nat → Int32) (i : Nat) (k c n : Int32) : Nat → Nat → Int32 := q_up (q_up (q_up (q_up (q_up (q_up (q_an S 14 12 i k) 15 i c) 19 i n) 20 i 0) 21 i (-1)) 22 i (-1)) 23 i (-1)
theorem q_nf_ne {i : Nat} {k c n : Int32} {f j : Nat} (h : j ≠ i ∨ f < 14 ∨ 26 ≤ f) : q_nf S i k c n f j = S f j := by
  unfold q_nf
  rw [q_up_ne (by omega), q_up_ne (by omega), q_up_ne (by omega), q_up_ne (by omega), q_up_ne (by omega), q_up_ne (by omega), q_an_ne (by omega)]
theorem z_addFlyer (hr : repC 1 g S N) (hN : N 5 < 16) (d : Nat) (k c n : Int32) : ∃ g2, q_sem (d + 3) mX10_addFlyer 0 [.ref 1, .int k, .int c, .int n, .retAddr 0] [] (q_K o g) = some (some (.int (nI (N 5))), q_K o g2) ∧ repC 1 g2 (q_nf S (N 5) k c n) (q_nu N 5 (N 5 + 1)) ∧ q_fr 1 g g2 := by
  have hw := hr.1
  have hi : N 5 < q_nu N 5 (N 5 + 1) 5 := by rw [q_nu_eq]; omega
  obtain ⟨g0, e0, hr0, hf0⟩ := r_add_fl (o := o) hr hN d k
  obtain ⟨g1, e1, hr1, hf1⟩ := r_w_fl1 (o := o) hr0 hi (d + 1) c
  obtain ⟨g2, e2, hr2, hf2⟩ := r_w_fl5 (o := o) hr1 hi (d + 1) n
  obtain ⟨g3, e3, hr3, hf3⟩ := r_w_fl6 (o := o) hr2 hi (d + 1) 0
  obtain ⟨g4, e4, hr4, hf4⟩ := r_w_fl7 (o := o) hr3 hi (d + 1) (-1)
  obtain ⟨g5, e5, hr5, hf5⟩ := r_w_fl8 (o := o) hr4 hi (d + 1) (-1)
  obtain ⟨g6, e6, hr6, hf6⟩ := r_w_fl9 (o := o) hr5 hi (d + 1) (-1)
  refine ⟨g6, ?_, hr6, q_fr_tr (q_fr_tr (q_fr_tr (q_fr_tr (q_fr_tr (q_fr_tr hf0 hf1) hf2) hf3) hf4) hf5) hf6⟩
  simp only [B_X10_addFlyer_0 hw, B_X10_addFlyer_8 hw, B_X10_addFlyer_21 hw, B_X10_addFlyer_32 hw, B_X10_addFlyer_44 hw, B_X10_addFlyer_56 hw, B_X10_addFlyer_68 hw, B_X10_addFlyer_80 hw, Option.bind_some, Option.toList_some, Option.toList_none, List.cons_append, List.nil_append, show 1 + 11 = 12 from rfl, e0, e1, e2, e3, e4, e5, e6]
theorem z_addFlyerF (hr : repC 1 g S N) (hN : N 5 = 16) (d : Nat) (k c n : Int32) : q_sem (d + 3) mX10_addFlyer 0 [.ref 1, .int k, .int c, .int n, .retAddr 0] [] (q_K o g) = some (some (.int (-1)), q_K o g) := by
  have hw := hr.1
  have ew : ∀ (c : Nat), c < 12 → ∀ v d, q_sem (d + 1) mX7_write 0 [.ref 12, .int (-1), .int (nI c), .int v] [] (q_K o g) = some (none, q_K o g) := by
    intro c hc v d
    have ht := W_tb hw (11, 16, 12, 12, 5, 14) (by decide)
    have hi := (hr.2.1 (11, 16, 12, 12, 5, 14) (by decide)).1
    have h := s_write (o := o) d ht hi (-1) (nI c) v
    have e : q_pt g (1 + 11) 12 (N 5) (-1) (nI c) v = g := by unfold q_pt; rw [if_neg (fun z => absurd z.1 (by decide))]
    rw [show q_pt g (1 + (11, 16, 12, 12, 5, 14).1) _ _ (-1) (nI c) v = g from e] at h
    exact h
  have e1 := ew 1 (by decide) c
  have e2 := ew 5 (by decide) n
  have e3 := ew 6 (by decide) 0
  have e4 := ew 7 (by decide) (-1)
  have e5 := ew 8 (by decide) (-1)
  have e6 := ew 9 (by decide) (-1)
  rw [show nI 1 = (1 : Int32) from rfl] at e1
  rw [show nI 5 = (5 : Int32) from rfl] at e2
  rw [show nI 6 = (6 : Int32) from rfl] at e3
  rw [show nI 7 = (7 : Int32) from rfl] at e4
  rw [show nI 8 = (8 : Int32) from rfl] at e5
  rw [show nI 9 = (9 : Int32) from rfl] at e6
  simp only [B_X10_addFlyer_0 hw, B_X10_addFlyer_8 hw, B_X10_addFlyer_21 hw, B_X10_addFlyer_32 hw, B_X10_addFlyer_44 hw, B_X10_addFlyer_56 hw, B_X10_addFlyer_68 hw, B_X10_addFlyer_80 hw, Option.bind_some, Option.toList_some, Option.toList_none, List.cons_append, List.nil_append, show 1 + 11 = 12 from rfl, r_addF_fl hr hN, e1, e2, e3, e4, e5, e6]
/-- a new flyer as the Model makes it -/
def q_nfM (g : Nat → Nat → Int32) (i : Nat) (k c n : Int32) : Nat → Nat → Int32 := q_up (q_up (q_up (q_up (q_up (q_up (q_up (q_up (q_up (q_up (q_up (q_up (q_up g 114 i k) 115 i c) 116 i 0) 117 i 0) 118 i 0) 119 i n) 120 i 0) 121 i (-1)) 122 i (-1)) 123 i (-1)) 124 i (-1)) 125 i 0) 100 5 (nI (i + 1))
theorem m_comes (hm : repM g S N) (hN : N 5 < 16) (d : Nat) (k c n : Int32) : q_sem d mX12_comes 0 [.ref 98, .int k, .int c, .int n, .retAddr 0] [] (q_K o g) = some (some (.int (nI (N 5))), q_K o (q_nfM g (N 5) k c n)) := by
  have h0 : ∀ {f i : Nat} {v : Int32} {h : Nat → Nat → Int32}, 100 ≠ f → q_up h f i v 100 5 = h 100 5 := fun hf => q_upN hf
  rw [B_X12_comes_0]
  simp only [m_n5 hm, q_rgN hN (show 16 < 2 ^ 31 by decide), h0 (show 100 ≠ 114 by decide), h0 (show 100 ≠ 115 by decide), h0 (show 100 ≠ 116 by decide), h0 (show 100 ≠ 117 by decide), h0 (show 100 ≠ 118 by decide), h0 (show 100 ≠ 119 by decide), h0 (show 100 ≠ 120 by decide), h0 (show 100 ≠ 121 by decide), h0 (show 100 ≠ 122 by decide), h0 (show 100 ≠ 123 by decide), h0 (show 100 ≠ 124 by decide), h0 (show 100 ≠ 125 by decide), nI_1, q_nfM]
theorem fM_nf {g2 : Nat → Nat → Int32} (h : q_fM g g2) {i : Nat} {k c n : Int32} : q_fM g (q_nfM g2 i k c n) := by
  unfold q_nfM
  exact fM_up (fM_up (fM_up (fM_up (fM_up (fM_up (fM_up (fM_up (fM_up (fM_up (fM_up (fM_up (fM_up h (by decide)) (by decide)) (by decide)) (by decide)) (by decide)) (by decide)) (by decide)) (by decide)) (by decide)) (by decide)) (by decide)) (by decide)) (by decide)
end FLY
theorem law_flyer {o : q_H} {n : Nat} {g : Nat → Nat → Int32} (hR : q_R n g) (ho : q_oR o) (d : Nat) (x1 : Int32) (x2 : Int32) (x3 : Int32) (x4 : Int32) : ∃ v g1 g2, q_sem (d + 30) mX11_flyer 0 [.ref 0, .int x1, .int x2, .int x3, .int x4, .retAddr 0] [] (q_K o g) = some (some (.int v), q_K o g1) ∧ q_sem (d + 30) mX12_flyer 0 [.ref 98, .int x1, .int x2, .int x3, .int x4, .retAddr 0] [] (q_K o g1) = some (some (.int v), q_K o g2) ∧ q_R n g2 := by
  obtain ⟨⟨S, N, hr, hm, hk⟩, ha⟩ := id hR
  have hN := n_cnt_fl hr
  cases c1 : q_in x1 0 3
  · exact ⟨-1000001, q_fb g 1, q_fm (q_fb g 1) 1, by simp only [B_X11_flyer_0, B_X11_flyer_6, B_X11_flyer_46, B_X11_flyer_15, B_X11_flyer_26, B_X11_flyer_58, B_X11_flyer_89, B_X11_flyer_70, B_X11_flyer_109, B_X11_flyer_126, z_within, z_isCell, z_fin1, z_fin2, z_fin3, z_fin4, z_fin5, Option.bind_some, Option.toList_some, Option.toList_none, List.cons_append, List.nil_append, bI_t, bI_f, i10, i00, i11, i01, ↓reduceIte, Bool.false_eq_true, c1], (by have hm := repM_fb (k := 1) hm; simp only [B_X12_flyer_0, B_X12_flyer_6, B_X12_flyer_56, B_X12_flyer_13, B_X12_flyer_24, B_X12_flyer_47, B_X12_flyer_74, B_X12_flyer_83, y_in, y_isCell, y_fin1, y_fin2, y_fin3, y_fin4, y_fin5, Option.bind_some, Option.toList_some, Option.toList_none, List.cons_append, List.nil_append, bI_t, bI_f, i10, i00, i11, i01, ↓reduceIte, Bool.false_eq_true, c1]), R_fin hR (by decide)⟩
  cases c2 : q_in x2 0 255
  · exact ⟨-1000001, q_fb g 1, q_fm (q_fb g 1) 1, by simp only [B_X11_flyer_0, B_X11_flyer_6, B_X11_flyer_46, B_X11_flyer_15, B_X11_flyer_26, B_X11_flyer_58, B_X11_flyer_89, B_X11_flyer_70, B_X11_flyer_109, B_X11_flyer_126, z_within, z_isCell, z_fin1, z_fin2, z_fin3, z_fin4, z_fin5, Option.bind_some, Option.toList_some, Option.toList_none, List.cons_append, List.nil_append, bI_t, bI_f, i10, i00, i11, i01, ↓reduceIte, Bool.false_eq_true, z_isTold, Bool.false_and, c1, c2], (by have hm := repM_fb (k := 1) hm; simp only [B_X12_flyer_0, B_X12_flyer_6, B_X12_flyer_56, B_X12_flyer_13, B_X12_flyer_24, B_X12_flyer_47, B_X12_flyer_74, B_X12_flyer_83, y_in, y_isCell, y_fin1, y_fin2, y_fin3, y_fin4, y_fin5, Option.bind_some, Option.toList_some, Option.toList_none, List.cons_append, List.nil_append, bI_t, bI_f, i10, i00, i11, i01, ↓reduceIte, Bool.false_eq_true, c1, c2]), R_fin hR (by decide)⟩
  cases c3 : q_in x3 0 3999
  · cases c4 : q_in x4 1 9
    · exact ⟨-1000001, q_fb g 1, q_fm (q_fb g 1) 1, by simp only [B_X11_flyer_0, B_X11_flyer_6, B_X11_flyer_46, B_X11_flyer_15, B_X11_flyer_26, B_X11_flyer_58, B_X11_flyer_89, B_X11_flyer_70, B_X11_flyer_109, B_X11_flyer_126, z_within, z_isCell, z_fin1, z_fin2, z_fin3, z_fin4, z_fin5, Option.bind_some, Option.toList_some, Option.toList_none, List.cons_append, List.nil_append, bI_t, bI_f, i10, i00, i11, i01, ↓reduceIte, Bool.false_eq_true, z_isTold, Bool.and_false, Bool.true_and, c1, c2, c3, c4], (by have hm := repM_fb (k := 1) hm; simp only [B_X12_flyer_0, B_X12_flyer_6, B_X12_flyer_56, B_X12_flyer_13, B_X12_flyer_24, B_X12_flyer_47, B_X12_flyer_74, B_X12_flyer_83, y_in, y_isCell, y_fin1, y_fin2, y_fin3, y_fin4, y_fin5, Option.bind_some, Option.toList_some, Option.toList_none, List.cons_append, List.nil_append, bI_t, bI_f, i10, i00, i11, i01, ↓reduceIte, Bool.false_eq_true, c1, c2, c3, c4]), R_fin hR (by decide)⟩
    · exact ⟨-1000001, q_fb g 1, q_fm (q_fb g 1) 1, by simp only [B_X11_flyer_0, B_X11_flyer_6, B_X11_flyer_46, B_X11_flyer_15, B_X11_flyer_26, B_X11_flyer_58, B_X11_flyer_89, B_X11_flyer_70, B_X11_flyer_109, B_X11_flyer_126, z_within, z_isCell, z_fin1, z_fin2, z_fin3, z_fin4, z_fin5, Option.bind_some, Option.toList_some, Option.toList_none, List.cons_append, List.nil_append, bI_t, bI_f, i10, i00, i11, i01, ↓reduceIte, Bool.false_eq_true, z_isTold, Bool.and_self, c1, c2, c3, c4], (by have hm := repM_fb (k := 1) hm; simp only [B_X12_flyer_0, B_X12_flyer_6, B_X12_flyer_56, B_X12_flyer_13, B_X12_flyer_24, B_X12_flyer_47, B_X12_flyer_74, B_X12_flyer_83, y_in, y_isCell, y_fin1, y_fin2, y_fin3, y_fin4, y_fin5, Option.bind_some, Option.toList_some, Option.toList_none, List.cons_append, List.nil_append, bI_t, bI_f, i10, i00, i11, i01, ↓reduceIte, Bool.false_eq_true, c1, c2, c3, c4]), R_fin hR (by decide)⟩
  obtain ⟨T, _, hT, rfl⟩ := q_in_t (a := 0) (b := 3999) c3 (by decide) (by decide)
  have t1 : nI T / 100 = nI (T / 100) := pk_div (d := 100) (by omega) (by decide) (by decide)
  have t2 : nI (T / 100) - nI (T / 100) / 10 * 10 = nI (T / 100 % 10) := pk_rem (d := 10) (by omega) (by decide) (by decide)
  have t3 : nI T - nI (T / 100) * 100 = nI (T % 100) := by rw [← t1]; exact pk_rem (d := 100) (by omega) (by decide) (by decide)
  have t4 : nI T / 1000 = nI (T / 1000) := pk_div (d := 1000) (by omega) (by decide) (by decide)
  by_cases c5 : T / 100 % 10 ≤ 7
  rotate_left
  · have c6 : ¬ nI (T / 100 % 10) ≤ 7 := (by decide : (7 : Int32) = nI 7) ▸ nI_ge (by omega) (by omega)
    have c7 : 7 < nI (T / 100 % 10) := (by decide : (7 : Int32) = nI 7) ▸ nI_lt (by omega) (by omega)
    cases c4 : q_in x4 1 9
    · exact ⟨-1000001, q_fb g 1, q_fm (q_fb g 1) 1, by simp only [B_X11_flyer_0, B_X11_flyer_6, B_X11_flyer_46, B_X11_flyer_15, B_X11_flyer_26, B_X11_flyer_58, B_X11_flyer_89, B_X11_flyer_70, B_X11_flyer_109, B_X11_flyer_126, z_within, z_isCell, z_fin1, z_fin2, z_fin3, z_fin4, z_fin5, Option.bind_some, Option.toList_some, Option.toList_none, List.cons_append, List.nil_append, bI_t, bI_f, i10, i00, i11, i01, ↓reduceIte, Bool.false_eq_true, z_isTold, Bool.and_false, Bool.true_and, t1, t2, c1, c2, c3, c4, c6, c7], (by have hm := repM_fb (k := 1) hm; simp only [B_X12_flyer_0, B_X12_flyer_6, B_X12_flyer_56, B_X12_flyer_13, B_X12_flyer_24, B_X12_flyer_47, B_X12_flyer_74, B_X12_flyer_83, y_in, y_isCell, y_fin1, y_fin2, y_fin3, y_fin4, y_fin5, Option.bind_some, Option.toList_some, Option.toList_none, List.cons_append, List.nil_append, bI_t, bI_f, i10, i00, i11, i01, ↓reduceIte, Bool.false_eq_true, t1, t2, c1, c2, c3, c4, c6, c7]), R_fin hR (by decide)⟩
    · exact ⟨-1000001, q_fb g 1, q_fm (q_fb g 1) 1, by simp only [B_X11_flyer_0, B_X11_flyer_6, B_X11_flyer_46, B_X11_flyer_15, B_X11_flyer_26, B_X11_flyer_58, B_X11_flyer_89, B_X11_flyer_70, B_X11_flyer_109, B_X11_flyer_126, z_within, z_isCell, z_fin1, z_fin2, z_fin3, z_fin4, z_fin5, Option.bind_some, Option.toList_some, Option.toList_none, List.cons_append, List.nil_append, bI_t, bI_f, i10, i00, i11, i01, ↓reduceIte, Bool.false_eq_true, z_isTold, Bool.and_self, t1, t2, c1, c2, c3, c4, c6, c7], (by have hm := repM_fb (k := 1) hm; simp only [B_X12_flyer_0, B_X12_flyer_6, B_X12_flyer_56, B_X12_flyer_13, B_X12_flyer_24, B_X12_flyer_47, B_X12_flyer_74, B_X12_flyer_83, y_in, y_isCell, y_fin1, y_fin2, y_fin3, y_fin4, y_fin5, Option.bind_some, Option.toList_some, Option.toList_none, List.cons_append, List.nil_append, bI_t, bI_f, i10, i00, i11, i01, ↓reduceIte, Bool.false_eq_true, t1, t2, c1, c2, c3, c4, c6, c7]), R_fin hR (by decide)⟩
  have c6 : nI (T / 100 % 10) ≤ 7 := (by decide : (7 : Int32) = nI 7) ▸ nI_le (by omega) (by omega)
  have c7 : ¬ 7 < nI (T / 100 % 10) := (by decide : (7 : Int32) = nI 7) ▸ nI_nlt (by omega) (by omega)
  cases c4 : q_in x4 1 9
  · exact ⟨-1000001, q_fb g 1, q_fm (q_fb g 1) 1, by simp only [B_X11_flyer_0, B_X11_flyer_6, B_X11_flyer_46, B_X11_flyer_15, B_X11_flyer_26, B_X11_flyer_58, B_X11_flyer_89, B_X11_flyer_70, B_X11_flyer_109, B_X11_flyer_126, z_within, z_isCell, z_fin1, z_fin2, z_fin3, z_fin4, z_fin5, Option.bind_some, Option.toList_some, Option.toList_none, List.cons_append, List.nil_append, bI_t, bI_f, i10, i00, i11, i01, ↓reduceIte, Bool.false_eq_true, z_isTold, Bool.and_false, Bool.true_and, t1, t2, c1, c2, c3, c4, c6, c7], (by have hm := repM_fb (k := 1) hm; simp only [B_X12_flyer_0, B_X12_flyer_6, B_X12_flyer_56, B_X12_flyer_13, B_X12_flyer_24, B_X12_flyer_47, B_X12_flyer_74, B_X12_flyer_83, y_in, y_isCell, y_fin1, y_fin2, y_fin3, y_fin4, y_fin5, Option.bind_some, Option.toList_some, Option.toList_none, List.cons_append, List.nil_append, bI_t, bI_f, i10, i00, i11, i01, ↓reduceIte, Bool.false_eq_true, t1, t2, c1, c2, c3, c4, c6, c7]), R_fin hR (by decide)⟩
  by_cases c8 : N 5 = 16
  · exact ⟨-1000004, q_fb g 4, q_fm (q_fb g 4) 4, by simp only [B_X11_flyer_0, B_X11_flyer_6, B_X11_flyer_46, B_X11_flyer_15, B_X11_flyer_26, B_X11_flyer_58, B_X11_flyer_89, B_X11_flyer_70, B_X11_flyer_109, B_X11_flyer_126, z_within, z_isCell, z_fin1, z_fin2, z_fin3, z_fin4, z_fin5, Option.bind_some, Option.toList_some, Option.toList_none, List.cons_append, List.nil_append, bI_t, bI_f, i10, i00, i11, i01, ↓reduceIte, Bool.false_eq_true, z_isTold, Bool.and_self, t1, t2, z_addFlyerF hr c8, (by decide : ¬ (0 : Int32) ≤ -1), c1, c2, c3, c4, c6, c7], (by have hm := repM_fb (k := 4) hm; simp only [B_X12_flyer_0, B_X12_flyer_6, B_X12_flyer_56, B_X12_flyer_13, B_X12_flyer_24, B_X12_flyer_47, B_X12_flyer_74, B_X12_flyer_83, y_in, y_isCell, y_fin1, y_fin2, y_fin3, y_fin4, y_fin5, Option.bind_some, Option.toList_some, Option.toList_none, List.cons_append, List.nil_append, bI_t, bI_f, i10, i00, i11, i01, ↓reduceIte, Bool.false_eq_true, t1, t2, m_n5 hm, c8, (by decide : nI 16 = 16), c1, c2, c3, c4, c6, c7]), R_fin hR (by decide)⟩
  have c10 : N 5 < 16 := by omega
  have c11 : ¬ nI (N 5) = 16 := fun z => c8 ((nI_eq (by omega) (by decide)).mp z)
  have c12 : 0 ≤ nI (N 5) := nI_pos' (by omega)
  have hi : N 5 < q_nu N 5 (N 5 + 1) 5 := by rw [q_nu_eq]; omega
  obtain ⟨g0, e0, hr0, hf0⟩ := z_addFlyer (o := o) hr c10 (d + 26) x1 x2 x4
  obtain ⟨g1, e1, hr1, hf1⟩ := r_w_fl3 (o := o) hr0 hi (d + 28) (nI (T / 1000))
  obtain ⟨g2, e2, hr2, hf2⟩ := r_w_fl4 (o := o) hr1 hi (d + 28) (nI (T / 100 % 10))
  obtain ⟨g3, e3, hr3, hf3⟩ := r_w_fl2 (o := o) hr2 hi (d + 28) (nI (T % 100))
  have hf := q_fr_tr (q_fr_tr (q_fr_tr hf0 hf1) hf2) hf3
  have hm2 := repM_fr1 hm hf
  obtain ⟨c, hc, rfl⟩ := q_inc_t c2
  obtain ⟨k, _, hk3, rfl⟩ := q_in_t (a := 0) (b := 3) c1 (by decide) (by decide)
  obtain ⟨m, _, hm9, rfl⟩ := q_in_t (a := 1) (b := 9) c4 (by decide) (by decide)
  generalize hS2 : q_up (q_up (q_up (q_nf S (N 5) (nI k) (nI c) (nI m)) 17 (N 5) (nI (T / 1000))) 18 (N 5) (nI (T / 100 % 10))) 16 (N 5) (nI (T % 100)) = S2 at hr3
  have hS : ∀ f j, (j ≠ N 5 ∨ f < 14 ∨ 26 ≤ f) → S2 f j = S f j := fun f j z => by rw [← hS2, q_up_ne (by omega), q_up_ne (by omega), q_up_ne (by omega), q_nf_ne z]
  have v14 : S2 14 (N 5) = nI k := by rw [← hS2]; simp [q_up, q_nf, q_an]
  have v15 : S2 15 (N 5) = nI c := by rw [← hS2]; simp [q_up, q_nf, q_an]
  have v16 : S2 16 (N 5) = nI (T % 100) := by rw [← hS2]; simp [q_up, q_nf, q_an]
  have v17 : S2 17 (N 5) = nI (T / 1000) := by rw [← hS2]; simp [q_up, q_nf, q_an]
  have v18 : S2 18 (N 5) = nI (T / 100 % 10) := by rw [← hS2]; simp [q_up, q_nf, q_an]
  have v19 : S2 19 (N 5) = nI m := by rw [← hS2]; simp [q_up, q_nf, q_an]
  have v20 : S2 20 (N 5) = 0 := by rw [← hS2]; simp [q_up, q_nf, q_an]
  have v21 : S2 21 (N 5) = -1 := by rw [← hS2]; simp [q_up, q_nf, q_an]
  have v22 : S2 22 (N 5) = -1 := by rw [← hS2]; simp [q_up, q_nf, q_an]
  have v23 : S2 23 (N 5) = -1 := by rw [← hS2]; simp [q_up, q_nf, q_an]
  have v24 : S2 24 (N 5) = 0 := by rw [← hS2]; simp [q_up, q_nf, q_an]
  have k3 : ¬ 3 < nI k := (by decide : (3 : Int32) = nI 3) ▸ nI_nlt (by omega) (by omega)
  have hm3 : repM (q_up (q_up (q_up (q_nfM g3 (N 5) (nI k) (nI c) (nI m)) 116 (N 5) (nI (T % 100))) 118 (N 5) (nI (T / 100 % 10))) 117 (N 5) (nI (T / 1000))) S2 (q_nu N 5 (N 5 + 1)) := by
    refine m_gr_fl hm2 c10 hS (fun p j a b e => ?_) ?_ ?_ ?_ ?_ ?_ ?_ ?_ ?_ ?_ ?_ ?_ ?_ (fun z => absurd (v14 ▸ z) k3)
    · unfold q_nfM
      rw [q_up_ne (by omega), q_up_ne (by omega), q_up_ne (by omega), q_up_ne (by omega), q_up_ne (by omega), q_up_ne (by omega), q_up_ne (by omega), q_up_ne (by omega), q_up_ne (by omega), q_up_ne (by omega), q_up_ne (by omega), q_up_ne (by omega), q_up_ne (by omega), q_up_ne (by omega), q_up_ne (by omega), q_up_ne (by omega)]
    · simp [q_up, q_nfM]
    · rw [v14]; simp [q_up, q_nfM]
    · rw [v15]; simp [q_up, q_nfM]
    · rw [v16]; simp [q_up, q_nfM]
    · rw [v17]; simp [q_up, q_nfM]
    · rw [v18]; simp [q_up, q_nfM]
    · rw [v19]; simp [q_up, q_nfM]
    · rw [v20]; simp [q_up, q_nfM]
    · rw [v21]; simp [q_up, q_nfM]
    · rw [v22]; simp [q_up, q_nfM]
    · rw [v23]; simp [q_up, q_nfM]
    · rw [v24]; simp [q_up, q_nfM]
  refine ⟨nI (N 5), g3, _, ?_, ?_, R_st ha hr3 hf hm3 (fM_up (fM_up (fM_up (fM_nf fM_rf) (by decide)) (by decide)) (by decide)) (ok_gr_fl hk hS ?_)⟩
  · simp only [B_X11_flyer_0, B_X11_flyer_6, B_X11_flyer_46, B_X11_flyer_15, B_X11_flyer_26, B_X11_flyer_58, B_X11_flyer_89, B_X11_flyer_70, B_X11_flyer_109, B_X11_flyer_126, z_within, z_isCell, z_fin1, z_fin2, z_fin3, z_fin4, z_fin5, Option.bind_some, Option.toList_some, Option.toList_none, List.cons_append, List.nil_append, bI_t, bI_f, i10, i00, i11, i01, ↓reduceIte, Bool.false_eq_true, z_isTold, Bool.and_self, c1, c2, c3, c4, t1, t2, t3, t4, c6, e0, c12, e1, e2, e3]
  · simp only [B_X12_flyer_0, B_X12_flyer_6, B_X12_flyer_56, B_X12_flyer_13, B_X12_flyer_24, B_X12_flyer_47, B_X12_flyer_74, B_X12_flyer_83, y_in, y_isCell, y_fin1, y_fin2, y_fin3, y_fin4, y_fin5, Option.bind_some, Option.toList_some, Option.toList_none, List.cons_append, List.nil_append, bI_t, bI_f, i10, i00, i11, i01, ↓reduceIte, Bool.false_eq_true, c1, c2, c3, c4, t1, t2, t3, t4, c7, m_n5 hm2, c11, m_comes hm2 c10, q_rgN c10 (show 16 < 2 ^ 31 by decide)]
  · unfold q_fw
    rw [v14, v15, v18, v19, v20]
    exact ⟨q_ce_of hc, ⟨k, by omega, rfl⟩, ⟨_, by omega, rfl⟩, ⟨Or.inl rfl, m, by omega, rfl⟩, fun z => absurd z k3⟩
theorem law_flight {o : q_H} {n : Nat} {g : Nat → Nat → Int32} (hR : q_R n g) (ho : q_oR o) (d : Nat) (x1 : Int32) (x2 : Int32) (x3 : Int32) (x4 : Int32) (x5 : Int32) : ∃ v g1 g2, q_sem (d + 30) mX11_flight 0 [.ref 0, .int x1, .int x2, .int x3, .int x4, .int x5, .retAddr 0] [] (q_K o g) = some (some (.int v), q_K o g1) ∧ q_sem (d + 30) mX12_flight 0 [.ref 98, .int x1, .int x2, .int x3, .int x4, .int x5, .retAddr 0] [] (q_K o g1) = some (some (.int v), q_K o g2) ∧ q_R n g2 := by
  obtain ⟨⟨S, N, hr, hm, hk⟩, ha⟩ := id hR
  have hN := n_cnt_fl hr
  have hN3 := n_cnt_fi hr
  cases c1 : q_hs x1 (N 3)
  · exact ⟨-1000001, q_fb g 1, q_fm (q_fb g 1) 1, by simp only [B_X11_flight_0, B_X11_flight_11, B_X11_flight_50, B_X11_flight_21, B_X11_flight_31, B_X11_flight_42, B_X11_flight_77, B_X11_flight_82, B_X11_flight_110, B_X11_flight_94, B_X11_flight_125, B_X11_flight_133, z_within, z_isCell, z_fin1, z_fin2, z_fin3, z_fin4, z_fin5, Option.bind_some, Option.toList_some, Option.toList_none, List.cons_append, List.nil_append, bI_t, bI_f, i10, i00, i11, i01, ↓reduceIte, Bool.false_eq_true, z_has_fi hr, c1], (by have hm := repM_fb (k := 1) hm; simp only [B_X12_flight_0, B_X12_flight_6, B_X12_flight_46, B_X12_flight_16, B_X12_flight_26, B_X12_flight_37, B_X12_flight_64, B_X12_flight_87, y_in, y_isCell, y_fin1, y_fin2, y_fin3, y_fin4, y_fin5, Option.bind_some, Option.toList_some, Option.toList_none, List.cons_append, List.nil_append, bI_t, bI_f, i10, i00, i11, i01, ↓reduceIte, Bool.false_eq_true, y_isOf3 hm, c1]), R_fin hR (by decide)⟩
  cases c2 : q_in x2 0 99
  · exact ⟨-1000001, q_fb g 1, q_fm (q_fb g 1) 1, by simp only [B_X11_flight_0, B_X11_flight_11, B_X11_flight_50, B_X11_flight_21, B_X11_flight_31, B_X11_flight_42, B_X11_flight_77, B_X11_flight_82, B_X11_flight_110, B_X11_flight_94, B_X11_flight_125, B_X11_flight_133, z_within, z_isCell, z_fin1, z_fin2, z_fin3, z_fin4, z_fin5, Option.bind_some, Option.toList_some, Option.toList_none, List.cons_append, List.nil_append, bI_t, bI_f, i10, i00, i11, i01, ↓reduceIte, Bool.false_eq_true, z_has_fi hr, c1, c2], (by have hm := repM_fb (k := 1) hm; simp only [B_X12_flight_0, B_X12_flight_6, B_X12_flight_46, B_X12_flight_16, B_X12_flight_26, B_X12_flight_37, B_X12_flight_64, B_X12_flight_87, y_in, y_isCell, y_fin1, y_fin2, y_fin3, y_fin4, y_fin5, Option.bind_some, Option.toList_some, Option.toList_none, List.cons_append, List.nil_append, bI_t, bI_f, i10, i00, i11, i01, ↓reduceIte, Bool.false_eq_true, y_isOf3 hm, c1, c2]), R_fin hR (by decide)⟩
  cases c3 : q_in x3 0 99
  · exact ⟨-1000001, q_fb g 1, q_fm (q_fb g 1) 1, by simp only [B_X11_flight_0, B_X11_flight_11, B_X11_flight_50, B_X11_flight_21, B_X11_flight_31, B_X11_flight_42, B_X11_flight_77, B_X11_flight_82, B_X11_flight_110, B_X11_flight_94, B_X11_flight_125, B_X11_flight_133, z_within, z_isCell, z_fin1, z_fin2, z_fin3, z_fin4, z_fin5, Option.bind_some, Option.toList_some, Option.toList_none, List.cons_append, List.nil_append, bI_t, bI_f, i10, i00, i11, i01, ↓reduceIte, Bool.false_eq_true, z_has_fi hr, c1, c2, c3], (by have hm := repM_fb (k := 1) hm; simp only [B_X12_flight_0, B_X12_flight_6, B_X12_flight_46, B_X12_flight_16, B_X12_flight_26, B_X12_flight_37, B_X12_flight_64, B_X12_flight_87, y_in, y_isCell, y_fin1, y_fin2, y_fin3, y_fin4, y_fin5, Option.bind_some, Option.toList_some, Option.toList_none, List.cons_append, List.nil_append, bI_t, bI_f, i10, i00, i11, i01, ↓reduceIte, Bool.false_eq_true, y_isOf3 hm, c1, c2, c3]), R_fin hR (by decide)⟩
  cases c4 : q_in x4 1 9
  · exact ⟨-1000001, q_fb g 1, q_fm (q_fb g 1) 1, by simp only [B_X11_flight_0, B_X11_flight_11, B_X11_flight_50, B_X11_flight_21, B_X11_flight_31, B_X11_flight_42, B_X11_flight_77, B_X11_flight_82, B_X11_flight_110, B_X11_flight_94, B_X11_flight_125, B_X11_flight_133, z_within, z_isCell, z_fin1, z_fin2, z_fin3, z_fin4, z_fin5, Option.bind_some, Option.toList_some, Option.toList_none, List.cons_append, List.nil_append, bI_t, bI_f, i10, i00, i11, i01, ↓reduceIte, Bool.false_eq_true, z_has_fi hr, c1, c2, c3, c4], (by have hm := repM_fb (k := 1) hm; simp only [B_X12_flight_0, B_X12_flight_6, B_X12_flight_46, B_X12_flight_16, B_X12_flight_26, B_X12_flight_37, B_X12_flight_64, B_X12_flight_87, y_in, y_isCell, y_fin1, y_fin2, y_fin3, y_fin4, y_fin5, Option.bind_some, Option.toList_some, Option.toList_none, List.cons_append, List.nil_append, bI_t, bI_f, i10, i00, i11, i01, ↓reduceIte, Bool.false_eq_true, y_isOf3 hm, c1, c2, c3, c4]), R_fin hR (by decide)⟩
  obtain ⟨h, hh, rfl⟩ := q_hs_t c1 (by omega)
  have h9 := hk.1.2.2.2.1 h hh
  have hH := q_atI hh (show N 3 < 2 ^ 31 by omega)
  by_cases c8 : N 5 = 16
  · by_cases c5 : x5 = 0
    · exact ⟨-1000004, q_fb g 4, q_fm (q_fb g 4) 4, by simp only [B_X11_flight_0, B_X11_flight_11, B_X11_flight_50, B_X11_flight_21, B_X11_flight_31, B_X11_flight_42, B_X11_flight_77, B_X11_flight_82, B_X11_flight_110, B_X11_flight_94, B_X11_flight_125, B_X11_flight_133, z_within, z_isCell, z_fin1, z_fin2, z_fin3, z_fin4, z_fin5, Option.bind_some, Option.toList_some, Option.toList_none, List.cons_append, List.nil_append, bI_t, bI_f, i10, i00, i11, i01, ↓reduceIte, Bool.false_eq_true, z_has_fi hr, r_get_fi0 hr, hH, z_addFlyerF hr c8, (by decide : ¬ (0 : Int32) ≤ -1), c1, c2, c3, c4, c5], (by have hm := repM_fb (k := 4) hm; simp only [B_X12_flight_0, B_X12_flight_6, B_X12_flight_46, B_X12_flight_16, B_X12_flight_26, B_X12_flight_37, B_X12_flight_64, B_X12_flight_87, y_in, y_isCell, y_fin1, y_fin2, y_fin3, y_fin4, y_fin5, Option.bind_some, Option.toList_some, Option.toList_none, List.cons_append, List.nil_append, bI_t, bI_f, i10, i00, i11, i01, ↓reduceIte, Bool.false_eq_true, y_isOf3 hm, m_n5 hm, c8, (by decide : nI 16 = 16), c1, c2, c3, c4, c5]), R_fin hR (by decide)⟩
    · exact ⟨-1000004, q_fb g 4, q_fm (q_fb g 4) 4, by simp only [B_X11_flight_0, B_X11_flight_11, B_X11_flight_50, B_X11_flight_21, B_X11_flight_31, B_X11_flight_42, B_X11_flight_77, B_X11_flight_82, B_X11_flight_110, B_X11_flight_94, B_X11_flight_125, B_X11_flight_133, z_within, z_isCell, z_fin1, z_fin2, z_fin3, z_fin4, z_fin5, Option.bind_some, Option.toList_some, Option.toList_none, List.cons_append, List.nil_append, bI_t, bI_f, i10, i00, i11, i01, ↓reduceIte, Bool.false_eq_true, z_has_fi hr, r_get_fi0 hr, hH, z_addFlyerF hr c8, (by decide : ¬ (0 : Int32) ≤ -1), c1, c2, c3, c4, c5], (by have hm := repM_fb (k := 4) hm; simp only [B_X12_flight_0, B_X12_flight_6, B_X12_flight_46, B_X12_flight_16, B_X12_flight_26, B_X12_flight_37, B_X12_flight_64, B_X12_flight_87, y_in, y_isCell, y_fin1, y_fin2, y_fin3, y_fin4, y_fin5, Option.bind_some, Option.toList_some, Option.toList_none, List.cons_append, List.nil_append, bI_t, bI_f, i10, i00, i11, i01, ↓reduceIte, Bool.false_eq_true, y_isOf3 hm, m_n5 hm, c8, (by decide : nI 16 = 16), c1, c2, c3, c4, c5]), R_fin hR (by decide)⟩
  have c10 : N 5 < 16 := by omega
  have c11 : ¬ nI (N 5) = 16 := fun z => c8 ((nI_eq (by omega) (by decide)).mp z)
  have c12 : 0 ≤ nI (N 5) := nI_pos' (by omega)
  have hi : N 5 < q_nu N 5 (N 5 + 1) 5 := by rw [q_nu_eq]; omega
  obtain ⟨fu, _, hfu, rfl⟩ := q_in_t (a := 0) (b := 99) c2 (by decide) (by decide)
  obtain ⟨ro, _, hro, rfl⟩ := q_in_t (a := 0) (b := 99) c3 (by decide) (by decide)
  obtain ⟨m, _, hm9, rfl⟩ := q_in_t (a := 1) (b := 9) c4 (by decide) (by decide)
  have key : ∀ k, k = 4 ∨ k = 5 → ∃ g0 g4, q_sem (d + 29) mX10_addFlyer 0 [.ref 1, .int (nI k), .int (S 9 h), .int (nI m), .retAddr 0] [] (q_K o g) = some (some (.int (nI (N 5))), q_K o g0) ∧ (∃ g1 g2 g3, q_sem (d + 29) mX7_write 0 [.ref 12, .int (nI (N 5)), .int 6, .int 1] [] (q_K o g0) = some (none, q_K o g1) ∧ q_sem (d + 29) mX7_write 0 [.ref 12, .int (nI (N 5)), .int 11, .int (nI h)] [] (q_K o g1) = some (none, q_K o g2) ∧ q_sem (d + 28) mX7_write 0 [.ref 12, .int (nI (N 5)), .int 7, .int (nI fu)] [] (q_K o g2) = some (none, q_K o g3) ∧ q_sem (d + 28) mX7_write 0 [.ref 12, .int (nI (N 5)), .int 8, .int (nI ro)] [] (q_K o g3) = some (none, q_K o g4)) ∧ repM g4 S N ∧ q_R n (q_up (q_up (q_up (q_up (q_nfM g4 (N 5) (nI k) (S 9 h) (nI m)) 120 (N 5) 1) 121 (N 5) (nI h)) 122 (N 5) (nI fu)) 123 (N 5) (nI ro)) := by
    intro k hk45
    obtain ⟨g0, e0, hr0, hf0⟩ := z_addFlyer (o := o) hr c10 (d + 26) (nI k) (S 9 h) (nI m)
    obtain ⟨g1, e1, hr1, hf1⟩ := r_w_fl6 (o := o) hr0 hi (d + 28) 1
    obtain ⟨g2, e2, hr2, hf2⟩ := r_w_fl11 (o := o) hr1 hi (d + 28) (nI h)
    obtain ⟨g3, e3, hr3, hf3⟩ := r_w_fl7 (o := o) hr2 hi (d + 27) (nI fu)
    obtain ⟨g4, e4, hr4, hf4⟩ := r_w_fl8 (o := o) hr3 hi (d + 27) (nI ro)
    have hf := q_fr_tr (q_fr_tr (q_fr_tr (q_fr_tr hf0 hf1) hf2) hf3) hf4
    have hm2 := repM_fr1 hm hf
    refine ⟨g0, g4, e0, ⟨g1, g2, g3, e1, e2, e3, e4⟩, hm2, ?_⟩
    generalize hS2 : q_up (q_up (q_up (q_up (q_nf S (N 5) (nI k) (S 9 h) (nI m)) 20 (N 5) 1) 25 (N 5) (nI h)) 21 (N 5) (nI fu)) 22 (N 5) (nI ro) = S2 at hr4
    have hS : ∀ f j, (j ≠ N 5 ∨ f < 14 ∨ 26 ≤ f) → S2 f j = S f j := fun f j z => by rw [← hS2, q_up_ne (by omega), q_up_ne (by omega), q_up_ne (by omega), q_up_ne (by omega), q_nf_ne z]
    have v14 : S2 14 (N 5) = nI k := by rw [← hS2]; simp [q_up, q_nf, q_an]
    have v15 : S2 15 (N 5) = S 9 h := by rw [← hS2]; simp [q_up, q_nf, q_an]
    have v16 : S2 16 (N 5) = 0 := by rw [← hS2]; simp [q_up, q_nf, q_an]
    have v17 : S2 17 (N 5) = 0 := by rw [← hS2]; simp [q_up, q_nf, q_an]
    have v18 : S2 18 (N 5) = 0 := by rw [← hS2]; simp [q_up, q_nf, q_an]
    have v19 : S2 19 (N 5) = nI m := by rw [← hS2]; simp [q_up, q_nf, q_an]
    have v20 : S2 20 (N 5) = 1 := by rw [← hS2]; simp [q_up, q_nf, q_an]
    have v21 : S2 21 (N 5) = nI fu := by rw [← hS2]; simp [q_up, q_nf, q_an]
    have v22 : S2 22 (N 5) = nI ro := by rw [← hS2]; simp [q_up, q_nf, q_an]
    have v23 : S2 23 (N 5) = -1 := by rw [← hS2]; simp [q_up, q_nf, q_an]
    have v24 : S2 24 (N 5) = 0 := by rw [← hS2]; simp [q_up, q_nf, q_an]
    have v25 : S2 25 (N 5) = nI h := by rw [← hS2]; simp [q_up, q_nf, q_an]
    have hm3 : repM (q_up (q_up (q_up (q_up (q_nfM g4 (N 5) (nI k) (S 9 h) (nI m)) 120 (N 5) 1) 121 (N 5) (nI h)) 122 (N 5) (nI fu)) 123 (N 5) (nI ro)) S2 (q_nu N 5 (N 5 + 1)) := by
      refine m_gr_fl hm2 c10 hS (fun p j a b e => ?_) ?_ ?_ ?_ ?_ ?_ ?_ ?_ ?_ ?_ ?_ ?_ ?_ (fun _ => ?_)
      · unfold q_nfM
        rw [q_up_ne (by omega), q_up_ne (by omega), q_up_ne (by omega), q_up_ne (by omega), q_up_ne (by omega), q_up_ne (by omega), q_up_ne (by omega), q_up_ne (by omega), q_up_ne (by omega), q_up_ne (by omega), q_up_ne (by omega), q_up_ne (by omega), q_up_ne (by omega), q_up_ne (by omega), q_up_ne (by omega), q_up_ne (by omega), q_up_ne (by omega)]
      · simp [q_up, q_nfM]
      · rw [v14]; simp [q_up, q_nfM]
      · rw [v15]; simp [q_up, q_nfM]
      · rw [v16]; simp [q_up, q_nfM]
      · rw [v17]; simp [q_up, q_nfM]
      · rw [v18]; simp [q_up, q_nfM]
      · rw [v19]; simp [q_up, q_nfM]
      · rw [v20]; simp [q_up, q_nfM]
      · rw [v21]; simp [q_up, q_nfM]
      · rw [v22]; simp [q_up, q_nfM]
      · rw [v23]; simp [q_up, q_nfM]
      · rw [v24]; simp [q_up, q_nfM]
      · rw [v25]; simp [q_up, q_nfM]
    refine R_st ha hr4 hf hm3 (fM_up (fM_up (fM_up (fM_up (fM_nf fM_rf) (by decide)) (by decide)) (by decide)) (by decide)) (ok_gr_fl hk hS ?_)
    unfold q_fw
    rw [v14, v15, v18, v19, v20, v21, v22, v23, v25]
    exact ⟨h9, ⟨k, by omega, rfl⟩, ⟨0, by decide, rfl⟩, ⟨Or.inr (Or.inl rfl), m, by omega, rfl⟩, fun _ => ⟨⟨h, by rw [q_nu_ne (by decide)]; exact hh, rfl⟩, ⟨fu, by omega, rfl⟩, ⟨ro, by omega, rfl⟩, Or.inl rfl⟩⟩
  by_cases c5 : x5 = 0
  · obtain ⟨g0, g4, e0, ⟨g1, g2, g3, e1, e2, e3, e4⟩, hm2, hR2⟩ := key 4 (Or.inl rfl)
    refine ⟨nI (N 5), g4, _, ?_, ?_, hR2⟩
    · rw [show nI 4 = (4 : Int32) from rfl] at e0
      simp only [B_X11_flight_0, B_X11_flight_11, B_X11_flight_50, B_X11_flight_21, B_X11_flight_31, B_X11_flight_42, B_X11_flight_77, B_X11_flight_82, B_X11_flight_110, B_X11_flight_94, B_X11_flight_125, B_X11_flight_133, B_X11_load_0, B_X11_load_14, B_X11_load_28, z_within, z_isCell, z_fin1, z_fin2, z_fin3, z_fin4, z_fin5, Option.bind_some, Option.toList_some, Option.toList_none, List.cons_append, List.nil_append, bI_t, bI_f, i10, i00, i11, i01, ↓reduceIte, Bool.false_eq_true, z_has_fi hr, r_get_fi0 hr, hH, c1, c2, c3, c4, c5, e0, c12, e1, e2, e3, e4]
    · have em := m_comes (o := o) hm2 c10 (d + 29) 4 (S 9 h) (nI m)
      simp only [B_X12_flight_0, B_X12_flight_6, B_X12_flight_46, B_X12_flight_16, B_X12_flight_26, B_X12_flight_37, B_X12_flight_64, B_X12_flight_87, y_in, y_isCell, y_fin1, y_fin2, y_fin3, y_fin4, y_fin5, Option.bind_some, Option.toList_some, Option.toList_none, List.cons_append, List.nil_append, bI_t, bI_f, i10, i00, i11, i01, ↓reduceIte, Bool.false_eq_true, y_isOf3 hm2, c1, c2, c3, c4, c5, m_n5 hm2, c11, q_rgN (show h < 5 by omega) (show 5 < 2 ^ 31 by decide), m_f9 hm2 hh, em, q_rgN c10 (show 16 < 2 ^ 31 by decide)]
      rfl
  · obtain ⟨g0, g4, e0, ⟨g1, g2, g3, e1, e2, e3, e4⟩, hm2, hR2⟩ := key 5 (Or.inr rfl)
    refine ⟨nI (N 5), g4, _, ?_, ?_, hR2⟩
    · rw [show nI 5 = (5 : Int32) from rfl] at e0
      simp only [B_X11_flight_0, B_X11_flight_11, B_X11_flight_50, B_X11_flight_21, B_X11_flight_31, B_X11_flight_42, B_X11_flight_77, B_X11_flight_82, B_X11_flight_110, B_X11_flight_94, B_X11_flight_125, B_X11_flight_133, B_X11_load_0, B_X11_load_14, B_X11_load_28, z_within, z_isCell, z_fin1, z_fin2, z_fin3, z_fin4, z_fin5, Option.bind_some, Option.toList_some, Option.toList_none, List.cons_append, List.nil_append, bI_t, bI_f, i10, i00, i11, i01, ↓reduceIte, Bool.false_eq_true, z_has_fi hr, r_get_fi0 hr, hH, c1, c2, c3, c4, c5, e0, c12, e1, e2, e3, e4]
    · have em := m_comes (o := o) hm2 c10 (d + 29) 5 (S 9 h) (nI m)
      simp only [B_X12_flight_0, B_X12_flight_6, B_X12_flight_46, B_X12_flight_16, B_X12_flight_26, B_X12_flight_37, B_X12_flight_64, B_X12_flight_87, y_in, y_isCell, y_fin1, y_fin2, y_fin3, y_fin4, y_fin5, Option.bind_some, Option.toList_some, Option.toList_none, List.cons_append, List.nil_append, bI_t, bI_f, i10, i00, i11, i01, ↓reduceIte, Bool.false_eq_true, y_isOf3 hm2, c1, c2, c3, c4, c5, m_n5 hm2, c11, q_rgN (show h < 5 by omega) (show 5 < 2 ^ 31 by decide), m_f9 hm2 hh, em, q_rgN c10 (show 16 < 2 ^ 31 by decide)]
      rfl
