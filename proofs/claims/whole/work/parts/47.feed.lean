/-! the tape is fed -/
theorem q_b255 {n j : Nat} (hn : 8 ≤ n) : (BitVec.ofNat n 255).getLsbD j = decide (j < 8) := by
  rw [BitVec.getLsbD_ofNat]
  rcases Nat.lt_or_ge j 8 with h | h
  · rw [decide_eq_true h, decide_eq_true (show j < n by omega)]
    rcases j with _ | _ | _ | _ | _ | _ | _ | _ | j <;> first | rfl | omega
  · rw [decide_eq_false (show ¬ j < 8 by omega)]
    rw [Nat.testBit_lt_two_pow (show 255 < 2 ^ j from Nat.lt_of_lt_of_le (by decide : 255 < 2 ^ 8) (Nat.pow_le_pow_right (by decide) h))]
    simp
theorem q_byteA (z : Int64) (s : Nat) (hs : s ≤ 56) : (BitVec.signExtend 32 (z.toBitVec >>> s)) &&& BitVec.ofNat 32 255 = BitVec.signExtend 32 ((z.toBitVec.sshiftRight s) &&& BitVec.ofNat 64 255) := by
  rw [BitVec.signExtend_eq_setWidth_of_le _ (by decide), BitVec.signExtend_eq_setWidth_of_le _ (by decide)]
  apply BitVec.eq_of_getLsbD_eq
  intro j hj
  simp only [BitVec.getLsbD_and, BitVec.getLsbD_setWidth, BitVec.getLsbD_ushiftRight, BitVec.getLsbD_sshiftRight, q_b255 (show 8 ≤ 32 by decide), q_b255 (show 8 ≤ 64 by decide), hj, decide_true, Bool.true_and]
  rcases Nat.lt_or_ge j 8 with h | h
  · have h1 : ¬ 64 ≤ j := by omega
    have h2 : s + j < 64 := by omega
    simp [h, h1, h2]
  · have h1 : ¬ j < 8 := by omega
    simp [h1]
/-- byte i of a word -/
def q_byt (z : Int64) (i : Nat) : Int32 := (((z : Int64).toUInt64 >>> (((8 * (nI i)) : Int32).toInt64.toUInt64 &&& Int64.toUInt64 63)).toInt64 : Int64).toInt32 &&& 255
theorem q_byte0 (z : Int64) : (((z >>> (((8 * (nI 0)) : Int32).toInt64 &&& 63)) &&& 255) : Int64).toInt32 = q_byt z 0 := by
  unfold q_byt
  have e1 : ((((8 * (nI 0)) : Int32).toInt64.toUInt64 &&& Int64.toUInt64 63)) = 0 := by decide
  have e2 : ((((8 * (nI 0)) : Int32).toInt64 &&& 63)) = 0 := by decide
  rw [e1, e2]
  apply Int32.toBitVec_inj.mp
  have h := q_byteA z 0 (by decide)
  exact h.symm
theorem q_byte1 (z : Int64) : (((z >>> (((8 * (nI 1)) : Int32).toInt64 &&& 63)) &&& 255) : Int64).toInt32 = q_byt z 1 := by
  unfold q_byt
  have e1 : ((((8 * (nI 1)) : Int32).toInt64.toUInt64 &&& Int64.toUInt64 63)) = 8 := by decide
  have e2 : ((((8 * (nI 1)) : Int32).toInt64 &&& 63)) = 8 := by decide
  rw [e1, e2]
  apply Int32.toBitVec_inj.mp
  have h := q_byteA z 8 (by decide)
  exact h.symm
theorem q_byte2 (z : Int64) : (((z >>> (((8 * (nI 2)) : Int32).toInt64 &&& 63)) &&& 255) : Int64).toInt32 = q_byt z 2 := by
  unfold q_byt
  have e1 : ((((8 * (nI 2)) : Int32).toInt64.toUInt64 &&& Int64.toUInt64 63)) = 16 := by decide
  have e2 : ((((8 * (nI 2)) : Int32).toInt64 &&& 63)) = 16 := by decide
  rw [e1, e2]
  apply Int32.toBitVec_inj.mp
  have h := q_byteA z 16 (by decide)
  exact h.symm
theorem q_byte3 (z : Int64) : (((z >>> (((8 * (nI 3)) : Int32).toInt64 &&& 63)) &&& 255) : Int64).toInt32 = q_byt z 3 := by
  unfold q_byt
  have e1 : ((((8 * (nI 3)) : Int32).toInt64.toUInt64 &&& Int64.toUInt64 63)) = 24 := by decide
  have e2 : ((((8 * (nI 3)) : Int32).toInt64 &&& 63)) = 24 := by decide
  rw [e1, e2]
  apply Int32.toBitVec_inj.mp
  have h := q_byteA z 24 (by decide)
  exact h.symm
theorem q_byte4 (z : Int64) : (((z >>> (((8 * (nI 4)) : Int32).toInt64 &&& 63)) &&& 255) : Int64).toInt32 = q_byt z 4 := by
  unfold q_byt
  have e1 : ((((8 * (nI 4)) : Int32).toInt64.toUInt64 &&& Int64.toUInt64 63)) = 32 := by decide
  have e2 : ((((8 * (nI 4)) : Int32).toInt64 &&& 63)) = 32 := by decide
  rw [e1, e2]
  apply Int32.toBitVec_inj.mp
  have h := q_byteA z 32 (by decide)
  exact h.symm
theorem q_byte5 (z : Int64) : (((z >>> (((8 * (nI 5)) : Int32).toInt64 &&& 63)) &&& 255) : Int64).toInt32 = q_byt z 5 := by
  unfold q_byt
  have e1 : ((((8 * (nI 5)) : Int32).toInt64.toUInt64 &&& Int64.toUInt64 63)) = 40 := by decide
  have e2 : ((((8 * (nI 5)) : Int32).toInt64 &&& 63)) = 40 := by decide
  rw [e1, e2]
  apply Int32.toBitVec_inj.mp
  have h := q_byteA z 40 (by decide)
  exact h.symm
theorem q_byte6 (z : Int64) : (((z >>> (((8 * (nI 6)) : Int32).toInt64 &&& 63)) &&& 255) : Int64).toInt32 = q_byt z 6 := by
  unfold q_byt
  have e1 : ((((8 * (nI 6)) : Int32).toInt64.toUInt64 &&& Int64.toUInt64 63)) = 48 := by decide
  have e2 : ((((8 * (nI 6)) : Int32).toInt64 &&& 63)) = 48 := by decide
  rw [e1, e2]
  apply Int32.toBitVec_inj.mp
  have h := q_byteA z 48 (by decide)
  exact h.symm
theorem q_byte7 (z : Int64) : (((z >>> (((8 * (nI 7)) : Int32).toInt64 &&& 63)) &&& 255) : Int64).toInt32 = q_byt z 7 := by
  unfold q_byt
  have e1 : ((((8 * (nI 7)) : Int32).toInt64.toUInt64 &&& Int64.toUInt64 63)) = 56 := by decide
  have e2 : ((((8 * (nI 7)) : Int32).toInt64 &&& 63)) = 56 := by decide
  rw [e1, e2]
  apply Int32.toBitVec_inj.mp
  have h := q_byteA z 56 (by decide)
  exact h.symm
theorem q_byte (z : Int64) {i : Nat} (hi : i < 8) : (((z >>> (((8 * (nI i)) : Int32).toInt64 &&& 63)) &&& 255) : Int64).toInt32 = q_byt z i := by
  rcases i with _ | _ | _ | _ | _ | _ | _ | _ | i
  · exact q_byte0 z
  · exact q_byte1 z
  · exact q_byte2 z
  · exact q_byte3 z
  · exact q_byte4 z
  · exact q_byte5 z
  · exact q_byte6 z
  · exact q_byte7 z
  · omega
theorem q_byt_ce (z : Int64) (i : Nat) : q_ce (q_byt z i) := by
  obtain ⟨j, hj, e⟩ := pk_andE ((((z : Int64).toUInt64 >>> (((8 * (nI i)) : Int32).toInt64.toUInt64 &&& Int64.toUInt64 63)).toInt64 : Int64).toInt32) (m := 255) 8 (by decide)
  unfold q_byt
  rw [e]
  exact q_ce_of hj
theorem law_feed {o : q_H} {n : Nat} {g : Nat → Nat → Int32} (hR : q_R n g) (ho : q_oR o) (d : Nat) (z1 : Int64) (x3 : Int32) : ∃ v g1 g2, q_sem (d + 30) mX11_feed 0 [.ref 0, .long z1, .retAddr 0, .int x3, .retAddr 0, .retAddr 0] [] (q_K o g) = some (some (.int v), q_K o g1) ∧ q_sem (d + 30) mX12_feed 0 [.ref 98, .long z1, .retAddr 0, .int x3, .retAddr 0] [] (q_K o g1) = some (some (.int v), q_K o g2) ∧ q_R n g2 := by
  obtain ⟨⟨S, N, hr, hm, hk⟩, ha⟩ := id hR
  have hN := n_cnt_ta hr
  cases c1 : q_in x3 1 8
  · exact ⟨-1000001, q_fb g 1, q_fm (q_fb g 1) 1, by simp only [B_X11_feed_0, B_X11_feed_7, B_X11_feed_15, B_X11_feed_33, B_X11_feed_45, B_X11_feed_84, B_X11_feed_72, z_within, z_isCell, z_fin1, z_fin2, z_fin3, z_fin4, z_fin5, Option.bind_some, Option.toList_some, Option.toList_none, List.cons_append, List.nil_append, bI_t, bI_f, i10, i00, i11, i01, ↓reduceIte, Bool.false_eq_true, c1], (by have hm := repM_fb (k := 1) hm; simp only [B_X12_feed_0, B_X12_feed_7, B_X12_feed_16, B_X12_feed_37, y_in, y_isCell, y_fin1, y_fin2, y_fin3, y_fin4, y_fin5, Option.bind_some, Option.toList_some, Option.toList_none, List.cons_append, List.nil_append, bI_t, bI_f, i10, i00, i11, i01, ↓reduceIte, Bool.false_eq_true, c1]), R_fin hR (by decide)⟩
  obtain ⟨n, hn1, hn8, rfl⟩ := q_in_t (a := 1) (b := 8) c1 (by decide) (by decide)
  by_cases c2 : N 8 + n ≤ 50
  rotate_left
  · have c3 : ¬ nI (N 8 + n) ≤ 50 := (by decide : (50 : Int32) = nI 50) ▸ nI_ge (by omega) (by omega)
    exact ⟨-1000004, q_fb g 4, q_fm (q_fb g 4) 4, by simp only [B_X11_feed_0, B_X11_feed_7, B_X11_feed_15, B_X11_feed_33, B_X11_feed_45, B_X11_feed_84, B_X11_feed_72, z_within, z_isCell, z_fin1, z_fin2, z_fin3, z_fin4, z_fin5, Option.bind_some, Option.toList_some, Option.toList_none, List.cons_append, List.nil_append, bI_t, bI_f, i10, i00, i11, i01, ↓reduceIte, Bool.false_eq_true, r_size_ta hr, nI_add, c1, c3], (by have hm := repM_fb (k := 4) hm; simp only [B_X12_feed_0, B_X12_feed_7, B_X12_feed_16, B_X12_feed_37, y_in, y_isCell, y_fin1, y_fin2, y_fin3, y_fin4, y_fin5, Option.bind_some, Option.toList_some, Option.toList_none, List.cons_append, List.nil_append, bI_t, bI_f, i10, i00, i11, i01, ↓reduceIte, Bool.false_eq_true, m_n8 hm, nI_add, c1, c3]), R_fin hR (by decide)⟩
  have c3 : nI (N 8 + n) ≤ 50 := (by decide : (50 : Int32) = nI 50) ▸ nI_le c2 (by omega)
  have zl : ∀ k i g S N, i + k = n → N 8 + k ≤ 50 → repC 1 g S N → q_ok S N → ∃ g1 S2 N2, q_sem (d + 30) mX11_feed 49 [.ref 0, .long z1, .retAddr 0, .int (nI n), .ref 19, .int (nI i)] [] (q_K o g) = some (some (.int (nI (N 8 + k))), q_K o g1) ∧ repC 1 g1 S2 N2 ∧ q_fr 1 g g1 ∧ q_ok S2 N2 ∧ (∀ h, repM h S N → ∃ h2, q_sem (d + 30) mX12_feed 41 [.ref 98, .long z1, .retAddr 0, .int (nI n), .int (nI i)] [] (q_K o h) = some (some (.int (nI (N 8 + k))), q_K o h2) ∧ repM h2 S2 N2 ∧ q_fM h h2) := by
    intro k
    induction k with
    | zero =>
      intro i g S N hi hN hr hk
      have c4 : nI n ≤ nI i := nI_le (by omega) (by omega)
      refine ⟨g, S, N, ?_, hr, q_fr_rf, hk, fun h hh => ⟨h, ?_, hh, fM_rf⟩⟩
      · rw [B_X11_feed_49, if_pos c4]
        simp only [r_size_ta hr, Option.bind_some, Option.toList_some, Option.toList_none, List.cons_append, List.nil_append, B_X11_feed_7, B_X11_feed_15, B_X11_feed_33, B_X11_feed_45, B_X11_feed_84, B_X11_feed_72, Nat.add_zero]
      · rw [B_X12_feed_41, if_pos c4, m_n8 hh, Nat.add_zero]
    | succ k ih =>
      intro i g S N hi hN hr hk
      have c4 : ¬ nI n ≤ nI i := nI_ge (by omega) (by omega)
      have h8 : i < 8 := by omega
      have hlt : N 8 < 50 := by omega
      obtain ⟨g1, e1, hr1, hf1⟩ := r_add_ta (o := o) hr hlt (d + 27) (q_byt z1 i)
      have hS : ∀ f j, (j ≠ N 8 ∨ f < 31 ∨ 32 ≤ f) → q_an S 31 1 (N 8) (q_byt z1 i) f j = S f j := fun f j z => q_an_ne (by omega)
      have v1 : q_an S 31 1 (N 8) (q_byt z1 i) 31 (N 8) = q_byt z1 i := by simp [q_an]
      have mk : ∀ h, repM h S N → repM (q_up (q_up h 131 (N 8) (q_byt z1 i)) 100 8 (nI (N 8 + 1))) (q_an S 31 1 (N 8) (q_byt z1 i)) (q_nu N 8 (N 8 + 1)) := fun h hh => m_gr_ta hh hlt hS (fun p j a b e => by rw [q_up_ne (by omega), q_up_ne (by omega)]) q_upE (by rw [v1, q_upN (by decide), q_upE]) (by rw [v1]; exact q_byt_ce _ _)
      have hk1 := ok_gr_ta hk hS
      have ihN : q_nu N 8 (N 8 + 1) 8 + k = N 8 + (k + 1) := by rw [q_nu_eq]; omega
      obtain ⟨g2, S2, N2, e2, hr2, hf2, hk2, hM⟩ := ih (i + 1) g1 _ _ (by omega) (by rw [ihN]; omega) hr1 hk1
      · rw [ihN] at e2 hM
        refine ⟨g2, S2, N2, ?_, hr2, q_fr_tr hf1 hf2, hk2, fun h hh => ?_⟩
        · rw [B_X11_feed_49, if_neg c4]
          rw [show (((z1 : Int64).toUInt64 >>> (((8 * (nI i)) : Int32).toInt64.toUInt64 &&& Int64.toUInt64 63)).toInt64 : Int64).toInt32 &&& 255 = q_byt z1 i from rfl, e1]
          simp only [Option.bind_some, Option.toList_some, Option.toList_none, List.cons_append, List.nil_append, B_X11_feed_72, nI_1]
          exact e2
        · obtain ⟨h2, e3, hm3, hf3⟩ := hM _ (mk h hh)
          refine ⟨h2, ?_, hm3, fM_tr (fM_up (fM_up fM_rf (by decide)) (by decide)) hf3⟩
          rw [B_X12_feed_41, if_neg c4, m_n8 hh, q_rgN hlt (by decide), q_byte z1 h8, q_upN (show 100 ≠ 131 by decide), m_n8 hh, nI_1, nI_1]
          exact e3
  obtain ⟨g1, S2, N2, e1, hr1, hf1, hk1, hM⟩ := zl n 0 g S N (by omega) c2 hr hk
  obtain ⟨g2, e2, hm2, hf2⟩ := hM g1 (repM_fr1 hm hf1)
  refine ⟨nI (N 8 + n), g1, g2, ?_, ?_, R_st ha hr1 hf1 hm2 hf2 hk1⟩
  · rw [nI_0] at e1
    simp only [B_X11_feed_0, B_X11_feed_7, B_X11_feed_33, z_within, z_isCell, z_fin1, z_fin2, z_fin3, z_fin4, z_fin5, Option.bind_some, Option.toList_some, Option.toList_none, List.cons_append, List.nil_append, bI_t, bI_f, i10, i00, i11, i01, ↓reduceIte, Bool.false_eq_true, c1, r_size_ta hr, nI_add, c3, e1]
  · rw [nI_0] at e2
    simp only [B_X12_feed_0, B_X12_feed_7, y_in, y_isCell, y_fin1, y_fin2, y_fin3, y_fin4, y_fin5, Option.bind_some, Option.toList_some, Option.toList_none, List.cons_append, List.nil_append, bI_t, bI_f, i10, i00, i11, i01, ↓reduceIte, Bool.false_eq_true, c1, m_n8 (repM_fr1 hm hf1), nI_add, c3, e2]
