theorem dJ0_isLatin1_aae02_0 : decode cJ0_isLatin1_aae02 0 = .ok (.getstatic 38, 3) := by decide +kernel
theorem dJ0_isLatin1_aae02_6 : decode cJ0_isLatin1_aae02 6 = .ok (.aload_n 0, 1) := by decide +kernel
theorem dJ0_isLatin1_aae02_3 : decode cJ0_isLatin1_aae02 3 = .ok (.ifCond .eq 14, 3) := by decide +kernel
theorem dJ0_isLatin1_aae02_7 : decode cJ0_isLatin1_aae02 7 = .ok (.getfield 15, 3) := by decide +kernel
theorem dJ0_isLatin1_aae02_14 : decode cJ0_isLatin1_aae02 14 = .ok (.goto 4, 3) := by decide +kernel
theorem dJ0_isLatin1_aae02_13 : decode cJ0_isLatin1_aae02 13 = .ok (.iconst 1, 1) := by decide +kernel
theorem dJ0_isLatin1_aae02_10 : decode cJ0_isLatin1_aae02 10 = .ok (.ifCond .ne 7, 3) := by decide +kernel
theorem dJ0_isLatin1_aae02_18 : decode cJ0_isLatin1_aae02 18 = .ok (.ireturn, 1) := by decide +kernel
theorem dJ0_coder_7d493_0 : decode cJ0_coder_7d493 0 = .ok (.getstatic 38, 3) := by decide +kernel
theorem dJ0_coder_7d493_6 : decode cJ0_coder_7d493 6 = .ok (.aload_n 0, 1) := by decide +kernel
theorem dJ0_coder_7d493_3 : decode cJ0_coder_7d493 3 = .ok (.ifCond .eq 10, 3) := by decide +kernel
theorem dJ0_coder_7d493_7 : decode cJ0_coder_7d493 7 = .ok (.getfield 15, 3) := by decide +kernel
theorem dJ0_coder_7d493_10 : decode cJ0_coder_7d493 10 = .ok (.goto 4, 3) := by decide +kernel
theorem dJ0_coder_7d493_14 : decode cJ0_coder_7d493 14 = .ok (.ireturn, 1) := by decide +kernel
theorem dJ0_length_8abf5_0 : decode cJ0_length_8abf5 0 = .ok (.aload_n 0, 1) := by decide +kernel
theorem dJ0_length_8abf5_1 : decode cJ0_length_8abf5 1 = .ok (.getfield 9, 3) := by decide +kernel
theorem dJ0_length_8abf5_4 : decode cJ0_length_8abf5 4 = .ok (.arraylength, 1) := by decide +kernel
theorem dJ0_length_8abf5_5 : decode cJ0_length_8abf5 5 = .ok (.aload_n 0, 1) := by decide +kernel
theorem dJ0_length_8abf5_6 : decode cJ0_length_8abf5 6 = .ok (.invokevirtual 335, 3) := by decide +kernel
theorem dJ0_length_8abf5_9 : decode cJ0_length_8abf5 9 = .ok (.ishr, 1) := by decide +kernel
theorem dJ0_length_8abf5_10 : decode cJ0_length_8abf5 10 = .ok (.ireturn, 1) := by decide +kernel
theorem dJ1_canEncode_9a6ad_1 : decode cJ1_canEncode_9a6ad 1 = .ok (.ifCond .lt 14, 3) := by decide +kernel
theorem dJ1_canEncode_9a6ad_0 : decode cJ1_canEncode_9a6ad 0 = .ok (.iload_n 0, 1) := by decide +kernel
theorem dJ1_canEncode_9a6ad_8 : decode cJ1_canEncode_9a6ad 8 = .ok (.if_icmp .gt 7, 3) := by decide +kernel
theorem dJ1_canEncode_9a6ad_5 : decode cJ1_canEncode_9a6ad 5 = .ok (.sipush 255, 3) := by decide +kernel
theorem dJ1_canEncode_9a6ad_4 : decode cJ1_canEncode_9a6ad 4 = .ok (.iload_n 0, 1) := by decide +kernel
theorem dJ1_canEncode_9a6ad_12 : decode cJ1_canEncode_9a6ad 12 = .ok (.goto 4, 3) := by decide +kernel
theorem dJ1_canEncode_9a6ad_11 : decode cJ1_canEncode_9a6ad 11 = .ok (.iconst 1, 1) := by decide +kernel
theorem dJ1_canEncode_9a6ad_16 : decode cJ1_canEncode_9a6ad 16 = .ok (.ireturn, 1) := by decide +kernel
theorem dJ1_indexOfChar_4cfef_10 : decode cJ1_indexOfChar_4cfef 10 = .ok (.if_icmp .ge 21, 3) := by decide +kernel
theorem dJ1_indexOfChar_4cfef_9 : decode cJ1_indexOfChar_4cfef 9 = .ok (.iload_n 3, 1) := by decide +kernel
theorem dJ1_indexOfChar_4cfef_7 : decode cJ1_indexOfChar_4cfef 7 = .ok (.iload 5, 2) := by decide +kernel
theorem dJ1_indexOfChar_4cfef_31 : decode cJ1_indexOfChar_4cfef 31 = .ok (.iconst (-1), 1) := by decide +kernel
theorem dJ1_indexOfChar_4cfef_32 : decode cJ1_indexOfChar_4cfef 32 = .ok (.ireturn, 1) := by decide +kernel
theorem dJ1_indexOfChar_4cfef_14 : decode cJ1_indexOfChar_4cfef 14 = .ok (.iload 5, 2) := by decide +kernel
theorem dJ1_indexOfChar_4cfef_13 : decode cJ1_indexOfChar_4cfef 13 = .ok (.aload_n 0, 1) := by decide +kernel
theorem dJ1_indexOfChar_4cfef_16 : decode cJ1_indexOfChar_4cfef 16 = .ok (.baload, 1) := by decide +kernel
theorem dJ1_indexOfChar_4cfef_19 : decode cJ1_indexOfChar_4cfef 19 = .ok (.if_icmp .ne 6, 3) := by decide +kernel
theorem dJ1_indexOfChar_4cfef_17 : decode cJ1_indexOfChar_4cfef 17 = .ok (.iload 4, 2) := by decide +kernel
theorem dJ1_indexOfChar_4cfef_22 : decode cJ1_indexOfChar_4cfef 22 = .ok (.iload 5, 2) := by decide +kernel
theorem dJ1_indexOfChar_4cfef_24 : decode cJ1_indexOfChar_4cfef 24 = .ok (.ireturn, 1) := by decide +kernel
theorem dJ1_indexOfChar_4cfef_28 : decode cJ1_indexOfChar_4cfef 28 = .ok (.goto (-21), 3) := by decide +kernel
theorem dJ1_indexOfChar_4cfef_25 : decode cJ1_indexOfChar_4cfef 25 = .ok (.iinc 5 1, 3) := by decide +kernel
theorem dJ1_indexOfChar_4cfef_5 : decode cJ1_indexOfChar_4cfef 5 = .ok (.istore 5, 2) := by decide +kernel
theorem dJ1_indexOfChar_4cfef_4 : decode cJ1_indexOfChar_4cfef 4 = .ok (.iload_n 2, 1) := by decide +kernel
theorem dJ1_indexOfChar_4cfef_2 : decode cJ1_indexOfChar_4cfef 2 = .ok (.istore 4, 2) := by decide +kernel
theorem dJ1_indexOfChar_4cfef_1 : decode cJ1_indexOfChar_4cfef 1 = .ok (.i2b, 1) := by decide +kernel
theorem dJ1_indexOfChar_4cfef_0 : decode cJ1_indexOfChar_4cfef 0 = .ok (.iload_n 1, 1) := by decide +kernel
theorem dJ1_indexOf_4cfef_0 : decode cJ1_indexOf_4cfef 0 = .ok (.iload_n 1, 1) := by decide +kernel
theorem dJ1_indexOf_4cfef_1 : decode cJ1_indexOf_4cfef 1 = .ok (.invokestatic 88, 3) := by decide +kernel
theorem dJ1_indexOf_4cfef_10 : decode cJ1_indexOf_4cfef 10 = .ok (.iconst 0, 1) := by decide +kernel
theorem dJ1_indexOf_4cfef_9 : decode cJ1_indexOf_4cfef 9 = .ok (.iload_n 2, 1) := by decide +kernel
theorem dJ1_indexOf_4cfef_4 : decode cJ1_indexOf_4cfef 4 = .ok (.ifCond .ne 5, 3) := by decide +kernel
theorem dJ1_indexOf_4cfef_11 : decode cJ1_indexOf_4cfef 11 = .ok (.invokestatic 92, 3) := by decide +kernel
theorem dJ1_indexOf_4cfef_16 : decode cJ1_indexOf_4cfef 16 = .ok (.aload_n 0, 1) := by decide +kernel
theorem dJ1_indexOf_4cfef_15 : decode cJ1_indexOf_4cfef 15 = .ok (.iload_n 3, 1) := by decide +kernel
theorem dJ1_indexOf_4cfef_14 : decode cJ1_indexOf_4cfef 14 = .ok (.istore_n 2, 1) := by decide +kernel
theorem dJ1_indexOf_4cfef_17 : decode cJ1_indexOf_4cfef 17 = .ok (.arraylength, 1) := by decide +kernel
theorem dJ1_indexOf_4cfef_18 : decode cJ1_indexOf_4cfef 18 = .ok (.invokestatic 38, 3) := by decide +kernel
theorem dJ1_indexOf_4cfef_32 : decode cJ1_indexOf_4cfef 32 = .ok (.iload_n 3, 1) := by decide +kernel
theorem dJ1_indexOf_4cfef_31 : decode cJ1_indexOf_4cfef 31 = .ok (.iload_n 2, 1) := by decide +kernel
theorem dJ1_indexOf_4cfef_30 : decode cJ1_indexOf_4cfef 30 = .ok (.iload_n 1, 1) := by decide +kernel
theorem dJ1_indexOf_4cfef_29 : decode cJ1_indexOf_4cfef 29 = .ok (.aload_n 0, 1) := by decide +kernel
theorem dJ1_indexOf_4cfef_24 : decode cJ1_indexOf_4cfef 24 = .ok (.if_icmp .lt 5, 3) := by decide +kernel
theorem dJ1_indexOf_4cfef_23 : decode cJ1_indexOf_4cfef 23 = .ok (.iload_n 3, 1) := by decide +kernel
theorem dJ1_indexOf_4cfef_22 : decode cJ1_indexOf_4cfef 22 = .ok (.iload_n 2, 1) := by decide +kernel
theorem dJ1_indexOf_4cfef_21 : decode cJ1_indexOf_4cfef 21 = .ok (.istore_n 3, 1) := by decide +kernel
theorem dJ1_indexOf_4cfef_33 : decode cJ1_indexOf_4cfef 33 = .ok (.invokestatic 95, 3) := by decide +kernel
theorem dJ1_indexOf_4cfef_36 : decode cJ1_indexOf_4cfef 36 = .ok (.ireturn, 1) := by decide +kernel
theorem dJ0_indexOf_7cf53_0 : decode cJ0_indexOf_7cf53 0 = .ok (.aload_n 0, 1) := by decide +kernel
theorem dJ0_indexOf_7cf53_1 : decode cJ0_indexOf_7cf53 1 = .ok (.invokevirtual 492, 3) := by decide +kernel
theorem dJ0_indexOf_7cf53_7 : decode cJ0_indexOf_7cf53 7 = .ok (.aload_n 0, 1) := by decide +kernel
theorem dJ0_indexOf_7cf53_4 : decode cJ0_indexOf_7cf53 4 = .ok (.ifCond .eq 19, 3) := by decide +kernel
theorem dJ0_indexOf_7cf53_8 : decode cJ0_indexOf_7cf53 8 = .ok (.getfield 9, 3) := by decide +kernel
theorem dJ0_indexOf_7cf53_13 : decode cJ0_indexOf_7cf53 13 = .ok (.aload_n 0, 1) := by decide +kernel
theorem dJ0_indexOf_7cf53_12 : decode cJ0_indexOf_7cf53 12 = .ok (.iload_n 2, 1) := by decide +kernel
theorem dJ0_indexOf_7cf53_11 : decode cJ0_indexOf_7cf53 11 = .ok (.iload_n 1, 1) := by decide +kernel
theorem dJ0_indexOf_7cf53_14 : decode cJ0_indexOf_7cf53 14 = .ok (.invokevirtual 505, 3) := by decide +kernel
theorem dJ0_indexOf_7cf53_17 : decode cJ0_indexOf_7cf53 17 = .ok (.invokestatic 637, 3) := by decide +kernel
theorem dJ0_indexOf_7cf53_20 : decode cJ0_indexOf_7cf53 20 = .ok (.goto 16, 3) := by decide +kernel
theorem dJ0_indexOf_7cf53_36 : decode cJ0_indexOf_7cf53 36 = .ok (.ireturn, 1) := by decide +kernel
theorem dJ0_indexOf_0f7a4_2 : decode cJ0_indexOf_0f7a4 2 = .ok (.iconst 0, 1) := by decide +kernel
theorem dJ0_indexOf_0f7a4_1 : decode cJ0_indexOf_0f7a4 1 = .ok (.iload_n 1, 1) := by decide +kernel
theorem dJ0_indexOf_0f7a4_0 : decode cJ0_indexOf_0f7a4 0 = .ok (.aload_n 0, 1) := by decide +kernel
theorem dJ0_indexOf_0f7a4_3 : decode cJ0_indexOf_0f7a4 3 = .ok (.invokevirtual 633, 3) := by decide +kernel
theorem dJ0_indexOf_0f7a4_6 : decode cJ0_indexOf_0f7a4 6 = .ok (.ireturn, 1) := by decide +kernel
section JIX
variable {o : q_H} {g : Nat → Nat → Int32}
theorem q_c_rd (ho : q_oR o) {k j : Nat} (hk : 10 ≤ k ∧ k < 13) : q_rd (q_K o g) (q_M + k) j = .int (q_way k j) := by
  obtain ⟨L, xs, rfl⟩ := ho
  show (if q_M + k < 151 then _ else (if q_M + k = q_M then _ else _)) = _
  rw [if_neg (by unfold q_M; omega), if_neg (by omega), Nat.add_sub_cancel_left]
  rfl
theorem q_c_sh (ho : q_oR o) {k : Nat} (hk : 10 ≤ k ∧ k < 13) : (q_K o g).2.1 (q_M + k) = ((q_sl2.getD k (0, [])).1, (q_sl2.getD k (0, [])).2.length) := by
  obtain ⟨L, xs, rfl⟩ := ho
  show (if q_M + k < 151 then _ else (if q_M + k < q_M then _ else if q_M + k = q_M then _ else _)) = _
  rw [if_neg (by unfold q_M; omega), if_neg (by omega), if_neg (by omega), Nat.add_sub_cancel_left]
theorem q_c_kd : ∀ k, k < 13 → 10 ≤ k → (q_sl2.getD k (0, [])).1 = 103 := by decide +kernel
theorem k_cbald (ho : q_oR o) {d pc k j : Nat} {Y : q_MI} {ls st : List Value} {i : Int32} (hk : 10 ≤ k ∧ k < 13) (hd : decode Y.2.2.1 pc = .ok (.baload, 1)) (hi : i = nI j) (hj : j < (q_sl2.getD k (0, [])).2.length ∧ (q_sl2.getD k (0, [])).2.length < 2 ^ 31) : q_sem d Y pc ls (.int i :: .ref (q_M + k) :: st) (q_K o g) = q_sem d Y (pc + 1) ls (.int (q_way k j) :: st) (q_K o g) := by
  subst hi
  have hs := q_c_sh (g := g) ho hk
  refine q_s5E hd rfl rfl rfl rfl rfl rfl ?_
  unfold q_s5
  dsimp only
  have hv := vp_in_nI hj.1 hj.2
  have h1 : q_ln (q_K o g) (q_M + k) = (q_sl2.getD k (0, [])).2.length := by unfold q_ln; rw [hs]
  have h2 : q_kd (q_K o g) (q_M + k) = 103 := by unfold q_kd; rw [hs]; exact q_c_kd k hk.2 hk.1
  rw [if_pos rfl, if_pos ⟨by rw [h1]; exact hv, Or.inr ⟨Nat.add_le_add_left hk.1 _, Nat.add_lt_add_left hk.2 _, h2⟩⟩, nI_clamp (Nat.lt_trans hj.1 hj.2), q_c_rd ho hk]
theorem k_clen (ho : q_oR o) {d pc k : Nat} {Y : q_MI} {ls st : List Value} (hk : 10 ≤ k ∧ k < 13) (hd : decode Y.2.2.1 pc = .ok (.arraylength, 1)) : q_sem d Y pc ls (.ref (q_M + k) :: st) (q_K o g) = q_sem d Y (pc + 1) ls (.int (Int32.ofNat (q_sl2.getD k (0, [])).2.length) :: st) (q_K o g) := by
  have hs := q_c_sh (g := g) ho hk
  refine q_s5E hd rfl rfl rfl rfl rfl rfl ?_
  unfold q_s5
  dsimp only
  have h1 : q_ln (q_K o g) (q_M + k) = (q_sl2.getD k (0, [])).2.length := by unfold q_ln; rw [hs]
  have h2 : q_kd (q_K o g) (q_M + k) = 103 := by unfold q_kd; rw [hs]; exact q_c_kd k hk.2 hk.1
  rw [if_pos rfl, if_pos (Or.inr (Or.inr ⟨Nat.add_le_add_left hk.1 _, Nat.add_lt_add_left hk.2 _, h2⟩)), h1]
theorem j_latin0 (d : Nat) : q_sem d mJ0_isLatin1_aae02 0 [.ref (q_M + 7)] [] (q_K o g) = some (some (.int 1), q_K o g) := by
  refine (q_s4E (Y := mJ0_isLatin1_aae02) (pc2 := 3) (st2 := [.int 1]) dJ0_isLatin1_aae02_0 rfl rfl rfl rfl rfl rfl).trans ?_
  refine (q_blk (Y := mJ0_isLatin1_aae02) (q_dcC dJ0_isLatin1_aae02_3 (q_dcC dJ0_isLatin1_aae02_6 q_dcN)) (show _ = some (7, [.ref (q_M + 7)], [.ref (q_M + 7)]) from rfl)).trans ?_
  refine (q_s4E (Y := mJ0_isLatin1_aae02) (pc2 := 10) (st2 := [.int 0]) dJ0_isLatin1_aae02_7 rfl rfl rfl rfl rfl rfl).trans ?_
  refine (q_blk (Y := mJ0_isLatin1_aae02) (q_dcC dJ0_isLatin1_aae02_10 (q_dcC dJ0_isLatin1_aae02_13 (q_dcC dJ0_isLatin1_aae02_14 q_dcN))) (show _ = some (18, [.ref (q_M + 7)], [.int 1]) from rfl)).trans ?_
  exact q_retE dJ0_isLatin1_aae02_18 rfl
theorem j_coder0 (d : Nat) : q_sem d mJ0_coder_7d493 0 [.ref (q_M + 7)] [] (q_K o g) = some (some (.int 0), q_K o g) := by
  refine (q_s4E (Y := mJ0_coder_7d493) (pc2 := 3) (st2 := [.int 1]) dJ0_coder_7d493_0 rfl rfl rfl rfl rfl rfl).trans ?_
  refine (q_blk (Y := mJ0_coder_7d493) (q_dcC dJ0_coder_7d493_3 (q_dcC dJ0_coder_7d493_6 q_dcN)) (show _ = some (7, [.ref (q_M + 7)], [.ref (q_M + 7)]) from rfl)).trans ?_
  refine (q_s4E (Y := mJ0_coder_7d493) (pc2 := 10) (st2 := [.int 0]) dJ0_coder_7d493_7 rfl rfl rfl rfl rfl rfl).trans ?_
  refine (q_blk (Y := mJ0_coder_7d493) (q_dcC dJ0_coder_7d493_10 q_dcN) (show _ = some (14, [.ref (q_M + 7)], [.int 0]) from rfl)).trans ?_
  exact q_retE dJ0_coder_7d493_14 rfl
theorem j_length0 (ho : q_oR o) (d : Nat) : q_sem (d + 1) mJ0_length_8abf5 0 [.ref (q_M + 7)] [] (q_K o g) = some (some (.int 4), q_K o g) := by
  refine (q_blk (Y := mJ0_length_8abf5) (q_dcC dJ0_length_8abf5_0 q_dcN) (show _ = some (1, [.ref (q_M + 7)], [.ref (q_M + 7)]) from rfl)).trans ?_
  refine (q_s4E (Y := mJ0_length_8abf5) (pc2 := 4) (st2 := [.ref (q_M + 10)]) dJ0_length_8abf5_1 rfl rfl rfl rfl rfl rfl).trans ?_
  refine (k_clen (Y := mJ0_length_8abf5) ho (by decide) dJ0_length_8abf5_4).trans ?_
  refine (q_blk (Y := mJ0_length_8abf5) (q_dcC dJ0_length_8abf5_5 q_dcN) (show _ = some (6, [.ref (q_M + 7)], [.ref (q_M + 7), .int 4]) from rfl)).trans ?_
  refine (q_calE (Y := mJ0_length_8abf5) (Z := mJ0_coder_7d493) (vs := [.ref (q_M + 7)]) (rest := [.int 4]) dJ0_length_8abf5_6 rfl rfl (Nat.le_of_ble_eq_true rfl) (j_coder0 d)).trans ?_
  refine (q_blk (Y := mJ0_length_8abf5) (q_dcC dJ0_length_8abf5_9 q_dcN) (show _ = some (10, [.ref (q_M + 7)], [.int 4]) from rfl)).trans ?_
  exact q_retE dJ0_length_8abf5_10 rfl
theorem j_latin1 (d : Nat) : q_sem d mJ0_isLatin1_aae02 0 [.ref (q_M + 8)] [] (q_K o g) = some (some (.int 1), q_K o g) := by
  refine (q_s4E (Y := mJ0_isLatin1_aae02) (pc2 := 3) (st2 := [.int 1]) dJ0_isLatin1_aae02_0 rfl rfl rfl rfl rfl rfl).trans ?_
  refine (q_blk (Y := mJ0_isLatin1_aae02) (q_dcC dJ0_isLatin1_aae02_3 (q_dcC dJ0_isLatin1_aae02_6 q_dcN)) (show _ = some (7, [.ref (q_M + 8)], [.ref (q_M + 8)]) from rfl)).trans ?_
  refine (q_s4E (Y := mJ0_isLatin1_aae02) (pc2 := 10) (st2 := [.int 0]) dJ0_isLatin1_aae02_7 rfl rfl rfl rfl rfl rfl).trans ?_
  refine (q_blk (Y := mJ0_isLatin1_aae02) (q_dcC dJ0_isLatin1_aae02_10 (q_dcC dJ0_isLatin1_aae02_13 (q_dcC dJ0_isLatin1_aae02_14 q_dcN))) (show _ = some (18, [.ref (q_M + 8)], [.int 1]) from rfl)).trans ?_
  exact q_retE dJ0_isLatin1_aae02_18 rfl
theorem j_coder1 (d : Nat) : q_sem d mJ0_coder_7d493 0 [.ref (q_M + 8)] [] (q_K o g) = some (some (.int 0), q_K o g) := by
  refine (q_s4E (Y := mJ0_coder_7d493) (pc2 := 3) (st2 := [.int 1]) dJ0_coder_7d493_0 rfl rfl rfl rfl rfl rfl).trans ?_
  refine (q_blk (Y := mJ0_coder_7d493) (q_dcC dJ0_coder_7d493_3 (q_dcC dJ0_coder_7d493_6 q_dcN)) (show _ = some (7, [.ref (q_M + 8)], [.ref (q_M + 8)]) from rfl)).trans ?_
  refine (q_s4E (Y := mJ0_coder_7d493) (pc2 := 10) (st2 := [.int 0]) dJ0_coder_7d493_7 rfl rfl rfl rfl rfl rfl).trans ?_
  refine (q_blk (Y := mJ0_coder_7d493) (q_dcC dJ0_coder_7d493_10 q_dcN) (show _ = some (14, [.ref (q_M + 8)], [.int 0]) from rfl)).trans ?_
  exact q_retE dJ0_coder_7d493_14 rfl
theorem j_length1 (ho : q_oR o) (d : Nat) : q_sem (d + 1) mJ0_length_8abf5 0 [.ref (q_M + 8)] [] (q_K o g) = some (some (.int 4), q_K o g) := by
  refine (q_blk (Y := mJ0_length_8abf5) (q_dcC dJ0_length_8abf5_0 q_dcN) (show _ = some (1, [.ref (q_M + 8)], [.ref (q_M + 8)]) from rfl)).trans ?_
  refine (q_s4E (Y := mJ0_length_8abf5) (pc2 := 4) (st2 := [.ref (q_M + 11)]) dJ0_length_8abf5_1 rfl rfl rfl rfl rfl rfl).trans ?_
  refine (k_clen (Y := mJ0_length_8abf5) ho (by decide) dJ0_length_8abf5_4).trans ?_
  refine (q_blk (Y := mJ0_length_8abf5) (q_dcC dJ0_length_8abf5_5 q_dcN) (show _ = some (6, [.ref (q_M + 8)], [.ref (q_M + 8), .int 4]) from rfl)).trans ?_
  refine (q_calE (Y := mJ0_length_8abf5) (Z := mJ0_coder_7d493) (vs := [.ref (q_M + 8)]) (rest := [.int 4]) dJ0_length_8abf5_6 rfl rfl (Nat.le_of_ble_eq_true rfl) (j_coder1 d)).trans ?_
  refine (q_blk (Y := mJ0_length_8abf5) (q_dcC dJ0_length_8abf5_9 q_dcN) (show _ = some (10, [.ref (q_M + 8)], [.int 4]) from rfl)).trans ?_
  exact q_retE dJ0_length_8abf5_10 rfl
theorem j_latin2 (d : Nat) : q_sem d mJ0_isLatin1_aae02 0 [.ref (q_M + 9)] [] (q_K o g) = some (some (.int 1), q_K o g) := by
  refine (q_s4E (Y := mJ0_isLatin1_aae02) (pc2 := 3) (st2 := [.int 1]) dJ0_isLatin1_aae02_0 rfl rfl rfl rfl rfl rfl).trans ?_
  refine (q_blk (Y := mJ0_isLatin1_aae02) (q_dcC dJ0_isLatin1_aae02_3 (q_dcC dJ0_isLatin1_aae02_6 q_dcN)) (show _ = some (7, [.ref (q_M + 9)], [.ref (q_M + 9)]) from rfl)).trans ?_
  refine (q_s4E (Y := mJ0_isLatin1_aae02) (pc2 := 10) (st2 := [.int 0]) dJ0_isLatin1_aae02_7 rfl rfl rfl rfl rfl rfl).trans ?_
  refine (q_blk (Y := mJ0_isLatin1_aae02) (q_dcC dJ0_isLatin1_aae02_10 (q_dcC dJ0_isLatin1_aae02_13 (q_dcC dJ0_isLatin1_aae02_14 q_dcN))) (show _ = some (18, [.ref (q_M + 9)], [.int 1]) from rfl)).trans ?_
  exact q_retE dJ0_isLatin1_aae02_18 rfl
theorem j_coder2 (d : Nat) : q_sem d mJ0_coder_7d493 0 [.ref (q_M + 9)] [] (q_K o g) = some (some (.int 0), q_K o g) := by
  refine (q_s4E (Y := mJ0_coder_7d493) (pc2 := 3) (st2 := [.int 1]) dJ0_coder_7d493_0 rfl rfl rfl rfl rfl rfl).trans ?_
  refine (q_blk (Y := mJ0_coder_7d493) (q_dcC dJ0_coder_7d493_3 (q_dcC dJ0_coder_7d493_6 q_dcN)) (show _ = some (7, [.ref (q_M + 9)], [.ref (q_M + 9)]) from rfl)).trans ?_
  refine (q_s4E (Y := mJ0_coder_7d493) (pc2 := 10) (st2 := [.int 0]) dJ0_coder_7d493_7 rfl rfl rfl rfl rfl rfl).trans ?_
  refine (q_blk (Y := mJ0_coder_7d493) (q_dcC dJ0_coder_7d493_10 q_dcN) (show _ = some (14, [.ref (q_M + 9)], [.int 0]) from rfl)).trans ?_
  exact q_retE dJ0_coder_7d493_14 rfl
theorem j_length2 (ho : q_oR o) (d : Nat) : q_sem (d + 1) mJ0_length_8abf5 0 [.ref (q_M + 9)] [] (q_K o g) = some (some (.int 2), q_K o g) := by
  refine (q_blk (Y := mJ0_length_8abf5) (q_dcC dJ0_length_8abf5_0 q_dcN) (show _ = some (1, [.ref (q_M + 9)], [.ref (q_M + 9)]) from rfl)).trans ?_
  refine (q_s4E (Y := mJ0_length_8abf5) (pc2 := 4) (st2 := [.ref (q_M + 12)]) dJ0_length_8abf5_1 rfl rfl rfl rfl rfl rfl).trans ?_
  refine (k_clen (Y := mJ0_length_8abf5) ho (by decide) dJ0_length_8abf5_4).trans ?_
  refine (q_blk (Y := mJ0_length_8abf5) (q_dcC dJ0_length_8abf5_5 q_dcN) (show _ = some (6, [.ref (q_M + 9)], [.ref (q_M + 9), .int 2]) from rfl)).trans ?_
  refine (q_calE (Y := mJ0_length_8abf5) (Z := mJ0_coder_7d493) (vs := [.ref (q_M + 9)]) (rest := [.int 2]) dJ0_length_8abf5_6 rfl rfl (Nat.le_of_ble_eq_true rfl) (j_coder2 d)).trans ?_
  refine (q_blk (Y := mJ0_length_8abf5) (q_dcC dJ0_length_8abf5_9 q_dcN) (show _ = some (10, [.ref (q_M + 9)], [.int 2]) from rfl)).trans ?_
  exact q_retE dJ0_length_8abf5_10 rfl
theorem j_can (d : Nat) {x : Nat} (hx : x < 256) : q_sem d mJ1_canEncode_9a6ad 0 [.int (nI x)] [] (q_K o g) = some (some (.int 1), q_K o g) := by
  have c1 : q_cc .lt (nI x) 0 = false := decide_eq_false (nI_pos (by omega))
  have c2 : q_cc .gt (nI x) 255 = false := decide_eq_false (show ¬ (255 : Int32) < nI x from nI_nlt (a := 255) (by omega) (by omega))
  refine (q_blk (Y := mJ1_canEncode_9a6ad) (q_dcC dJ1_canEncode_9a6ad_0 (q_dcC dJ1_canEncode_9a6ad_1 q_dcN)) (show _ = some ((if q_cc .lt (nI x) 0 = true then 15 else 4), [.int (nI x)], []) from rfl)).trans ?_
  rw [c1, if_neg (by decide)]
  refine (q_blk (Y := mJ1_canEncode_9a6ad) (q_dcC dJ1_canEncode_9a6ad_4 (q_dcC dJ1_canEncode_9a6ad_5 (q_dcC dJ1_canEncode_9a6ad_8 q_dcN))) (show _ = some ((if q_cc .gt (nI x) 255 = true then 15 else 11), [.int (nI x)], []) from rfl)).trans ?_
  rw [c2, if_neg (by decide)]
  refine (q_blk (Y := mJ1_canEncode_9a6ad) (q_dcC dJ1_canEncode_9a6ad_11 (q_dcC dJ1_canEncode_9a6ad_12 q_dcN)) (show _ = some (16, [.int (nI x)], [.int 1]) from rfl)).trans ?_
  exact q_retE dJ1_canEncode_9a6ad_16 rfl
theorem j_char (ho : q_oR o) {k len : Nat} (hk : 10 ≤ k ∧ k < 13) (hlen : (q_sl2.getD k (0, [])).2.length = len) (hl : len ≤ 4) (d : Nat) (x1 x2 v : Int32) : ∀ t j, j + t = len → q_sem d mJ1_indexOfChar_4cfef 7 [.ref (q_M + k), .int x1, .int x2, .int (nI len), .int v, .int (nI j)] [] (q_K o g) = some (some (.int (if q_fst (fun i => decide (q_way k i = v)) t j < len then nI (q_fst (fun i => decide (q_way k i = v)) t j) else -1)), q_K o g) := by
  intro t
  induction t with
  | zero =>
    intro j hj
    obtain rfl : j = len := by omega
    have c1 : q_cc .ge (nI j) (nI j) = true := decide_eq_true (nI_le (Nat.le_refl _) (by omega))
    refine (q_blk (Y := mJ1_indexOfChar_4cfef) (q_dcC dJ1_indexOfChar_4cfef_7 (q_dcC dJ1_indexOfChar_4cfef_9 (q_dcC dJ1_indexOfChar_4cfef_10 q_dcN))) (show _ = some ((if q_cc .ge (nI j) (nI j) = true then 31 else 13), [.ref (q_M + k), .int x1, .int x2, .int (nI j), .int v, .int (nI j)], []) from rfl)).trans ?_
    rw [c1, if_pos rfl]
    refine (q_blk (Y := mJ1_indexOfChar_4cfef) (q_dcC dJ1_indexOfChar_4cfef_31 q_dcN) (show _ = some (32, [.ref (q_M + k), .int x1, .int x2, .int (nI j), .int v, .int (nI j)], [.int (-1)]) from rfl)).trans ?_
    rw [show q_fst (fun i => decide (q_way k i = v)) 0 j = j from rfl, if_neg (Nat.lt_irrefl _)]
    exact k_iret dJ1_indexOfChar_4cfef_32 rfl
  | succ t ih =>
    intro j hj
    have c1 : q_cc .ge (nI j) (nI len) = false := decide_eq_false (nI_ge (by omega) (by omega))
    refine (q_blk (Y := mJ1_indexOfChar_4cfef) (q_dcC dJ1_indexOfChar_4cfef_7 (q_dcC dJ1_indexOfChar_4cfef_9 (q_dcC dJ1_indexOfChar_4cfef_10 q_dcN))) (show _ = some ((if q_cc .ge (nI j) (nI len) = true then 31 else 13), [.ref (q_M + k), .int x1, .int x2, .int (nI len), .int v, .int (nI j)], []) from rfl)).trans ?_
    rw [c1, if_neg (by decide)]
    refine (q_blk (Y := mJ1_indexOfChar_4cfef) (q_dcC dJ1_indexOfChar_4cfef_13 (q_dcC dJ1_indexOfChar_4cfef_14 q_dcN)) (show _ = some (16, [.ref (q_M + k), .int x1, .int x2, .int (nI len), .int v, .int (nI j)], [.int (nI j), .ref (q_M + k)]) from rfl)).trans ?_
    refine (k_cbald (Y := mJ1_indexOfChar_4cfef) ho hk dJ1_indexOfChar_4cfef_16 rfl ⟨by omega, by omega⟩).trans ?_
    rw [q_fst_s]
    by_cases e : q_way k j = v
    · have c2 : q_cc .ne (q_way k j) v = false := by rw [e]; exact decide_eq_false (fun z => z rfl)
      refine (q_blk (Y := mJ1_indexOfChar_4cfef) (q_dcC dJ1_indexOfChar_4cfef_17 (q_dcC dJ1_indexOfChar_4cfef_19 q_dcN)) (show _ = some ((if q_cc .ne (q_way k j) v = true then 25 else 22), [.ref (q_M + k), .int x1, .int x2, .int (nI len), .int v, .int (nI j)], []) from rfl)).trans ?_
      rw [c2, if_neg (by decide), decide_eq_true e, if_pos rfl, if_pos (show j < len by omega)]
      refine (q_blk (Y := mJ1_indexOfChar_4cfef) (q_dcC dJ1_indexOfChar_4cfef_22 q_dcN) (show _ = some (24, [.ref (q_M + k), .int x1, .int x2, .int (nI len), .int v, .int (nI j)], [.int (nI j)]) from rfl)).trans ?_
      exact k_iret dJ1_indexOfChar_4cfef_24 rfl
    · have c2 : q_cc .ne (q_way k j) v = true := decide_eq_true e
      refine (q_blk (Y := mJ1_indexOfChar_4cfef) (q_dcC dJ1_indexOfChar_4cfef_17 (q_dcC dJ1_indexOfChar_4cfef_19 q_dcN)) (show _ = some ((if q_cc .ne (q_way k j) v = true then 25 else 22), [.ref (q_M + k), .int x1, .int x2, .int (nI len), .int v, .int (nI j)], []) from rfl)).trans ?_
      rw [c2, if_pos rfl]
      simp only [decide_eq_false e, Bool.false_eq_true, ↓reduceIte]
      refine (q_blk (Y := mJ1_indexOfChar_4cfef) (q_dcC dJ1_indexOfChar_4cfef_25 (q_dcC dJ1_indexOfChar_4cfef_28 q_dcN)) (show _ = some (7, [.ref (q_M + k), .int x1, .int x2, .int (nI len), .int v, .int (nI j + 1)], []) from rfl)).trans ?_
      rw [nI_1]
      exact ih (j + 1) (by omega)
theorem j_idx0 (ho : q_oR o) (d : Nat) {x : Nat} (hx : x < 256) : q_sem (d + 3) mJ0_indexOf_0f7a4 0 [.ref (q_M + 7), .int (nI x)] [] (q_K o g) = some (some (.int (if q_fst (fun i => decide (q_way 10 i = (nI x).toInt8.toInt32)) 4 0 < 4 then nI (q_fst (fun i => decide (q_way 10 i = (nI x).toInt8.toInt32)) 4 0) else -1)), q_K o g) := by
  have hch : q_sem d mJ1_indexOfChar_4cfef 0 [.ref (q_M + 10), .int (nI x), .int 0, .int 4, .retAddr 0, .retAddr 0] [] (q_K o g) = some (some (.int (if q_fst (fun i => decide (q_way 10 i = (nI x).toInt8.toInt32)) 4 0 < 4 then nI (q_fst (fun i => decide (q_way 10 i = (nI x).toInt8.toInt32)) 4 0) else -1)), q_K o g) := by
    refine (q_blk (Y := mJ1_indexOfChar_4cfef) (q_dcC dJ1_indexOfChar_4cfef_0 (q_dcC dJ1_indexOfChar_4cfef_1 (q_dcC dJ1_indexOfChar_4cfef_2 (q_dcC dJ1_indexOfChar_4cfef_4 (q_dcC dJ1_indexOfChar_4cfef_5 q_dcN))))) (show _ = some (7, [.ref (q_M + 10), .int (nI x), .int 0, .int 4, .int (nI x).toInt8.toInt32, .int 0], []) from rfl)).trans ?_
    exact j_char (g := g) ho (k := 10) (len := 4) (by decide) rfl (by decide) d (nI x) 0 (nI x).toInt8.toInt32 4 0 rfl
  generalize (if q_fst (fun i => decide (q_way 10 i = (nI x).toInt8.toInt32)) 4 0 < 4 then nI (q_fst (fun i => decide (q_way 10 i = (nI x).toInt8.toInt32)) 4 0) else -1) = res at *
  have hK : q_sem (d + 1) mJ1_indexOf_4cfef 0 [.ref (q_M + 10), .int (nI x), .int 0, .int 4] [] (q_K o g) = some (some (.int res), q_K o g) := by
    refine (q_blk (Y := mJ1_indexOf_4cfef) (q_dcC dJ1_indexOf_4cfef_0 q_dcN) (show _ = some (1, [.ref (q_M + 10), .int (nI x), .int 0, .int 4], [.int (nI x)]) from rfl)).trans ?_
    refine (q_calE (Y := mJ1_indexOf_4cfef) (Z := mJ1_canEncode_9a6ad) (vs := [.int (nI x)]) (rest := []) dJ1_indexOf_4cfef_1 rfl rfl (Nat.le_of_ble_eq_true rfl) (j_can d hx)).trans ?_
    refine (q_blk (Y := mJ1_indexOf_4cfef) (q_dcC dJ1_indexOf_4cfef_4 (q_dcC dJ1_indexOf_4cfef_9 (q_dcC dJ1_indexOf_4cfef_10 q_dcN))) (show _ = some (11, [.ref (q_M + 10), .int (nI x), .int 0, .int 4], [.int 0, .int 0]) from rfl)).trans ?_
    refine (q_s4E (Y := mJ1_indexOf_4cfef) (pc2 := 14) (st2 := [.int 0]) dJ1_indexOf_4cfef_11 rfl rfl rfl rfl rfl rfl).trans ?_
    refine (q_blk (Y := mJ1_indexOf_4cfef) (q_dcC dJ1_indexOf_4cfef_14 (q_dcC dJ1_indexOf_4cfef_15 (q_dcC dJ1_indexOf_4cfef_16 q_dcN))) (show _ = some (17, [.ref (q_M + 10), .int (nI x), .int 0, .int 4], [.ref (q_M + 10), .int 4]) from rfl)).trans ?_
    refine (k_clen (Y := mJ1_indexOf_4cfef) ho (by decide) dJ1_indexOf_4cfef_17).trans ?_
    refine (q_s4E (Y := mJ1_indexOf_4cfef) (pc2 := 21) (st2 := [.int 4]) dJ1_indexOf_4cfef_18 rfl rfl rfl rfl rfl rfl).trans ?_
    refine (q_blk (Y := mJ1_indexOf_4cfef) (q_dcC dJ1_indexOf_4cfef_21 (q_dcC dJ1_indexOf_4cfef_22 (q_dcC dJ1_indexOf_4cfef_23 (q_dcC dJ1_indexOf_4cfef_24 (q_dcC dJ1_indexOf_4cfef_29 (q_dcC dJ1_indexOf_4cfef_30 (q_dcC dJ1_indexOf_4cfef_31 (q_dcC dJ1_indexOf_4cfef_32 q_dcN)))))))) (show _ = some (33, [.ref (q_M + 10), .int (nI x), .int 0, .int 4], [.int 4, .int 0, .int (nI x), .ref (q_M + 10)]) from rfl)).trans ?_
    refine (q_calE (Y := mJ1_indexOf_4cfef) (Z := mJ1_indexOfChar_4cfef) (vs := [.ref (q_M + 10), .int (nI x), .int 0, .int 4]) (rest := []) dJ1_indexOf_4cfef_33 rfl rfl (Nat.le_of_ble_eq_true rfl) hch).trans ?_
    exact k_iret dJ1_indexOf_4cfef_36 rfl
  have hJ : q_sem (d + 2) mJ0_indexOf_7cf53 0 [.ref (q_M + 7), .int (nI x), .int 0] [] (q_K o g) = some (some (.int res), q_K o g) := by
    refine (q_blk (Y := mJ0_indexOf_7cf53) (q_dcC dJ0_indexOf_7cf53_0 q_dcN) (show _ = some (1, [.ref (q_M + 7), .int (nI x), .int 0], [.ref (q_M + 7)]) from rfl)).trans ?_
    refine (q_calE (Y := mJ0_indexOf_7cf53) (Z := mJ0_isLatin1_aae02) (vs := [.ref (q_M + 7)]) (rest := []) dJ0_indexOf_7cf53_1 rfl rfl (Nat.le_of_ble_eq_true rfl) (j_latin0 (d + 1))).trans ?_
    refine (q_blk (Y := mJ0_indexOf_7cf53) (q_dcC dJ0_indexOf_7cf53_4 (q_dcC dJ0_indexOf_7cf53_7 q_dcN)) (show _ = some (8, [.ref (q_M + 7), .int (nI x), .int 0], [.ref (q_M + 7)]) from rfl)).trans ?_
    refine (q_s4E (Y := mJ0_indexOf_7cf53) (pc2 := 11) (st2 := [.ref (q_M + 10)]) dJ0_indexOf_7cf53_8 rfl rfl rfl rfl rfl rfl).trans ?_
    refine (q_blk (Y := mJ0_indexOf_7cf53) (q_dcC dJ0_indexOf_7cf53_11 (q_dcC dJ0_indexOf_7cf53_12 (q_dcC dJ0_indexOf_7cf53_13 q_dcN))) (show _ = some (14, [.ref (q_M + 7), .int (nI x), .int 0], [.ref (q_M + 7), .int 0, .int (nI x), .ref (q_M + 10)]) from rfl)).trans ?_
    refine (q_calE (Y := mJ0_indexOf_7cf53) (Z := mJ0_length_8abf5) (vs := [.ref (q_M + 7)]) (rest := [.int 0, .int (nI x), .ref (q_M + 10)]) dJ0_indexOf_7cf53_14 rfl rfl (Nat.le_of_ble_eq_true rfl) (j_length0 ho d)).trans ?_
    refine (q_calE (Y := mJ0_indexOf_7cf53) (Z := mJ1_indexOf_4cfef) (vs := [.ref (q_M + 10), .int (nI x), .int 0, .int 4]) (rest := []) dJ0_indexOf_7cf53_17 rfl rfl (Nat.le_of_ble_eq_true rfl) hK).trans ?_
    refine (q_blk (Y := mJ0_indexOf_7cf53) (q_dcC dJ0_indexOf_7cf53_20 q_dcN) (show _ = some (36, [.ref (q_M + 7), .int (nI x), .int 0], [.int res]) from rfl)).trans ?_
    exact k_iret dJ0_indexOf_7cf53_36 rfl
  refine (q_blk (Y := mJ0_indexOf_0f7a4) (q_dcC dJ0_indexOf_0f7a4_0 (q_dcC dJ0_indexOf_0f7a4_1 (q_dcC dJ0_indexOf_0f7a4_2 q_dcN))) (show _ = some (3, [.ref (q_M + 7), .int (nI x)], [.int 0, .int (nI x), .ref (q_M + 7)]) from rfl)).trans ?_
  refine (q_calE (Y := mJ0_indexOf_0f7a4) (Z := mJ0_indexOf_7cf53) (vs := [.ref (q_M + 7), .int (nI x), .int 0]) (rest := []) dJ0_indexOf_0f7a4_3 rfl rfl (Nat.le_of_ble_eq_true rfl) hJ).trans ?_
  exact k_iret dJ0_indexOf_0f7a4_6 rfl
theorem j_idx1 (ho : q_oR o) (d : Nat) {x : Nat} (hx : x < 256) : q_sem (d + 3) mJ0_indexOf_0f7a4 0 [.ref (q_M + 8), .int (nI x)] [] (q_K o g) = some (some (.int (if q_fst (fun i => decide (q_way 11 i = (nI x).toInt8.toInt32)) 4 0 < 4 then nI (q_fst (fun i => decide (q_way 11 i = (nI x).toInt8.toInt32)) 4 0) else -1)), q_K o g) := by
  have hch : q_sem d mJ1_indexOfChar_4cfef 0 [.ref (q_M + 11), .int (nI x), .int 0, .int 4, .retAddr 0, .retAddr 0] [] (q_K o g) = some (some (.int (if q_fst (fun i => decide (q_way 11 i = (nI x).toInt8.toInt32)) 4 0 < 4 then nI (q_fst (fun i => decide (q_way 11 i = (nI x).toInt8.toInt32)) 4 0) else -1)), q_K o g) := by
    refine (q_blk (Y := mJ1_indexOfChar_4cfef) (q_dcC dJ1_indexOfChar_4cfef_0 (q_dcC dJ1_indexOfChar_4cfef_1 (q_dcC dJ1_indexOfChar_4cfef_2 (q_dcC dJ1_indexOfChar_4cfef_4 (q_dcC dJ1_indexOfChar_4cfef_5 q_dcN))))) (show _ = some (7, [.ref (q_M + 11), .int (nI x), .int 0, .int 4, .int (nI x).toInt8.toInt32, .int 0], []) from rfl)).trans ?_
    exact j_char (g := g) ho (k := 11) (len := 4) (by decide) rfl (by decide) d (nI x) 0 (nI x).toInt8.toInt32 4 0 rfl
  generalize (if q_fst (fun i => decide (q_way 11 i = (nI x).toInt8.toInt32)) 4 0 < 4 then nI (q_fst (fun i => decide (q_way 11 i = (nI x).toInt8.toInt32)) 4 0) else -1) = res at *
  have hK : q_sem (d + 1) mJ1_indexOf_4cfef 0 [.ref (q_M + 11), .int (nI x), .int 0, .int 4] [] (q_K o g) = some (some (.int res), q_K o g) := by
    refine (q_blk (Y := mJ1_indexOf_4cfef) (q_dcC dJ1_indexOf_4cfef_0 q_dcN) (show _ = some (1, [.ref (q_M + 11), .int (nI x), .int 0, .int 4], [.int (nI x)]) from rfl)).trans ?_
    refine (q_calE (Y := mJ1_indexOf_4cfef) (Z := mJ1_canEncode_9a6ad) (vs := [.int (nI x)]) (rest := []) dJ1_indexOf_4cfef_1 rfl rfl (Nat.le_of_ble_eq_true rfl) (j_can d hx)).trans ?_
    refine (q_blk (Y := mJ1_indexOf_4cfef) (q_dcC dJ1_indexOf_4cfef_4 (q_dcC dJ1_indexOf_4cfef_9 (q_dcC dJ1_indexOf_4cfef_10 q_dcN))) (show _ = some (11, [.ref (q_M + 11), .int (nI x), .int 0, .int 4], [.int 0, .int 0]) from rfl)).trans ?_
    refine (q_s4E (Y := mJ1_indexOf_4cfef) (pc2 := 14) (st2 := [.int 0]) dJ1_indexOf_4cfef_11 rfl rfl rfl rfl rfl rfl).trans ?_
    refine (q_blk (Y := mJ1_indexOf_4cfef) (q_dcC dJ1_indexOf_4cfef_14 (q_dcC dJ1_indexOf_4cfef_15 (q_dcC dJ1_indexOf_4cfef_16 q_dcN))) (show _ = some (17, [.ref (q_M + 11), .int (nI x), .int 0, .int 4], [.ref (q_M + 11), .int 4]) from rfl)).trans ?_
    refine (k_clen (Y := mJ1_indexOf_4cfef) ho (by decide) dJ1_indexOf_4cfef_17).trans ?_
    refine (q_s4E (Y := mJ1_indexOf_4cfef) (pc2 := 21) (st2 := [.int 4]) dJ1_indexOf_4cfef_18 rfl rfl rfl rfl rfl rfl).trans ?_
    refine (q_blk (Y := mJ1_indexOf_4cfef) (q_dcC dJ1_indexOf_4cfef_21 (q_dcC dJ1_indexOf_4cfef_22 (q_dcC dJ1_indexOf_4cfef_23 (q_dcC dJ1_indexOf_4cfef_24 (q_dcC dJ1_indexOf_4cfef_29 (q_dcC dJ1_indexOf_4cfef_30 (q_dcC dJ1_indexOf_4cfef_31 (q_dcC dJ1_indexOf_4cfef_32 q_dcN)))))))) (show _ = some (33, [.ref (q_M + 11), .int (nI x), .int 0, .int 4], [.int 4, .int 0, .int (nI x), .ref (q_M + 11)]) from rfl)).trans ?_
    refine (q_calE (Y := mJ1_indexOf_4cfef) (Z := mJ1_indexOfChar_4cfef) (vs := [.ref (q_M + 11), .int (nI x), .int 0, .int 4]) (rest := []) dJ1_indexOf_4cfef_33 rfl rfl (Nat.le_of_ble_eq_true rfl) hch).trans ?_
    exact k_iret dJ1_indexOf_4cfef_36 rfl
  have hJ : q_sem (d + 2) mJ0_indexOf_7cf53 0 [.ref (q_M + 8), .int (nI x), .int 0] [] (q_K o g) = some (some (.int res), q_K o g) := by
    refine (q_blk (Y := mJ0_indexOf_7cf53) (q_dcC dJ0_indexOf_7cf53_0 q_dcN) (show _ = some (1, [.ref (q_M + 8), .int (nI x), .int 0], [.ref (q_M + 8)]) from rfl)).trans ?_
    refine (q_calE (Y := mJ0_indexOf_7cf53) (Z := mJ0_isLatin1_aae02) (vs := [.ref (q_M + 8)]) (rest := []) dJ0_indexOf_7cf53_1 rfl rfl (Nat.le_of_ble_eq_true rfl) (j_latin1 (d + 1))).trans ?_
    refine (q_blk (Y := mJ0_indexOf_7cf53) (q_dcC dJ0_indexOf_7cf53_4 (q_dcC dJ0_indexOf_7cf53_7 q_dcN)) (show _ = some (8, [.ref (q_M + 8), .int (nI x), .int 0], [.ref (q_M + 8)]) from rfl)).trans ?_
    refine (q_s4E (Y := mJ0_indexOf_7cf53) (pc2 := 11) (st2 := [.ref (q_M + 11)]) dJ0_indexOf_7cf53_8 rfl rfl rfl rfl rfl rfl).trans ?_
    refine (q_blk (Y := mJ0_indexOf_7cf53) (q_dcC dJ0_indexOf_7cf53_11 (q_dcC dJ0_indexOf_7cf53_12 (q_dcC dJ0_indexOf_7cf53_13 q_dcN))) (show _ = some (14, [.ref (q_M + 8), .int (nI x), .int 0], [.ref (q_M + 8), .int 0, .int (nI x), .ref (q_M + 11)]) from rfl)).trans ?_
    refine (q_calE (Y := mJ0_indexOf_7cf53) (Z := mJ0_length_8abf5) (vs := [.ref (q_M + 8)]) (rest := [.int 0, .int (nI x), .ref (q_M + 11)]) dJ0_indexOf_7cf53_14 rfl rfl (Nat.le_of_ble_eq_true rfl) (j_length1 ho d)).trans ?_
    refine (q_calE (Y := mJ0_indexOf_7cf53) (Z := mJ1_indexOf_4cfef) (vs := [.ref (q_M + 11), .int (nI x), .int 0, .int 4]) (rest := []) dJ0_indexOf_7cf53_17 rfl rfl (Nat.le_of_ble_eq_true rfl) hK).trans ?_
    refine (q_blk (Y := mJ0_indexOf_7cf53) (q_dcC dJ0_indexOf_7cf53_20 q_dcN) (show _ = some (36, [.ref (q_M + 8), .int (nI x), .int 0], [.int res]) from rfl)).trans ?_
    exact k_iret dJ0_indexOf_7cf53_36 rfl
  refine (q_blk (Y := mJ0_indexOf_0f7a4) (q_dcC dJ0_indexOf_0f7a4_0 (q_dcC dJ0_indexOf_0f7a4_1 (q_dcC dJ0_indexOf_0f7a4_2 q_dcN))) (show _ = some (3, [.ref (q_M + 8), .int (nI x)], [.int 0, .int (nI x), .ref (q_M + 8)]) from rfl)).trans ?_
  refine (q_calE (Y := mJ0_indexOf_0f7a4) (Z := mJ0_indexOf_7cf53) (vs := [.ref (q_M + 8), .int (nI x), .int 0]) (rest := []) dJ0_indexOf_0f7a4_3 rfl rfl (Nat.le_of_ble_eq_true rfl) hJ).trans ?_
  exact k_iret dJ0_indexOf_0f7a4_6 rfl
theorem j_idx2 (ho : q_oR o) (d : Nat) {x : Nat} (hx : x < 256) : q_sem (d + 3) mJ0_indexOf_0f7a4 0 [.ref (q_M + 9), .int (nI x)] [] (q_K o g) = some (some (.int (if q_fst (fun i => decide (q_way 12 i = (nI x).toInt8.toInt32)) 2 0 < 2 then nI (q_fst (fun i => decide (q_way 12 i = (nI x).toInt8.toInt32)) 2 0) else -1)), q_K o g) := by
  have hch : q_sem d mJ1_indexOfChar_4cfef 0 [.ref (q_M + 12), .int (nI x), .int 0, .int 2, .retAddr 0, .retAddr 0] [] (q_K o g) = some (some (.int (if q_fst (fun i => decide (q_way 12 i = (nI x).toInt8.toInt32)) 2 0 < 2 then nI (q_fst (fun i => decide (q_way 12 i = (nI x).toInt8.toInt32)) 2 0) else -1)), q_K o g) := by
    refine (q_blk (Y := mJ1_indexOfChar_4cfef) (q_dcC dJ1_indexOfChar_4cfef_0 (q_dcC dJ1_indexOfChar_4cfef_1 (q_dcC dJ1_indexOfChar_4cfef_2 (q_dcC dJ1_indexOfChar_4cfef_4 (q_dcC dJ1_indexOfChar_4cfef_5 q_dcN))))) (show _ = some (7, [.ref (q_M + 12), .int (nI x), .int 0, .int 2, .int (nI x).toInt8.toInt32, .int 0], []) from rfl)).trans ?_
    exact j_char (g := g) ho (k := 12) (len := 2) (by decide) rfl (by decide) d (nI x) 0 (nI x).toInt8.toInt32 2 0 rfl
  generalize (if q_fst (fun i => decide (q_way 12 i = (nI x).toInt8.toInt32)) 2 0 < 2 then nI (q_fst (fun i => decide (q_way 12 i = (nI x).toInt8.toInt32)) 2 0) else -1) = res at *
  have hK : q_sem (d + 1) mJ1_indexOf_4cfef 0 [.ref (q_M + 12), .int (nI x), .int 0, .int 2] [] (q_K o g) = some (some (.int res), q_K o g) := by
    refine (q_blk (Y := mJ1_indexOf_4cfef) (q_dcC dJ1_indexOf_4cfef_0 q_dcN) (show _ = some (1, [.ref (q_M + 12), .int (nI x), .int 0, .int 2], [.int (nI x)]) from rfl)).trans ?_
    refine (q_calE (Y := mJ1_indexOf_4cfef) (Z := mJ1_canEncode_9a6ad) (vs := [.int (nI x)]) (rest := []) dJ1_indexOf_4cfef_1 rfl rfl (Nat.le_of_ble_eq_true rfl) (j_can d hx)).trans ?_
    refine (q_blk (Y := mJ1_indexOf_4cfef) (q_dcC dJ1_indexOf_4cfef_4 (q_dcC dJ1_indexOf_4cfef_9 (q_dcC dJ1_indexOf_4cfef_10 q_dcN))) (show _ = some (11, [.ref (q_M + 12), .int (nI x), .int 0, .int 2], [.int 0, .int 0]) from rfl)).trans ?_
    refine (q_s4E (Y := mJ1_indexOf_4cfef) (pc2 := 14) (st2 := [.int 0]) dJ1_indexOf_4cfef_11 rfl rfl rfl rfl rfl rfl).trans ?_
    refine (q_blk (Y := mJ1_indexOf_4cfef) (q_dcC dJ1_indexOf_4cfef_14 (q_dcC dJ1_indexOf_4cfef_15 (q_dcC dJ1_indexOf_4cfef_16 q_dcN))) (show _ = some (17, [.ref (q_M + 12), .int (nI x), .int 0, .int 2], [.ref (q_M + 12), .int 2]) from rfl)).trans ?_
    refine (k_clen (Y := mJ1_indexOf_4cfef) ho (by decide) dJ1_indexOf_4cfef_17).trans ?_
    refine (q_s4E (Y := mJ1_indexOf_4cfef) (pc2 := 21) (st2 := [.int 2]) dJ1_indexOf_4cfef_18 rfl rfl rfl rfl rfl rfl).trans ?_
    refine (q_blk (Y := mJ1_indexOf_4cfef) (q_dcC dJ1_indexOf_4cfef_21 (q_dcC dJ1_indexOf_4cfef_22 (q_dcC dJ1_indexOf_4cfef_23 (q_dcC dJ1_indexOf_4cfef_24 (q_dcC dJ1_indexOf_4cfef_29 (q_dcC dJ1_indexOf_4cfef_30 (q_dcC dJ1_indexOf_4cfef_31 (q_dcC dJ1_indexOf_4cfef_32 q_dcN)))))))) (show _ = some (33, [.ref (q_M + 12), .int (nI x), .int 0, .int 2], [.int 2, .int 0, .int (nI x), .ref (q_M + 12)]) from rfl)).trans ?_
    refine (q_calE (Y := mJ1_indexOf_4cfef) (Z := mJ1_indexOfChar_4cfef) (vs := [.ref (q_M + 12), .int (nI x), .int 0, .int 2]) (rest := []) dJ1_indexOf_4cfef_33 rfl rfl (Nat.le_of_ble_eq_true rfl) hch).trans ?_
    exact k_iret dJ1_indexOf_4cfef_36 rfl
  have hJ : q_sem (d + 2) mJ0_indexOf_7cf53 0 [.ref (q_M + 9), .int (nI x), .int 0] [] (q_K o g) = some (some (.int res), q_K o g) := by
    refine (q_blk (Y := mJ0_indexOf_7cf53) (q_dcC dJ0_indexOf_7cf53_0 q_dcN) (show _ = some (1, [.ref (q_M + 9), .int (nI x), .int 0], [.ref (q_M + 9)]) from rfl)).trans ?_
    refine (q_calE (Y := mJ0_indexOf_7cf53) (Z := mJ0_isLatin1_aae02) (vs := [.ref (q_M + 9)]) (rest := []) dJ0_indexOf_7cf53_1 rfl rfl (Nat.le_of_ble_eq_true rfl) (j_latin2 (d + 1))).trans ?_
    refine (q_blk (Y := mJ0_indexOf_7cf53) (q_dcC dJ0_indexOf_7cf53_4 (q_dcC dJ0_indexOf_7cf53_7 q_dcN)) (show _ = some (8, [.ref (q_M + 9), .int (nI x), .int 0], [.ref (q_M + 9)]) from rfl)).trans ?_
    refine (q_s4E (Y := mJ0_indexOf_7cf53) (pc2 := 11) (st2 := [.ref (q_M + 12)]) dJ0_indexOf_7cf53_8 rfl rfl rfl rfl rfl rfl).trans ?_
    refine (q_blk (Y := mJ0_indexOf_7cf53) (q_dcC dJ0_indexOf_7cf53_11 (q_dcC dJ0_indexOf_7cf53_12 (q_dcC dJ0_indexOf_7cf53_13 q_dcN))) (show _ = some (14, [.ref (q_M + 9), .int (nI x), .int 0], [.ref (q_M + 9), .int 0, .int (nI x), .ref (q_M + 12)]) from rfl)).trans ?_
    refine (q_calE (Y := mJ0_indexOf_7cf53) (Z := mJ0_length_8abf5) (vs := [.ref (q_M + 9)]) (rest := [.int 0, .int (nI x), .ref (q_M + 12)]) dJ0_indexOf_7cf53_14 rfl rfl (Nat.le_of_ble_eq_true rfl) (j_length2 ho d)).trans ?_
    refine (q_calE (Y := mJ0_indexOf_7cf53) (Z := mJ1_indexOf_4cfef) (vs := [.ref (q_M + 12), .int (nI x), .int 0, .int 2]) (rest := []) dJ0_indexOf_7cf53_17 rfl rfl (Nat.le_of_ble_eq_true rfl) hK).trans ?_
    refine (q_blk (Y := mJ0_indexOf_7cf53) (q_dcC dJ0_indexOf_7cf53_20 q_dcN) (show _ = some (36, [.ref (q_M + 9), .int (nI x), .int 0], [.int res]) from rfl)).trans ?_
    exact k_iret dJ0_indexOf_7cf53_36 rfl
  refine (q_blk (Y := mJ0_indexOf_0f7a4) (q_dcC dJ0_indexOf_0f7a4_0 (q_dcC dJ0_indexOf_0f7a4_1 (q_dcC dJ0_indexOf_0f7a4_2 q_dcN))) (show _ = some (3, [.ref (q_M + 9), .int (nI x)], [.int 0, .int (nI x), .ref (q_M + 9)]) from rfl)).trans ?_
  refine (q_calE (Y := mJ0_indexOf_0f7a4) (Z := mJ0_indexOf_7cf53) (vs := [.ref (q_M + 9), .int (nI x), .int 0]) (rest := []) dJ0_indexOf_0f7a4_3 rfl rfl (Nat.le_of_ble_eq_true rfl) hJ).trans ?_
  exact k_iret dJ0_indexOf_0f7a4_6 rfl
end JIX
