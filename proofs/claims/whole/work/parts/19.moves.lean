theorem dX3_isCell_1 : decode cX3_isCell 1 = .ok (.ifCond .lt 14, 3) := by decide +kernel
theorem dX3_isCell_0 : decode cX3_isCell 0 = .ok (.iload_n 0, 1) := by decide +kernel
theorem dX3_isCell_15 : decode cX3_isCell 15 = .ok (.iconst 0, 1) := by decide +kernel
theorem dX3_isCell_16 : decode cX3_isCell 16 = .ok (.ireturn, 1) := by decide +kernel
theorem dX3_isCell_8 : decode cX3_isCell 8 = .ok (.if_icmp .ge 7, 3) := by decide +kernel
theorem dX3_isCell_5 : decode cX3_isCell 5 = .ok (.sipush 256, 3) := by decide +kernel
theorem dX3_isCell_4 : decode cX3_isCell 4 = .ok (.iload_n 0, 1) := by decide +kernel
theorem dX3_isCell_12 : decode cX3_isCell 12 = .ok (.goto 4, 3) := by decide +kernel
theorem dX3_isCell_11 : decode cX3_isCell 11 = .ok (.iconst 1, 1) := by decide +kernel
theorem dX3_apart_8 : decode cX3_apart 8 = .ok (.isub, 1) := by decide +kernel
theorem dX3_apart_7 : decode cX3_apart 7 = .ok (.iand, 1) := by decide +kernel
theorem dX3_apart_5 : decode cX3_apart 5 = .ok (.bipush 15, 2) := by decide +kernel
theorem dX3_apart_4 : decode cX3_apart 4 = .ok (.iload_n 1, 1) := by decide +kernel
theorem dX3_apart_3 : decode cX3_apart 3 = .ok (.iand, 1) := by decide +kernel
theorem dX3_apart_1 : decode cX3_apart 1 = .ok (.bipush 15, 2) := by decide +kernel
theorem dX3_apart_0 : decode cX3_apart 0 = .ok (.iload_n 0, 1) := by decide +kernel
theorem dX3_apart_9 : decode cX3_apart 9 = .ok (.invokestatic 9, 3) := by decide +kernel
theorem dX3_apart_18 : decode cX3_apart 18 = .ok (.isub, 1) := by decide +kernel
theorem dX3_apart_17 : decode cX3_apart 17 = .ok (.ishr, 1) := by decide +kernel
theorem dX3_apart_16 : decode cX3_apart 16 = .ok (.iconst 4, 1) := by decide +kernel
theorem dX3_apart_15 : decode cX3_apart 15 = .ok (.iload_n 1, 1) := by decide +kernel
theorem dX3_apart_14 : decode cX3_apart 14 = .ok (.ishr, 1) := by decide +kernel
theorem dX3_apart_13 : decode cX3_apart 13 = .ok (.iconst 4, 1) := by decide +kernel
theorem dX3_apart_12 : decode cX3_apart 12 = .ok (.iload_n 0, 1) := by decide +kernel
theorem dX3_apart_19 : decode cX3_apart 19 = .ok (.invokestatic 9, 3) := by decide +kernel
theorem dX3_apart_22 : decode cX3_apart 22 = .ok (.invokestatic 15, 3) := by decide +kernel
theorem dX3_apart_25 : decode cX3_apart 25 = .ok (.ireturn, 1) := by decide +kernel
theorem dX3_reaches_31 : decode cX3_reaches 31 = .ok (.if_icmp .gt 7, 3) := by decide +kernel
theorem dX3_reaches_30 : decode cX3_reaches 30 = .ok (.imul, 1) := by decide +kernel
theorem dX3_reaches_29 : decode cX3_reaches 29 = .ok (.iload_n 2, 1) := by decide +kernel
theorem dX3_reaches_28 : decode cX3_reaches 28 = .ok (.iload_n 2, 1) := by decide +kernel
theorem dX3_reaches_27 : decode cX3_reaches 27 = .ok (.iadd, 1) := by decide +kernel
theorem dX3_reaches_26 : decode cX3_reaches 26 = .ok (.imul, 1) := by decide +kernel
theorem dX3_reaches_24 : decode cX3_reaches 24 = .ok (.iload 4, 2) := by decide +kernel
theorem dX3_reaches_22 : decode cX3_reaches 22 = .ok (.iload 4, 2) := by decide +kernel
theorem dX3_reaches_21 : decode cX3_reaches 21 = .ok (.imul, 1) := by decide +kernel
theorem dX3_reaches_20 : decode cX3_reaches 20 = .ok (.iload_n 3, 1) := by decide +kernel
theorem dX3_reaches_19 : decode cX3_reaches 19 = .ok (.iload_n 3, 1) := by decide +kernel
theorem dX3_reaches_17 : decode cX3_reaches 17 = .ok (.istore 4, 2) := by decide +kernel
theorem dX3_reaches_16 : decode cX3_reaches 16 = .ok (.isub, 1) := by decide +kernel
theorem dX3_reaches_15 : decode cX3_reaches 15 = .ok (.ishr, 1) := by decide +kernel
theorem dX3_reaches_14 : decode cX3_reaches 14 = .ok (.iconst 4, 1) := by decide +kernel
theorem dX3_reaches_13 : decode cX3_reaches 13 = .ok (.iload_n 1, 1) := by decide +kernel
theorem dX3_reaches_12 : decode cX3_reaches 12 = .ok (.ishr, 1) := by decide +kernel
theorem dX3_reaches_11 : decode cX3_reaches 11 = .ok (.iconst 4, 1) := by decide +kernel
theorem dX3_reaches_10 : decode cX3_reaches 10 = .ok (.iload_n 0, 1) := by decide +kernel
theorem dX3_reaches_9 : decode cX3_reaches 9 = .ok (.istore_n 3, 1) := by decide +kernel
theorem dX3_reaches_8 : decode cX3_reaches 8 = .ok (.isub, 1) := by decide +kernel
theorem dX3_reaches_7 : decode cX3_reaches 7 = .ok (.iand, 1) := by decide +kernel
theorem dX3_reaches_5 : decode cX3_reaches 5 = .ok (.bipush 15, 2) := by decide +kernel
theorem dX3_reaches_4 : decode cX3_reaches 4 = .ok (.iload_n 1, 1) := by decide +kernel
theorem dX3_reaches_3 : decode cX3_reaches 3 = .ok (.iand, 1) := by decide +kernel
theorem dX3_reaches_1 : decode cX3_reaches 1 = .ok (.bipush 15, 2) := by decide +kernel
theorem dX3_reaches_0 : decode cX3_reaches 0 = .ok (.iload_n 0, 1) := by decide +kernel
theorem dX3_reaches_38 : decode cX3_reaches 38 = .ok (.iconst 0, 1) := by decide +kernel
theorem dX3_reaches_39 : decode cX3_reaches 39 = .ok (.ireturn, 1) := by decide +kernel
theorem dX3_reaches_35 : decode cX3_reaches 35 = .ok (.goto 4, 3) := by decide +kernel
theorem dX3_reaches_34 : decode cX3_reaches 34 = .ok (.iconst 1, 1) := by decide +kernel
theorem dX3_sign_1 : decode cX3_sign 1 = .ok (.ifCond .le 7, 3) := by decide +kernel
theorem dX3_sign_0 : decode cX3_sign 0 = .ok (.iload_n 0, 1) := by decide +kernel
theorem dX3_sign_9 : decode cX3_sign 9 = .ok (.ifCond .ge 7, 3) := by decide +kernel
theorem dX3_sign_8 : decode cX3_sign 8 = .ok (.iload_n 0, 1) := by decide +kernel
theorem dX3_sign_16 : decode cX3_sign 16 = .ok (.iconst 0, 1) := by decide +kernel
theorem dX3_sign_17 : decode cX3_sign 17 = .ok (.ireturn, 1) := by decide +kernel
theorem dX3_sign_13 : decode cX3_sign 13 = .ok (.goto 4, 3) := by decide +kernel
theorem dX3_sign_12 : decode cX3_sign 12 = .ok (.iconst (-1), 1) := by decide +kernel
theorem dX3_sign_5 : decode cX3_sign 5 = .ok (.goto 12, 3) := by decide +kernel
theorem dX3_sign_4 : decode cX3_sign 4 = .ok (.iconst 1, 1) := by decide +kernel
theorem dX3_stepped_12 : decode cX3_stepped 12 = .ok (.isub, 1) := by decide +kernel
theorem dX3_stepped_11 : decode cX3_stepped 11 = .ok (.iand, 1) := by decide +kernel
theorem dX3_stepped_9 : decode cX3_stepped 9 = .ok (.bipush 15, 2) := by decide +kernel
theorem dX3_stepped_8 : decode cX3_stepped 8 = .ok (.iload_n 0, 1) := by decide +kernel
theorem dX3_stepped_7 : decode cX3_stepped 7 = .ok (.iand, 1) := by decide +kernel
theorem dX3_stepped_5 : decode cX3_stepped 5 = .ok (.bipush 15, 2) := by decide +kernel
theorem dX3_stepped_4 : decode cX3_stepped 4 = .ok (.iload_n 1, 1) := by decide +kernel
theorem dX3_stepped_3 : decode cX3_stepped 3 = .ok (.iand, 1) := by decide +kernel
theorem dX3_stepped_1 : decode cX3_stepped 1 = .ok (.bipush 15, 2) := by decide +kernel
theorem dX3_stepped_0 : decode cX3_stepped 0 = .ok (.iload_n 0, 1) := by decide +kernel
theorem dX3_stepped_13 : decode cX3_stepped 13 = .ok (.invokestatic 35, 3) := by decide +kernel
theorem dX3_stepped_27 : decode cX3_stepped 27 = .ok (.isub, 1) := by decide +kernel
theorem dX3_stepped_26 : decode cX3_stepped 26 = .ok (.ishr, 1) := by decide +kernel
theorem dX3_stepped_25 : decode cX3_stepped 25 = .ok (.iconst 4, 1) := by decide +kernel
theorem dX3_stepped_24 : decode cX3_stepped 24 = .ok (.iload_n 0, 1) := by decide +kernel
theorem dX3_stepped_23 : decode cX3_stepped 23 = .ok (.ishr, 1) := by decide +kernel
theorem dX3_stepped_22 : decode cX3_stepped 22 = .ok (.iconst 4, 1) := by decide +kernel
theorem dX3_stepped_21 : decode cX3_stepped 21 = .ok (.iload_n 1, 1) := by decide +kernel
theorem dX3_stepped_20 : decode cX3_stepped 20 = .ok (.ishr, 1) := by decide +kernel
theorem dX3_stepped_19 : decode cX3_stepped 19 = .ok (.iconst 4, 1) := by decide +kernel
theorem dX3_stepped_18 : decode cX3_stepped 18 = .ok (.iload_n 0, 1) := by decide +kernel
theorem dX3_stepped_17 : decode cX3_stepped 17 = .ok (.istore_n 2, 1) := by decide +kernel
theorem dX3_stepped_16 : decode cX3_stepped 16 = .ok (.iadd, 1) := by decide +kernel
theorem dX3_stepped_28 : decode cX3_stepped 28 = .ok (.invokestatic 35, 3) := by decide +kernel
theorem dX3_stepped_38 : decode cX3_stepped 38 = .ok (.iadd, 1) := by decide +kernel
theorem dX3_stepped_37 : decode cX3_stepped 37 = .ok (.iload_n 2, 1) := by decide +kernel
theorem dX3_stepped_36 : decode cX3_stepped 36 = .ok (.imul, 1) := by decide +kernel
theorem dX3_stepped_35 : decode cX3_stepped 35 = .ok (.iload_n 3, 1) := by decide +kernel
theorem dX3_stepped_33 : decode cX3_stepped 33 = .ok (.bipush 16, 2) := by decide +kernel
theorem dX3_stepped_32 : decode cX3_stepped 32 = .ok (.istore_n 3, 1) := by decide +kernel
theorem dX3_stepped_31 : decode cX3_stepped 31 = .ok (.iadd, 1) := by decide +kernel
theorem dX3_stepped_39 : decode cX3_stepped 39 = .ok (.ireturn, 1) := by decide +kernel
theorem dX3_nearer_1 : decode cX3_nearer 1 = .ok (.iload_n 1, 1) := by decide +kernel
theorem dX3_nearer_0 : decode cX3_nearer 0 = .ok (.iload_n 0, 1) := by decide +kernel
theorem dX3_nearer_2 : decode cX3_nearer 2 = .ok (.invokestatic 32, 3) := by decide +kernel
theorem dX3_nearer_5 : decode cX3_nearer 5 = .ok (.iload_n 1, 1) := by decide +kernel
theorem dX3_nearer_6 : decode cX3_nearer 6 = .ok (.invokestatic 32, 3) := by decide +kernel
theorem dX3_nearer_9 : decode cX3_nearer 9 = .ok (.ireturn, 1) := by decide +kernel
theorem dX3_climbed_2 : decode cX3_climbed 2 = .ok (.if_icmp .ge 14, 3) := by decide +kernel
theorem dX3_climbed_1 : decode cX3_climbed 1 = .ok (.iload_n 1, 1) := by decide +kernel
theorem dX3_climbed_0 : decode cX3_climbed 0 = .ok (.iload_n 0, 1) := by decide +kernel
theorem dX3_climbed_20 : decode cX3_climbed 20 = .ok (.iload_n 1, 1) := by decide +kernel
theorem dX3_climbed_19 : decode cX3_climbed 19 = .ok (.isub, 1) := by decide +kernel
theorem dX3_climbed_17 : decode cX3_climbed 17 = .ok (.bipush 10, 2) := by decide +kernel
theorem dX3_climbed_16 : decode cX3_climbed 16 = .ok (.iload_n 0, 1) := by decide +kernel
theorem dX3_climbed_21 : decode cX3_climbed 21 = .ok (.invokestatic 15, 3) := by decide +kernel
theorem dX3_climbed_24 : decode cX3_climbed 24 = .ok (.ireturn, 1) := by decide +kernel
theorem dX3_climbed_9 : decode cX3_climbed 9 = .ok (.iload_n 1, 1) := by decide +kernel
theorem dX3_climbed_8 : decode cX3_climbed 8 = .ok (.iadd, 1) := by decide +kernel
theorem dX3_climbed_6 : decode cX3_climbed 6 = .ok (.bipush 10, 2) := by decide +kernel
theorem dX3_climbed_5 : decode cX3_climbed 5 = .ok (.iload_n 0, 1) := by decide +kernel
theorem dX3_climbed_10 : decode cX3_climbed 10 = .ok (.invokestatic 38, 3) := by decide +kernel
theorem dX3_climbed_13 : decode cX3_climbed 13 = .ok (.goto 11, 3) := by decide +kernel
theorem dX3_flown_1 : decode cX3_flown 1 = .ok (.ifCond .lt 19, 3) := by decide +kernel
theorem dX3_flown_0 : decode cX3_flown 0 = .ok (.iload_n 1, 1) := by decide +kernel
theorem dX3_flown_20 : decode cX3_flown 20 = .ok (.iconst (-1), 1) := by decide +kernel
theorem dX3_flown_21 : decode cX3_flown 21 = .ok (.ireturn, 1) := by decide +kernel
theorem dX3_flown_4 : decode cX3_flown 4 = .ok (.iload_n 1, 1) := by decide +kernel
theorem dX3_flown_5 : decode cX3_flown 5 = .ok (.getstatic 19, 3) := by decide +kernel
theorem dX3_flown_8 : decode cX3_flown 8 = .ok (.arraylength, 1) := by decide +kernel
theorem dX3_flown_9 : decode cX3_flown 9 = .ok (.if_icmp .ge 11, 3) := by decide +kernel
theorem dX3_flown_12 : decode cX3_flown 12 = .ok (.iload_n 1, 1) := by decide +kernel
theorem dX3_flown_13 : decode cX3_flown 13 = .ok (.getstatic 23, 3) := by decide +kernel
theorem dX3_flown_16 : decode cX3_flown 16 = .ok (.arraylength, 1) := by decide +kernel
theorem dX3_flown_17 : decode cX3_flown 17 = .ok (.if_icmp .lt 5, 3) := by decide +kernel
theorem dX3_flown_26 : decode cX3_flown 26 = .ok (.iload_n 2, 1) := by decide +kernel
theorem dX3_flown_25 : decode cX3_flown 25 = .ok (.iand, 1) := by decide +kernel
theorem dX3_flown_23 : decode cX3_flown 23 = .ok (.bipush 15, 2) := by decide +kernel
theorem dX3_flown_22 : decode cX3_flown 22 = .ok (.iload_n 0, 1) := by decide +kernel
theorem dX3_flown_27 : decode cX3_flown 27 = .ok (.getstatic 19, 3) := by decide +kernel
theorem dX3_flown_30 : decode cX3_flown 30 = .ok (.iload_n 1, 1) := by decide +kernel
theorem dX3_flown_31 : decode cX3_flown 31 = .ok (.iaload, 1) := by decide +kernel
theorem dX3_flown_38 : decode cX3_flown 38 = .ok (.iload_n 2, 1) := by decide +kernel
theorem dX3_flown_37 : decode cX3_flown 37 = .ok (.ishr, 1) := by decide +kernel
theorem dX3_flown_36 : decode cX3_flown 36 = .ok (.iconst 4, 1) := by decide +kernel
theorem dX3_flown_35 : decode cX3_flown 35 = .ok (.iload_n 0, 1) := by decide +kernel
theorem dX3_flown_34 : decode cX3_flown 34 = .ok (.istore_n 3, 1) := by decide +kernel
theorem dX3_flown_33 : decode cX3_flown 33 = .ok (.iadd, 1) := by decide +kernel
theorem dX3_flown_32 : decode cX3_flown 32 = .ok (.imul, 1) := by decide +kernel
theorem dX3_flown_39 : decode cX3_flown 39 = .ok (.getstatic 23, 3) := by decide +kernel
theorem dX3_flown_42 : decode cX3_flown 42 = .ok (.iload_n 1, 1) := by decide +kernel
theorem dX3_flown_43 : decode cX3_flown 43 = .ok (.iaload, 1) := by decide +kernel
theorem dX3_flown_50 : decode cX3_flown 50 = .ok (.bipush 15, 2) := by decide +kernel
theorem dX3_flown_49 : decode cX3_flown 49 = .ok (.iconst 0, 1) := by decide +kernel
theorem dX3_flown_48 : decode cX3_flown 48 = .ok (.iload_n 3, 1) := by decide +kernel
theorem dX3_flown_46 : decode cX3_flown 46 = .ok (.istore 4, 2) := by decide +kernel
theorem dX3_flown_45 : decode cX3_flown 45 = .ok (.iadd, 1) := by decide +kernel
theorem dX3_flown_44 : decode cX3_flown 44 = .ok (.imul, 1) := by decide +kernel
theorem dX3_flown_52 : decode cX3_flown 52 = .ok (.invokestatic 26, 3) := by decide +kernel
theorem dX3_flown_55 : decode cX3_flown 55 = .ok (.ifCond .eq 24, 3) := by decide +kernel
theorem dX3_flown_61 : decode cX3_flown 61 = .ok (.bipush 15, 2) := by decide +kernel
theorem dX3_flown_60 : decode cX3_flown 60 = .ok (.iconst 0, 1) := by decide +kernel
theorem dX3_flown_58 : decode cX3_flown 58 = .ok (.iload 4, 2) := by decide +kernel
theorem dX3_flown_63 : decode cX3_flown 63 = .ok (.invokestatic 26, 3) := by decide +kernel
theorem dX3_flown_66 : decode cX3_flown 66 = .ok (.ifCond .eq 13, 3) := by decide +kernel
theorem dX3_flown_76 : decode cX3_flown 76 = .ok (.goto 4, 3) := by decide +kernel
theorem dX3_flown_75 : decode cX3_flown 75 = .ok (.iadd, 1) := by decide +kernel
theorem dX3_flown_74 : decode cX3_flown 74 = .ok (.iload_n 3, 1) := by decide +kernel
theorem dX3_flown_73 : decode cX3_flown 73 = .ok (.imul, 1) := by decide +kernel
theorem dX3_flown_71 : decode cX3_flown 71 = .ok (.iload 4, 2) := by decide +kernel
theorem dX3_flown_69 : decode cX3_flown 69 = .ok (.bipush 16, 2) := by decide +kernel
theorem dX3_flown_80 : decode cX3_flown 80 = .ok (.ireturn, 1) := by decide +kernel
theorem dX3_flown_79 : decode cX3_flown 79 = .ok (.iconst (-1), 1) := by decide +kernel
section QMV
variable {o : q_H} {g : Nat → Nat → Int32}
def q_oR (o : q_H) : Prop := ∃ (L : Nat) (xs : Nat → Int32), o = q_h0 L xs
def q_way (k j : Nat) : Int32 := (q_sl2.getD k (0, [])).2.getD j 0
section QMW
variable {d : Nat} {Y : q_MI} {pc x : Nat} {ls st : List Value} {k j : Nat} {i : Int32}
theorem k_sta {h : q_H} (hd : decode Y.2.2.1 pc = .ok (.getstatic x, 3)) (hf : q_f2 q_staT Y.1 x = some k) : q_sem d Y pc ls st h = q_sem d Y (pc + 3) ls (.ref (q_M + k) :: st) h :=
  q_s4E hd rfl rfl rfl rfl (by unfold q_s3; rfl) (by unfold q_s4; dsimp only; rw [if_pos rfl, hf])
theorem q_o_rd (ho : q_oR o) (hk : 1 ≤ k ∧ k < 7) : q_rd (q_K o g) (q_M + k) j = .int (q_way k j) := by
  obtain ⟨L, xs, rfl⟩ := ho
  show (if q_M + k < 151 then _ else (if q_M + k = q_M then _ else _)) = _
  rw [if_neg (by unfold q_M; omega), if_neg (by omega), Nat.add_sub_cancel_left]
  rfl
theorem q_o_sh (ho : q_oR o) (hk : 1 ≤ k ∧ k < 7) : (q_K o g).2.1 (q_M + k) = ((q_sl2.getD k (0, [])).1, (q_sl2.getD k (0, [])).2.length) := by
  obtain ⟨L, xs, rfl⟩ := ho
  show (if q_M + k < 151 then _ else (if q_M + k < q_M then _ else if q_M + k = q_M then _ else _)) = _
  rw [if_neg (by unfold q_M; omega), if_neg (by omega), if_neg (by omega), Nat.add_sub_cancel_left]
theorem q_o_kd : ∀ k, k < 7 → 1 ≤ k → (q_sl2.getD k (0, [])).1 = 102 := by decide +kernel
theorem k_roald (ho : q_oR o) (hk : 1 ≤ k ∧ k < 7) (hd : decode Y.2.2.1 pc = .ok (.iaload, 1)) (hi : i = nI j) (hj : j < (q_sl2.getD k (0, [])).2.length ∧ (q_sl2.getD k (0, [])).2.length < 2 ^ 31) : q_sem d Y pc ls (.int i :: .ref (q_M + k) :: st) (q_K o g) = q_sem d Y (pc + 1) ls (.int (q_way k j) :: st) (q_K o g) := by
  subst hi
  have hs := q_o_sh (g := g) ho hk
  refine q_s5E hd rfl rfl rfl rfl rfl rfl ?_
  unfold q_s5
  dsimp only
  have hv := vp_in_nI hj.1 hj.2
  have h1 : q_ln (q_K o g) (q_M + k) = (q_sl2.getD k (0, [])).2.length := by unfold q_ln; rw [hs]
  have h2 : q_kd (q_K o g) (q_M + k) = 102 := by unfold q_kd; rw [hs]; exact q_o_kd k hk.2 hk.1
  rw [if_pos rfl, if_pos ⟨by rw [h1]; exact hv, Or.inr ⟨Nat.le_add_right _ _, Nat.add_lt_add_left hk.2 _, h2⟩⟩, nI_clamp (Nat.lt_trans hj.1 hj.2), q_o_rd ho hk]
theorem k_rolen (ho : q_oR o) (hk : 1 ≤ k ∧ k < 7) (hd : decode Y.2.2.1 pc = .ok (.arraylength, 1)) : q_sem d Y pc ls (.ref (q_M + k) :: st) (q_K o g) = q_sem d Y (pc + 1) ls (.int (Int32.ofNat (q_sl2.getD k (0, [])).2.length) :: st) (q_K o g) := by
  have hs := q_o_sh (g := g) ho hk
  refine q_s5E hd rfl rfl rfl rfl rfl rfl ?_
  unfold q_s5
  dsimp only
  have h1 : q_ln (q_K o g) (q_M + k) = (q_sl2.getD k (0, [])).2.length := by unfold q_ln; rw [hs]
  have h2 : q_kd (q_K o g) (q_M + k) = 102 := by unfold q_kd; rw [hs]; exact q_o_kd k hk.2 hk.1
  rw [if_pos rfl, if_pos (Or.inr (Or.inl ⟨Nat.le_add_right _ _, Nat.add_lt_add_left hk.2 _, h2⟩)), h1]
end QMW
/-! cells: how far apart, steps, ways -/
def q_df (x y : Nat) : Nat := if y ≤ x then x - y else y - x
def q_ap (a b : Nat) : Nat := max (q_df (a % 16) (b % 16)) (q_df (a / 16) (b / 16))
def q_d2 (a b : Nat) : Nat := q_df (a % 16) (b % 16) * q_df (a % 16) (b % 16) + q_df (a / 16) (b / 16) * q_df (a / 16) (b / 16)
def q_stA (x y : Nat) : Nat := if x < y then x + 1 else if y < x then x - 1 else x
def q_sp (a b : Nat) : Nat := 16 * q_stA (a / 16) (b / 16) + q_stA (a % 16) (b % 16)
def q_cl (h to : Int32) : Int32 := if h < to then (if to < h + 10 then to else h + 10) else (if h - 10 < to then to else h - 10)
def q_fX (c w : Nat) (pace : Int32) : Int32 := nI (c % 16) + pace * q_way 2 w
def q_fY (c w : Nat) (pace : Int32) : Int32 := nI (c / 16) + pace * q_way 3 w
def q_fl (c w : Nat) (pace : Int32) : Int32 := if q_wi (q_fX c w pace) 0 15 ∧ q_wi (q_fY c w pace) 0 15 then 16 * q_fY c w pace + q_fX c w pace else -1
theorem m_x {a : Nat} (h : a < 256) : nI a &&& 15 = nI (a % 16) := pk_andN (by omega) 4 rfl
theorem m_y {a : Nat} (h : a < 256) : nI a >>> ((4 : Int32) &&& 31) = nI (a / 16) := pk_shrN (by omega) _ 4 (by decide)
theorem m_dy {a : Nat} (h : a < 256) : nI a / 16 = nI (a / 16) := pk_div (d := 16) (by omega) (by decide) (by decide)
theorem m_dx {a : Nat} (h : a < 256) : nI a - nI a / 16 * 16 = nI (a % 16) := pk_rem (d := 16) (by omega) (by decide) (by decide)
theorem m_abs : ∀ x, x < 16 → ∀ y, y < 16 → (if 0 ≤ nI x - nI y then nI x - nI y else 0 - (nI x - nI y)) = nI (q_df x y) := by decide +kernel
theorem m_abs2 : ∀ x, x < 16 → ∀ y, y < 16 → (if nI x - nI y < 0 then -(nI x - nI y) else nI x - nI y) = nI (q_df x y) := by decide +kernel
theorem m_sq : ∀ x, x < 16 → ∀ y, y < 16 → (nI x - nI y) * (nI x - nI y) = nI (q_df x y * q_df x y) := by decide +kernel
theorem m_df : ∀ x, x < 16 → ∀ y, y < 16 → q_df x y < 16 := by decide +kernel
theorem m_max {a b : Nat} (ha : a < 2 ^ 31) (hb : b < 2 ^ 31) : (if nI a < nI b then nI b else nI a) = nI (max a b) := by
  by_cases h : a < b
  · rw [if_pos (nI_lt h hb), Nat.max_eq_right (by omega)]
  · rw [if_neg (nI_nlt (by omega) ha), Nat.max_eq_left (by omega)]
theorem m_st : ∀ x, x < 16 → ∀ y, y < 16 → nI x + (if 0 < nI y - nI x then 1 else if nI y - nI x < 0 then (-1) else 0) = nI (q_stA x y) := by decide +kernel
theorem m_stB : ∀ x, x < 16 → ∀ y, y < 16 → q_stA x y < 16 := by decide +kernel
theorem q_spB {a b : Nat} (ha : a < 256) (hb : b < 256) : q_sp a b < 256 := by
  have h1 := m_stB (a / 16) (by omega) (b / 16) (by omega)
  have h2 := m_stB (a % 16) (by omega) (b % 16) (by omega)
  unfold q_sp
  omega
theorem q_apB {a b : Nat} (ha : a < 256) (hb : b < 256) : q_ap a b < 16 := by
  have h1 := m_df (a / 16) (by omega) (b / 16) (by omega)
  have h2 := m_df (a % 16) (by omega) (b % 16) (by omega)
  unfold q_ap
  omega
theorem s_isCell (d : Nat) (c : Int32) : q_sem (d + 1) mX3_isCell 0 [.int c] [] (q_K o g) = some (some (.int (if 0 ≤ c ∧ c < 256 then 1 else 0)), q_K o g) := by
  refine (q_blk (Y := mX3_isCell) (q_dcC dX3_isCell_0 (q_dcC dX3_isCell_1 q_dcN)) (show _ = some ((if q_cc .lt c 0 = true then 15 else 4), [.int c], []) from rfl)).trans ?_
  by_cases c1 : c < 0
  · rw [if_pos (show q_cc .lt c 0 = true from decide_eq_true c1)]
    refine (q_blk (Y := mX3_isCell) (q_dcC dX3_isCell_15 q_dcN) (show _ = some (16, [.int c], [.int 0]) from rfl)).trans ?_
    refine (k_iret (Y := mX3_isCell) dX3_isCell_16 rfl).trans ?_
    exact r_b0 (by simp only [q_wi, Int32.lt_iff_toInt_lt, Int32.le_iff_toInt_le] at c1 ⊢; omega)
  · rw [if_neg (show ¬ q_cc .lt c 0 = true from fun z => c1 (of_decide_eq_true z))]
    refine (q_blk (Y := mX3_isCell) (q_dcC dX3_isCell_4 (q_dcC dX3_isCell_5 (q_dcC dX3_isCell_8 q_dcN))) (show _ = some ((if q_cc .ge c 256 = true then 15 else 11), [.int c], []) from rfl)).trans ?_
    by_cases c2 : 256 ≤ c
    · rw [if_pos (show q_cc .ge c 256 = true from decide_eq_true c2)]
      refine (q_blk (Y := mX3_isCell) (q_dcC dX3_isCell_15 q_dcN) (show _ = some (16, [.int c], [.int 0]) from rfl)).trans ?_
      refine (k_iret (Y := mX3_isCell) dX3_isCell_16 rfl).trans ?_
      exact r_b0 (by simp only [q_wi, Int32.lt_iff_toInt_lt, Int32.le_iff_toInt_le] at c1 c2 ⊢; omega)
    · rw [if_neg (show ¬ q_cc .ge c 256 = true from fun z => c2 (of_decide_eq_true z))]
      refine (q_blk (Y := mX3_isCell) (q_dcC dX3_isCell_11 (q_dcC dX3_isCell_12 q_dcN)) (show _ = some (16, [.int c], [.int 1]) from rfl)).trans ?_
      refine (k_iret (Y := mX3_isCell) dX3_isCell_16 rfl).trans ?_
      exact r_b1 (by simp only [q_wi, Int32.lt_iff_toInt_lt, Int32.le_iff_toInt_le] at c1 c2 ⊢; omega)
theorem s_apart (d : Nat) {a b : Nat} (ha : a < 256) (hb : b < 256) : q_sem (d + 1) mX3_apart 0 [.int (nI a), .int (nI b)] [] (q_K o g) = some (some (.int (nI (q_ap a b))), q_K o g) := by
  refine (q_blk (Y := mX3_apart) (q_dcC dX3_apart_0 (q_dcC dX3_apart_1 (q_dcC dX3_apart_3 (q_dcC dX3_apart_4 (q_dcC dX3_apart_5 (q_dcC dX3_apart_7 (q_dcC dX3_apart_8 q_dcN))))))) (show _ = some (9, [.int (nI a), .int (nI b)], [.int (((nI a) &&& 15) - ((nI b) &&& 15))]) from rfl)).trans ?_
  refine (k_abs (Y := mX3_apart) dX3_apart_9 rfl rfl (by decide) (Nat.le_of_ble_eq_true rfl)).trans ?_
  refine (q_blk (Y := mX3_apart) (q_dcC dX3_apart_12 (q_dcC dX3_apart_13 (q_dcC dX3_apart_14 (q_dcC dX3_apart_15 (q_dcC dX3_apart_16 (q_dcC dX3_apart_17 (q_dcC dX3_apart_18 q_dcN))))))) (show _ = some (19, [.int (nI a), .int (nI b)], [.int (((nI a) >>> ((4 : Int32) &&& 31)) - ((nI b) >>> ((4 : Int32) &&& 31))), .int (if 0 ≤ (((nI a) &&& 15) - ((nI b) &&& 15)) then (((nI a) &&& 15) - ((nI b) &&& 15)) else 0 - (((nI a) &&& 15) - ((nI b) &&& 15)))]) from rfl)).trans ?_
  refine (k_abs (Y := mX3_apart) dX3_apart_19 rfl rfl (by decide) (Nat.le_of_ble_eq_true rfl)).trans ?_
  refine (k_max (Y := mX3_apart) dX3_apart_22 rfl rfl (by decide) (by decide) (Nat.le_of_ble_eq_true rfl)).trans ?_
  refine (k_iret (Y := mX3_apart) dX3_apart_25 rfl).trans ?_
  rw [m_x ha, m_x hb, m_y ha, m_y hb, m_abs _ (by omega) _ (by omega), m_abs _ (by omega) _ (by omega), m_max (by have := m_df (a % 16) (by omega) (b % 16) (by omega); omega) (by have := m_df (a / 16) (by omega) (b / 16) (by omega); omega)]
  rfl
theorem s_reaches (d : Nat) {a b : Nat} (ha : a < 256) (hb : b < 256) (r : Int32) : q_sem (d + 1) mX3_reaches 0 [.int (nI a), .int (nI b), .int r, .retAddr 0, .retAddr 0] [] (q_K o g) = some (some (.int (if nI (q_d2 a b) ≤ r * r then 1 else 0)), q_K o g) := by
  refine (q_blk (Y := mX3_reaches) (q_dcC dX3_reaches_0 (q_dcC dX3_reaches_1 (q_dcC dX3_reaches_3 (q_dcC dX3_reaches_4 (q_dcC dX3_reaches_5 (q_dcC dX3_reaches_7 (q_dcC dX3_reaches_8 (q_dcC dX3_reaches_9 (q_dcC dX3_reaches_10 (q_dcC dX3_reaches_11 (q_dcC dX3_reaches_12 (q_dcC dX3_reaches_13 (q_dcC dX3_reaches_14 (q_dcC dX3_reaches_15 (q_dcC dX3_reaches_16 (q_dcC dX3_reaches_17 (q_dcC dX3_reaches_19 (q_dcC dX3_reaches_20 (q_dcC dX3_reaches_21 (q_dcC dX3_reaches_22 (q_dcC dX3_reaches_24 (q_dcC dX3_reaches_26 (q_dcC dX3_reaches_27 (q_dcC dX3_reaches_28 (q_dcC dX3_reaches_29 (q_dcC dX3_reaches_30 (q_dcC dX3_reaches_31 q_dcN))))))))))))))))))))))))))) (show _ = some ((if q_cc .gt (((((nI a) &&& 15) - ((nI b) &&& 15)) * (((nI a) &&& 15) - ((nI b) &&& 15))) + ((((nI a) >>> ((4 : Int32) &&& 31)) - ((nI b) >>> ((4 : Int32) &&& 31))) * (((nI a) >>> ((4 : Int32) &&& 31)) - ((nI b) >>> ((4 : Int32) &&& 31))))) (r * r) = true then 38 else 34), [.int (nI a), .int (nI b), .int r, .int (((nI a) &&& 15) - ((nI b) &&& 15)), .int (((nI a) >>> ((4 : Int32) &&& 31)) - ((nI b) >>> ((4 : Int32) &&& 31)))], []) from rfl)).trans ?_
  by_cases c1 : (r * r) < (((((nI a) &&& 15) - ((nI b) &&& 15)) * (((nI a) &&& 15) - ((nI b) &&& 15))) + ((((nI a) >>> ((4 : Int32) &&& 31)) - ((nI b) >>> ((4 : Int32) &&& 31))) * (((nI a) >>> ((4 : Int32) &&& 31)) - ((nI b) >>> ((4 : Int32) &&& 31)))))
  · rw [if_pos (show q_cc .gt (((((nI a) &&& 15) - ((nI b) &&& 15)) * (((nI a) &&& 15) - ((nI b) &&& 15))) + ((((nI a) >>> ((4 : Int32) &&& 31)) - ((nI b) >>> ((4 : Int32) &&& 31))) * (((nI a) >>> ((4 : Int32) &&& 31)) - ((nI b) >>> ((4 : Int32) &&& 31))))) (r * r) = true from decide_eq_true c1)]
    refine (q_blk (Y := mX3_reaches) (q_dcC dX3_reaches_38 q_dcN) (show _ = some (39, [.int (nI a), .int (nI b), .int r, .int (((nI a) &&& 15) - ((nI b) &&& 15)), .int (((nI a) >>> ((4 : Int32) &&& 31)) - ((nI b) >>> ((4 : Int32) &&& 31)))], [.int 0]) from rfl)).trans ?_
    refine (k_iret (Y := mX3_reaches) dX3_reaches_39 rfl).trans ?_
    rw [m_x ha, m_x hb, m_y ha, m_y hb, m_sq _ (by omega) _ (by omega), m_sq _ (by omega) _ (by omega), nI_add] at c1
    exact r_b0 (fun z => by rw [Int32.lt_iff_toInt_lt] at c1; rw [Int32.le_iff_toInt_le] at z; unfold q_d2 at z; omega)
  · rw [if_neg (show ¬ q_cc .gt (((((nI a) &&& 15) - ((nI b) &&& 15)) * (((nI a) &&& 15) - ((nI b) &&& 15))) + ((((nI a) >>> ((4 : Int32) &&& 31)) - ((nI b) >>> ((4 : Int32) &&& 31))) * (((nI a) >>> ((4 : Int32) &&& 31)) - ((nI b) >>> ((4 : Int32) &&& 31))))) (r * r) = true from fun z => c1 (of_decide_eq_true z))]
    refine (q_blk (Y := mX3_reaches) (q_dcC dX3_reaches_34 (q_dcC dX3_reaches_35 q_dcN)) (show _ = some (39, [.int (nI a), .int (nI b), .int r, .int (((nI a) &&& 15) - ((nI b) &&& 15)), .int (((nI a) >>> ((4 : Int32) &&& 31)) - ((nI b) >>> ((4 : Int32) &&& 31)))], [.int 1]) from rfl)).trans ?_
    refine (k_iret (Y := mX3_reaches) dX3_reaches_39 rfl).trans ?_
    rw [m_x ha, m_x hb, m_y ha, m_y hb, m_sq _ (by omega) _ (by omega), m_sq _ (by omega) _ (by omega), nI_add] at c1
    exact r_b1 (by rw [Int32.lt_iff_toInt_lt] at c1; rw [Int32.le_iff_toInt_le]; unfold q_d2; omega)
theorem s_sign (d : Nat) (v : Int32) : q_sem (d + 1) mX3_sign 0 [.int v] [] (q_K o g) = some (some (.int (if 0 < v then 1 else if v < 0 then (-1) else 0)), q_K o g) := by
  refine (q_blk (Y := mX3_sign) (q_dcC dX3_sign_0 (q_dcC dX3_sign_1 q_dcN)) (show _ = some ((if q_cc .le v 0 = true then 8 else 4), [.int v], []) from rfl)).trans ?_
  by_cases c1 : v ≤ 0
  · rw [if_pos (show q_cc .le v 0 = true from decide_eq_true c1)]
    refine (q_blk (Y := mX3_sign) (q_dcC dX3_sign_8 (q_dcC dX3_sign_9 q_dcN)) (show _ = some ((if q_cc .ge v 0 = true then 16 else 12), [.int v], []) from rfl)).trans ?_
    by_cases c2 : 0 ≤ v
    · rw [if_pos (show q_cc .ge v 0 = true from decide_eq_true c2)]
      refine (q_blk (Y := mX3_sign) (q_dcC dX3_sign_16 q_dcN) (show _ = some (17, [.int v], [.int 0]) from rfl)).trans ?_
      refine (k_iret (Y := mX3_sign) dX3_sign_17 rfl).trans ?_
      rw [if_neg (by rw [Int32.le_iff_toInt_le] at c1 c2; rw [Int32.lt_iff_toInt_lt]; omega), if_neg (by rw [Int32.le_iff_toInt_le] at c2; rw [Int32.lt_iff_toInt_lt]; omega)]
    · rw [if_neg (show ¬ q_cc .ge v 0 = true from fun z => c2 (of_decide_eq_true z))]
      refine (q_blk (Y := mX3_sign) (q_dcC dX3_sign_12 (q_dcC dX3_sign_13 q_dcN)) (show _ = some (17, [.int v], [.int (-1)]) from rfl)).trans ?_
      refine (k_iret (Y := mX3_sign) dX3_sign_17 rfl).trans ?_
      rw [if_neg (by rw [Int32.le_iff_toInt_le] at c1 c2; rw [Int32.lt_iff_toInt_lt]; omega), if_pos (by rw [Int32.le_iff_toInt_le] at c2; rw [Int32.lt_iff_toInt_lt]; omega)]
  · rw [if_neg (show ¬ q_cc .le v 0 = true from fun z => c1 (of_decide_eq_true z))]
    refine (q_blk (Y := mX3_sign) (q_dcC dX3_sign_4 (q_dcC dX3_sign_5 q_dcN)) (show _ = some (17, [.int v], [.int 1]) from rfl)).trans ?_
    refine (k_iret (Y := mX3_sign) dX3_sign_17 rfl).trans ?_
    rw [if_pos (by rw [Int32.le_iff_toInt_le] at c1; rw [Int32.lt_iff_toInt_lt]; exact Int.not_le.mp c1)]
theorem s_stepped (d : Nat) {a b : Nat} (ha : a < 256) (hb : b < 256) : q_sem (d + 2) mX3_stepped 0 [.int (nI a), .int (nI b), .retAddr 0, .retAddr 0] [] (q_K o g) = some (some (.int (nI (q_sp a b))), q_K o g) := by
  refine (q_blk (Y := mX3_stepped) (q_dcC dX3_stepped_0 (q_dcC dX3_stepped_1 (q_dcC dX3_stepped_3 (q_dcC dX3_stepped_4 (q_dcC dX3_stepped_5 (q_dcC dX3_stepped_7 (q_dcC dX3_stepped_8 (q_dcC dX3_stepped_9 (q_dcC dX3_stepped_11 (q_dcC dX3_stepped_12 q_dcN)))))))))) (show _ = some (13, [.int (nI a), .int (nI b), .retAddr 0, .retAddr 0], [.int (((nI b) &&& 15) - ((nI a) &&& 15)), .int ((nI a) &&& 15)]) from rfl)).trans ?_
  refine (k_calS (d := d + 1) (Y := mX3_stepped) (Z := mX3_sign) (vs := [.int (((nI b) &&& 15) - ((nI a) &&& 15))]) (rest := [.int ((nI a) &&& 15)]) dX3_stepped_13 rfl rfl rfl rfl (Nat.le_of_ble_eq_true rfl) rfl (Nat.le_of_ble_eq_true rfl) (s_sign (d) (((nI b) &&& 15) - ((nI a) &&& 15)))).trans ?_
  show q_sem _ _ 16 [.int (nI a), .int (nI b), .retAddr 0, .retAddr 0] [.int (if 0 < (((nI b) &&& 15) - ((nI a) &&& 15)) then 1 else if (((nI b) &&& 15) - ((nI a) &&& 15)) < 0 then (-1) else 0), .int ((nI a) &&& 15)] (q_K o g) = _
  refine (q_blk (Y := mX3_stepped) (q_dcC dX3_stepped_16 (q_dcC dX3_stepped_17 (q_dcC dX3_stepped_18 (q_dcC dX3_stepped_19 (q_dcC dX3_stepped_20 (q_dcC dX3_stepped_21 (q_dcC dX3_stepped_22 (q_dcC dX3_stepped_23 (q_dcC dX3_stepped_24 (q_dcC dX3_stepped_25 (q_dcC dX3_stepped_26 (q_dcC dX3_stepped_27 q_dcN)))))))))))) (show _ = some (28, [.int (nI a), .int (nI b), .int (((nI a) &&& 15) + (if 0 < (((nI b) &&& 15) - ((nI a) &&& 15)) then 1 else if (((nI b) &&& 15) - ((nI a) &&& 15)) < 0 then (-1) else 0)), .retAddr 0], [.int (((nI b) >>> ((4 : Int32) &&& 31)) - ((nI a) >>> ((4 : Int32) &&& 31))), .int ((nI a) >>> ((4 : Int32) &&& 31))]) from rfl)).trans ?_
  refine (k_calS (d := d + 1) (Y := mX3_stepped) (Z := mX3_sign) (vs := [.int (((nI b) >>> ((4 : Int32) &&& 31)) - ((nI a) >>> ((4 : Int32) &&& 31)))]) (rest := [.int ((nI a) >>> ((4 : Int32) &&& 31))]) dX3_stepped_28 rfl rfl rfl rfl (Nat.le_of_ble_eq_true rfl) rfl (Nat.le_of_ble_eq_true rfl) (s_sign (d) (((nI b) >>> ((4 : Int32) &&& 31)) - ((nI a) >>> ((4 : Int32) &&& 31))))).trans ?_
  show q_sem _ _ 31 [.int (nI a), .int (nI b), .int (((nI a) &&& 15) + (if 0 < (((nI b) &&& 15) - ((nI a) &&& 15)) then 1 else if (((nI b) &&& 15) - ((nI a) &&& 15)) < 0 then (-1) else 0)), .retAddr 0] [.int (if 0 < (((nI b) >>> ((4 : Int32) &&& 31)) - ((nI a) >>> ((4 : Int32) &&& 31))) then 1 else if (((nI b) >>> ((4 : Int32) &&& 31)) - ((nI a) >>> ((4 : Int32) &&& 31))) < 0 then (-1) else 0), .int ((nI a) >>> ((4 : Int32) &&& 31))] (q_K o g) = _
  refine (q_blk (Y := mX3_stepped) (q_dcC dX3_stepped_31 (q_dcC dX3_stepped_32 (q_dcC dX3_stepped_33 (q_dcC dX3_stepped_35 (q_dcC dX3_stepped_36 (q_dcC dX3_stepped_37 (q_dcC dX3_stepped_38 q_dcN))))))) (show _ = some (39, [.int (nI a), .int (nI b), .int (((nI a) &&& 15) + (if 0 < (((nI b) &&& 15) - ((nI a) &&& 15)) then 1 else if (((nI b) &&& 15) - ((nI a) &&& 15)) < 0 then (-1) else 0)), .int (((nI a) >>> ((4 : Int32) &&& 31)) + (if 0 < (((nI b) >>> ((4 : Int32) &&& 31)) - ((nI a) >>> ((4 : Int32) &&& 31))) then 1 else if (((nI b) >>> ((4 : Int32) &&& 31)) - ((nI a) >>> ((4 : Int32) &&& 31))) < 0 then (-1) else 0))], [.int ((16 * (((nI a) >>> ((4 : Int32) &&& 31)) + (if 0 < (((nI b) >>> ((4 : Int32) &&& 31)) - ((nI a) >>> ((4 : Int32) &&& 31))) then 1 else if (((nI b) >>> ((4 : Int32) &&& 31)) - ((nI a) >>> ((4 : Int32) &&& 31))) < 0 then (-1) else 0))) + (((nI a) &&& 15) + (if 0 < (((nI b) &&& 15) - ((nI a) &&& 15)) then 1 else if (((nI b) &&& 15) - ((nI a) &&& 15)) < 0 then (-1) else 0)))]) from rfl)).trans ?_
  refine (k_iret (Y := mX3_stepped) dX3_stepped_39 rfl).trans ?_
  rw [m_x ha, m_x hb, m_y ha, m_y hb, m_st _ (by omega) _ (by omega), m_st _ (by omega) _ (by omega), show (16 : Int32) = nI 16 from rfl, pk_mul, nI_add]
  rfl
theorem s_nearer (d : Nat) {a b : Nat} (ha : a < 256) (hb : b < 256) : q_sem (d + 3) mX3_nearer 0 [.int (nI a), .int (nI b)] [] (q_K o g) = some (some (.int (nI (q_sp (q_sp a b) b))), q_K o g) := by
  refine (q_blk (Y := mX3_nearer) (q_dcC dX3_nearer_0 (q_dcC dX3_nearer_1 q_dcN)) (show _ = some (2, [.int (nI a), .int (nI b)], [.int (nI b), .int (nI a)]) from rfl)).trans ?_
  refine (k_calS (d := d + 2) (Y := mX3_nearer) (Z := mX3_stepped) (vs := [.int (nI a), .int (nI b)]) (rest := []) dX3_nearer_2 rfl rfl rfl rfl (Nat.le_of_ble_eq_true rfl) rfl (Nat.le_of_ble_eq_true rfl) (s_stepped (d) ha hb)).trans ?_
  show q_sem _ _ 5 [.int (nI a), .int (nI b)] [.int (nI (q_sp a b))] (q_K o g) = _
  refine (q_blk (Y := mX3_nearer) (q_dcC dX3_nearer_5 q_dcN) (show _ = some (6, [.int (nI a), .int (nI b)], [.int (nI b), .int (nI (q_sp a b))]) from rfl)).trans ?_
  refine (k_calS (d := d + 2) (Y := mX3_nearer) (Z := mX3_stepped) (vs := [.int (nI (q_sp a b)), .int (nI b)]) (rest := []) dX3_nearer_6 rfl rfl rfl rfl (Nat.le_of_ble_eq_true rfl) rfl (Nat.le_of_ble_eq_true rfl) (s_stepped (d) (q_spB ha hb) hb)).trans ?_
  show q_sem _ _ 9 [.int (nI a), .int (nI b)] [.int (nI (q_sp (q_sp a b) b))] (q_K o g) = _
  refine (k_iret (Y := mX3_nearer) dX3_nearer_9 rfl).trans ?_
  rfl
theorem s_climbed (d : Nat) (h to : Int32) : q_sem (d + 1) mX3_climbed 0 [.int h, .int to] [] (q_K o g) = some (some (.int (q_cl h to)), q_K o g) := by
  refine (q_blk (Y := mX3_climbed) (q_dcC dX3_climbed_0 (q_dcC dX3_climbed_1 (q_dcC dX3_climbed_2 q_dcN))) (show _ = some ((if q_cc .ge h to = true then 16 else 5), [.int h, .int to], []) from rfl)).trans ?_
  by_cases c1 : to ≤ h
  · rw [if_pos (show q_cc .ge h to = true from decide_eq_true c1)]
    refine (q_blk (Y := mX3_climbed) (q_dcC dX3_climbed_16 (q_dcC dX3_climbed_17 (q_dcC dX3_climbed_19 (q_dcC dX3_climbed_20 q_dcN)))) (show _ = some (21, [.int h, .int to], [.int to, .int (h - 10)]) from rfl)).trans ?_
    refine (k_max (Y := mX3_climbed) dX3_climbed_21 rfl rfl (by decide) (by decide) (Nat.le_of_ble_eq_true rfl)).trans ?_
    refine (k_iret (Y := mX3_climbed) dX3_climbed_24 rfl).trans ?_
    have e : q_cl h to = (if h - 10 < to then to else h - 10) := if_neg (fun z => by rw [Int32.le_iff_toInt_le] at c1; rw [Int32.lt_iff_toInt_lt] at z; omega)
    rw [e]
  · rw [if_neg (show ¬ q_cc .ge h to = true from fun z => c1 (of_decide_eq_true z))]
    refine (q_blk (Y := mX3_climbed) (q_dcC dX3_climbed_5 (q_dcC dX3_climbed_6 (q_dcC dX3_climbed_8 (q_dcC dX3_climbed_9 q_dcN)))) (show _ = some (10, [.int h, .int to], [.int to, .int (h + 10)]) from rfl)).trans ?_
    refine (k_min (Y := mX3_climbed) dX3_climbed_10 rfl rfl (by decide) (by decide) (by decide) (Nat.le_of_ble_eq_true rfl)).trans ?_
    refine (q_blk (Y := mX3_climbed) (q_dcC dX3_climbed_13 q_dcN) (show _ = some (24, [.int h, .int to], [.int (if to < (h + 10) then to else (h + 10))]) from rfl)).trans ?_
    refine (k_iret (Y := mX3_climbed) dX3_climbed_24 rfl).trans ?_
    have e : q_cl h to = (if to < h + 10 then to else h + 10) := if_pos (by rw [Int32.le_iff_toInt_le] at c1; rw [Int32.lt_iff_toInt_lt]; omega)
    rw [e]
theorem s_flown (d : Nat) (ho : q_oR o) {c w : Nat} (hc : c < 256) (hw : w < 8) (pace : Int32) : q_sem (d + 2) mX3_flown 0 [.int (nI c), .int (nI w), .int pace, .retAddr 0, .retAddr 0] [] (q_K o g) = some (some (.int (q_fl c w pace)), q_K o g) := by
  refine (q_blk (Y := mX3_flown) (q_dcC dX3_flown_0 (q_dcC dX3_flown_1 q_dcN)) (show _ = some ((if q_cc .lt (nI w) 0 = true then 20 else 4), [.int (nI c), .int (nI w), .int pace, .retAddr 0, .retAddr 0], []) from rfl)).trans ?_
  by_cases c1 : (nI w) < 0
  · rw [if_pos (show q_cc .lt (nI w) 0 = true from decide_eq_true c1)]
    refine (q_blk (Y := mX3_flown) (q_dcC dX3_flown_20 q_dcN) (show _ = some (21, [.int (nI c), .int (nI w), .int pace, .retAddr 0, .retAddr 0], [.int (-1)]) from rfl)).trans ?_
    refine (k_iret (Y := mX3_flown) dX3_flown_21 rfl).trans ?_
    exact absurd c1 (by first | exact nI_pos (by omega) | exact fun z => nI_ge (a := w) (b := 8) hw (by decide) z | exact fun z => z (nI_lt (b := 8) hw (by decide)))
  · rw [if_neg (show ¬ q_cc .lt (nI w) 0 = true from fun z => c1 (of_decide_eq_true z))]
    refine (q_blk (Y := mX3_flown) (q_dcC dX3_flown_4 q_dcN) (show _ = some (5, [.int (nI c), .int (nI w), .int pace, .retAddr 0, .retAddr 0], [.int (nI w)]) from rfl)).trans ?_
    refine (k_sta (Y := mX3_flown) (k := 2) dX3_flown_5 rfl).trans ?_
    refine (k_rolen (Y := mX3_flown) (k := 2) ho (by decide) dX3_flown_8).trans ?_
    refine (q_blk (Y := mX3_flown) (q_dcC dX3_flown_9 q_dcN) (show _ = some ((if q_cc .ge (nI w) 8 = true then 20 else 12), [.int (nI c), .int (nI w), .int pace, .retAddr 0, .retAddr 0], []) from rfl)).trans ?_
    by_cases c2 : 8 ≤ (nI w)
    · rw [if_pos (show q_cc .ge (nI w) 8 = true from decide_eq_true c2)]
      refine (q_blk (Y := mX3_flown) (q_dcC dX3_flown_20 q_dcN) (show _ = some (21, [.int (nI c), .int (nI w), .int pace, .retAddr 0, .retAddr 0], [.int (-1)]) from rfl)).trans ?_
      refine (k_iret (Y := mX3_flown) dX3_flown_21 rfl).trans ?_
      exact absurd c2 (by first | exact nI_pos (by omega) | exact fun z => nI_ge (a := w) (b := 8) hw (by decide) z | exact fun z => z (nI_lt (b := 8) hw (by decide)))
    · rw [if_neg (show ¬ q_cc .ge (nI w) 8 = true from fun z => c2 (of_decide_eq_true z))]
      refine (q_blk (Y := mX3_flown) (q_dcC dX3_flown_12 q_dcN) (show _ = some (13, [.int (nI c), .int (nI w), .int pace, .retAddr 0, .retAddr 0], [.int (nI w)]) from rfl)).trans ?_
      refine (k_sta (Y := mX3_flown) (k := 3) dX3_flown_13 rfl).trans ?_
      refine (k_rolen (Y := mX3_flown) (k := 3) ho (by decide) dX3_flown_16).trans ?_
      refine (q_blk (Y := mX3_flown) (q_dcC dX3_flown_17 q_dcN) (show _ = some ((if q_cc .lt (nI w) 8 = true then 22 else 20), [.int (nI c), .int (nI w), .int pace, .retAddr 0, .retAddr 0], []) from rfl)).trans ?_
      by_cases c3 : (nI w) < 8
      · rw [if_pos (show q_cc .lt (nI w) 8 = true from decide_eq_true c3)]
        refine (q_blk (Y := mX3_flown) (q_dcC dX3_flown_22 (q_dcC dX3_flown_23 (q_dcC dX3_flown_25 (q_dcC dX3_flown_26 q_dcN)))) (show _ = some (27, [.int (nI c), .int (nI w), .int pace, .retAddr 0, .retAddr 0], [.int pace, .int ((nI c) &&& 15)]) from rfl)).trans ?_
        refine (k_sta (Y := mX3_flown) (k := 2) dX3_flown_27 rfl).trans ?_
        refine (q_blk (Y := mX3_flown) (q_dcC dX3_flown_30 q_dcN) (show _ = some (31, [.int (nI c), .int (nI w), .int pace, .retAddr 0, .retAddr 0], [.int (nI w), .ref (q_M + 2), .int pace, .int ((nI c) &&& 15)]) from rfl)).trans ?_
        refine (k_roald (Y := mX3_flown) (k := 2) ho (by decide) dX3_flown_31 rfl ⟨hw, by decide⟩).trans ?_
        refine (q_blk (Y := mX3_flown) (q_dcC dX3_flown_32 (q_dcC dX3_flown_33 (q_dcC dX3_flown_34 (q_dcC dX3_flown_35 (q_dcC dX3_flown_36 (q_dcC dX3_flown_37 (q_dcC dX3_flown_38 q_dcN))))))) (show _ = some (39, [.int (nI c), .int (nI w), .int pace, .int (((nI c) &&& 15) + (pace * (q_way 2 w))), .retAddr 0], [.int pace, .int ((nI c) >>> ((4 : Int32) &&& 31))]) from rfl)).trans ?_
        refine (k_sta (Y := mX3_flown) (k := 3) dX3_flown_39 rfl).trans ?_
        refine (q_blk (Y := mX3_flown) (q_dcC dX3_flown_42 q_dcN) (show _ = some (43, [.int (nI c), .int (nI w), .int pace, .int (((nI c) &&& 15) + (pace * (q_way 2 w))), .retAddr 0], [.int (nI w), .ref (q_M + 3), .int pace, .int ((nI c) >>> ((4 : Int32) &&& 31))]) from rfl)).trans ?_
        refine (k_roald (Y := mX3_flown) (k := 3) ho (by decide) dX3_flown_43 rfl ⟨hw, by decide⟩).trans ?_
        refine (q_blk (Y := mX3_flown) (q_dcC dX3_flown_44 (q_dcC dX3_flown_45 (q_dcC dX3_flown_46 (q_dcC dX3_flown_48 (q_dcC dX3_flown_49 (q_dcC dX3_flown_50 q_dcN)))))) (show _ = some (52, [.int (nI c), .int (nI w), .int pace, .int (((nI c) &&& 15) + (pace * (q_way 2 w))), .int (((nI c) >>> ((4 : Int32) &&& 31)) + (pace * (q_way 3 w)))], [.int 15, .int 0, .int (((nI c) &&& 15) + (pace * (q_way 2 w)))]) from rfl)).trans ?_
        refine (k_calN (d := d + 1) (Y := mX3_flown) (Z := mX11_within) (vs := [.int (((nI c) &&& 15) + (pace * (q_way 2 w))), .int 0, .int 15]) (rest := []) dX3_flown_52 rfl rfl rfl rfl rfl (Nat.le_of_ble_eq_true rfl) rfl (Nat.le_of_ble_eq_true rfl) (s_within (d) (((nI c) &&& 15) + (pace * (q_way 2 w))) 0 15)).trans ?_
        show q_sem _ _ 55 [.int (nI c), .int (nI w), .int pace, .int (((nI c) &&& 15) + (pace * (q_way 2 w))), .int (((nI c) >>> ((4 : Int32) &&& 31)) + (pace * (q_way 3 w)))] [.int (if q_wi (((nI c) &&& 15) + (pace * (q_way 2 w))) 0 15 then 1 else 0)] (q_K o g) = _
        refine (q_blk (Y := mX3_flown) (q_dcC dX3_flown_55 q_dcN) (show _ = some ((if q_cc .eq (if q_wi (((nI c) &&& 15) + (pace * (q_way 2 w))) 0 15 then 1 else 0) 0 = true then 79 else 58), [.int (nI c), .int (nI w), .int pace, .int (((nI c) &&& 15) + (pace * (q_way 2 w))), .int (((nI c) >>> ((4 : Int32) &&& 31)) + (pace * (q_way 3 w)))], []) from rfl)).trans ?_
        by_cases c4 : q_wi (((nI c) &&& 15) + (pace * (q_way 2 w))) 0 15
        · rw [if_neg (show ¬ q_cc .eq (if q_wi (((nI c) &&& 15) + (pace * (q_way 2 w))) 0 15 then 1 else 0) 0 = true by rw [if_pos c4]; decide)]
          refine (q_blk (Y := mX3_flown) (q_dcC dX3_flown_58 (q_dcC dX3_flown_60 (q_dcC dX3_flown_61 q_dcN))) (show _ = some (63, [.int (nI c), .int (nI w), .int pace, .int (((nI c) &&& 15) + (pace * (q_way 2 w))), .int (((nI c) >>> ((4 : Int32) &&& 31)) + (pace * (q_way 3 w)))], [.int 15, .int 0, .int (((nI c) >>> ((4 : Int32) &&& 31)) + (pace * (q_way 3 w)))]) from rfl)).trans ?_
          refine (k_calN (d := d + 1) (Y := mX3_flown) (Z := mX11_within) (vs := [.int (((nI c) >>> ((4 : Int32) &&& 31)) + (pace * (q_way 3 w))), .int 0, .int 15]) (rest := []) dX3_flown_63 rfl rfl rfl rfl rfl (Nat.le_of_ble_eq_true rfl) rfl (Nat.le_of_ble_eq_true rfl) (s_within (d) (((nI c) >>> ((4 : Int32) &&& 31)) + (pace * (q_way 3 w))) 0 15)).trans ?_
          show q_sem _ _ 66 [.int (nI c), .int (nI w), .int pace, .int (((nI c) &&& 15) + (pace * (q_way 2 w))), .int (((nI c) >>> ((4 : Int32) &&& 31)) + (pace * (q_way 3 w)))] [.int (if q_wi (((nI c) >>> ((4 : Int32) &&& 31)) + (pace * (q_way 3 w))) 0 15 then 1 else 0)] (q_K o g) = _
          refine (q_blk (Y := mX3_flown) (q_dcC dX3_flown_66 q_dcN) (show _ = some ((if q_cc .eq (if q_wi (((nI c) >>> ((4 : Int32) &&& 31)) + (pace * (q_way 3 w))) 0 15 then 1 else 0) 0 = true then 79 else 69), [.int (nI c), .int (nI w), .int pace, .int (((nI c) &&& 15) + (pace * (q_way 2 w))), .int (((nI c) >>> ((4 : Int32) &&& 31)) + (pace * (q_way 3 w)))], []) from rfl)).trans ?_
          by_cases c5 : q_wi (((nI c) >>> ((4 : Int32) &&& 31)) + (pace * (q_way 3 w))) 0 15
          · rw [if_neg (show ¬ q_cc .eq (if q_wi (((nI c) >>> ((4 : Int32) &&& 31)) + (pace * (q_way 3 w))) 0 15 then 1 else 0) 0 = true by rw [if_pos c5]; decide)]
            refine (q_blk (Y := mX3_flown) (q_dcC dX3_flown_69 (q_dcC dX3_flown_71 (q_dcC dX3_flown_73 (q_dcC dX3_flown_74 (q_dcC dX3_flown_75 (q_dcC dX3_flown_76 q_dcN)))))) (show _ = some (80, [.int (nI c), .int (nI w), .int pace, .int (((nI c) &&& 15) + (pace * (q_way 2 w))), .int (((nI c) >>> ((4 : Int32) &&& 31)) + (pace * (q_way 3 w)))], [.int ((16 * (((nI c) >>> ((4 : Int32) &&& 31)) + (pace * (q_way 3 w)))) + (((nI c) &&& 15) + (pace * (q_way 2 w))))]) from rfl)).trans ?_
            refine (k_iret (Y := mX3_flown) dX3_flown_80 rfl).trans ?_
            unfold q_fl
            rw [if_pos ⟨by unfold q_fX; rw [← m_x hc]; exact c4, by unfold q_fY; rw [← m_y hc]; exact c5⟩]
            unfold q_fX q_fY
            rw [m_x hc, m_y hc]
          · rw [if_pos (show q_cc .eq (if q_wi (((nI c) >>> ((4 : Int32) &&& 31)) + (pace * (q_way 3 w))) 0 15 then 1 else 0) 0 = true by rw [if_neg c5]; decide)]
            refine (q_blk (Y := mX3_flown) (q_dcC dX3_flown_79 q_dcN) (show _ = some (80, [.int (nI c), .int (nI w), .int pace, .int (((nI c) &&& 15) + (pace * (q_way 2 w))), .int (((nI c) >>> ((4 : Int32) &&& 31)) + (pace * (q_way 3 w)))], [.int (-1)]) from rfl)).trans ?_
            refine (k_iret (Y := mX3_flown) dX3_flown_80 rfl).trans ?_
            unfold q_fl
            rw [if_neg (fun z => c5 (by first | (rw [m_x hc]; exact z.1) | (rw [m_y hc]; exact z.2)))]
        · rw [if_pos (show q_cc .eq (if q_wi (((nI c) &&& 15) + (pace * (q_way 2 w))) 0 15 then 1 else 0) 0 = true by rw [if_neg c4]; decide)]
          refine (q_blk (Y := mX3_flown) (q_dcC dX3_flown_79 q_dcN) (show _ = some (80, [.int (nI c), .int (nI w), .int pace, .int (((nI c) &&& 15) + (pace * (q_way 2 w))), .int (((nI c) >>> ((4 : Int32) &&& 31)) + (pace * (q_way 3 w)))], [.int (-1)]) from rfl)).trans ?_
          refine (k_iret (Y := mX3_flown) dX3_flown_80 rfl).trans ?_
          unfold q_fl
          rw [if_neg (fun z => c4 (by first | (rw [m_x hc]; exact z.1) | (rw [m_y hc]; exact z.2)))]
      · rw [if_neg (show ¬ q_cc .lt (nI w) 8 = true from fun z => c3 (of_decide_eq_true z))]
        refine (q_blk (Y := mX3_flown) (q_dcC dX3_flown_20 q_dcN) (show _ = some (21, [.int (nI c), .int (nI w), .int pace, .retAddr 0, .retAddr 0], [.int (-1)]) from rfl)).trans ?_
        refine (k_iret (Y := mX3_flown) dX3_flown_21 rfl).trans ?_
        exact absurd (nI_lt (b := 8) hw (by decide)) c3
end QMV
