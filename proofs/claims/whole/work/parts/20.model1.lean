theorem dX12_in_2 : decode cX12_in 2 = .ok (.if_icmp .lt 12, 3) := by decide +kernel
theorem dX12_in_1 : decode cX12_in 1 = .ok (.iload_n 1, 1) := by decide +kernel
theorem dX12_in_0 : decode cX12_in 0 = .ok (.iload_n 0, 1) := by decide +kernel
theorem dX12_in_14 : decode cX12_in 14 = .ok (.iconst 0, 1) := by decide +kernel
theorem dX12_in_15 : decode cX12_in 15 = .ok (.ireturn, 1) := by decide +kernel
theorem dX12_in_7 : decode cX12_in 7 = .ok (.if_icmp .gt 7, 3) := by decide +kernel
theorem dX12_in_6 : decode cX12_in 6 = .ok (.iload_n 2, 1) := by decide +kernel
theorem dX12_in_5 : decode cX12_in 5 = .ok (.iload_n 0, 1) := by decide +kernel
theorem dX12_in_11 : decode cX12_in 11 = .ok (.goto 4, 3) := by decide +kernel
theorem dX12_in_10 : decode cX12_in 10 = .ok (.iconst 1, 1) := by decide +kernel
theorem dX12_isCell_2 : decode cX12_isCell 2 = .ok (.sipush 255, 3) := by decide +kernel
theorem dX12_isCell_1 : decode cX12_isCell 1 = .ok (.iconst 0, 1) := by decide +kernel
theorem dX12_isCell_0 : decode cX12_isCell 0 = .ok (.iload_n 0, 1) := by decide +kernel
theorem dX12_isCell_5 : decode cX12_isCell 5 = .ok (.invokestatic 8, 3) := by decide +kernel
theorem dX12_isCell_8 : decode cX12_isCell 8 = .ok (.ireturn, 1) := by decide +kernel
theorem dX12_size_1 : decode cX12_size 1 = .ok (.ifCond .ge 8, 3) := by decide +kernel
theorem dX12_size_0 : decode cX12_size 0 = .ok (.iload_n 0, 1) := by decide +kernel
theorem dX12_size_9 : decode cX12_size 9 = .ok (.iload_n 0, 1) := by decide +kernel
theorem dX12_size_10 : decode cX12_size 10 = .ok (.ireturn, 1) := by decide +kernel
theorem dX12_size_6 : decode cX12_size 6 = .ok (.goto 4, 3) := by decide +kernel
theorem dX12_size_5 : decode cX12_size 5 = .ok (.ineg, 1) := by decide +kernel
theorem dX12_size_4 : decode cX12_size 4 = .ok (.iload_n 0, 1) := by decide +kernel
theorem dX12_greater_2 : decode cX12_greater 2 = .ok (.if_icmp .le 7, 3) := by decide +kernel
theorem dX12_greater_1 : decode cX12_greater 1 = .ok (.iload_n 1, 1) := by decide +kernel
theorem dX12_greater_0 : decode cX12_greater 0 = .ok (.iload_n 0, 1) := by decide +kernel
theorem dX12_greater_9 : decode cX12_greater 9 = .ok (.iload_n 1, 1) := by decide +kernel
theorem dX12_greater_10 : decode cX12_greater 10 = .ok (.ireturn, 1) := by decide +kernel
theorem dX12_greater_6 : decode cX12_greater 6 = .ok (.goto 4, 3) := by decide +kernel
theorem dX12_greater_5 : decode cX12_greater 5 = .ok (.iload_n 0, 1) := by decide +kernel
theorem dX12_lesser_2 : decode cX12_lesser 2 = .ok (.if_icmp .ge 7, 3) := by decide +kernel
theorem dX12_lesser_1 : decode cX12_lesser 1 = .ok (.iload_n 1, 1) := by decide +kernel
theorem dX12_lesser_0 : decode cX12_lesser 0 = .ok (.iload_n 0, 1) := by decide +kernel
theorem dX12_lesser_9 : decode cX12_lesser 9 = .ok (.iload_n 1, 1) := by decide +kernel
theorem dX12_lesser_10 : decode cX12_lesser 10 = .ok (.ireturn, 1) := by decide +kernel
theorem dX12_lesser_6 : decode cX12_lesser 6 = .ok (.goto 4, 3) := by decide +kernel
theorem dX12_lesser_5 : decode cX12_lesser 5 = .ok (.iload_n 0, 1) := by decide +kernel
theorem dX12_apart_8 : decode cX12_apart 8 = .ok (.isub, 1) := by decide +kernel
theorem dX12_apart_7 : decode cX12_apart 7 = .ok (.idiv, 1) := by decide +kernel
theorem dX12_apart_5 : decode cX12_apart 5 = .ok (.bipush 16, 2) := by decide +kernel
theorem dX12_apart_4 : decode cX12_apart 4 = .ok (.iload_n 1, 1) := by decide +kernel
theorem dX12_apart_3 : decode cX12_apart 3 = .ok (.idiv, 1) := by decide +kernel
theorem dX12_apart_1 : decode cX12_apart 1 = .ok (.bipush 16, 2) := by decide +kernel
theorem dX12_apart_0 : decode cX12_apart 0 = .ok (.iload_n 0, 1) := by decide +kernel
theorem dX12_apart_9 : decode cX12_apart 9 = .ok (.invokestatic 197, 3) := by decide +kernel
theorem dX12_apart_20 : decode cX12_apart 20 = .ok (.isub, 1) := by decide +kernel
theorem dX12_apart_19 : decode cX12_apart 19 = .ok (.irem, 1) := by decide +kernel
theorem dX12_apart_17 : decode cX12_apart 17 = .ok (.bipush 16, 2) := by decide +kernel
theorem dX12_apart_16 : decode cX12_apart 16 = .ok (.iload_n 1, 1) := by decide +kernel
theorem dX12_apart_15 : decode cX12_apart 15 = .ok (.irem, 1) := by decide +kernel
theorem dX12_apart_13 : decode cX12_apart 13 = .ok (.bipush 16, 2) := by decide +kernel
theorem dX12_apart_12 : decode cX12_apart 12 = .ok (.iload_n 0, 1) := by decide +kernel
theorem dX12_apart_21 : decode cX12_apart 21 = .ok (.invokestatic 197, 3) := by decide +kernel
theorem dX12_apart_24 : decode cX12_apart 24 = .ok (.invokestatic 199, 3) := by decide +kernel
theorem dX12_apart_27 : decode cX12_apart 27 = .ok (.ireturn, 1) := by decide +kernel
theorem dX12_isWithin_33 : decode cX12_isWithin 33 = .ok (.if_icmp .gt 7, 3) := by decide +kernel
theorem dX12_isWithin_32 : decode cX12_isWithin 32 = .ok (.imul, 1) := by decide +kernel
theorem dX12_isWithin_31 : decode cX12_isWithin 31 = .ok (.iload_n 2, 1) := by decide +kernel
theorem dX12_isWithin_30 : decode cX12_isWithin 30 = .ok (.iload_n 2, 1) := by decide +kernel
theorem dX12_isWithin_29 : decode cX12_isWithin 29 = .ok (.iadd, 1) := by decide +kernel
theorem dX12_isWithin_28 : decode cX12_isWithin 28 = .ok (.imul, 1) := by decide +kernel
theorem dX12_isWithin_26 : decode cX12_isWithin 26 = .ok (.iload 4, 2) := by decide +kernel
theorem dX12_isWithin_24 : decode cX12_isWithin 24 = .ok (.iload 4, 2) := by decide +kernel
theorem dX12_isWithin_23 : decode cX12_isWithin 23 = .ok (.imul, 1) := by decide +kernel
theorem dX12_isWithin_22 : decode cX12_isWithin 22 = .ok (.iload_n 3, 1) := by decide +kernel
theorem dX12_isWithin_21 : decode cX12_isWithin 21 = .ok (.iload_n 3, 1) := by decide +kernel
theorem dX12_isWithin_19 : decode cX12_isWithin 19 = .ok (.istore 4, 2) := by decide +kernel
theorem dX12_isWithin_18 : decode cX12_isWithin 18 = .ok (.isub, 1) := by decide +kernel
theorem dX12_isWithin_17 : decode cX12_isWithin 17 = .ok (.irem, 1) := by decide +kernel
theorem dX12_isWithin_15 : decode cX12_isWithin 15 = .ok (.bipush 16, 2) := by decide +kernel
theorem dX12_isWithin_14 : decode cX12_isWithin 14 = .ok (.iload_n 1, 1) := by decide +kernel
theorem dX12_isWithin_13 : decode cX12_isWithin 13 = .ok (.irem, 1) := by decide +kernel
theorem dX12_isWithin_11 : decode cX12_isWithin 11 = .ok (.bipush 16, 2) := by decide +kernel
theorem dX12_isWithin_10 : decode cX12_isWithin 10 = .ok (.iload_n 0, 1) := by decide +kernel
theorem dX12_isWithin_9 : decode cX12_isWithin 9 = .ok (.istore_n 3, 1) := by decide +kernel
theorem dX12_isWithin_8 : decode cX12_isWithin 8 = .ok (.isub, 1) := by decide +kernel
theorem dX12_isWithin_7 : decode cX12_isWithin 7 = .ok (.idiv, 1) := by decide +kernel
theorem dX12_isWithin_5 : decode cX12_isWithin 5 = .ok (.bipush 16, 2) := by decide +kernel
theorem dX12_isWithin_4 : decode cX12_isWithin 4 = .ok (.iload_n 1, 1) := by decide +kernel
theorem dX12_isWithin_3 : decode cX12_isWithin 3 = .ok (.idiv, 1) := by decide +kernel
theorem dX12_isWithin_1 : decode cX12_isWithin 1 = .ok (.bipush 16, 2) := by decide +kernel
theorem dX12_isWithin_0 : decode cX12_isWithin 0 = .ok (.iload_n 0, 1) := by decide +kernel
theorem dX12_isWithin_40 : decode cX12_isWithin 40 = .ok (.iconst 0, 1) := by decide +kernel
theorem dX12_isWithin_41 : decode cX12_isWithin 41 = .ok (.ireturn, 1) := by decide +kernel
theorem dX12_isWithin_37 : decode cX12_isWithin 37 = .ok (.goto 4, 3) := by decide +kernel
theorem dX12_isWithin_36 : decode cX12_isWithin 36 = .ok (.iconst 1, 1) := by decide +kernel
theorem dX12_nearer_2 : decode cX12_nearer 2 = .ok (.if_icmp .ge 13, 3) := by decide +kernel
theorem dX12_nearer_1 : decode cX12_nearer 1 = .ok (.iload_n 1, 1) := by decide +kernel
theorem dX12_nearer_0 : decode cX12_nearer 0 = .ok (.iload_n 0, 1) := by decide +kernel
theorem dX12_nearer_18 : decode cX12_nearer 18 = .ok (.isub, 1) := by decide +kernel
theorem dX12_nearer_17 : decode cX12_nearer 17 = .ok (.iload_n 2, 1) := by decide +kernel
theorem dX12_nearer_16 : decode cX12_nearer 16 = .ok (.iload_n 0, 1) := by decide +kernel
theorem dX12_nearer_15 : decode cX12_nearer 15 = .ok (.iload_n 1, 1) := by decide +kernel
theorem dX12_nearer_19 : decode cX12_nearer 19 = .ok (.invokestatic 199, 3) := by decide +kernel
theorem dX12_nearer_22 : decode cX12_nearer 22 = .ok (.ireturn, 1) := by decide +kernel
theorem dX12_nearer_8 : decode cX12_nearer 8 = .ok (.iadd, 1) := by decide +kernel
theorem dX12_nearer_7 : decode cX12_nearer 7 = .ok (.iload_n 2, 1) := by decide +kernel
theorem dX12_nearer_6 : decode cX12_nearer 6 = .ok (.iload_n 0, 1) := by decide +kernel
theorem dX12_nearer_5 : decode cX12_nearer 5 = .ok (.iload_n 1, 1) := by decide +kernel
theorem dX12_nearer_9 : decode cX12_nearer 9 = .ok (.invokestatic 231, 3) := by decide +kernel
theorem dX12_nearer_12 : decode cX12_nearer 12 = .ok (.goto 10, 3) := by decide +kernel
theorem dX12_steps_10 : decode cX12_steps 10 = .ok (.iconst 2, 1) := by decide +kernel
theorem dX12_steps_9 : decode cX12_steps 9 = .ok (.idiv, 1) := by decide +kernel
theorem dX12_steps_7 : decode cX12_steps 7 = .ok (.bipush 16, 2) := by decide +kernel
theorem dX12_steps_6 : decode cX12_steps 6 = .ok (.iload_n 1, 1) := by decide +kernel
theorem dX12_steps_5 : decode cX12_steps 5 = .ok (.idiv, 1) := by decide +kernel
theorem dX12_steps_3 : decode cX12_steps 3 = .ok (.bipush 16, 2) := by decide +kernel
theorem dX12_steps_2 : decode cX12_steps 2 = .ok (.iload_n 0, 1) := by decide +kernel
theorem dX12_steps_0 : decode cX12_steps 0 = .ok (.bipush 16, 2) := by decide +kernel
theorem dX12_steps_11 : decode cX12_steps 11 = .ok (.invokestatic 350, 3) := by decide +kernel
theorem dX12_steps_23 : decode cX12_steps 23 = .ok (.iconst 2, 1) := by decide +kernel
theorem dX12_steps_22 : decode cX12_steps 22 = .ok (.irem, 1) := by decide +kernel
theorem dX12_steps_20 : decode cX12_steps 20 = .ok (.bipush 16, 2) := by decide +kernel
theorem dX12_steps_19 : decode cX12_steps 19 = .ok (.iload_n 1, 1) := by decide +kernel
theorem dX12_steps_18 : decode cX12_steps 18 = .ok (.irem, 1) := by decide +kernel
theorem dX12_steps_16 : decode cX12_steps 16 = .ok (.bipush 16, 2) := by decide +kernel
theorem dX12_steps_15 : decode cX12_steps 15 = .ok (.iload_n 0, 1) := by decide +kernel
theorem dX12_steps_14 : decode cX12_steps 14 = .ok (.imul, 1) := by decide +kernel
theorem dX12_steps_24 : decode cX12_steps 24 = .ok (.invokestatic 350, 3) := by decide +kernel
theorem dX12_steps_27 : decode cX12_steps 27 = .ok (.iadd, 1) := by decide +kernel
theorem dX12_steps_28 : decode cX12_steps 28 = .ok (.ireturn, 1) := by decide +kernel
theorem dX12_isUnder_1 : decode cX12_isUnder 1 = .ok (.ifCond .eq 38, 3) := by decide +kernel
theorem dX12_isUnder_0 : decode cX12_isUnder 0 = .ok (.iload_n 1, 1) := by decide +kernel
theorem dX12_isUnder_40 : decode cX12_isUnder 40 = .ok (.goto 4, 3) := by decide +kernel
theorem dX12_isUnder_39 : decode cX12_isUnder 39 = .ok (.iconst 1, 1) := by decide +kernel
theorem dX12_isUnder_44 : decode cX12_isUnder 44 = .ok (.ireturn, 1) := by decide +kernel
theorem dX12_isUnder_6 : decode cX12_isUnder 6 = .ok (.if_icmp .eq 33, 3) := by decide +kernel
theorem dX12_isUnder_5 : decode cX12_isUnder 5 = .ok (.iload_n 1, 1) := by decide +kernel
theorem dX12_isUnder_4 : decode cX12_isUnder 4 = .ok (.iload_n 0, 1) := by decide +kernel
theorem dX12_isUnder_11 : decode cX12_isUnder 11 = .ok (.if_icmp .ne 8, 3) := by decide +kernel
theorem dX12_isUnder_10 : decode cX12_isUnder 10 = .ok (.iconst 1, 1) := by decide +kernel
theorem dX12_isUnder_9 : decode cX12_isUnder 9 = .ok (.iload_n 1, 1) := by decide +kernel
theorem dX12_isUnder_16 : decode cX12_isUnder 16 = .ok (.if_icmp .eq 23, 3) := by decide +kernel
theorem dX12_isUnder_15 : decode cX12_isUnder 15 = .ok (.iconst 2, 1) := by decide +kernel
theorem dX12_isUnder_14 : decode cX12_isUnder 14 = .ok (.iload_n 0, 1) := by decide +kernel
theorem dX12_isUnder_21 : decode cX12_isUnder 21 = .ok (.if_icmp .ne 8, 3) := by decide +kernel
theorem dX12_isUnder_20 : decode cX12_isUnder 20 = .ok (.iconst 3, 1) := by decide +kernel
theorem dX12_isUnder_19 : decode cX12_isUnder 19 = .ok (.iload_n 1, 1) := by decide +kernel
theorem dX12_isUnder_26 : decode cX12_isUnder 26 = .ok (.if_icmp .gt 13, 3) := by decide +kernel
theorem dX12_isUnder_25 : decode cX12_isUnder 25 = .ok (.iconst 3, 1) := by decide +kernel
theorem dX12_isUnder_24 : decode cX12_isUnder 24 = .ok (.iload_n 0, 1) := by decide +kernel
theorem dX12_isUnder_31 : decode cX12_isUnder 31 = .ok (.if_icmp .ne 12, 3) := by decide +kernel
theorem dX12_isUnder_30 : decode cX12_isUnder 30 = .ok (.iconst 4, 1) := by decide +kernel
theorem dX12_isUnder_29 : decode cX12_isUnder 29 = .ok (.iload_n 1, 1) := by decide +kernel
theorem dX12_isUnder_36 : decode cX12_isUnder 36 = .ok (.if_icmp .ne 7, 3) := by decide +kernel
theorem dX12_isUnder_35 : decode cX12_isUnder 35 = .ok (.iconst 5, 1) := by decide +kernel
theorem dX12_isUnder_34 : decode cX12_isUnder 34 = .ok (.iload_n 0, 1) := by decide +kernel
theorem dX12_isUnder_43 : decode cX12_isUnder 43 = .ok (.iconst 0, 1) := by decide +kernel
theorem dX12_isOf_2 : decode cX12_isOf 2 = .ok (.aload_n 0, 1) := by decide +kernel
theorem dX12_isOf_1 : decode cX12_isOf 1 = .ok (.iconst 0, 1) := by decide +kernel
theorem dX12_isOf_0 : decode cX12_isOf 0 = .ok (.iload_n 2, 1) := by decide +kernel
theorem dX12_isOf_3 : decode cX12_isOf 3 = .ok (.getfield 18, 3) := by decide +kernel
theorem dX12_isOf_6 : decode cX12_isOf 6 = .ok (.iload_n 1, 1) := by decide +kernel
theorem dX12_isOf_7 : decode cX12_isOf 7 = .ok (.iaload, 1) := by decide +kernel
theorem dX12_isOf_9 : decode cX12_isOf 9 = .ok (.isub, 1) := by decide +kernel
theorem dX12_isOf_8 : decode cX12_isOf 8 = .ok (.iconst 1, 1) := by decide +kernel
theorem dX12_isOf_10 : decode cX12_isOf 10 = .ok (.invokestatic 8, 3) := by decide +kernel
theorem dX12_isOf_13 : decode cX12_isOf 13 = .ok (.ireturn, 1) := by decide +kernel
theorem dX12_finds_0 : decode cX12_finds 0 = .ok (.aload_n 0, 1) := by decide +kernel
theorem dX12_finds_1 : decode cX12_finds 1 = .ok (.getfield 3, 3) := by decide +kernel
theorem dX12_finds_4 : decode cX12_finds 4 = .ok (.ldc 7, 2) := by decide +kernel
theorem dX12_finds_8 : decode cX12_finds 8 = .ok (.dup2, 1) := by decide +kernel
theorem dX12_finds_7 : decode cX12_finds 7 = .ok (.isub, 1) := by decide +kernel
theorem dX12_finds_6 : decode cX12_finds 6 = .ok (.iload_n 1, 1) := by decide +kernel
theorem dX12_finds_9 : decode cX12_finds 9 = .ok (.iaload, 1) := by decide +kernel
theorem dX12_finds_11 : decode cX12_finds 11 = .ok (.iadd, 1) := by decide +kernel
theorem dX12_finds_10 : decode cX12_finds 10 = .ok (.iconst 1, 1) := by decide +kernel
theorem dX12_finds_12 : decode cX12_finds 12 = .ok (.iastore, 1) := by decide +kernel
theorem dX12_finds_13 : decode cX12_finds 13 = .ok (.iload_n 1, 1) := by decide +kernel
theorem dX12_finds_14 : decode cX12_finds 14 = .ok (.ireturn, 1) := by decide +kernel
theorem dX11_finding_2 : decode cX11_finding 2 = .ok (.iconst 5, 1) := by decide +kernel
theorem dX11_finding_1 : decode cX11_finding 1 = .ok (.iconst 1, 1) := by decide +kernel
theorem dX11_finding_0 : decode cX11_finding 0 = .ok (.iload_n 1, 1) := by decide +kernel
theorem dX11_finding_3 : decode cX11_finding 3 = .ok (.invokestatic 90, 3) := by decide +kernel
theorem dX11_finding_6 : decode cX11_finding 6 = .ok (.ifCond .eq 13, 3) := by decide +kernel
theorem dX11_finding_9 : decode cX11_finding 9 = .ok (.aload_n 0, 1) := by decide +kernel
theorem dX11_finding_10 : decode cX11_finding 10 = .ok (.getfield 76, 3) := by decide +kernel
theorem dX11_finding_14 : decode cX11_finding 14 = .ok (.dup2, 1) := by decide +kernel
theorem dX11_finding_13 : decode cX11_finding 13 = .ok (.iload_n 1, 1) := by decide +kernel
theorem dX11_finding_15 : decode cX11_finding 15 = .ok (.iaload, 1) := by decide +kernel
theorem dX11_finding_17 : decode cX11_finding 17 = .ok (.iadd, 1) := by decide +kernel
theorem dX11_finding_16 : decode cX11_finding 16 = .ok (.iconst 1, 1) := by decide +kernel
theorem dX11_finding_18 : decode cX11_finding 18 = .ok (.iastore, 1) := by decide +kernel
theorem dX11_finding_19 : decode cX11_finding 19 = .ok (.ldc_w 359, 3) := by decide +kernel
theorem dX11_finding_23 : decode cX11_finding 23 = .ok (.isub, 1) := by decide +kernel
theorem dX11_finding_22 : decode cX11_finding 22 = .ok (.iload_n 1, 1) := by decide +kernel
theorem dX11_finding_24 : decode cX11_finding 24 = .ok (.ireturn, 1) := by decide +kernel
section QMO
variable {o : q_H} {g : Nat → Nat → Int32}
def q_nr3 (v to by1 : Int32) : Int32 := if v < to then (if to < v + by1 then to else v + by1) else (if v - by1 < to then to else v - by1)
theorem m_nr : ∀ x, x < 16 → ∀ y, y < 16 → q_nr3 (nI x) (nI y) 2 = nI (q_stA (q_stA x y) y) := by decide +kernel
/-- kind k is a kind a, or under it -/
abbrev q_un (k a : Int32) : Prop := a = 0 ∨ k = a ∨ (a = 1 ∧ k = 2) ∨ (a = 3 ∧ 3 < k) ∨ (a = 4 ∧ k = 5)
theorem n_in (d : Nat) (v a b : Int32) : q_sem (d + 1) mX12_in 0 [.int v, .int a, .int b] [] (q_K o g) = some (some (.int (if q_wi v a b then 1 else 0)), q_K o g) := by
  refine (q_blk (Y := mX12_in) (q_dcC dX12_in_0 (q_dcC dX12_in_1 (q_dcC dX12_in_2 q_dcN))) (show _ = some ((if q_cc .lt v a = true then 14 else 5), [.int v, .int a, .int b], []) from rfl)).trans ?_
  by_cases c1 : v < a
  · rw [if_pos (show q_cc .lt v a = true from decide_eq_true c1)]
    refine (q_blk (Y := mX12_in) (q_dcC dX12_in_14 q_dcN) (show _ = some (15, [.int v, .int a, .int b], [.int 0]) from rfl)).trans ?_
    refine (k_iret (Y := mX12_in) dX12_in_15 rfl).trans ?_
    exact r_b0 (by simp only [q_wi, Int32.lt_iff_toInt_lt, Int32.le_iff_toInt_le] at c1 ⊢; omega)
  · rw [if_neg (show ¬ q_cc .lt v a = true from fun z => c1 (of_decide_eq_true z))]
    refine (q_blk (Y := mX12_in) (q_dcC dX12_in_5 (q_dcC dX12_in_6 (q_dcC dX12_in_7 q_dcN))) (show _ = some ((if q_cc .gt v b = true then 14 else 10), [.int v, .int a, .int b], []) from rfl)).trans ?_
    by_cases c2 : b < v
    · rw [if_pos (show q_cc .gt v b = true from decide_eq_true c2)]
      refine (q_blk (Y := mX12_in) (q_dcC dX12_in_14 q_dcN) (show _ = some (15, [.int v, .int a, .int b], [.int 0]) from rfl)).trans ?_
      refine (k_iret (Y := mX12_in) dX12_in_15 rfl).trans ?_
      exact r_b0 (by simp only [q_wi, Int32.lt_iff_toInt_lt, Int32.le_iff_toInt_le] at c1 c2 ⊢; omega)
    · rw [if_neg (show ¬ q_cc .gt v b = true from fun z => c2 (of_decide_eq_true z))]
      refine (q_blk (Y := mX12_in) (q_dcC dX12_in_10 (q_dcC dX12_in_11 q_dcN)) (show _ = some (15, [.int v, .int a, .int b], [.int 1]) from rfl)).trans ?_
      refine (k_iret (Y := mX12_in) dX12_in_15 rfl).trans ?_
      exact r_b1 (by simp only [q_wi, Int32.lt_iff_toInt_lt, Int32.le_iff_toInt_le] at c1 c2 ⊢; omega)
theorem n_isCell (d : Nat) (c : Int32) : q_sem (d + 2) mX12_isCell 0 [.int c] [] (q_K o g) = some (some (.int (if q_wi c 0 255 then 1 else 0)), q_K o g) := by
  refine (q_blk (Y := mX12_isCell) (q_dcC dX12_isCell_0 (q_dcC dX12_isCell_1 (q_dcC dX12_isCell_2 q_dcN))) (show _ = some (5, [.int c], [.int 255, .int 0, .int c]) from rfl)).trans ?_
  refine (k_calS (d := d + 1) (Y := mX12_isCell) (Z := mX12_in) (vs := [.int c, .int 0, .int 255]) (rest := []) dX12_isCell_5 rfl rfl rfl rfl (Nat.le_of_ble_eq_true rfl) rfl (Nat.le_of_ble_eq_true rfl) (n_in d c 0 255)).trans ?_
  show q_sem _ _ 8 [.int c] [.int (if q_wi c 0 255 then 1 else 0)] (q_K o g) = _
  refine (k_iret (Y := mX12_isCell) dX12_isCell_8 q_narB).trans ?_
  rfl
theorem n_size (d : Nat) (v : Int32) : q_sem (d + 1) mX12_size 0 [.int v] [] (q_K o g) = some (some (.int (if v < 0 then -v else v)), q_K o g) := by
  refine (q_blk (Y := mX12_size) (q_dcC dX12_size_0 (q_dcC dX12_size_1 q_dcN)) (show _ = some ((if q_cc .ge v 0 = true then 9 else 4), [.int v], []) from rfl)).trans ?_
  by_cases c1 : 0 ≤ v
  · rw [if_pos (show q_cc .ge v 0 = true from decide_eq_true c1)]
    refine (q_blk (Y := mX12_size) (q_dcC dX12_size_9 q_dcN) (show _ = some (10, [.int v], [.int v]) from rfl)).trans ?_
    refine (k_iret (Y := mX12_size) dX12_size_10 rfl).trans ?_
    rw [if_neg (by rw [Int32.le_iff_toInt_le] at c1; rw [Int32.lt_iff_toInt_lt]; exact Int.not_lt.mpr c1)]
  · rw [if_neg (show ¬ q_cc .ge v 0 = true from fun z => c1 (of_decide_eq_true z))]
    refine (q_blk (Y := mX12_size) (q_dcC dX12_size_4 (q_dcC dX12_size_5 (q_dcC dX12_size_6 q_dcN))) (show _ = some (10, [.int v], [.int (-v)]) from rfl)).trans ?_
    refine (k_iret (Y := mX12_size) dX12_size_10 rfl).trans ?_
    rw [if_pos (by rw [Int32.le_iff_toInt_le] at c1; rw [Int32.lt_iff_toInt_lt]; exact Int.not_le.mp c1)]
theorem n_greater (d : Nat) (a b : Int32) : q_sem (d + 1) mX12_greater 0 [.int a, .int b] [] (q_K o g) = some (some (.int (if b < a then a else b)), q_K o g) := by
  refine (q_blk (Y := mX12_greater) (q_dcC dX12_greater_0 (q_dcC dX12_greater_1 (q_dcC dX12_greater_2 q_dcN))) (show _ = some ((if q_cc .le a b = true then 9 else 5), [.int a, .int b], []) from rfl)).trans ?_
  by_cases c1 : a ≤ b
  · rw [if_pos (show q_cc .le a b = true from decide_eq_true c1)]
    refine (q_blk (Y := mX12_greater) (q_dcC dX12_greater_9 q_dcN) (show _ = some (10, [.int a, .int b], [.int b]) from rfl)).trans ?_
    refine (k_iret (Y := mX12_greater) dX12_greater_10 rfl).trans ?_
    rw [if_neg (by rw [Int32.le_iff_toInt_le] at c1; rw [Int32.lt_iff_toInt_lt]; exact Int.not_lt.mpr c1)]
  · rw [if_neg (show ¬ q_cc .le a b = true from fun z => c1 (of_decide_eq_true z))]
    refine (q_blk (Y := mX12_greater) (q_dcC dX12_greater_5 (q_dcC dX12_greater_6 q_dcN)) (show _ = some (10, [.int a, .int b], [.int a]) from rfl)).trans ?_
    refine (k_iret (Y := mX12_greater) dX12_greater_10 rfl).trans ?_
    rw [if_pos (by rw [Int32.le_iff_toInt_le] at c1; rw [Int32.lt_iff_toInt_lt]; exact Int.not_le.mp c1)]
theorem n_lesser (d : Nat) (a b : Int32) : q_sem (d + 1) mX12_lesser 0 [.int a, .int b] [] (q_K o g) = some (some (.int (if a < b then a else b)), q_K o g) := by
  refine (q_blk (Y := mX12_lesser) (q_dcC dX12_lesser_0 (q_dcC dX12_lesser_1 (q_dcC dX12_lesser_2 q_dcN))) (show _ = some ((if q_cc .ge a b = true then 9 else 5), [.int a, .int b], []) from rfl)).trans ?_
  by_cases c1 : b ≤ a
  · rw [if_pos (show q_cc .ge a b = true from decide_eq_true c1)]
    refine (q_blk (Y := mX12_lesser) (q_dcC dX12_lesser_9 q_dcN) (show _ = some (10, [.int a, .int b], [.int b]) from rfl)).trans ?_
    refine (k_iret (Y := mX12_lesser) dX12_lesser_10 rfl).trans ?_
    rw [if_neg (by rw [Int32.le_iff_toInt_le] at c1; rw [Int32.lt_iff_toInt_lt]; exact Int.not_lt.mpr c1)]
  · rw [if_neg (show ¬ q_cc .ge a b = true from fun z => c1 (of_decide_eq_true z))]
    refine (q_blk (Y := mX12_lesser) (q_dcC dX12_lesser_5 (q_dcC dX12_lesser_6 q_dcN)) (show _ = some (10, [.int a, .int b], [.int a]) from rfl)).trans ?_
    refine (k_iret (Y := mX12_lesser) dX12_lesser_10 rfl).trans ?_
    rw [if_pos (by rw [Int32.le_iff_toInt_le] at c1; rw [Int32.lt_iff_toInt_lt]; exact Int.not_le.mp c1)]
theorem n_apart (d : Nat) {a b : Nat} (ha : a < 256) (hb : b < 256) : q_sem (d + 2) mX12_apart 0 [.int (nI a), .int (nI b)] [] (q_K o g) = some (some (.int (nI (q_ap a b))), q_K o g) := by
  refine (q_blk (Y := mX12_apart) (q_dcC dX12_apart_0 (q_dcC dX12_apart_1 (q_dcC dX12_apart_3 (q_dcC dX12_apart_4 (q_dcC dX12_apart_5 (q_dcC dX12_apart_7 (q_dcC dX12_apart_8 q_dcN))))))) (show _ = some (9, [.int (nI a), .int (nI b)], [.int (((nI a) / 16) - ((nI b) / 16))]) from rfl)).trans ?_
  refine (k_calS (d := d + 1) (Y := mX12_apart) (Z := mX12_size) (vs := [.int (((nI a) / 16) - ((nI b) / 16))]) (rest := []) dX12_apart_9 rfl rfl rfl rfl (Nat.le_of_ble_eq_true rfl) rfl (Nat.le_of_ble_eq_true rfl) (n_size d (((nI a) / 16) - ((nI b) / 16)))).trans ?_
  show q_sem _ _ 12 [.int (nI a), .int (nI b)] [.int (if (((nI a) / 16) - ((nI b) / 16)) < 0 then -(((nI a) / 16) - ((nI b) / 16)) else (((nI a) / 16) - ((nI b) / 16)))] (q_K o g) = _
  refine (q_blk (Y := mX12_apart) (q_dcC dX12_apart_12 (q_dcC dX12_apart_13 (q_dcC dX12_apart_15 (q_dcC dX12_apart_16 (q_dcC dX12_apart_17 (q_dcC dX12_apart_19 (q_dcC dX12_apart_20 q_dcN))))))) (show _ = some (21, [.int (nI a), .int (nI b)], [.int (((nI a) - (nI a) / 16 * 16) - ((nI b) - (nI b) / 16 * 16)), .int (if (((nI a) / 16) - ((nI b) / 16)) < 0 then -(((nI a) / 16) - ((nI b) / 16)) else (((nI a) / 16) - ((nI b) / 16)))]) from rfl)).trans ?_
  refine (k_calS (d := d + 1) (Y := mX12_apart) (Z := mX12_size) (vs := [.int (((nI a) - (nI a) / 16 * 16) - ((nI b) - (nI b) / 16 * 16))]) (rest := [.int (if (((nI a) / 16) - ((nI b) / 16)) < 0 then -(((nI a) / 16) - ((nI b) / 16)) else (((nI a) / 16) - ((nI b) / 16)))]) dX12_apart_21 rfl rfl rfl rfl (Nat.le_of_ble_eq_true rfl) rfl (Nat.le_of_ble_eq_true rfl) (n_size d (((nI a) - (nI a) / 16 * 16) - ((nI b) - (nI b) / 16 * 16)))).trans ?_
  show q_sem _ _ 24 [.int (nI a), .int (nI b)] [.int (if (((nI a) - (nI a) / 16 * 16) - ((nI b) - (nI b) / 16 * 16)) < 0 then -(((nI a) - (nI a) / 16 * 16) - ((nI b) - (nI b) / 16 * 16)) else (((nI a) - (nI a) / 16 * 16) - ((nI b) - (nI b) / 16 * 16))), .int (if (((nI a) / 16) - ((nI b) / 16)) < 0 then -(((nI a) / 16) - ((nI b) / 16)) else (((nI a) / 16) - ((nI b) / 16)))] (q_K o g) = _
  refine (k_calS (d := d + 1) (Y := mX12_apart) (Z := mX12_greater) (vs := [.int (if (((nI a) / 16) - ((nI b) / 16)) < 0 then -(((nI a) / 16) - ((nI b) / 16)) else (((nI a) / 16) - ((nI b) / 16))), .int (if (((nI a) - (nI a) / 16 * 16) - ((nI b) - (nI b) / 16 * 16)) < 0 then -(((nI a) - (nI a) / 16 * 16) - ((nI b) - (nI b) / 16 * 16)) else (((nI a) - (nI a) / 16 * 16) - ((nI b) - (nI b) / 16 * 16)))]) (rest := []) dX12_apart_24 rfl rfl rfl rfl (Nat.le_of_ble_eq_true rfl) rfl (Nat.le_of_ble_eq_true rfl) (n_greater d (if (((nI a) / 16) - ((nI b) / 16)) < 0 then -(((nI a) / 16) - ((nI b) / 16)) else (((nI a) / 16) - ((nI b) / 16))) (if (((nI a) - (nI a) / 16 * 16) - ((nI b) - (nI b) / 16 * 16)) < 0 then -(((nI a) - (nI a) / 16 * 16) - ((nI b) - (nI b) / 16 * 16)) else (((nI a) - (nI a) / 16 * 16) - ((nI b) - (nI b) / 16 * 16))))).trans ?_
  show q_sem _ _ 27 [.int (nI a), .int (nI b)] [.int (if (if (((nI a) - (nI a) / 16 * 16) - ((nI b) - (nI b) / 16 * 16)) < 0 then -(((nI a) - (nI a) / 16 * 16) - ((nI b) - (nI b) / 16 * 16)) else (((nI a) - (nI a) / 16 * 16) - ((nI b) - (nI b) / 16 * 16))) < (if (((nI a) / 16) - ((nI b) / 16)) < 0 then -(((nI a) / 16) - ((nI b) / 16)) else (((nI a) / 16) - ((nI b) / 16))) then (if (((nI a) / 16) - ((nI b) / 16)) < 0 then -(((nI a) / 16) - ((nI b) / 16)) else (((nI a) / 16) - ((nI b) / 16))) else (if (((nI a) - (nI a) / 16 * 16) - ((nI b) - (nI b) / 16 * 16)) < 0 then -(((nI a) - (nI a) / 16 * 16) - ((nI b) - (nI b) / 16 * 16)) else (((nI a) - (nI a) / 16 * 16) - ((nI b) - (nI b) / 16 * 16))))] (q_K o g) = _
  refine (k_iret (Y := mX12_apart) dX12_apart_27 rfl).trans ?_
  rw [m_dx ha, m_dx hb, m_dy ha, m_dy hb, m_abs2 _ (by omega) _ (by omega), m_abs2 _ (by omega) _ (by omega), m_max (by have := m_df (a % 16) (by omega) (b % 16) (by omega); omega) (by have := m_df (a / 16) (by omega) (b / 16) (by omega); omega)]
  rfl
theorem n_isWithin (d : Nat) {a b : Nat} (ha : a < 256) (hb : b < 256) (r : Int32) : q_sem (d + 1) mX12_isWithin 0 [.int (nI a), .int (nI b), .int r, .retAddr 0, .retAddr 0] [] (q_K o g) = some (some (.int (if nI (q_d2 a b) ≤ r * r then 1 else 0)), q_K o g) := by
  refine (q_blk (Y := mX12_isWithin) (q_dcC dX12_isWithin_0 (q_dcC dX12_isWithin_1 (q_dcC dX12_isWithin_3 (q_dcC dX12_isWithin_4 (q_dcC dX12_isWithin_5 (q_dcC dX12_isWithin_7 (q_dcC dX12_isWithin_8 (q_dcC dX12_isWithin_9 (q_dcC dX12_isWithin_10 (q_dcC dX12_isWithin_11 (q_dcC dX12_isWithin_13 (q_dcC dX12_isWithin_14 (q_dcC dX12_isWithin_15 (q_dcC dX12_isWithin_17 (q_dcC dX12_isWithin_18 (q_dcC dX12_isWithin_19 (q_dcC dX12_isWithin_21 (q_dcC dX12_isWithin_22 (q_dcC dX12_isWithin_23 (q_dcC dX12_isWithin_24 (q_dcC dX12_isWithin_26 (q_dcC dX12_isWithin_28 (q_dcC dX12_isWithin_29 (q_dcC dX12_isWithin_30 (q_dcC dX12_isWithin_31 (q_dcC dX12_isWithin_32 (q_dcC dX12_isWithin_33 q_dcN))))))))))))))))))))))))))) (show _ = some ((if q_cc .gt (((((nI a) / 16) - ((nI b) / 16)) * (((nI a) / 16) - ((nI b) / 16))) + ((((nI a) - (nI a) / 16 * 16) - ((nI b) - (nI b) / 16 * 16)) * (((nI a) - (nI a) / 16 * 16) - ((nI b) - (nI b) / 16 * 16)))) (r * r) = true then 40 else 36), [.int (nI a), .int (nI b), .int r, .int (((nI a) / 16) - ((nI b) / 16)), .int (((nI a) - (nI a) / 16 * 16) - ((nI b) - (nI b) / 16 * 16))], []) from rfl)).trans ?_
  by_cases c1 : (r * r) < (((((nI a) / 16) - ((nI b) / 16)) * (((nI a) / 16) - ((nI b) / 16))) + ((((nI a) - (nI a) / 16 * 16) - ((nI b) - (nI b) / 16 * 16)) * (((nI a) - (nI a) / 16 * 16) - ((nI b) - (nI b) / 16 * 16))))
  · rw [if_pos (show q_cc .gt (((((nI a) / 16) - ((nI b) / 16)) * (((nI a) / 16) - ((nI b) / 16))) + ((((nI a) - (nI a) / 16 * 16) - ((nI b) - (nI b) / 16 * 16)) * (((nI a) - (nI a) / 16 * 16) - ((nI b) - (nI b) / 16 * 16)))) (r * r) = true from decide_eq_true c1)]
    refine (q_blk (Y := mX12_isWithin) (q_dcC dX12_isWithin_40 q_dcN) (show _ = some (41, [.int (nI a), .int (nI b), .int r, .int (((nI a) / 16) - ((nI b) / 16)), .int (((nI a) - (nI a) / 16 * 16) - ((nI b) - (nI b) / 16 * 16))], [.int 0]) from rfl)).trans ?_
    refine (k_iret (Y := mX12_isWithin) dX12_isWithin_41 rfl).trans ?_
    rw [m_dx ha, m_dx hb, m_dy ha, m_dy hb, m_sq _ (by omega) _ (by omega), m_sq _ (by omega) _ (by omega), nI_add, Nat.add_comm] at c1
    exact r_b0 (fun z => by rw [Int32.lt_iff_toInt_lt] at c1; rw [Int32.le_iff_toInt_le] at z; unfold q_d2 at z; omega)
  · rw [if_neg (show ¬ q_cc .gt (((((nI a) / 16) - ((nI b) / 16)) * (((nI a) / 16) - ((nI b) / 16))) + ((((nI a) - (nI a) / 16 * 16) - ((nI b) - (nI b) / 16 * 16)) * (((nI a) - (nI a) / 16 * 16) - ((nI b) - (nI b) / 16 * 16)))) (r * r) = true from fun z => c1 (of_decide_eq_true z))]
    refine (q_blk (Y := mX12_isWithin) (q_dcC dX12_isWithin_36 (q_dcC dX12_isWithin_37 q_dcN)) (show _ = some (41, [.int (nI a), .int (nI b), .int r, .int (((nI a) / 16) - ((nI b) / 16)), .int (((nI a) - (nI a) / 16 * 16) - ((nI b) - (nI b) / 16 * 16))], [.int 1]) from rfl)).trans ?_
    refine (k_iret (Y := mX12_isWithin) dX12_isWithin_41 rfl).trans ?_
    rw [m_dx ha, m_dx hb, m_dy ha, m_dy hb, m_sq _ (by omega) _ (by omega), m_sq _ (by omega) _ (by omega), nI_add, Nat.add_comm] at c1
    exact r_b1 (by rw [Int32.lt_iff_toInt_lt] at c1; rw [Int32.le_iff_toInt_le]; unfold q_d2; omega)
theorem n_nearer (d : Nat) (v to by1 : Int32) : q_sem (d + 2) mX12_nearer 0 [.int v, .int to, .int by1] [] (q_K o g) = some (some (.int (q_nr3 v to by1)), q_K o g) := by
  refine (q_blk (Y := mX12_nearer) (q_dcC dX12_nearer_0 (q_dcC dX12_nearer_1 (q_dcC dX12_nearer_2 q_dcN))) (show _ = some ((if q_cc .ge v to = true then 15 else 5), [.int v, .int to, .int by1], []) from rfl)).trans ?_
  by_cases c1 : to ≤ v
  · rw [if_pos (show q_cc .ge v to = true from decide_eq_true c1)]
    refine (q_blk (Y := mX12_nearer) (q_dcC dX12_nearer_15 (q_dcC dX12_nearer_16 (q_dcC dX12_nearer_17 (q_dcC dX12_nearer_18 q_dcN)))) (show _ = some (19, [.int v, .int to, .int by1], [.int (v - by1), .int to]) from rfl)).trans ?_
    refine (k_calS (d := d + 1) (Y := mX12_nearer) (Z := mX12_greater) (vs := [.int to, .int (v - by1)]) (rest := []) dX12_nearer_19 rfl rfl rfl rfl (Nat.le_of_ble_eq_true rfl) rfl (Nat.le_of_ble_eq_true rfl) (n_greater d to (v - by1))).trans ?_
    show q_sem _ _ 22 [.int v, .int to, .int by1] [.int (if (v - by1) < to then to else (v - by1))] (q_K o g) = _
    refine (k_iret (Y := mX12_nearer) dX12_nearer_22 rfl).trans ?_
    have e : q_nr3 v to by1 = (if v - by1 < to then to else v - by1) := if_neg (fun z => by rw [Int32.le_iff_toInt_le] at c1; rw [Int32.lt_iff_toInt_lt] at z; omega)
    rw [e]
  · rw [if_neg (show ¬ q_cc .ge v to = true from fun z => c1 (of_decide_eq_true z))]
    refine (q_blk (Y := mX12_nearer) (q_dcC dX12_nearer_5 (q_dcC dX12_nearer_6 (q_dcC dX12_nearer_7 (q_dcC dX12_nearer_8 q_dcN)))) (show _ = some (9, [.int v, .int to, .int by1], [.int (v + by1), .int to]) from rfl)).trans ?_
    refine (k_calS (d := d + 1) (Y := mX12_nearer) (Z := mX12_lesser) (vs := [.int to, .int (v + by1)]) (rest := []) dX12_nearer_9 rfl rfl rfl rfl (Nat.le_of_ble_eq_true rfl) rfl (Nat.le_of_ble_eq_true rfl) (n_lesser d to (v + by1))).trans ?_
    show q_sem _ _ 12 [.int v, .int to, .int by1] [.int (if to < (v + by1) then to else (v + by1))] (q_K o g) = _
    refine (q_blk (Y := mX12_nearer) (q_dcC dX12_nearer_12 q_dcN) (show _ = some (22, [.int v, .int to, .int by1], [.int (if to < (v + by1) then to else (v + by1))]) from rfl)).trans ?_
    refine (k_iret (Y := mX12_nearer) dX12_nearer_22 rfl).trans ?_
    have e : q_nr3 v to by1 = (if to < v + by1 then to else v + by1) := if_pos (by rw [Int32.le_iff_toInt_le] at c1; rw [Int32.lt_iff_toInt_lt]; omega)
    rw [e]
theorem n_steps (d : Nat) {a b : Nat} (ha : a < 256) (hb : b < 256) : q_sem (d + 3) mX12_steps 0 [.int (nI a), .int (nI b)] [] (q_K o g) = some (some (.int (nI (q_sp (q_sp a b) b))), q_K o g) := by
  refine (q_blk (Y := mX12_steps) (q_dcC dX12_steps_0 (q_dcC dX12_steps_2 (q_dcC dX12_steps_3 (q_dcC dX12_steps_5 (q_dcC dX12_steps_6 (q_dcC dX12_steps_7 (q_dcC dX12_steps_9 (q_dcC dX12_steps_10 q_dcN)))))))) (show _ = some (11, [.int (nI a), .int (nI b)], [.int 2, .int ((nI b) / 16), .int ((nI a) / 16), .int 16]) from rfl)).trans ?_
  refine (k_calS (d := d + 2) (Y := mX12_steps) (Z := mX12_nearer) (vs := [.int ((nI a) / 16), .int ((nI b) / 16), .int 2]) (rest := [.int 16]) dX12_steps_11 rfl rfl rfl rfl (Nat.le_of_ble_eq_true rfl) rfl (Nat.le_of_ble_eq_true rfl) (n_nearer d ((nI a) / 16) ((nI b) / 16) 2)).trans ?_
  show q_sem _ _ 14 [.int (nI a), .int (nI b)] [.int (q_nr3 ((nI a) / 16) ((nI b) / 16) 2), .int 16] (q_K o g) = _
  refine (q_blk (Y := mX12_steps) (q_dcC dX12_steps_14 (q_dcC dX12_steps_15 (q_dcC dX12_steps_16 (q_dcC dX12_steps_18 (q_dcC dX12_steps_19 (q_dcC dX12_steps_20 (q_dcC dX12_steps_22 (q_dcC dX12_steps_23 q_dcN)))))))) (show _ = some (24, [.int (nI a), .int (nI b)], [.int 2, .int ((nI b) - (nI b) / 16 * 16), .int ((nI a) - (nI a) / 16 * 16), .int (16 * (q_nr3 ((nI a) / 16) ((nI b) / 16) 2))]) from rfl)).trans ?_
  refine (k_calS (d := d + 2) (Y := mX12_steps) (Z := mX12_nearer) (vs := [.int ((nI a) - (nI a) / 16 * 16), .int ((nI b) - (nI b) / 16 * 16), .int 2]) (rest := [.int (16 * (q_nr3 ((nI a) / 16) ((nI b) / 16) 2))]) dX12_steps_24 rfl rfl rfl rfl (Nat.le_of_ble_eq_true rfl) rfl (Nat.le_of_ble_eq_true rfl) (n_nearer d ((nI a) - (nI a) / 16 * 16) ((nI b) - (nI b) / 16 * 16) 2)).trans ?_
  show q_sem _ _ 27 [.int (nI a), .int (nI b)] [.int (q_nr3 ((nI a) - (nI a) / 16 * 16) ((nI b) - (nI b) / 16 * 16) 2), .int (16 * (q_nr3 ((nI a) / 16) ((nI b) / 16) 2))] (q_K o g) = _
  refine (q_blk (Y := mX12_steps) (q_dcC dX12_steps_27 q_dcN) (show _ = some (28, [.int (nI a), .int (nI b)], [.int ((16 * (q_nr3 ((nI a) / 16) ((nI b) / 16) 2)) + (q_nr3 ((nI a) - (nI a) / 16 * 16) ((nI b) - (nI b) / 16 * 16) 2))]) from rfl)).trans ?_
  refine (k_iret (Y := mX12_steps) dX12_steps_28 rfl).trans ?_
  rw [m_dx ha, m_dx hb, m_dy ha, m_dy hb, m_nr _ (by omega) _ (by omega), m_nr _ (by omega) _ (by omega), show (16 : Int32) = nI 16 from rfl, pk_mul, nI_add]
  have h1 := m_stB (a / 16) (by omega) (b / 16) (by omega)
  have h2 := m_stB (a % 16) (by omega) (b % 16) (by omega)
  have e1 : q_sp a b / 16 = q_stA (a / 16) (b / 16) := by unfold q_sp; omega
  have e2 : q_sp a b % 16 = q_stA (a % 16) (b % 16) := by unfold q_sp; omega
  rw [show q_sp (q_sp a b) b = 16 * q_stA (q_sp a b / 16) (b / 16) + q_stA (q_sp a b % 16) (b % 16) from rfl, e1, e2]
theorem n_isUnder (d : Nat) (k a : Int32) : q_sem (d + 1) mX12_isUnder 0 [.int k, .int a] [] (q_K o g) = some (some (.int (if q_un k a then 1 else 0)), q_K o g) := by
  refine (q_blk (Y := mX12_isUnder) (q_dcC dX12_isUnder_0 (q_dcC dX12_isUnder_1 q_dcN)) (show _ = some ((if q_cc .eq a 0 = true then 39 else 4), [.int k, .int a], []) from rfl)).trans ?_
  by_cases c1 : a = 0
  · rw [if_pos (show q_cc .eq a 0 = true from decide_eq_true c1)]
    refine (q_blk (Y := mX12_isUnder) (q_dcC dX12_isUnder_39 (q_dcC dX12_isUnder_40 q_dcN)) (show _ = some (44, [.int k, .int a], [.int 1]) from rfl)).trans ?_
    refine (k_iret (Y := mX12_isUnder) dX12_isUnder_44 rfl).trans ?_
    exact r_b1 (by simp_all [q_un])
  · rw [if_neg (show ¬ q_cc .eq a 0 = true from fun z => c1 (of_decide_eq_true z))]
    refine (q_blk (Y := mX12_isUnder) (q_dcC dX12_isUnder_4 (q_dcC dX12_isUnder_5 (q_dcC dX12_isUnder_6 q_dcN))) (show _ = some ((if q_cc .eq k a = true then 39 else 9), [.int k, .int a], []) from rfl)).trans ?_
    by_cases c2 : k = a
    · rw [if_pos (show q_cc .eq k a = true from decide_eq_true c2)]
      refine (q_blk (Y := mX12_isUnder) (q_dcC dX12_isUnder_39 (q_dcC dX12_isUnder_40 q_dcN)) (show _ = some (44, [.int k, .int a], [.int 1]) from rfl)).trans ?_
      refine (k_iret (Y := mX12_isUnder) dX12_isUnder_44 rfl).trans ?_
      exact r_b1 (by simp_all [q_un])
    · rw [if_neg (show ¬ q_cc .eq k a = true from fun z => c2 (of_decide_eq_true z))]
      refine (q_blk (Y := mX12_isUnder) (q_dcC dX12_isUnder_9 (q_dcC dX12_isUnder_10 (q_dcC dX12_isUnder_11 q_dcN))) (show _ = some ((if q_cc .ne a 1 = true then 19 else 14), [.int k, .int a], []) from rfl)).trans ?_
      by_cases c3 : a = 1
      · rw [if_neg (show ¬ q_cc .ne a 1 = true from fun z => (of_decide_eq_true z : ¬ a = 1) c3)]
        refine (q_blk (Y := mX12_isUnder) (q_dcC dX12_isUnder_14 (q_dcC dX12_isUnder_15 (q_dcC dX12_isUnder_16 q_dcN))) (show _ = some ((if q_cc .eq k 2 = true then 39 else 19), [.int k, .int a], []) from rfl)).trans ?_
        by_cases c4 : k = 2
        · rw [if_pos (show q_cc .eq k 2 = true from decide_eq_true c4)]
          refine (q_blk (Y := mX12_isUnder) (q_dcC dX12_isUnder_39 (q_dcC dX12_isUnder_40 q_dcN)) (show _ = some (44, [.int k, .int a], [.int 1]) from rfl)).trans ?_
          refine (k_iret (Y := mX12_isUnder) dX12_isUnder_44 rfl).trans ?_
          exact r_b1 (by simp_all [q_un])
        · rw [if_neg (show ¬ q_cc .eq k 2 = true from fun z => c4 (of_decide_eq_true z))]
          refine (q_blk (Y := mX12_isUnder) (q_dcC dX12_isUnder_19 (q_dcC dX12_isUnder_20 (q_dcC dX12_isUnder_21 q_dcN))) (show _ = some ((if q_cc .ne a 3 = true then 29 else 24), [.int k, .int a], []) from rfl)).trans ?_
          by_cases c5 : a = 3
          · rw [if_neg (show ¬ q_cc .ne a 3 = true from fun z => (of_decide_eq_true z : ¬ a = 3) c5)]
            refine (q_blk (Y := mX12_isUnder) (q_dcC dX12_isUnder_24 (q_dcC dX12_isUnder_25 (q_dcC dX12_isUnder_26 q_dcN))) (show _ = some ((if q_cc .gt k 3 = true then 39 else 29), [.int k, .int a], []) from rfl)).trans ?_
            by_cases c6 : 3 < k
            · rw [if_pos (show q_cc .gt k 3 = true from decide_eq_true c6)]
              refine (q_blk (Y := mX12_isUnder) (q_dcC dX12_isUnder_39 (q_dcC dX12_isUnder_40 q_dcN)) (show _ = some (44, [.int k, .int a], [.int 1]) from rfl)).trans ?_
              refine (k_iret (Y := mX12_isUnder) dX12_isUnder_44 rfl).trans ?_
              exact r_b1 (by simp_all [q_un])
            · rw [if_neg (show ¬ q_cc .gt k 3 = true from fun z => c6 (of_decide_eq_true z))]
              refine (q_blk (Y := mX12_isUnder) (q_dcC dX12_isUnder_29 (q_dcC dX12_isUnder_30 (q_dcC dX12_isUnder_31 q_dcN))) (show _ = some ((if q_cc .ne a 4 = true then 43 else 34), [.int k, .int a], []) from rfl)).trans ?_
              by_cases c7 : a = 4
              · rw [if_neg (show ¬ q_cc .ne a 4 = true from fun z => (of_decide_eq_true z : ¬ a = 4) c7)]
                refine (q_blk (Y := mX12_isUnder) (q_dcC dX12_isUnder_34 (q_dcC dX12_isUnder_35 (q_dcC dX12_isUnder_36 q_dcN))) (show _ = some ((if q_cc .ne k 5 = true then 43 else 39), [.int k, .int a], []) from rfl)).trans ?_
                by_cases c8 : k = 5
                · rw [if_neg (show ¬ q_cc .ne k 5 = true from fun z => (of_decide_eq_true z : ¬ k = 5) c8)]
                  refine (q_blk (Y := mX12_isUnder) (q_dcC dX12_isUnder_39 (q_dcC dX12_isUnder_40 q_dcN)) (show _ = some (44, [.int k, .int a], [.int 1]) from rfl)).trans ?_
                  refine (k_iret (Y := mX12_isUnder) dX12_isUnder_44 rfl).trans ?_
                  exact r_b1 (by simp_all [q_un])
                · rw [if_pos (show q_cc .ne k 5 = true from decide_eq_true c8)]
                  refine (q_blk (Y := mX12_isUnder) (q_dcC dX12_isUnder_43 q_dcN) (show _ = some (44, [.int k, .int a], [.int 0]) from rfl)).trans ?_
                  refine (k_iret (Y := mX12_isUnder) dX12_isUnder_44 rfl).trans ?_
                  exact r_b0 (by simp_all [q_un])
              · rw [if_pos (show q_cc .ne a 4 = true from decide_eq_true c7)]
                refine (q_blk (Y := mX12_isUnder) (q_dcC dX12_isUnder_43 q_dcN) (show _ = some (44, [.int k, .int a], [.int 0]) from rfl)).trans ?_
                refine (k_iret (Y := mX12_isUnder) dX12_isUnder_44 rfl).trans ?_
                exact r_b0 (by simp_all [q_un])
          · rw [if_pos (show q_cc .ne a 3 = true from decide_eq_true c5)]
            refine (q_blk (Y := mX12_isUnder) (q_dcC dX12_isUnder_29 (q_dcC dX12_isUnder_30 (q_dcC dX12_isUnder_31 q_dcN))) (show _ = some ((if q_cc .ne a 4 = true then 43 else 34), [.int k, .int a], []) from rfl)).trans ?_
            by_cases c9 : a = 4
            · rw [if_neg (show ¬ q_cc .ne a 4 = true from fun z => (of_decide_eq_true z : ¬ a = 4) c9)]
              refine (q_blk (Y := mX12_isUnder) (q_dcC dX12_isUnder_34 (q_dcC dX12_isUnder_35 (q_dcC dX12_isUnder_36 q_dcN))) (show _ = some ((if q_cc .ne k 5 = true then 43 else 39), [.int k, .int a], []) from rfl)).trans ?_
              by_cases c10 : k = 5
              · rw [if_neg (show ¬ q_cc .ne k 5 = true from fun z => (of_decide_eq_true z : ¬ k = 5) c10)]
                refine (q_blk (Y := mX12_isUnder) (q_dcC dX12_isUnder_39 (q_dcC dX12_isUnder_40 q_dcN)) (show _ = some (44, [.int k, .int a], [.int 1]) from rfl)).trans ?_
                refine (k_iret (Y := mX12_isUnder) dX12_isUnder_44 rfl).trans ?_
                exact r_b1 (by simp_all [q_un])
              · rw [if_pos (show q_cc .ne k 5 = true from decide_eq_true c10)]
                refine (q_blk (Y := mX12_isUnder) (q_dcC dX12_isUnder_43 q_dcN) (show _ = some (44, [.int k, .int a], [.int 0]) from rfl)).trans ?_
                refine (k_iret (Y := mX12_isUnder) dX12_isUnder_44 rfl).trans ?_
                exact r_b0 (by simp_all [q_un])
            · rw [if_pos (show q_cc .ne a 4 = true from decide_eq_true c9)]
              refine (q_blk (Y := mX12_isUnder) (q_dcC dX12_isUnder_43 q_dcN) (show _ = some (44, [.int k, .int a], [.int 0]) from rfl)).trans ?_
              refine (k_iret (Y := mX12_isUnder) dX12_isUnder_44 rfl).trans ?_
              exact r_b0 (by simp_all [q_un])
      · rw [if_pos (show q_cc .ne a 1 = true from decide_eq_true c3)]
        refine (q_blk (Y := mX12_isUnder) (q_dcC dX12_isUnder_19 (q_dcC dX12_isUnder_20 (q_dcC dX12_isUnder_21 q_dcN))) (show _ = some ((if q_cc .ne a 3 = true then 29 else 24), [.int k, .int a], []) from rfl)).trans ?_
        by_cases c11 : a = 3
        · rw [if_neg (show ¬ q_cc .ne a 3 = true from fun z => (of_decide_eq_true z : ¬ a = 3) c11)]
          refine (q_blk (Y := mX12_isUnder) (q_dcC dX12_isUnder_24 (q_dcC dX12_isUnder_25 (q_dcC dX12_isUnder_26 q_dcN))) (show _ = some ((if q_cc .gt k 3 = true then 39 else 29), [.int k, .int a], []) from rfl)).trans ?_
          by_cases c12 : 3 < k
          · rw [if_pos (show q_cc .gt k 3 = true from decide_eq_true c12)]
            refine (q_blk (Y := mX12_isUnder) (q_dcC dX12_isUnder_39 (q_dcC dX12_isUnder_40 q_dcN)) (show _ = some (44, [.int k, .int a], [.int 1]) from rfl)).trans ?_
            refine (k_iret (Y := mX12_isUnder) dX12_isUnder_44 rfl).trans ?_
            exact r_b1 (by simp_all [q_un])
          · rw [if_neg (show ¬ q_cc .gt k 3 = true from fun z => c12 (of_decide_eq_true z))]
            refine (q_blk (Y := mX12_isUnder) (q_dcC dX12_isUnder_29 (q_dcC dX12_isUnder_30 (q_dcC dX12_isUnder_31 q_dcN))) (show _ = some ((if q_cc .ne a 4 = true then 43 else 34), [.int k, .int a], []) from rfl)).trans ?_
            by_cases c13 : a = 4
            · rw [if_neg (show ¬ q_cc .ne a 4 = true from fun z => (of_decide_eq_true z : ¬ a = 4) c13)]
              refine (q_blk (Y := mX12_isUnder) (q_dcC dX12_isUnder_34 (q_dcC dX12_isUnder_35 (q_dcC dX12_isUnder_36 q_dcN))) (show _ = some ((if q_cc .ne k 5 = true then 43 else 39), [.int k, .int a], []) from rfl)).trans ?_
              by_cases c14 : k = 5
              · rw [if_neg (show ¬ q_cc .ne k 5 = true from fun z => (of_decide_eq_true z : ¬ k = 5) c14)]
                refine (q_blk (Y := mX12_isUnder) (q_dcC dX12_isUnder_39 (q_dcC dX12_isUnder_40 q_dcN)) (show _ = some (44, [.int k, .int a], [.int 1]) from rfl)).trans ?_
                refine (k_iret (Y := mX12_isUnder) dX12_isUnder_44 rfl).trans ?_
                exact r_b1 (by simp_all [q_un])
              · rw [if_pos (show q_cc .ne k 5 = true from decide_eq_true c14)]
                refine (q_blk (Y := mX12_isUnder) (q_dcC dX12_isUnder_43 q_dcN) (show _ = some (44, [.int k, .int a], [.int 0]) from rfl)).trans ?_
                refine (k_iret (Y := mX12_isUnder) dX12_isUnder_44 rfl).trans ?_
                exact r_b0 (by simp_all [q_un])
            · rw [if_pos (show q_cc .ne a 4 = true from decide_eq_true c13)]
              refine (q_blk (Y := mX12_isUnder) (q_dcC dX12_isUnder_43 q_dcN) (show _ = some (44, [.int k, .int a], [.int 0]) from rfl)).trans ?_
              refine (k_iret (Y := mX12_isUnder) dX12_isUnder_44 rfl).trans ?_
              exact r_b0 (by simp_all [q_un])
        · rw [if_pos (show q_cc .ne a 3 = true from decide_eq_true c11)]
          refine (q_blk (Y := mX12_isUnder) (q_dcC dX12_isUnder_29 (q_dcC dX12_isUnder_30 (q_dcC dX12_isUnder_31 q_dcN))) (show _ = some ((if q_cc .ne a 4 = true then 43 else 34), [.int k, .int a], []) from rfl)).trans ?_
          by_cases c15 : a = 4
          · rw [if_neg (show ¬ q_cc .ne a 4 = true from fun z => (of_decide_eq_true z : ¬ a = 4) c15)]
            refine (q_blk (Y := mX12_isUnder) (q_dcC dX12_isUnder_34 (q_dcC dX12_isUnder_35 (q_dcC dX12_isUnder_36 q_dcN))) (show _ = some ((if q_cc .ne k 5 = true then 43 else 39), [.int k, .int a], []) from rfl)).trans ?_
            by_cases c16 : k = 5
            · rw [if_neg (show ¬ q_cc .ne k 5 = true from fun z => (of_decide_eq_true z : ¬ k = 5) c16)]
              refine (q_blk (Y := mX12_isUnder) (q_dcC dX12_isUnder_39 (q_dcC dX12_isUnder_40 q_dcN)) (show _ = some (44, [.int k, .int a], [.int 1]) from rfl)).trans ?_
              refine (k_iret (Y := mX12_isUnder) dX12_isUnder_44 rfl).trans ?_
              exact r_b1 (by simp_all [q_un])
            · rw [if_pos (show q_cc .ne k 5 = true from decide_eq_true c16)]
              refine (q_blk (Y := mX12_isUnder) (q_dcC dX12_isUnder_43 q_dcN) (show _ = some (44, [.int k, .int a], [.int 0]) from rfl)).trans ?_
              refine (k_iret (Y := mX12_isUnder) dX12_isUnder_44 rfl).trans ?_
              exact r_b0 (by simp_all [q_un])
          · rw [if_pos (show q_cc .ne a 4 = true from decide_eq_true c15)]
            refine (q_blk (Y := mX12_isUnder) (q_dcC dX12_isUnder_43 q_dcN) (show _ = some (44, [.int k, .int a], [.int 0]) from rfl)).trans ?_
            refine (k_iret (Y := mX12_isUnder) dX12_isUnder_44 rfl).trans ?_
            exact r_b0 (by simp_all [q_un])
theorem n_isOf (d : Nat) {w : Nat} (hw : w < 12) (n : Int32) : q_sem (d + 2) mX12_isOf 0 [.ref 98, .int (nI w), .int n] [] (q_K o g) = some (some (.int (if q_wi n 0 (g 100 w - 1) then 1 else 0)), q_K o g) := by
  refine (q_blk (Y := mX12_isOf) (q_dcC dX12_isOf_0 (q_dcC dX12_isOf_1 (q_dcC dX12_isOf_2 q_dcN))) (show _ = some (3, [.ref 98, .int (nI w), .int n], [.ref 98, .int 0, .int n]) from rfl)).trans ?_
  refine (k_getr (Y := mX12_isOf) dX12_isOf_3 rfl rfl ⟨by decide, rfl⟩ (by decide) rfl).trans ?_
  refine (q_blk (Y := mX12_isOf) (q_dcC dX12_isOf_6 q_dcN) (show _ = some (7, [.ref 98, .int (nI w), .int n], [.int (nI w), .ref 100, .int 0, .int n]) from rfl)).trans ?_
  refine (k_ialdN (Y := mX12_isOf) dX12_isOf_7 ⟨by decide, rfl, rfl⟩ rfl ⟨by omega, by decide⟩).trans ?_
  refine (q_blk (Y := mX12_isOf) (q_dcC dX12_isOf_8 (q_dcC dX12_isOf_9 q_dcN)) (show _ = some (10, [.ref 98, .int (nI w), .int n], [.int ((g 100 w) - 1), .int 0, .int n]) from rfl)).trans ?_
  refine (k_calS (d := d + 1) (Y := mX12_isOf) (Z := mX12_in) (vs := [.int n, .int 0, .int ((g 100 w) - 1)]) (rest := []) dX12_isOf_10 rfl rfl rfl rfl (Nat.le_of_ble_eq_true rfl) rfl (Nat.le_of_ble_eq_true rfl) (n_in d n 0 ((g 100 w) - 1))).trans ?_
  show q_sem _ _ 13 [.ref 98, .int (nI w), .int n] [.int (if q_wi n 0 ((g 100 w) - 1) then 1 else 0)] (q_K o g) = _
  refine (k_iret (Y := mX12_isOf) dX12_isOf_13 q_narB).trans ?_
  rfl
theorem m_fnd : ∀ k, k < 6 → (-1000000 : Int32) - ((-1000000) - nI k) = nI k := by decide +kernel
theorem n_finds (d : Nat) {k : Nat} (hk : k < 6) : q_sem (d + 1) mX12_finds 0 [.ref 98, .int ((-1000000) - nI k)] [] (q_K o g) = some (some (.int ((-1000000) - nI k)), q_K o (q_up g 99 k (g 99 k + 1))) := by
  refine (q_blk (Y := mX12_finds) (q_dcC dX12_finds_0 q_dcN) (show _ = some (1, [.ref 98, .int ((-1000000) - nI k)], [.ref 98]) from rfl)).trans ?_
  refine (k_getr (Y := mX12_finds) dX12_finds_1 rfl rfl ⟨by decide, rfl⟩ (by decide) rfl).trans ?_
  refine (k_ldc (Y := mX12_finds) (v := (-1000000)) dX12_finds_4 rfl).trans ?_
  refine (q_blk (Y := mX12_finds) (q_dcC dX12_finds_6 (q_dcC dX12_finds_7 (q_dcC dX12_finds_8 q_dcN))) (show _ = some (9, [.ref 98, .int ((-1000000) - nI k)], [.int ((-1000000) - ((-1000000) - nI k)), .ref 99, .int ((-1000000) - ((-1000000) - nI k)), .ref 99]) from rfl)).trans ?_
  refine (k_ialdN (Y := mX12_finds) dX12_finds_9 ⟨by decide, rfl, rfl⟩ (m_fnd k hk) ⟨hk, by decide⟩).trans ?_
  refine (q_blk (Y := mX12_finds) (q_dcC dX12_finds_10 (q_dcC dX12_finds_11 q_dcN)) (show _ = some (12, [.ref 98, .int ((-1000000) - nI k)], [.int ((g 99 k) + 1), .int ((-1000000) - ((-1000000) - nI k)), .ref 99]) from rfl)).trans ?_
  refine (k_iastN (Y := mX12_finds) dX12_finds_12 ⟨by decide, rfl, rfl⟩ (m_fnd k hk) ⟨hk, by decide⟩).trans ?_
  refine (q_blk (Y := mX12_finds) (q_dcC dX12_finds_13 q_dcN) (show _ = some (14, [.ref 98, .int ((-1000000) - nI k)], [.int ((-1000000) - nI k)]) from rfl)).trans ?_
  refine (k_iret (Y := mX12_finds) dX12_finds_14 rfl).trans ?_
  rfl
theorem m_k15 : ∀ k, k < 6 → 1 ≤ k → q_wi (nI k) 1 5 := by decide +kernel
theorem s_finding (d : Nat) {k : Nat} (hk : k < 6) (hk1 : 1 ≤ k) : q_sem (d + 2) mX11_finding 0 [.ref 0, .int (nI k)] [] (q_K o g) = some (some (.int ((-1000000) - nI k)), q_K o (q_up g 97 k (g 97 k + 1))) := by
  refine (q_blk (Y := mX11_finding) (q_dcC dX11_finding_0 (q_dcC dX11_finding_1 (q_dcC dX11_finding_2 q_dcN))) (show _ = some (3, [.ref 0, .int (nI k)], [.int 5, .int 1, .int (nI k)]) from rfl)).trans ?_
  refine (k_calS (d := d + 1) (Y := mX11_finding) (Z := mX11_within) (vs := [.int (nI k), .int 1, .int 5]) (rest := []) dX11_finding_3 rfl rfl rfl rfl (Nat.le_of_ble_eq_true rfl) rfl (Nat.le_of_ble_eq_true rfl) (s_within d (nI k) 1 5)).trans ?_
  show q_sem _ _ 6 [.ref 0, .int (nI k)] [.int (if q_wi (nI k) 1 5 then 1 else 0)] (q_K o g) = _
  refine (q_blk (Y := mX11_finding) (q_dcC dX11_finding_6 q_dcN) (show _ = some ((if q_cc .eq (if q_wi (nI k) 1 5 then 1 else 0) 0 = true then 19 else 9), [.ref 0, .int (nI k)], []) from rfl)).trans ?_
  by_cases c1 : q_wi (nI k) 1 5
  · rw [if_neg (show ¬ q_cc .eq (if q_wi (nI k) 1 5 then 1 else 0) 0 = true by rw [if_pos c1]; decide)]
    refine (q_blk (Y := mX11_finding) (q_dcC dX11_finding_9 q_dcN) (show _ = some (10, [.ref 0, .int (nI k)], [.ref 0]) from rfl)).trans ?_
    refine (k_getr (Y := mX11_finding) dX11_finding_10 rfl rfl ⟨by decide, rfl⟩ (by decide) rfl).trans ?_
    refine (q_blk (Y := mX11_finding) (q_dcC dX11_finding_13 (q_dcC dX11_finding_14 q_dcN)) (show _ = some (15, [.ref 0, .int (nI k)], [.int (nI k), .ref 97, .int (nI k), .ref 97]) from rfl)).trans ?_
    refine (k_ialdN (Y := mX11_finding) dX11_finding_15 ⟨by decide, rfl, rfl⟩ rfl ⟨hk, by decide⟩).trans ?_
    refine (q_blk (Y := mX11_finding) (q_dcC dX11_finding_16 (q_dcC dX11_finding_17 q_dcN)) (show _ = some (18, [.ref 0, .int (nI k)], [.int ((g 97 k) + 1), .int (nI k), .ref 97]) from rfl)).trans ?_
    refine (k_iastN (Y := mX11_finding) dX11_finding_18 ⟨by decide, rfl, rfl⟩ rfl ⟨hk, by decide⟩).trans ?_
    refine (k_ldcw (Y := mX11_finding) (v := (-1000000)) dX11_finding_19 rfl).trans ?_
    refine (q_blk (Y := mX11_finding) (q_dcC dX11_finding_22 (q_dcC dX11_finding_23 q_dcN)) (show _ = some (24, [.ref 0, .int (nI k)], [.int ((-1000000) - (nI k))]) from rfl)).trans ?_
    refine (k_iret (Y := mX11_finding) dX11_finding_24 rfl).trans ?_
    rfl
  · rw [if_pos (show q_cc .eq (if q_wi (nI k) 1 5 then 1 else 0) 0 = true by rw [if_neg c1]; decide)]
    refine (k_ldcw (Y := mX11_finding) (v := (-1000000)) dX11_finding_19 rfl).trans ?_
    refine (q_blk (Y := mX11_finding) (q_dcC dX11_finding_22 (q_dcC dX11_finding_23 q_dcN)) (show _ = some (24, [.ref 0, .int (nI k)], [.int ((-1000000) - (nI k))]) from rfl)).trans ?_
    refine (k_iret (Y := mX11_finding) dX11_finding_24 rfl).trans ?_
    exact absurd (m_k15 k hk hk1) c1
end QMO
