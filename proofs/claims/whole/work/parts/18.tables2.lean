theorem dX7_add_38 : decode cX7_add 38 = .ok (.aload_n 0, 1) := by decide +kernel
theorem dX7_add_37 : decode cX7_add 37 = .ok (.iload_n 2, 1) := by decide +kernel
theorem dX7_add_39 : decode cX7_add 39 = .ok (.getfield 25, 3) := by decide +kernel
theorem dX7_add_42 : decode cX7_add 42 = .ok (.if_icmp .ge 21, 3) := by decide +kernel
theorem dX7_add_46 : decode cX7_add 46 = .ok (.aload_n 0, 1) := by decide +kernel
theorem dX7_add_45 : decode cX7_add 45 = .ok (.aload_n 0, 1) := by decide +kernel
theorem dX7_add_47 : decode cX7_add 47 = .ok (.getfield 7, 3) := by decide +kernel
theorem dX7_add_53 : decode cX7_add 53 = .ok (.iconst 0, 1) := by decide +kernel
theorem dX7_add_52 : decode cX7_add 52 = .ok (.iload_n 2, 1) := by decide +kernel
theorem dX7_add_51 : decode cX7_add 51 = .ok (.isub, 1) := by decide +kernel
theorem dX7_add_50 : decode cX7_add 50 = .ok (.iconst 1, 1) := by decide +kernel
theorem dX7_add_54 : decode cX7_add 54 = .ok (.invokevirtual 32, 3) := by decide +kernel
theorem dX7_add_60 : decode cX7_add 60 = .ok (.goto (-23), 3) := by decide +kernel
theorem dX7_add_57 : decode cX7_add 57 = .ok (.iinc 2 1, 3) := by decide +kernel
theorem dX7_add_0 : decode cX7_add 0 = .ok (.aload_n 0, 1) := by decide +kernel
theorem dX7_add_1 : decode cX7_add 1 = .ok (.getfield 7, 3) := by decide +kernel
theorem dX7_add_4 : decode cX7_add 4 = .ok (.aload_n 0, 1) := by decide +kernel
theorem dX7_add_5 : decode cX7_add 5 = .ok (.getfield 22, 3) := by decide +kernel
theorem dX7_add_8 : decode cX7_add 8 = .ok (.if_icmp .lt 5, 3) := by decide +kernel
theorem dX7_add_14 : decode cX7_add 14 = .ok (.dup, 1) := by decide +kernel
theorem dX7_add_13 : decode cX7_add 13 = .ok (.aload_n 0, 1) := by decide +kernel
theorem dX7_add_15 : decode cX7_add 15 = .ok (.getfield 7, 3) := by decide +kernel
theorem dX7_add_19 : decode cX7_add 19 = .ok (.iadd, 1) := by decide +kernel
theorem dX7_add_18 : decode cX7_add 18 = .ok (.iconst 1, 1) := by decide +kernel
theorem dX7_add_20 : decode cX7_add 20 = .ok (.putfield 7, 3) := by decide +kernel
theorem dX7_add_24 : decode cX7_add 24 = .ok (.aload_n 0, 1) := by decide +kernel
theorem dX7_add_23 : decode cX7_add 23 = .ok (.aload_n 0, 1) := by decide +kernel
theorem dX7_add_25 : decode cX7_add 25 = .ok (.getfield 7, 3) := by decide +kernel
theorem dX7_add_31 : decode cX7_add 31 = .ok (.iload_n 1, 1) := by decide +kernel
theorem dX7_add_30 : decode cX7_add 30 = .ok (.iconst 0, 1) := by decide +kernel
theorem dX7_add_29 : decode cX7_add 29 = .ok (.isub, 1) := by decide +kernel
theorem dX7_add_28 : decode cX7_add 28 = .ok (.iconst 1, 1) := by decide +kernel
theorem dX7_add_32 : decode cX7_add 32 = .ok (.invokevirtual 32, 3) := by decide +kernel
theorem dX7_add_36 : decode cX7_add 36 = .ok (.istore_n 2, 1) := by decide +kernel
theorem dX7_add_35 : decode cX7_add 35 = .ok (.iconst 1, 1) := by decide +kernel
theorem dX7_add_63 : decode cX7_add 63 = .ok (.aload_n 0, 1) := by decide +kernel
theorem dX7_add_64 : decode cX7_add 64 = .ok (.getfield 7, 3) := by decide +kernel
theorem dX7_add_68 : decode cX7_add 68 = .ok (.isub, 1) := by decide +kernel
theorem dX7_add_67 : decode cX7_add 67 = .ok (.iconst 1, 1) := by decide +kernel
theorem dX7_add_69 : decode cX7_add 69 = .ok (.ireturn, 1) := by decide +kernel
theorem dX7_add_11 : decode cX7_add 11 = .ok (.iconst (-1), 1) := by decide +kernel
theorem dX7_add_12 : decode cX7_add 12 = .ok (.ireturn, 1) := by decide +kernel
theorem dX7_copyFrom_0 : decode cX7_copyFrom 0 = .ok (.aload_n 1, 1) := by decide +kernel
theorem dX7_copyFrom_1 : decode cX7_copyFrom 1 = .ok (.getfield 28, 3) := by decide +kernel
theorem dX7_copyFrom_4 : decode cX7_copyFrom 4 = .ok (.arraylength, 1) := by decide +kernel
theorem dX7_copyFrom_5 : decode cX7_copyFrom 5 = .ok (.aload_n 0, 1) := by decide +kernel
theorem dX7_copyFrom_6 : decode cX7_copyFrom 6 = .ok (.getfield 28, 3) := by decide +kernel
theorem dX7_copyFrom_9 : decode cX7_copyFrom 9 = .ok (.arraylength, 1) := by decide +kernel
theorem dX7_copyFrom_10 : decode cX7_copyFrom 10 = .ok (.if_icmp .ne 29, 3) := by decide +kernel
theorem dX7_copyFrom_13 : decode cX7_copyFrom 13 = .ok (.aload_n 1, 1) := by decide +kernel
theorem dX7_copyFrom_14 : decode cX7_copyFrom 14 = .ok (.getfield 28, 3) := by decide +kernel
theorem dX7_copyFrom_18 : decode cX7_copyFrom 18 = .ok (.aload_n 0, 1) := by decide +kernel
theorem dX7_copyFrom_17 : decode cX7_copyFrom 17 = .ok (.iconst 0, 1) := by decide +kernel
theorem dX7_copyFrom_19 : decode cX7_copyFrom 19 = .ok (.getfield 28, 3) := by decide +kernel
theorem dX7_copyFrom_23 : decode cX7_copyFrom 23 = .ok (.aload_n 0, 1) := by decide +kernel
theorem dX7_copyFrom_22 : decode cX7_copyFrom 22 = .ok (.iconst 0, 1) := by decide +kernel
theorem dX7_copyFrom_24 : decode cX7_copyFrom 24 = .ok (.getfield 28, 3) := by decide +kernel
theorem dX7_copyFrom_27 : decode cX7_copyFrom 27 = .ok (.arraylength, 1) := by decide +kernel
theorem dX7_copyFrom_28 : decode cX7_copyFrom 28 = .ok (.invokestatic 39, 3) := by decide +kernel
theorem dX7_copyFrom_32 : decode cX7_copyFrom 32 = .ok (.aload_n 1, 1) := by decide +kernel
theorem dX7_copyFrom_31 : decode cX7_copyFrom 31 = .ok (.aload_n 0, 1) := by decide +kernel
theorem dX7_copyFrom_33 : decode cX7_copyFrom 33 = .ok (.getfield 7, 3) := by decide +kernel
theorem dX7_copyFrom_36 : decode cX7_copyFrom 36 = .ok (.putfield 7, 3) := by decide +kernel
theorem dX7_copyFrom_39 : decode cX7_copyFrom 39 = .ok (.return_, 1) := by decide +kernel
theorem dX7_total_5 : decode cX7_total 5 = .ok (.aload_n 0, 1) := by decide +kernel
theorem dX7_total_4 : decode cX7_total 4 = .ok (.iload_n 3, 1) := by decide +kernel
theorem dX7_total_6 : decode cX7_total 6 = .ok (.getfield 7, 3) := by decide +kernel
theorem dX7_total_9 : decode cX7_total 9 = .ok (.if_icmp .ge 18, 3) := by decide +kernel
theorem dX7_total_27 : decode cX7_total 27 = .ok (.iload_n 2, 1) := by decide +kernel
theorem dX7_total_28 : decode cX7_total 28 = .ok (.ireturn, 1) := by decide +kernel
theorem dX7_total_15 : decode cX7_total 15 = .ok (.iload_n 1, 1) := by decide +kernel
theorem dX7_total_14 : decode cX7_total 14 = .ok (.iload_n 3, 1) := by decide +kernel
theorem dX7_total_13 : decode cX7_total 13 = .ok (.aload_n 0, 1) := by decide +kernel
theorem dX7_total_12 : decode cX7_total 12 = .ok (.iload_n 2, 1) := by decide +kernel
theorem dX7_total_16 : decode cX7_total 16 = .ok (.invokevirtual 36, 3) := by decide +kernel
theorem dX7_total_24 : decode cX7_total 24 = .ok (.goto (-20), 3) := by decide +kernel
theorem dX7_total_21 : decode cX7_total 21 = .ok (.iinc 3 1, 3) := by decide +kernel
theorem dX7_total_20 : decode cX7_total 20 = .ok (.istore_n 2, 1) := by decide +kernel
theorem dX7_total_19 : decode cX7_total 19 = .ok (.iadd, 1) := by decide +kernel
theorem dX7_total_3 : decode cX7_total 3 = .ok (.istore_n 3, 1) := by decide +kernel
theorem dX7_total_2 : decode cX7_total 2 = .ok (.iconst 0, 1) := by decide +kernel
theorem dX7_total_1 : decode cX7_total 1 = .ok (.istore_n 2, 1) := by decide +kernel
theorem dX7_total_0 : decode cX7_total 0 = .ok (.iconst 0, 1) := by decide +kernel
theorem dX7_indexOf_3 : decode cX7_indexOf 3 = .ok (.aload_n 0, 1) := by decide +kernel
theorem dX7_indexOf_2 : decode cX7_indexOf 2 = .ok (.iload_n 2, 1) := by decide +kernel
theorem dX7_indexOf_4 : decode cX7_indexOf 4 = .ok (.getfield 7, 3) := by decide +kernel
theorem dX7_indexOf_7 : decode cX7_indexOf 7 = .ok (.if_icmp .ge 21, 3) := by decide +kernel
theorem dX7_indexOf_28 : decode cX7_indexOf 28 = .ok (.iconst (-1), 1) := by decide +kernel
theorem dX7_indexOf_29 : decode cX7_indexOf 29 = .ok (.ireturn, 1) := by decide +kernel
theorem dX7_indexOf_12 : decode cX7_indexOf 12 = .ok (.iconst 0, 1) := by decide +kernel
theorem dX7_indexOf_11 : decode cX7_indexOf 11 = .ok (.iload_n 2, 1) := by decide +kernel
theorem dX7_indexOf_10 : decode cX7_indexOf 10 = .ok (.aload_n 0, 1) := by decide +kernel
theorem dX7_indexOf_13 : decode cX7_indexOf 13 = .ok (.invokevirtual 36, 3) := by decide +kernel
theorem dX7_indexOf_17 : decode cX7_indexOf 17 = .ok (.if_icmp .ne 5, 3) := by decide +kernel
theorem dX7_indexOf_16 : decode cX7_indexOf 16 = .ok (.iload_n 1, 1) := by decide +kernel
theorem dX7_indexOf_20 : decode cX7_indexOf 20 = .ok (.iload_n 2, 1) := by decide +kernel
theorem dX7_indexOf_21 : decode cX7_indexOf 21 = .ok (.ireturn, 1) := by decide +kernel
theorem dX7_indexOf_25 : decode cX7_indexOf 25 = .ok (.goto (-23), 3) := by decide +kernel
theorem dX7_indexOf_22 : decode cX7_indexOf 22 = .ok (.iinc 2 1, 3) := by decide +kernel
theorem dX7_indexOf_1 : decode cX7_indexOf 1 = .ok (.istore_n 2, 1) := by decide +kernel
theorem dX7_indexOf_0 : decode cX7_indexOf 0 = .ok (.iconst 0, 1) := by decide +kernel
section QT2
variable {o : q_H} {g : Nat → Nat → Int32} {t M W R : Nat}
theorem q_up_eq {p k : Nat} {x : Int32} : q_up g p k x p k = x := if_pos ⟨rfl, rfl⟩
theorem q_up_ne {p k q j : Nat} {x : Int32} (h : ¬ (q = p ∧ j = k)) : q_up g p k x q j = g q j := if_neg h
/-- the columns from c on of row r are 0 -/
def q_z0 (g : Nat → Nat → Int32) (t W r c : Nat) : Nat → Nat → Int32 := fun p k => if p = t + 1 ∧ r * W + c ≤ k ∧ k < r * W + W then 0 else g p k
theorem q_z0_end : q_z0 g t W R W = g := by
  funext p k
  unfold q_z0
  rw [if_neg (by omega)]
theorem q_z0_step {c : Nat} (hc : c < W) : q_z0 (q_up g (t + 1) (R * W + c) 0) t W R (c + 1) = q_z0 g t W R c := by
  funext p k
  unfold q_z0 q_up
  by_cases h1 : p = t + 1 ∧ k = R * W + c
  · obtain ⟨rfl, rfl⟩ := h1
    rw [if_neg (by omega), if_pos ⟨rfl, rfl⟩, if_pos ⟨rfl, by omega, by omega⟩]
  · rw [if_neg h1]
    by_cases h2 : p = t + 1 ∧ R * W + c ≤ k ∧ k < R * W + W
    · rw [if_pos h2, if_pos ⟨h2.1, by omega, h2.2.2⟩]
    · rw [if_neg h2, if_neg (by omega)]
theorem s_add_loop (d : Nat) (ht : q_tb t M W) (v : Int32) : ∀ (n c : Nat), c ≤ W → W < c + n → ∀ {g : Nat → Nat → Int32}, q_ti g t M W (R + 1) → q_sem (d + 2) mX7_add 37 [.ref t, .int v, .int (nI c)] [] (q_K o g) = q_sem (d + 2) mX7_add 63 [.ref t, .int v, .int (nI W)] [] (q_K o (q_z0 g t W R c)) := by
  have hWb := ht.2.2.2.2.2.2.2.2
  have hMb := ht.2.2.2.2.2.2.1
  intro n
  induction n with
  | zero =>
    intro c hc hc2 g hi
    omega
  | succ n ih =>
    intro c hc hc2 g hi
    have hRM := hi.2.2.2
    refine (q_blk (Y := mX7_add) (q_dcC dX7_add_37 (q_dcC dX7_add_38 q_dcN)) (show _ = some (39, [.ref t, .int v, .int (nI c)], [.ref t, .int (nI c)]) from rfl)).trans ?_
    refine (k_geti (Y := mX7_add) dX7_add_39 rfl rfl ht.1 (by decide) ht.2.2.2.1).trans ?_
    refine (q_blk (Y := mX7_add) (q_dcC dX7_add_42 q_dcN) (show _ = some ((if q_cc .ge (nI c) (g t 1) = true then 63 else 45), [.ref t, .int v, .int (nI c)], []) from rfl)).trans ?_
    by_cases c1 : (g t 1) ≤ (nI c)
    · rw [if_pos (show q_cc .ge (nI c) (g t 1) = true from decide_eq_true c1)]
      have hcW : c = W := by
        rw [hi.2.1] at c1
        rcases Nat.lt_or_ge c W with q | q
        · exact absurd c1 (nI_ge q (by omega))
        · omega
      rw [hcW, q_z0_end]
    · rw [if_neg (show ¬ q_cc .ge (nI c) (g t 1) = true from fun z => c1 (of_decide_eq_true z))]
      refine (q_blk (Y := mX7_add) (q_dcC dX7_add_45 (q_dcC dX7_add_46 q_dcN)) (show _ = some (47, [.ref t, .int v, .int (nI c)], [.ref t, .ref t]) from rfl)).trans ?_
      refine (k_geti (Y := mX7_add) dX7_add_47 rfl rfl ht.1 (by decide) ht.2.2.2.2.1).trans ?_
      refine (q_blk (Y := mX7_add) (q_dcC dX7_add_50 (q_dcC dX7_add_51 (q_dcC dX7_add_52 (q_dcC dX7_add_53 q_dcN)))) (show _ = some (54, [.ref t, .int v, .int (nI c)], [.int 0, .int (nI c), .int ((g t 3) - 1), .ref t]) from rfl)).trans ?_
      have hlt : c < W := by
        rw [hi.2.1] at c1
        rcases Nat.lt_or_ge c W with q | q
        · exact q
        · exact absurd (nI_le q (by omega)) c1
      have hr1 : g t 3 - 1 = nI R := by rw [hi.2.2.1, nI_pred]
      have hw : q_pt g t W (R + 1) (g t 3 - 1) (nI c) 0 = q_up g (t + 1) (R * W + c) 0 := by rw [hr1]; exact q_pt_in (Nat.lt_succ_self _) hlt (by omega) hWb
      have hi2 : q_ti (q_up g (t + 1) (R * W + c) 0) t M W (R + 1) := ⟨(q_up_ne (by omega)).trans hi.1, (q_up_ne (by omega)).trans hi.2.1, (q_up_ne (by omega)).trans hi.2.2.1, hi.2.2.2⟩
      refine (k_calV (d := d + 1) (Y := mX7_add) (Z := mX7_write) (vs := [.int ((g t 3) - 1), .int (nI c), .int 0]) (rest := []) dX7_add_54 rfl rfl rfl rfl ht.1 (Nat.le_of_ble_eq_true rfl) rfl (Nat.le_of_ble_eq_true rfl) (s_write (d) ht hi ((g t 3) - 1) (nI c) 0)).trans ?_
      show q_sem _ _ 57 [.ref t, .int v, .int (nI c)] [] (q_K o (q_pt g t W (R + 1) ((g t 3) - 1) (nI c) 0)) = _
      refine (q_blk (Y := mX7_add) (q_dcC dX7_add_57 (q_dcC dX7_add_60 q_dcN)) (show _ = some (37, [.ref t, .int v, .int ((nI c) + 1)], []) from rfl)).trans ?_
      rw [hw, nI_1]
      rw [ih (c + 1) (by omega) (by omega) (g := q_up g (t + 1) (R * W + c) 0) hi2]
      rw [q_z0_step hlt]
/-- a row more, that begins with v -/
def q_ad (g : Nat → Nat → Int32) (t W R : Nat) (v : Int32) : Nat → Nat → Int32 := fun p k => if p = t ∧ k = 3 then nI (R + 1) else if p = t + 1 ∧ R * W ≤ k ∧ k < R * W + W then (if k = R * W then v else 0) else g p k
theorem q_ad_eq {v x : Int32} (hW : 1 ≤ W) (hx : x = nI (R + 1)) : q_z0 (q_up (q_up g t 3 x) (t + 1) (R * W + 0) v) t W R 1 = q_ad g t W R v := by
  funext p k
  unfold q_z0 q_ad q_up
  by_cases h1 : p = t ∧ k = 3
  · obtain ⟨rfl, rfl⟩ := h1
    rw [if_neg (by omega), if_neg (by omega), if_pos ⟨rfl, rfl⟩, if_pos ⟨rfl, rfl⟩, hx]
  · rw [if_neg h1, if_neg h1]
    by_cases h2 : p = t + 1 ∧ R * W ≤ k ∧ k < R * W + W
    · rw [if_pos h2]
      by_cases h3 : k = R * W
      · rw [if_pos h3, if_neg (by omega), if_pos ⟨h2.1, by omega⟩]
      · rw [if_neg h3, if_pos ⟨h2.1, by omega, h2.2.2⟩]
    · rw [if_neg h2, if_neg (by omega), if_neg (by omega)]
theorem s_add (d : Nat) (ht : q_tb t M W) (hi : q_ti g t M W R) (hR : R < M) (v : Int32) : q_sem (d + 2) mX7_add 0 [.ref t, .int v, .retAddr 0] [] (q_K o g) = some (some (.int (nI R)), q_K o (q_ad g t W R v)) := by
  have hWb := ht.2.2.2.2.2.2.2.2
  have hMb := ht.2.2.2.2.2.2.1
  have hW1 := ht.2.2.2.2.2.2.2.1
  refine (q_blk (Y := mX7_add) (q_dcC dX7_add_0 q_dcN) (show _ = some (1, [.ref t, .int v, .retAddr 0], [.ref t]) from rfl)).trans ?_
  refine (k_geti (Y := mX7_add) dX7_add_1 rfl rfl ht.1 (by decide) ht.2.2.2.2.1).trans ?_
  refine (q_blk (Y := mX7_add) (q_dcC dX7_add_4 q_dcN) (show _ = some (5, [.ref t, .int v, .retAddr 0], [.ref t, .int (g t 3)]) from rfl)).trans ?_
  refine (k_geti (Y := mX7_add) dX7_add_5 rfl rfl ht.1 (by decide) ht.2.2.1).trans ?_
  refine (q_blk (Y := mX7_add) (q_dcC dX7_add_8 q_dcN) (show _ = some ((if q_cc .lt (g t 3) (g t 0) = true then 13 else 11), [.ref t, .int v, .retAddr 0], []) from rfl)).trans ?_
  by_cases c1 : (g t 3) < (g t 0)
  · rw [if_pos (show q_cc .lt (g t 3) (g t 0) = true from decide_eq_true c1)]
    refine (q_blk (Y := mX7_add) (q_dcC dX7_add_13 (q_dcC dX7_add_14 q_dcN)) (show _ = some (15, [.ref t, .int v, .retAddr 0], [.ref t, .ref t]) from rfl)).trans ?_
    refine (k_geti (Y := mX7_add) dX7_add_15 rfl rfl ht.1 (by decide) ht.2.2.2.2.1).trans ?_
    refine (q_blk (Y := mX7_add) (q_dcC dX7_add_18 (q_dcC dX7_add_19 q_dcN)) (show _ = some (20, [.ref t, .int v, .retAddr 0], [.int ((g t 3) + 1), .ref t]) from rfl)).trans ?_
    refine (k_puti (Y := mX7_add) dX7_add_20 rfl ht.1 (by decide) ht.2.2.2.2.1 rfl rfl rfl).trans ?_
    refine (q_blk (Y := mX7_add) (q_dcC dX7_add_23 (q_dcC dX7_add_24 q_dcN)) (show _ = some (25, [.ref t, .int v, .retAddr 0], [.ref t, .ref t]) from rfl)).trans ?_
    refine (k_geti (Y := mX7_add) dX7_add_25 rfl rfl ht.1 (by decide) ht.2.2.2.2.1).trans ?_
    refine (q_blk (Y := mX7_add) (q_dcC dX7_add_28 (q_dcC dX7_add_29 (q_dcC dX7_add_30 (q_dcC dX7_add_31 q_dcN)))) (show _ = some (32, [.ref t, .int v, .retAddr 0], [.int v, .int 0, .int (((q_up g t 3 ((g t 3) + 1)) t 3) - 1), .ref t]) from rfl)).trans ?_
    have hx : g t 3 + 1 = nI (R + 1) := by rw [hi.2.2.1, nI_1]
    have hi1 : q_ti (q_up g t 3 (g t 3 + 1)) t M W (R + 1) := ⟨(q_up_ne (by omega)).trans hi.1, (q_up_ne (by omega)).trans hi.2.1, q_up_eq.trans hx, hR⟩
    have hr1 : q_up g t 3 (g t 3 + 1) t 3 - 1 = nI R := by rw [q_up_eq, hx, nI_pred]
    have hw : q_pt (q_up g t 3 (g t 3 + 1)) t W (R + 1) (q_up g t 3 (g t 3 + 1) t 3 - 1) 0 v = q_up (q_up g t 3 (g t 3 + 1)) (t + 1) (R * W + 0) v := by rw [hr1]; exact q_pt_in (c := 0) (Nat.lt_succ_self _) hW1 (by omega) hWb
    have hi2 : q_ti (q_up (q_up g t 3 (g t 3 + 1)) (t + 1) (R * W + 0) v) t M W (R + 1) := ⟨(q_up_ne (by omega)).trans hi1.1, (q_up_ne (by omega)).trans hi1.2.1, (q_up_ne (by omega)).trans hi1.2.2.1, hi1.2.2.2⟩
    refine (k_calV (d := d + 1) (Y := mX7_add) (Z := mX7_write) (vs := [.int (((q_up g t 3 ((g t 3) + 1)) t 3) - 1), .int 0, .int v]) (rest := []) dX7_add_32 rfl rfl rfl rfl ht.1 (Nat.le_of_ble_eq_true rfl) rfl (Nat.le_of_ble_eq_true rfl) (s_write (d) ht hi1 (((q_up g t 3 ((g t 3) + 1)) t 3) - 1) 0 v)).trans ?_
    show q_sem _ _ 35 [.ref t, .int v, .retAddr 0] [] (q_K o (q_pt (q_up g t 3 ((g t 3) + 1)) t W (R + 1) (((q_up g t 3 ((g t 3) + 1)) t 3) - 1) 0 v)) = _
    refine (q_blk (Y := mX7_add) (q_dcC dX7_add_35 (q_dcC dX7_add_36 q_dcN)) (show _ = some (37, [.ref t, .int v, .int 1], []) from rfl)).trans ?_
    rw [hw]
    refine (show q_sem (d + 2) mX7_add 37 [.ref t, .int v, .int (nI 1)] [] (q_K o (q_up (q_up g t 3 (g t 3 + 1)) (t + 1) (R * W + 0) v)) = _ from ?_)
    rw [s_add_loop d ht v W 1 hW1 (by omega) hi2, q_ad_eq hW1 hx]
    refine (q_blk (Y := mX7_add) (q_dcC dX7_add_63 q_dcN) (show _ = some (64, [.ref t, .int v, .int (nI W)], [.ref t]) from rfl)).trans ?_
    refine (k_geti (Y := mX7_add) dX7_add_64 rfl rfl ht.1 (by decide) ht.2.2.2.2.1).trans ?_
    refine (q_blk (Y := mX7_add) (q_dcC dX7_add_67 (q_dcC dX7_add_68 q_dcN)) (show _ = some (69, [.ref t, .int v, .int (nI W)], [.int (((q_ad g t W R v) t 3) - 1)]) from rfl)).trans ?_
    refine (k_iret (Y := mX7_add) dX7_add_69 rfl).trans ?_
    have e : q_ad g t W R v t 3 - 1 = nI R := by unfold q_ad; rw [if_pos ⟨rfl, rfl⟩, nI_pred]
    rw [e]
  · rw [if_neg (show ¬ q_cc .lt (g t 3) (g t 0) = true from fun z => c1 (of_decide_eq_true z))]
    refine (q_blk (Y := mX7_add) (q_dcC dX7_add_11 q_dcN) (show _ = some (12, [.ref t, .int v, .retAddr 0], [.int (-1)]) from rfl)).trans ?_
    refine (k_iret (Y := mX7_add) dX7_add_12 rfl).trans ?_
    exact absurd c1 (fun z => (by rw [hi.1, hi.2.2.1] at z; exact z (nI_lt hR (by omega))))
theorem s_addFull (d : Nat) (ht : q_tb t M W) (hi : q_ti g t M W M) (v : Int32) : q_sem (d + 2) mX7_add 0 [.ref t, .int v, .retAddr 0] [] (q_K o g) = some (some (.int (-1)), q_K o g) := by
  have hMb := ht.2.2.2.2.2.2.1
  refine (q_blk (Y := mX7_add) (q_dcC dX7_add_0 q_dcN) (show _ = some (1, [.ref t, .int v, .retAddr 0], [.ref t]) from rfl)).trans ?_
  refine (k_geti (Y := mX7_add) dX7_add_1 rfl rfl ht.1 (by decide) ht.2.2.2.2.1).trans ?_
  refine (q_blk (Y := mX7_add) (q_dcC dX7_add_4 q_dcN) (show _ = some (5, [.ref t, .int v, .retAddr 0], [.ref t, .int (g t 3)]) from rfl)).trans ?_
  refine (k_geti (Y := mX7_add) dX7_add_5 rfl rfl ht.1 (by decide) ht.2.2.1).trans ?_
  refine (q_blk (Y := mX7_add) (q_dcC dX7_add_8 q_dcN) (show _ = some ((if q_cc .lt (g t 3) (g t 0) = true then 13 else 11), [.ref t, .int v, .retAddr 0], []) from rfl)).trans ?_
  by_cases c1 : (g t 3) < (g t 0)
  · rw [if_pos (show q_cc .lt (g t 3) (g t 0) = true from decide_eq_true c1)]
    exact absurd c1 (fun z => (by rw [hi.1, hi.2.2.1] at z; exact nI_nlt (Nat.le_refl M) (by omega) z))
  · rw [if_neg (show ¬ q_cc .lt (g t 3) (g t 0) = true from fun z => c1 (of_decide_eq_true z))]
    refine (q_blk (Y := mX7_add) (q_dcC dX7_add_11 q_dcN) (show _ = some (12, [.ref t, .int v, .retAddr 0], [.int (-1)]) from rfl)).trans ?_
    refine (k_iret (Y := mX7_add) dX7_add_12 rfl).trans ?_
    rfl
theorem s_copyFrom {u : Nat} (d : Nat) (ht : q_tb t M W) (hu : q_tb u M W) : q_sem (d + 1) mX7_copyFrom 0 [.ref t, .ref u] [] (q_K o g) = some (none, q_K o (q_up (q_cg g (u + 1) (t + 1) (M * W)) t 3 (q_cg g (u + 1) (t + 1) (M * W) u 3))) := by
  refine (q_blk (Y := mX7_copyFrom) (q_dcC dX7_copyFrom_0 q_dcN) (show _ = some (1, [.ref t, .ref u], [.ref u]) from rfl)).trans ?_
  refine (k_getr (Y := mX7_copyFrom) dX7_copyFrom_1 rfl rfl hu.1 (by decide) hu.2.1).trans ?_
  refine (k_alen (Y := mX7_copyFrom) dX7_copyFrom_4 hu.2.2.2.2.2.1).trans ?_
  refine (q_blk (Y := mX7_copyFrom) (q_dcC dX7_copyFrom_5 q_dcN) (show _ = some (6, [.ref t, .ref u], [.ref t, .int (Int32.ofNat (M * W))]) from rfl)).trans ?_
  refine (k_getr (Y := mX7_copyFrom) dX7_copyFrom_6 rfl rfl ht.1 (by decide) ht.2.1).trans ?_
  refine (k_alen (Y := mX7_copyFrom) dX7_copyFrom_9 ht.2.2.2.2.2.1).trans ?_
  refine (q_blk (Y := mX7_copyFrom) (q_dcC dX7_copyFrom_10 q_dcN) (show _ = some ((if q_cc .ne (Int32.ofNat (M * W)) (Int32.ofNat (M * W)) = true then 39 else 13), [.ref t, .ref u], []) from rfl)).trans ?_
  by_cases c1 : (Int32.ofNat (M * W)) = (Int32.ofNat (M * W))
  · rw [if_neg (show ¬ q_cc .ne (Int32.ofNat (M * W)) (Int32.ofNat (M * W)) = true from fun z => (of_decide_eq_true z : ¬ (Int32.ofNat (M * W)) = (Int32.ofNat (M * W))) c1)]
    refine (q_blk (Y := mX7_copyFrom) (q_dcC dX7_copyFrom_13 q_dcN) (show _ = some (14, [.ref t, .ref u], [.ref u]) from rfl)).trans ?_
    refine (k_getr (Y := mX7_copyFrom) dX7_copyFrom_14 rfl rfl hu.1 (by decide) hu.2.1).trans ?_
    refine (q_blk (Y := mX7_copyFrom) (q_dcC dX7_copyFrom_17 (q_dcC dX7_copyFrom_18 q_dcN)) (show _ = some (19, [.ref t, .ref u], [.ref t, .int 0, .ref (u + 1)]) from rfl)).trans ?_
    refine (k_getr (Y := mX7_copyFrom) dX7_copyFrom_19 rfl rfl ht.1 (by decide) ht.2.1).trans ?_
    refine (q_blk (Y := mX7_copyFrom) (q_dcC dX7_copyFrom_22 (q_dcC dX7_copyFrom_23 q_dcN)) (show _ = some (24, [.ref t, .ref u], [.ref t, .int 0, .ref (t + 1), .int 0, .ref (u + 1)]) from rfl)).trans ?_
    refine (k_getr (Y := mX7_copyFrom) dX7_copyFrom_24 rfl rfl ht.1 (by decide) ht.2.1).trans ?_
    refine (k_alen (Y := mX7_copyFrom) dX7_copyFrom_27 ht.2.2.2.2.2.1).trans ?_
    refine (k_copy (Y := mX7_copyFrom) dX7_copyFrom_28 rfl rfl rfl (by decide) (by decide) hu.2.2.2.2.2.1 ht.2.2.2.2.2.1 (q_sq hu.2.2.2.2.2.2.1 hu.2.2.2.2.2.2.2.2)).trans ?_
    show q_sem _ _ 31 [.ref t, .ref u] [] (q_K o (q_cg g (u + 1) (t + 1) (M * W))) = _
    refine (q_blk (Y := mX7_copyFrom) (q_dcC dX7_copyFrom_31 (q_dcC dX7_copyFrom_32 q_dcN)) (show _ = some (33, [.ref t, .ref u], [.ref u, .ref t]) from rfl)).trans ?_
    refine (k_geti (Y := mX7_copyFrom) dX7_copyFrom_33 rfl rfl hu.1 (by decide) hu.2.2.2.2.1).trans ?_
    refine (k_puti (Y := mX7_copyFrom) dX7_copyFrom_36 rfl ht.1 (by decide) ht.2.2.2.2.1 rfl rfl rfl).trans ?_
    refine (k_vret (Y := mX7_copyFrom) dX7_copyFrom_39 rfl).trans ?_
    rfl
  · rw [if_pos (show q_cc .ne (Int32.ofNat (M * W)) (Int32.ofNat (M * W)) = true from decide_eq_true c1)]
    refine (k_vret (Y := mX7_copyFrom) dX7_copyFrom_39 rfl).trans ?_
    exact absurd rfl c1
def q_tot (g : Nat → Nat → Int32) (t W c : Nat) : Nat → Int32
  | 0 => 0
  | n + 1 => q_tot g t W c n + g (t + 1) (n * W + c)
def q_io (g : Nat → Nat → Int32) (t W : Nat) (v : Int32) : Nat → Nat → Int32
  | 0, _ => -1
  | n + 1, r => if g (t + 1) (r * W + 0) = v then nI r else q_io g t W v n (r + 1)
theorem s_total_loop (d : Nat) (ht : q_tb t M W) (hi : q_ti g t M W R) {c : Nat} (hc : c < W) : ∀ (n r : Nat), r ≤ R → R < r + n → q_sem (d + 2) mX7_total 4 [.ref t, .int (nI c), .int (q_tot g t W c r), .int (nI r)] [] (q_K o g) = some (some (.int (q_tot g t W c R)), q_K o g) := by
  have hWb := ht.2.2.2.2.2.2.2.2
  have hMb := ht.2.2.2.2.2.2.1
  have hRM := hi.2.2.2
  intro n
  induction n with
  | zero =>
    intro r hr hr2
    omega
  | succ n ih =>
    intro r hr hr2
    refine (q_blk (Y := mX7_total) (q_dcC dX7_total_4 (q_dcC dX7_total_5 q_dcN)) (show _ = some (6, [.ref t, .int (nI c), .int (q_tot g t W c r), .int (nI r)], [.ref t, .int (nI r)]) from rfl)).trans ?_
    refine (k_geti (Y := mX7_total) dX7_total_6 rfl rfl ht.1 (by decide) ht.2.2.2.2.1).trans ?_
    refine (q_blk (Y := mX7_total) (q_dcC dX7_total_9 q_dcN) (show _ = some ((if q_cc .ge (nI r) (g t 3) = true then 27 else 12), [.ref t, .int (nI c), .int (q_tot g t W c r), .int (nI r)], []) from rfl)).trans ?_
    by_cases c1 : (g t 3) ≤ (nI r)
    · rw [if_pos (show q_cc .ge (nI r) (g t 3) = true from decide_eq_true c1)]
      refine (q_blk (Y := mX7_total) (q_dcC dX7_total_27 q_dcN) (show _ = some (28, [.ref t, .int (nI c), .int (q_tot g t W c r), .int (nI r)], [.int (q_tot g t W c r)]) from rfl)).trans ?_
      refine (k_iret (Y := mX7_total) dX7_total_28 rfl).trans ?_
      have hrR : r = R := by
        rw [hi.2.2.1] at c1
        rcases Nat.lt_or_ge r R with q | q
        · exact absurd c1 (nI_ge q (by omega))
        · omega
      rw [hrR]
    · rw [if_neg (show ¬ q_cc .ge (nI r) (g t 3) = true from fun z => c1 (of_decide_eq_true z))]
      refine (q_blk (Y := mX7_total) (q_dcC dX7_total_12 (q_dcC dX7_total_13 (q_dcC dX7_total_14 (q_dcC dX7_total_15 q_dcN)))) (show _ = some (16, [.ref t, .int (nI c), .int (q_tot g t W c r), .int (nI r)], [.int (nI c), .int (nI r), .ref t, .int (q_tot g t W c r)]) from rfl)).trans ?_
      have hlt : r < R := by
        rw [hi.2.2.1] at c1
        rcases Nat.lt_or_ge r R with q | q
        · exact q
        · exact absurd (nI_le q (by omega)) c1
      refine (k_calV (d := d + 1) (Y := mX7_total) (Z := mX7_get) (vs := [.int (nI r), .int (nI c)]) (rest := [.int (q_tot g t W c r)]) dX7_total_16 rfl rfl rfl rfl ht.1 (Nat.le_of_ble_eq_true rfl) rfl (Nat.le_of_ble_eq_true rfl) (s_get d ht hi (nI r) (nI c))).trans ?_
      show q_sem _ _ 19 [.ref t, .int (nI c), .int (q_tot g t W c r), .int (nI r)] [.int (q_gt g t W R (nI r) (nI c)), .int (q_tot g t W c r)] (q_K o g) = _
      refine (q_blk (Y := mX7_total) (q_dcC dX7_total_19 (q_dcC dX7_total_20 (q_dcC dX7_total_21 (q_dcC dX7_total_24 q_dcN)))) (show _ = some (4, [.ref t, .int (nI c), .int ((q_tot g t W c r) + (q_gt g t W R (nI r) (nI c))), .int ((nI r) + 1)], []) from rfl)).trans ?_
      rw [q_gt_in hlt hc (by omega) hWb, nI_1]
      exact ih (r + 1) (by omega) (by omega)
theorem s_total (d : Nat) (ht : q_tb t M W) (hi : q_ti g t M W R) {c : Nat} (hc : c < W) : q_sem (d + 2) mX7_total 0 [.ref t, .int (nI c), .retAddr 0, .retAddr 0] [] (q_K o g) = some (some (.int (q_tot g t W c R)), q_K o g) := by
  refine (q_blk (Y := mX7_total) (q_dcC dX7_total_0 (q_dcC dX7_total_1 (q_dcC dX7_total_2 (q_dcC dX7_total_3 q_dcN)))) (show _ = some (4, [.ref t, .int (nI c), .int 0, .int 0], []) from rfl)).trans ?_
  exact s_total_loop d ht hi hc (R + 1) 0 (Nat.zero_le _) (by omega)
theorem s_indexOf_loop (d : Nat) (ht : q_tb t M W) (hi : q_ti g t M W R) (v : Int32) : ∀ (k n r : Nat), r + n = R → n < k → q_sem (d + 2) mX7_indexOf 2 [.ref t, .int v, .int (nI r)] [] (q_K o g) = some (some (.int (q_io g t W v n r)), q_K o g) := by
  have hWb := ht.2.2.2.2.2.2.2.2
  have hW1 := ht.2.2.2.2.2.2.2.1
  have hMb := ht.2.2.2.2.2.2.1
  have hRM := hi.2.2.2
  intro k
  induction k with
  | zero =>
    intro n r hr hr2
    omega
  | succ k ih =>
    intro n r hr hr2
    refine (q_blk (Y := mX7_indexOf) (q_dcC dX7_indexOf_2 (q_dcC dX7_indexOf_3 q_dcN)) (show _ = some (4, [.ref t, .int v, .int (nI r)], [.ref t, .int (nI r)]) from rfl)).trans ?_
    refine (k_geti (Y := mX7_indexOf) dX7_indexOf_4 rfl rfl ht.1 (by decide) ht.2.2.2.2.1).trans ?_
    refine (q_blk (Y := mX7_indexOf) (q_dcC dX7_indexOf_7 q_dcN) (show _ = some ((if q_cc .ge (nI r) (g t 3) = true then 28 else 10), [.ref t, .int v, .int (nI r)], []) from rfl)).trans ?_
    by_cases c1 : (g t 3) ≤ (nI r)
    · rw [if_pos (show q_cc .ge (nI r) (g t 3) = true from decide_eq_true c1)]
      refine (q_blk (Y := mX7_indexOf) (q_dcC dX7_indexOf_28 q_dcN) (show _ = some (29, [.ref t, .int v, .int (nI r)], [.int (-1)]) from rfl)).trans ?_
      refine (k_iret (Y := mX7_indexOf) dX7_indexOf_29 rfl).trans ?_
      have hn0 : n = 0 := by
        rw [hi.2.2.1] at c1
        rcases Nat.lt_or_ge r R with q | q
        · exact absurd c1 (nI_ge q (by omega))
        · omega
      rw [hn0]
      rfl
    · rw [if_neg (show ¬ q_cc .ge (nI r) (g t 3) = true from fun z => c1 (of_decide_eq_true z))]
      refine (q_blk (Y := mX7_indexOf) (q_dcC dX7_indexOf_10 (q_dcC dX7_indexOf_11 (q_dcC dX7_indexOf_12 q_dcN))) (show _ = some (13, [.ref t, .int v, .int (nI r)], [.int 0, .int (nI r), .ref t]) from rfl)).trans ?_
      have hlt : r < R := by
        rw [hi.2.2.1] at c1
        rcases Nat.lt_or_ge r R with q | q
        · exact q
        · exact absurd (nI_le q (by omega)) c1
      refine (k_calV (d := d + 1) (Y := mX7_indexOf) (Z := mX7_get) (vs := [.int (nI r), .int 0]) (rest := []) dX7_indexOf_13 rfl rfl rfl rfl ht.1 (Nat.le_of_ble_eq_true rfl) rfl (Nat.le_of_ble_eq_true rfl) (s_get d ht hi (nI r) 0)).trans ?_
      show q_sem _ _ 16 [.ref t, .int v, .int (nI r)] [.int (q_gt g t W R (nI r) 0)] (q_K o g) = _
      refine (q_blk (Y := mX7_indexOf) (q_dcC dX7_indexOf_16 (q_dcC dX7_indexOf_17 q_dcN)) (show _ = some ((if q_cc .ne (q_gt g t W R (nI r) 0) v = true then 22 else 20), [.ref t, .int v, .int (nI r)], []) from rfl)).trans ?_
      by_cases c2 : (q_gt g t W R (nI r) 0) = v
      · rw [if_neg (show ¬ q_cc .ne (q_gt g t W R (nI r) 0) v = true from fun z => (of_decide_eq_true z : ¬ (q_gt g t W R (nI r) 0) = v) c2)]
        refine (q_blk (Y := mX7_indexOf) (q_dcC dX7_indexOf_20 q_dcN) (show _ = some (21, [.ref t, .int v, .int (nI r)], [.int (nI r)]) from rfl)).trans ?_
        refine (k_iret (Y := mX7_indexOf) dX7_indexOf_21 rfl).trans ?_
        rw [show q_gt g t W R (nI r) 0 = g (t + 1) (r * W + 0) from q_gt_in (c := 0) hlt hW1 (by omega) hWb] at c2
        rw [show q_io g t W v n r = q_io g t W v ((n - 1) + 1) r by rw [Nat.sub_add_cancel (by omega)], q_io, if_pos c2]
      · rw [if_pos (show q_cc .ne (q_gt g t W R (nI r) 0) v = true from decide_eq_true c2)]
        refine (q_blk (Y := mX7_indexOf) (q_dcC dX7_indexOf_22 (q_dcC dX7_indexOf_25 q_dcN)) (show _ = some (2, [.ref t, .int v, .int ((nI r) + 1)], []) from rfl)).trans ?_
        rw [show q_gt g t W R (nI r) 0 = g (t + 1) (r * W + 0) from q_gt_in (c := 0) hlt hW1 (by omega) hWb] at c2
        rw [show q_io g t W v n r = q_io g t W v ((n - 1) + 1) r by rw [Nat.sub_add_cancel (by omega)], q_io, if_neg c2, nI_1]
        exact ih (n - 1) (r + 1) (by omega) (by omega)
theorem s_indexOf (d : Nat) (ht : q_tb t M W) (hi : q_ti g t M W R) (v : Int32) : q_sem (d + 2) mX7_indexOf 0 [.ref t, .int v, .retAddr 0] [] (q_K o g) = some (some (.int (q_io g t W v R 0)), q_K o g) := by
  refine (q_blk (Y := mX7_indexOf) (q_dcC dX7_indexOf_0 (q_dcC dX7_indexOf_1 q_dcN)) (show _ = some (2, [.ref t, .int v, .int 0], []) from rfl)).trans ?_
  exact s_indexOf_loop d ht hi v (R + 1) R 0 (by omega) (by omega)
end QT2
