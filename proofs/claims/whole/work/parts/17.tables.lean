theorem dX11_within_2 : decode cX11_within 2 = .ok (.if_icmp .lt 12, 3) := by decide +kernel
theorem dX11_within_1 : decode cX11_within 1 = .ok (.iload_n 1, 1) := by decide +kernel
theorem dX11_within_0 : decode cX11_within 0 = .ok (.iload_n 0, 1) := by decide +kernel
theorem dX11_within_14 : decode cX11_within 14 = .ok (.iconst 0, 1) := by decide +kernel
theorem dX11_within_15 : decode cX11_within 15 = .ok (.ireturn, 1) := by decide +kernel
theorem dX11_within_7 : decode cX11_within 7 = .ok (.if_icmp .gt 7, 3) := by decide +kernel
theorem dX11_within_6 : decode cX11_within 6 = .ok (.iload_n 2, 1) := by decide +kernel
theorem dX11_within_5 : decode cX11_within 5 = .ok (.iload_n 0, 1) := by decide +kernel
theorem dX11_within_11 : decode cX11_within 11 = .ok (.goto 4, 3) := by decide +kernel
theorem dX11_within_10 : decode cX11_within 10 = .ok (.iconst 1, 1) := by decide +kernel
theorem dX7_size_0 : decode cX7_size 0 = .ok (.aload_n 0, 1) := by decide +kernel
theorem dX7_size_1 : decode cX7_size 1 = .ok (.getfield 7, 3) := by decide +kernel
theorem dX7_size_4 : decode cX7_size 4 = .ok (.ireturn, 1) := by decide +kernel
theorem dX7_clear_1 : decode cX7_clear 1 = .ok (.iconst 0, 1) := by decide +kernel
theorem dX7_clear_0 : decode cX7_clear 0 = .ok (.aload_n 0, 1) := by decide +kernel
theorem dX7_clear_2 : decode cX7_clear 2 = .ok (.putfield 7, 3) := by decide +kernel
theorem dX7_clear_5 : decode cX7_clear 5 = .ok (.return_, 1) := by decide +kernel
theorem dX7_has_1 : decode cX7_has 1 = .ok (.ifCond .lt 15, 3) := by decide +kernel
theorem dX7_has_0 : decode cX7_has 0 = .ok (.iload_n 1, 1) := by decide +kernel
theorem dX7_has_16 : decode cX7_has 16 = .ok (.iconst 0, 1) := by decide +kernel
theorem dX7_has_17 : decode cX7_has 17 = .ok (.ireturn, 1) := by decide +kernel
theorem dX7_has_5 : decode cX7_has 5 = .ok (.aload_n 0, 1) := by decide +kernel
theorem dX7_has_4 : decode cX7_has 4 = .ok (.iload_n 1, 1) := by decide +kernel
theorem dX7_has_6 : decode cX7_has 6 = .ok (.getfield 7, 3) := by decide +kernel
theorem dX7_has_9 : decode cX7_has 9 = .ok (.if_icmp .ge 7, 3) := by decide +kernel
theorem dX7_has_13 : decode cX7_has 13 = .ok (.goto 4, 3) := by decide +kernel
theorem dX7_has_12 : decode cX7_has 12 = .ok (.iconst 1, 1) := by decide +kernel
theorem dX7_isFull_0 : decode cX7_isFull 0 = .ok (.aload_n 0, 1) := by decide +kernel
theorem dX7_isFull_1 : decode cX7_isFull 1 = .ok (.getfield 7, 3) := by decide +kernel
theorem dX7_isFull_4 : decode cX7_isFull 4 = .ok (.aload_n 0, 1) := by decide +kernel
theorem dX7_isFull_5 : decode cX7_isFull 5 = .ok (.getfield 22, 3) := by decide +kernel
theorem dX7_isFull_8 : decode cX7_isFull 8 = .ok (.if_icmp .lt 7, 3) := by decide +kernel
theorem dX7_isFull_15 : decode cX7_isFull 15 = .ok (.iconst 0, 1) := by decide +kernel
theorem dX7_isFull_16 : decode cX7_isFull 16 = .ok (.ireturn, 1) := by decide +kernel
theorem dX7_isFull_12 : decode cX7_isFull 12 = .ok (.goto 4, 3) := by decide +kernel
theorem dX7_isFull_11 : decode cX7_isFull 11 = .ok (.iconst 1, 1) := by decide +kernel
theorem dX7_get_1 : decode cX7_get 1 = .ok (.ifCond .lt 39, 3) := by decide +kernel
theorem dX7_get_0 : decode cX7_get 0 = .ok (.iload_n 1, 1) := by decide +kernel
theorem dX7_get_40 : decode cX7_get 40 = .ok (.iconst 0, 1) := by decide +kernel
theorem dX7_get_41 : decode cX7_get 41 = .ok (.ireturn, 1) := by decide +kernel
theorem dX7_get_5 : decode cX7_get 5 = .ok (.aload_n 0, 1) := by decide +kernel
theorem dX7_get_4 : decode cX7_get 4 = .ok (.iload_n 1, 1) := by decide +kernel
theorem dX7_get_6 : decode cX7_get 6 = .ok (.getfield 7, 3) := by decide +kernel
theorem dX7_get_9 : decode cX7_get 9 = .ok (.if_icmp .ge 31, 3) := by decide +kernel
theorem dX7_get_13 : decode cX7_get 13 = .ok (.ifCond .lt 27, 3) := by decide +kernel
theorem dX7_get_12 : decode cX7_get 12 = .ok (.iload_n 2, 1) := by decide +kernel
theorem dX7_get_17 : decode cX7_get 17 = .ok (.aload_n 0, 1) := by decide +kernel
theorem dX7_get_16 : decode cX7_get 16 = .ok (.iload_n 2, 1) := by decide +kernel
theorem dX7_get_18 : decode cX7_get 18 = .ok (.getfield 25, 3) := by decide +kernel
theorem dX7_get_21 : decode cX7_get 21 = .ok (.if_icmp .ge 19, 3) := by decide +kernel
theorem dX7_get_24 : decode cX7_get 24 = .ok (.aload_n 0, 1) := by decide +kernel
theorem dX7_get_25 : decode cX7_get 25 = .ok (.getfield 28, 3) := by decide +kernel
theorem dX7_get_29 : decode cX7_get 29 = .ok (.aload_n 0, 1) := by decide +kernel
theorem dX7_get_28 : decode cX7_get 28 = .ok (.iload_n 1, 1) := by decide +kernel
theorem dX7_get_30 : decode cX7_get 30 = .ok (.getfield 25, 3) := by decide +kernel
theorem dX7_get_35 : decode cX7_get 35 = .ok (.iadd, 1) := by decide +kernel
theorem dX7_get_34 : decode cX7_get 34 = .ok (.iload_n 2, 1) := by decide +kernel
theorem dX7_get_33 : decode cX7_get 33 = .ok (.imul, 1) := by decide +kernel
theorem dX7_get_36 : decode cX7_get 36 = .ok (.iaload, 1) := by decide +kernel
theorem dX7_get_37 : decode cX7_get 37 = .ok (.goto 4, 3) := by decide +kernel
theorem dX7_write_1 : decode cX7_write 1 = .ok (.ifCond .lt 37, 3) := by decide +kernel
theorem dX7_write_0 : decode cX7_write 0 = .ok (.iload_n 1, 1) := by decide +kernel
theorem dX7_write_38 : decode cX7_write 38 = .ok (.return_, 1) := by decide +kernel
theorem dX7_write_5 : decode cX7_write 5 = .ok (.aload_n 0, 1) := by decide +kernel
theorem dX7_write_4 : decode cX7_write 4 = .ok (.iload_n 1, 1) := by decide +kernel
theorem dX7_write_6 : decode cX7_write 6 = .ok (.getfield 7, 3) := by decide +kernel
theorem dX7_write_9 : decode cX7_write 9 = .ok (.if_icmp .ge 29, 3) := by decide +kernel
theorem dX7_write_13 : decode cX7_write 13 = .ok (.ifCond .lt 25, 3) := by decide +kernel
theorem dX7_write_12 : decode cX7_write 12 = .ok (.iload_n 2, 1) := by decide +kernel
theorem dX7_write_17 : decode cX7_write 17 = .ok (.aload_n 0, 1) := by decide +kernel
theorem dX7_write_16 : decode cX7_write 16 = .ok (.iload_n 2, 1) := by decide +kernel
theorem dX7_write_18 : decode cX7_write 18 = .ok (.getfield 25, 3) := by decide +kernel
theorem dX7_write_21 : decode cX7_write 21 = .ok (.if_icmp .ge 17, 3) := by decide +kernel
theorem dX7_write_24 : decode cX7_write 24 = .ok (.aload_n 0, 1) := by decide +kernel
theorem dX7_write_25 : decode cX7_write 25 = .ok (.getfield 28, 3) := by decide +kernel
theorem dX7_write_29 : decode cX7_write 29 = .ok (.aload_n 0, 1) := by decide +kernel
theorem dX7_write_28 : decode cX7_write 28 = .ok (.iload_n 1, 1) := by decide +kernel
theorem dX7_write_30 : decode cX7_write 30 = .ok (.getfield 25, 3) := by decide +kernel
theorem dX7_write_36 : decode cX7_write 36 = .ok (.iload_n 3, 1) := by decide +kernel
theorem dX7_write_35 : decode cX7_write 35 = .ok (.iadd, 1) := by decide +kernel
theorem dX7_write_34 : decode cX7_write 34 = .ok (.iload_n 2, 1) := by decide +kernel
theorem dX7_write_33 : decode cX7_write 33 = .ok (.imul, 1) := by decide +kernel
theorem dX7_write_37 : decode cX7_write 37 = .ok (.iastore, 1) := by decide +kernel
theorem q_dcN {c : ByteArray} : q_dcs c [] := trivial
theorem q_dcC {c : ByteArray} {pc : Nat} {q : Instr × Nat} {is : List (Nat × Instr × Nat)} (h : decode c pc = .ok q) (h2 : q_dcs c is) : q_dcs c ((pc, q) :: is) := ⟨h, h2⟩
section QKN
variable {d : Nat} {Y : q_MI} {pc : Nat} {ls st : List Value} {o : q_H} {g : Nat → Nat → Int32} {p n j : Nat} {i v : Int32}
theorem k_ialdN (hd : decode Y.2.2.1 pc = .ok (.iaload, 1)) (hp : q_ar p n) (hi : i = nI j) (hj : j < n ∧ n < 2 ^ 31) : q_sem d Y pc ls (.int i :: .ref p :: st) (q_K o g) = q_sem d Y (pc + 1) ls (.int (g p j) :: st) (q_K o g) := by
  subst hi
  have h := k_iald (d := d) (ls := ls) (st := st) (o := o) (g := g) hd hp (vp_in_nI hj.1 hj.2)
  rw [nI_clamp (Nat.lt_trans hj.1 hj.2)] at h
  exact h
theorem k_iastN (hd : decode Y.2.2.1 pc = .ok (.iastore, 1)) (hp : q_ar p n) (hi : i = nI j) (hj : j < n ∧ n < 2 ^ 31) : q_sem d Y pc ls (.int v :: .int i :: .ref p :: st) (q_K o g) = q_sem d Y (pc + 1) ls st (q_K o (q_up g p j v)) := by
  subst hi
  have h := k_iast (d := d) (ls := ls) (st := st) (o := o) (g := g) (v := v) hd hp (vp_in_nI hj.1 hj.2)
  rw [nI_clamp (Nat.lt_trans hj.1 hj.2)] at h
  exact h
end QKN
theorem r_b1 {P : Prop} [Decidable P] {k : q_H} (h : P) : (some (some (.int 1), k) : Option (Option Value × q_H)) = some (some (.int (if P then 1 else 0)), k) := by rw [if_pos h]
theorem r_b0 {P : Prop} [Decidable P] {k : q_H} (h : ¬ P) : (some (some (.int 0), k) : Option (Option Value × q_H)) = some (some (.int (if P then 1 else 0)), k) := by rw [if_neg h]
section QT
variable {o : q_H} {g : Nat → Nat → Int32}
/-- v lies from a to b -/
abbrev q_wi (v a b : Int32) : Prop := a ≤ v ∧ v ≤ b
theorem s_within (d : Nat) (v a b : Int32) : q_sem (d + 1) mX11_within 0 [.int v, .int a, .int b] [] (q_K o g) = some (some (.int (if q_wi v a b then 1 else 0)), q_K o g) := by
  refine (q_blk (Y := mX11_within) (q_dcC dX11_within_0 (q_dcC dX11_within_1 (q_dcC dX11_within_2 q_dcN))) (show _ = some ((if q_cc .lt v a = true then 14 else 5), [.int v, .int a, .int b], []) from rfl)).trans ?_
  by_cases c1 : v < a
  · rw [if_pos (show q_cc .lt v a = true from decide_eq_true c1)]
    refine (q_blk (Y := mX11_within) (q_dcC dX11_within_14 q_dcN) (show _ = some (15, [.int v, .int a, .int b], [.int 0]) from rfl)).trans ?_
    refine (k_iret (Y := mX11_within) dX11_within_15 rfl).trans ?_
    exact r_b0 (by simp only [q_wi, Int32.lt_iff_toInt_lt, Int32.le_iff_toInt_le] at c1 ⊢; omega)
  · rw [if_neg (show ¬ q_cc .lt v a = true from fun z => c1 (of_decide_eq_true z))]
    refine (q_blk (Y := mX11_within) (q_dcC dX11_within_5 (q_dcC dX11_within_6 (q_dcC dX11_within_7 q_dcN))) (show _ = some ((if q_cc .gt v b = true then 14 else 10), [.int v, .int a, .int b], []) from rfl)).trans ?_
    by_cases c2 : b < v
    · rw [if_pos (show q_cc .gt v b = true from decide_eq_true c2)]
      refine (q_blk (Y := mX11_within) (q_dcC dX11_within_14 q_dcN) (show _ = some (15, [.int v, .int a, .int b], [.int 0]) from rfl)).trans ?_
      refine (k_iret (Y := mX11_within) dX11_within_15 rfl).trans ?_
      exact r_b0 (by simp only [q_wi, Int32.lt_iff_toInt_lt, Int32.le_iff_toInt_le] at c1 c2 ⊢; omega)
    · rw [if_neg (show ¬ q_cc .gt v b = true from fun z => c2 (of_decide_eq_true z))]
      refine (q_blk (Y := mX11_within) (q_dcC dX11_within_10 (q_dcC dX11_within_11 q_dcN)) (show _ = some (15, [.int v, .int a, .int b], [.int 1]) from rfl)).trans ?_
      refine (k_iret (Y := mX11_within) dX11_within_15 rfl).trans ?_
      exact r_b1 (by simp only [q_wi, Int32.lt_iff_toInt_lt, Int32.le_iff_toInt_le] at c1 c2 ⊢; omega)
/-- t is a table of M rows of W -/
def q_tb (t M W : Nat) : Prop := q_is t 5 ∧ q_ref t 2 = some (t + 1) ∧ q_ref t 0 = none ∧ q_ref t 1 = none ∧ q_ref t 3 = none ∧ q_ar (t + 1) (M * W) ∧ M ≤ 99 ∧ 1 ≤ W ∧ W ≤ 99
/-- a table of M rows of W that has R rows -/
def q_ti (g : Nat → Nat → Int32) (t M W R : Nat) : Prop := g t 0 = nI M ∧ g t 1 = nI W ∧ g t 3 = nI R ∧ R ≤ M
def q_gt (g : Nat → Nat → Int32) (t W R : Nat) (row col : Int32) : Int32 := if 0 ≤ row ∧ row < nI R ∧ 0 ≤ col ∧ col < nI W then g (t + 1) (row.toNatClampNeg * W + col.toNatClampNeg) else 0
def q_pt (g : Nat → Nat → Int32) (t W R : Nat) (row col v : Int32) : Nat → Nat → Int32 := if 0 ≤ row ∧ row < nI R ∧ 0 ≤ col ∧ col < nI W then q_up g (t + 1) (row.toNatClampNeg * W + col.toNatClampNeg) v else g
theorem q_mulB {M W r c : Nat} (hr : r < M) (hc : c < W) : r * W + c < M * W := by
  have h1 : (r + 1) * W ≤ M * W := Nat.mul_le_mul_right _ hr
  rw [Nat.add_mul, Nat.one_mul] at h1
  omega
theorem q_sq {M W : Nat} (hM : M ≤ 99) (hW : W ≤ 99) : M * W < 2 ^ 31 := by
  have h1 : M * W ≤ 99 * 99 := Nat.mul_le_mul hM hW
  omega
theorem q_gt_in {g : Nat → Nat → Int32} {t W R r c : Nat} (hr : r < R) (hc : c < W) (hR : R ≤ 99) (hW : W ≤ 99) : q_gt g t W R (nI r) (nI c) = g (t + 1) (r * W + c) := by
  unfold q_gt
  rw [if_pos ⟨nI_pos' (by omega), nI_lt hr (by omega), nI_pos' (by omega), nI_lt hc (by omega)⟩, nI_clamp (by omega), nI_clamp (by omega)]
theorem q_pt_in {g : Nat → Nat → Int32} {t W R r c : Nat} {v : Int32} (hr : r < R) (hc : c < W) (hR : R ≤ 99) (hW : W ≤ 99) : q_pt g t W R (nI r) (nI c) v = q_up g (t + 1) (r * W + c) v := by
  unfold q_pt
  rw [if_pos ⟨nI_pos' (by omega), nI_lt hr (by omega), nI_pos' (by omega), nI_lt hc (by omega)⟩, nI_clamp (by omega), nI_clamp (by omega)]
/-- the place of a row and a column -/
theorem q_ix {M W R : Nat} {row col w : Int32} (hM : M ≤ 99) (hW : W ≤ 99) (hR : R ≤ M) (hw : w = nI W) (h1 : ¬ row < 0) (h2 : ¬ nI R ≤ row) (h3 : ¬ col < 0) (h4 : ¬ nI W ≤ col) : row * w + col = nI (row.toNatClampNeg * W + col.toNatClampNeg) ∧ row.toNatClampNeg * W + col.toNatClampNeg < M * W := by
  obtain ⟨r, hr, rfl⟩ := nI_of h1
  obtain ⟨c, hc, rfl⟩ := nI_of h3
  have h5 : r < R := by
    rcases Nat.lt_or_ge r R with q | q
    · exact q
    · exact absurd (nI_le q hr) h2
  have h6 : c < W := by
    rcases Nat.lt_or_ge c W with q | q
    · exact q
    · exact absurd (nI_le q hc) h4
  rw [nI_clamp hr, nI_clamp hc, hw, pk_mul, nI_add]
  exact ⟨rfl, q_mulB (by omega) h6⟩
section QKC
variable {d : Nat} {Y : q_MI} {pc x : Nat} {ls st : List Value} {a b n : Nat}
def q_cg (g : Nat → Nat → Int32) (a b n : Nat) : Nat → Nat → Int32 := fun p k => if p = b ∧ k < n then g a k else g p k
theorem k_copy (hd : decode Y.2.2.1 pc = .ok (.invokestatic x, 3)) (h0 : q_f2 q_mT0 Y.1 x = none) (h3 : q_f2 q_mT3 Y.1 x = none) (h4 : q_s4 Y (.invokestatic x) 3 pc (.int (Int32.ofNat n) :: .int 0 :: .ref b :: .int 0 :: .ref a :: st) = none) (hy : (Y.1, x) ∈ q_yT) (hl : q_ns st ≤ 8) (ha : q_ar a n) (hb : q_ar b n) (hn : n < 2 ^ 31) : q_sem d Y pc ls (.int (Int32.ofNat n) :: .int 0 :: .ref b :: .int 0 :: .ref a :: st) (q_K o g) = q_sem d Y (pc + 3) ls st (q_K o (q_cg g a b n)) := by
  have e : q_cp (q_K o g) a b 0 0 n = q_K o (q_cg g a b n) := by
    unfold q_cp
    refine congrArg (fun f => ((151, (fun p => if p < 151 then q_sh p else o.2.1 p), f) : q_H)) ?_
    funext q j
    have e1 : ∀ j, (q_K o g).2.2 a j = .int (g a j) := fun j => q_K_ri ha.1 (q_ar_ref ha)
    by_cases hq : q = b
    · subst hq
      have e2 : ∀ j, (q_K o g).2.2 q j = .int (g q j) := fun j => q_K_ri hb.1 (q_ar_ref hb)
      rw [if_pos rfl, e1, e2, if_pos hb.1, q_ar_ref hb]
      show (if 0 ≤ j ∧ j < 0 + n then Value.int (g a (0 + (j - 0))) else .int (g q j)) = .int (if q = q ∧ j < n then g a j else g q j)
      by_cases hj : j < n
      · rw [if_pos ⟨Nat.zero_le _, by omega⟩, if_pos ⟨rfl, hj⟩, Nat.zero_add, Nat.sub_zero]
      · rw [if_neg (by omega), if_neg (fun z => hj z.2)]
    · rw [if_neg hq]
      show (if q < 151 then (match q_ref q j with
        | some r => Value.ref r
        | none => .int (g q j)) else o.2.2 q j) = (if q < 151 then (match q_ref q j with
        | some r => Value.ref r
        | none => .int (if q = b ∧ j < n then g a j else g q j)) else o.2.2 q j)
      have e9 : (if q = b ∧ j < n then g a j else g q j) = g q j := if_neg (fun z => hq z.1)
      rw [e9]
  rw [← e]
  refine q_s5E hd rfl (by unfold q_kall; dsimp only; rw [if_pos rfl, h0, h3]; rfl) rfl rfl rfl h4 ?_
  unfold q_s5
  dsimp only
  have hz : (Int32.ofNat n).toNatClampNeg = n := nI_clamp hn
  have hz0 : (0 : Int32).toNatClampNeg = 0 := rfl
  rw [if_pos rfl, if_pos ⟨hy, hl, ⟨ha.1, by rw [q_K_kd ha.1, ha.2.1]⟩, ⟨hb.1, by rw [q_K_kd hb.1, hb.2.1]⟩, by decide, by decide, nI_pos hn, by rw [hz, hz0, q_K_ln ha.1, ha.2.1]; omega, by rw [hz, hz0, q_K_ln hb.1, hb.2.1]; omega⟩, hz, hz0]
end QKC
variable {t M W R : Nat}
theorem s_size (d : Nat) (ht : q_tb t M W) : q_sem (d + 1) mX7_size 0 [.ref t] [] (q_K o g) = some (some (.int (g t 3)), q_K o g) := by
  refine (q_blk (Y := mX7_size) (q_dcC dX7_size_0 q_dcN) (show _ = some (1, [.ref t], [.ref t]) from rfl)).trans ?_
  refine (k_geti (Y := mX7_size) dX7_size_1 rfl rfl ht.1 (by decide) ht.2.2.2.2.1).trans ?_
  refine (k_iret (Y := mX7_size) dX7_size_4 rfl).trans ?_
  rfl
theorem s_clear (d : Nat) (ht : q_tb t M W) : q_sem (d + 1) mX7_clear 0 [.ref t] [] (q_K o g) = some (none, q_K o (q_up g t 3 0)) := by
  refine (q_blk (Y := mX7_clear) (q_dcC dX7_clear_0 (q_dcC dX7_clear_1 q_dcN)) (show _ = some (2, [.ref t], [.int 0, .ref t]) from rfl)).trans ?_
  refine (k_puti (Y := mX7_clear) dX7_clear_2 rfl ht.1 (by decide) ht.2.2.2.2.1 rfl rfl rfl).trans ?_
  refine (k_vret (Y := mX7_clear) dX7_clear_5 rfl).trans ?_
  rfl
theorem s_has (d : Nat) (ht : q_tb t M W) (row : Int32) : q_sem (d + 1) mX7_has 0 [.ref t, .int row] [] (q_K o g) = some (some (.int (if 0 ≤ row ∧ row < g t 3 then 1 else 0)), q_K o g) := by
  refine (q_blk (Y := mX7_has) (q_dcC dX7_has_0 (q_dcC dX7_has_1 q_dcN)) (show _ = some ((if q_cc .lt row 0 = true then 16 else 4), [.ref t, .int row], []) from rfl)).trans ?_
  by_cases c1 : row < 0
  · rw [if_pos (show q_cc .lt row 0 = true from decide_eq_true c1)]
    refine (q_blk (Y := mX7_has) (q_dcC dX7_has_16 q_dcN) (show _ = some (17, [.ref t, .int row], [.int 0]) from rfl)).trans ?_
    refine (k_iret (Y := mX7_has) dX7_has_17 rfl).trans ?_
    exact r_b0 (by simp only [q_wi, Int32.lt_iff_toInt_lt, Int32.le_iff_toInt_le] at c1 ⊢; omega)
  · rw [if_neg (show ¬ q_cc .lt row 0 = true from fun z => c1 (of_decide_eq_true z))]
    refine (q_blk (Y := mX7_has) (q_dcC dX7_has_4 (q_dcC dX7_has_5 q_dcN)) (show _ = some (6, [.ref t, .int row], [.ref t, .int row]) from rfl)).trans ?_
    refine (k_geti (Y := mX7_has) dX7_has_6 rfl rfl ht.1 (by decide) ht.2.2.2.2.1).trans ?_
    refine (q_blk (Y := mX7_has) (q_dcC dX7_has_9 q_dcN) (show _ = some ((if q_cc .ge row (g t 3) = true then 16 else 12), [.ref t, .int row], []) from rfl)).trans ?_
    by_cases c2 : (g t 3) ≤ row
    · rw [if_pos (show q_cc .ge row (g t 3) = true from decide_eq_true c2)]
      refine (q_blk (Y := mX7_has) (q_dcC dX7_has_16 q_dcN) (show _ = some (17, [.ref t, .int row], [.int 0]) from rfl)).trans ?_
      refine (k_iret (Y := mX7_has) dX7_has_17 rfl).trans ?_
      exact r_b0 (by simp only [q_wi, Int32.lt_iff_toInt_lt, Int32.le_iff_toInt_le] at c1 c2 ⊢; omega)
    · rw [if_neg (show ¬ q_cc .ge row (g t 3) = true from fun z => c2 (of_decide_eq_true z))]
      refine (q_blk (Y := mX7_has) (q_dcC dX7_has_12 (q_dcC dX7_has_13 q_dcN)) (show _ = some (17, [.ref t, .int row], [.int 1]) from rfl)).trans ?_
      refine (k_iret (Y := mX7_has) dX7_has_17 rfl).trans ?_
      exact r_b1 (by simp only [q_wi, Int32.lt_iff_toInt_lt, Int32.le_iff_toInt_le] at c1 c2 ⊢; omega)
theorem s_isFull (d : Nat) (ht : q_tb t M W) : q_sem (d + 1) mX7_isFull 0 [.ref t] [] (q_K o g) = some (some (.int (if g t 0 ≤ g t 3 then 1 else 0)), q_K o g) := by
  refine (q_blk (Y := mX7_isFull) (q_dcC dX7_isFull_0 q_dcN) (show _ = some (1, [.ref t], [.ref t]) from rfl)).trans ?_
  refine (k_geti (Y := mX7_isFull) dX7_isFull_1 rfl rfl ht.1 (by decide) ht.2.2.2.2.1).trans ?_
  refine (q_blk (Y := mX7_isFull) (q_dcC dX7_isFull_4 q_dcN) (show _ = some (5, [.ref t], [.ref t, .int (g t 3)]) from rfl)).trans ?_
  refine (k_geti (Y := mX7_isFull) dX7_isFull_5 rfl rfl ht.1 (by decide) ht.2.2.1).trans ?_
  refine (q_blk (Y := mX7_isFull) (q_dcC dX7_isFull_8 q_dcN) (show _ = some ((if q_cc .lt (g t 3) (g t 0) = true then 15 else 11), [.ref t], []) from rfl)).trans ?_
  by_cases c1 : (g t 3) < (g t 0)
  · rw [if_pos (show q_cc .lt (g t 3) (g t 0) = true from decide_eq_true c1)]
    refine (q_blk (Y := mX7_isFull) (q_dcC dX7_isFull_15 q_dcN) (show _ = some (16, [.ref t], [.int 0]) from rfl)).trans ?_
    refine (k_iret (Y := mX7_isFull) dX7_isFull_16 rfl).trans ?_
    exact r_b0 (by simp only [q_wi, Int32.lt_iff_toInt_lt, Int32.le_iff_toInt_le] at c1 ⊢; omega)
  · rw [if_neg (show ¬ q_cc .lt (g t 3) (g t 0) = true from fun z => c1 (of_decide_eq_true z))]
    refine (q_blk (Y := mX7_isFull) (q_dcC dX7_isFull_11 (q_dcC dX7_isFull_12 q_dcN)) (show _ = some (16, [.ref t], [.int 1]) from rfl)).trans ?_
    refine (k_iret (Y := mX7_isFull) dX7_isFull_16 rfl).trans ?_
    exact r_b1 (by simp only [q_wi, Int32.lt_iff_toInt_lt, Int32.le_iff_toInt_le] at c1 ⊢; omega)
theorem s_get (d : Nat) (ht : q_tb t M W) (hi : q_ti g t M W R) (row col : Int32) : q_sem (d + 1) mX7_get 0 [.ref t, .int row, .int col] [] (q_K o g) = some (some (.int (q_gt g t W R row col)), q_K o g) := by
  refine (q_blk (Y := mX7_get) (q_dcC dX7_get_0 (q_dcC dX7_get_1 q_dcN)) (show _ = some ((if q_cc .lt row 0 = true then 40 else 4), [.ref t, .int row, .int col], []) from rfl)).trans ?_
  by_cases c1 : row < 0
  · rw [if_pos (show q_cc .lt row 0 = true from decide_eq_true c1)]
    refine (q_blk (Y := mX7_get) (q_dcC dX7_get_40 q_dcN) (show _ = some (41, [.ref t, .int row, .int col], [.int 0]) from rfl)).trans ?_
    refine (k_iret (Y := mX7_get) dX7_get_41 rfl).trans ?_
    unfold q_gt
    rw [if_neg (by rw [← hi.2.2.1, ← hi.2.1]; intro z; simp only [Int32.lt_iff_toInt_lt, Int32.le_iff_toInt_le] at z c1; omega)]
  · rw [if_neg (show ¬ q_cc .lt row 0 = true from fun z => c1 (of_decide_eq_true z))]
    refine (q_blk (Y := mX7_get) (q_dcC dX7_get_4 (q_dcC dX7_get_5 q_dcN)) (show _ = some (6, [.ref t, .int row, .int col], [.ref t, .int row]) from rfl)).trans ?_
    refine (k_geti (Y := mX7_get) dX7_get_6 rfl rfl ht.1 (by decide) ht.2.2.2.2.1).trans ?_
    refine (q_blk (Y := mX7_get) (q_dcC dX7_get_9 q_dcN) (show _ = some ((if q_cc .ge row (g t 3) = true then 40 else 12), [.ref t, .int row, .int col], []) from rfl)).trans ?_
    by_cases c2 : (g t 3) ≤ row
    · rw [if_pos (show q_cc .ge row (g t 3) = true from decide_eq_true c2)]
      refine (q_blk (Y := mX7_get) (q_dcC dX7_get_40 q_dcN) (show _ = some (41, [.ref t, .int row, .int col], [.int 0]) from rfl)).trans ?_
      refine (k_iret (Y := mX7_get) dX7_get_41 rfl).trans ?_
      unfold q_gt
      rw [if_neg (by rw [← hi.2.2.1, ← hi.2.1]; intro z; simp only [Int32.lt_iff_toInt_lt, Int32.le_iff_toInt_le] at z c1 c2; omega)]
    · rw [if_neg (show ¬ q_cc .ge row (g t 3) = true from fun z => c2 (of_decide_eq_true z))]
      refine (q_blk (Y := mX7_get) (q_dcC dX7_get_12 (q_dcC dX7_get_13 q_dcN)) (show _ = some ((if q_cc .lt col 0 = true then 40 else 16), [.ref t, .int row, .int col], []) from rfl)).trans ?_
      by_cases c3 : col < 0
      · rw [if_pos (show q_cc .lt col 0 = true from decide_eq_true c3)]
        refine (q_blk (Y := mX7_get) (q_dcC dX7_get_40 q_dcN) (show _ = some (41, [.ref t, .int row, .int col], [.int 0]) from rfl)).trans ?_
        refine (k_iret (Y := mX7_get) dX7_get_41 rfl).trans ?_
        unfold q_gt
        rw [if_neg (by rw [← hi.2.2.1, ← hi.2.1]; intro z; simp only [Int32.lt_iff_toInt_lt, Int32.le_iff_toInt_le] at z c1 c2 c3; omega)]
      · rw [if_neg (show ¬ q_cc .lt col 0 = true from fun z => c3 (of_decide_eq_true z))]
        refine (q_blk (Y := mX7_get) (q_dcC dX7_get_16 (q_dcC dX7_get_17 q_dcN)) (show _ = some (18, [.ref t, .int row, .int col], [.ref t, .int col]) from rfl)).trans ?_
        refine (k_geti (Y := mX7_get) dX7_get_18 rfl rfl ht.1 (by decide) ht.2.2.2.1).trans ?_
        refine (q_blk (Y := mX7_get) (q_dcC dX7_get_21 q_dcN) (show _ = some ((if q_cc .ge col (g t 1) = true then 40 else 24), [.ref t, .int row, .int col], []) from rfl)).trans ?_
        by_cases c4 : (g t 1) ≤ col
        · rw [if_pos (show q_cc .ge col (g t 1) = true from decide_eq_true c4)]
          refine (q_blk (Y := mX7_get) (q_dcC dX7_get_40 q_dcN) (show _ = some (41, [.ref t, .int row, .int col], [.int 0]) from rfl)).trans ?_
          refine (k_iret (Y := mX7_get) dX7_get_41 rfl).trans ?_
          unfold q_gt
          rw [if_neg (by rw [← hi.2.2.1, ← hi.2.1]; intro z; simp only [Int32.lt_iff_toInt_lt, Int32.le_iff_toInt_le] at z c1 c2 c3 c4; omega)]
        · rw [if_neg (show ¬ q_cc .ge col (g t 1) = true from fun z => c4 (of_decide_eq_true z))]
          refine (q_blk (Y := mX7_get) (q_dcC dX7_get_24 q_dcN) (show _ = some (25, [.ref t, .int row, .int col], [.ref t]) from rfl)).trans ?_
          refine (k_getr (Y := mX7_get) dX7_get_25 rfl rfl ht.1 (by decide) ht.2.1).trans ?_
          refine (q_blk (Y := mX7_get) (q_dcC dX7_get_28 (q_dcC dX7_get_29 q_dcN)) (show _ = some (30, [.ref t, .int row, .int col], [.ref t, .int row, .ref (t + 1)]) from rfl)).trans ?_
          refine (k_geti (Y := mX7_get) dX7_get_30 rfl rfl ht.1 (by decide) ht.2.2.2.1).trans ?_
          refine (q_blk (Y := mX7_get) (q_dcC dX7_get_33 (q_dcC dX7_get_34 (q_dcC dX7_get_35 q_dcN))) (show _ = some (36, [.ref t, .int row, .int col], [.int ((row * (g t 1)) + col), .ref (t + 1)]) from rfl)).trans ?_
          refine (k_ialdN (Y := mX7_get) dX7_get_36 ht.2.2.2.2.2.1 (q_ix ht.2.2.2.2.2.2.1 ht.2.2.2.2.2.2.2.2 hi.2.2.2 hi.2.1 c1 (hi.2.2.1 ▸ c2) c3 (hi.2.1 ▸ c4)).1 ⟨(q_ix ht.2.2.2.2.2.2.1 ht.2.2.2.2.2.2.2.2 hi.2.2.2 hi.2.1 c1 (hi.2.2.1 ▸ c2) c3 (hi.2.1 ▸ c4)).2, q_sq ht.2.2.2.2.2.2.1 ht.2.2.2.2.2.2.2.2⟩).trans ?_
          refine (q_blk (Y := mX7_get) (q_dcC dX7_get_37 q_dcN) (show _ = some (41, [.ref t, .int row, .int col], [.int (g (t + 1) (row.toNatClampNeg * W + col.toNatClampNeg))]) from rfl)).trans ?_
          refine (k_iret (Y := mX7_get) dX7_get_41 rfl).trans ?_
          unfold q_gt
          rw [if_pos (by rw [← hi.2.2.1, ← hi.2.1]; simp only [Int32.lt_iff_toInt_lt, Int32.le_iff_toInt_le] at c1 c2 c3 c4 ⊢; omega)]
theorem s_write (d : Nat) (ht : q_tb t M W) (hi : q_ti g t M W R) (row col v : Int32) : q_sem (d + 1) mX7_write 0 [.ref t, .int row, .int col, .int v] [] (q_K o g) = some (none, q_K o (q_pt g t W R row col v)) := by
  refine (q_blk (Y := mX7_write) (q_dcC dX7_write_0 (q_dcC dX7_write_1 q_dcN)) (show _ = some ((if q_cc .lt row 0 = true then 38 else 4), [.ref t, .int row, .int col, .int v], []) from rfl)).trans ?_
  by_cases c1 : row < 0
  · rw [if_pos (show q_cc .lt row 0 = true from decide_eq_true c1)]
    refine (k_vret (Y := mX7_write) dX7_write_38 rfl).trans ?_
    unfold q_pt
    rw [if_neg (by rw [← hi.2.2.1, ← hi.2.1]; intro z; simp only [Int32.lt_iff_toInt_lt, Int32.le_iff_toInt_le] at z c1; omega)]
  · rw [if_neg (show ¬ q_cc .lt row 0 = true from fun z => c1 (of_decide_eq_true z))]
    refine (q_blk (Y := mX7_write) (q_dcC dX7_write_4 (q_dcC dX7_write_5 q_dcN)) (show _ = some (6, [.ref t, .int row, .int col, .int v], [.ref t, .int row]) from rfl)).trans ?_
    refine (k_geti (Y := mX7_write) dX7_write_6 rfl rfl ht.1 (by decide) ht.2.2.2.2.1).trans ?_
    refine (q_blk (Y := mX7_write) (q_dcC dX7_write_9 q_dcN) (show _ = some ((if q_cc .ge row (g t 3) = true then 38 else 12), [.ref t, .int row, .int col, .int v], []) from rfl)).trans ?_
    by_cases c2 : (g t 3) ≤ row
    · rw [if_pos (show q_cc .ge row (g t 3) = true from decide_eq_true c2)]
      refine (k_vret (Y := mX7_write) dX7_write_38 rfl).trans ?_
      unfold q_pt
      rw [if_neg (by rw [← hi.2.2.1, ← hi.2.1]; intro z; simp only [Int32.lt_iff_toInt_lt, Int32.le_iff_toInt_le] at z c1 c2; omega)]
    · rw [if_neg (show ¬ q_cc .ge row (g t 3) = true from fun z => c2 (of_decide_eq_true z))]
      refine (q_blk (Y := mX7_write) (q_dcC dX7_write_12 (q_dcC dX7_write_13 q_dcN)) (show _ = some ((if q_cc .lt col 0 = true then 38 else 16), [.ref t, .int row, .int col, .int v], []) from rfl)).trans ?_
      by_cases c3 : col < 0
      · rw [if_pos (show q_cc .lt col 0 = true from decide_eq_true c3)]
        refine (k_vret (Y := mX7_write) dX7_write_38 rfl).trans ?_
        unfold q_pt
        rw [if_neg (by rw [← hi.2.2.1, ← hi.2.1]; intro z; simp only [Int32.lt_iff_toInt_lt, Int32.le_iff_toInt_le] at z c1 c2 c3; omega)]
      · rw [if_neg (show ¬ q_cc .lt col 0 = true from fun z => c3 (of_decide_eq_true z))]
        refine (q_blk (Y := mX7_write) (q_dcC dX7_write_16 (q_dcC dX7_write_17 q_dcN)) (show _ = some (18, [.ref t, .int row, .int col, .int v], [.ref t, .int col]) from rfl)).trans ?_
        refine (k_geti (Y := mX7_write) dX7_write_18 rfl rfl ht.1 (by decide) ht.2.2.2.1).trans ?_
        refine (q_blk (Y := mX7_write) (q_dcC dX7_write_21 q_dcN) (show _ = some ((if q_cc .ge col (g t 1) = true then 38 else 24), [.ref t, .int row, .int col, .int v], []) from rfl)).trans ?_
        by_cases c4 : (g t 1) ≤ col
        · rw [if_pos (show q_cc .ge col (g t 1) = true from decide_eq_true c4)]
          refine (k_vret (Y := mX7_write) dX7_write_38 rfl).trans ?_
          unfold q_pt
          rw [if_neg (by rw [← hi.2.2.1, ← hi.2.1]; intro z; simp only [Int32.lt_iff_toInt_lt, Int32.le_iff_toInt_le] at z c1 c2 c3 c4; omega)]
        · rw [if_neg (show ¬ q_cc .ge col (g t 1) = true from fun z => c4 (of_decide_eq_true z))]
          refine (q_blk (Y := mX7_write) (q_dcC dX7_write_24 q_dcN) (show _ = some (25, [.ref t, .int row, .int col, .int v], [.ref t]) from rfl)).trans ?_
          refine (k_getr (Y := mX7_write) dX7_write_25 rfl rfl ht.1 (by decide) ht.2.1).trans ?_
          refine (q_blk (Y := mX7_write) (q_dcC dX7_write_28 (q_dcC dX7_write_29 q_dcN)) (show _ = some (30, [.ref t, .int row, .int col, .int v], [.ref t, .int row, .ref (t + 1)]) from rfl)).trans ?_
          refine (k_geti (Y := mX7_write) dX7_write_30 rfl rfl ht.1 (by decide) ht.2.2.2.1).trans ?_
          refine (q_blk (Y := mX7_write) (q_dcC dX7_write_33 (q_dcC dX7_write_34 (q_dcC dX7_write_35 (q_dcC dX7_write_36 q_dcN)))) (show _ = some (37, [.ref t, .int row, .int col, .int v], [.int v, .int ((row * (g t 1)) + col), .ref (t + 1)]) from rfl)).trans ?_
          refine (k_iastN (Y := mX7_write) dX7_write_37 ht.2.2.2.2.2.1 (q_ix ht.2.2.2.2.2.2.1 ht.2.2.2.2.2.2.2.2 hi.2.2.2 hi.2.1 c1 (hi.2.2.1 ▸ c2) c3 (hi.2.1 ▸ c4)).1 ⟨(q_ix ht.2.2.2.2.2.2.1 ht.2.2.2.2.2.2.2.2 hi.2.2.2 hi.2.1 c1 (hi.2.2.1 ▸ c2) c3 (hi.2.1 ▸ c4)).2, q_sq ht.2.2.2.2.2.2.1 ht.2.2.2.2.2.2.2.2⟩).trans ?_
          refine (k_vret (Y := mX7_write) dX7_write_38 rfl).trans ?_
          unfold q_pt
          rw [if_pos (by rw [← hi.2.2.1, ← hi.2.1]; simp only [Int32.lt_iff_toInt_lt, Int32.le_iff_toInt_le] at c1 c2 c3 c4 ⊢; omega)]
end QT
