theorem dX11_within_2 : decode cX11_within 2 = .ok (.if_icmp .lt 12, 3) := by decide +kernel
theorem dX11_within_1 : decode cX11_within 1 = .ok (.iload_n 1, 1) := by decide +kernel
theorem dX11_within_0 : decode cX11_within 0 = .ok (.iload_n 0, 1) := by decide +kernel
theorem dX11_within_14 : decode cX11_within 14 = .ok (.iconst 0, 1) := by decide +kernel
theorem dX11_within_15 : decode cX11_within 15 = .ok (.ireturn, 1) := by decide +kernel
theorem dX11_within_7 : decode cX11_within 7 = .ok (.if_icmp .gt 7, 3) := by decide +kernel
theorem dX11_within_6 : decode cX11_within 6 = .ok (.iload_n 2, 1) := by decide +kernel
theorem dX11_within_5 : decode cX11_within 5 = .ok (.iload_n 0, 1) := by decide +kernel
theorem dX11_within_11 : decode cX11_within 11 = .ok (.goto 4, 3) := by decide +kernel
theorem dX11_within_10 : decode cX11_within 10 = .ok (.iconst 1, 1) := by decide +kernel
theorem q_dcN {c : ByteArray} : q_dcs c [] := trivial
theorem q_dcC {c : ByteArray} {pc : Nat} {q : Instr × Nat} {is : List (Nat × Instr × Nat)} (h : decode c pc = .ok q) (h2 : q_dcs c is) : q_dcs c ((pc, q) :: is) := ⟨h, h2⟩
section QKN
variable {d : Nat} {Y : q_MI} {pc : Nat} {ls st : List Value} {o : q_H} {g : Nat → Nat → Int32} {p n j : Nat} {i v : Int32}
theorem k_ialdN (hd : decode Y.2.2.1 pc = .ok (.iaload, 1)) (hp : q_ar p n) (hi : i = nI j) (hj : j < n ∧ n < 2 ^ 31) : q_sem d Y pc ls (.int i :: .ref p :: st) (q_K o g) = q_sem d Y (pc + 1) ls (.int (g p j) :: st) (q_K o g) := by
  subst hi
  have h := k_iald (d := d) (ls := ls) (st := st) (o := o) (g := g) hd hp (vp_in_nI hj.1 hj.2)
  rw [nI_clamp (Nat.lt_trans hj.1 hj.2)] at h
  exact h
theorem k_iastN (hd : decode Y.2.2.1 pc = .ok (.iastore, 1)) (hp : q_ar p n) (hi : i = nI j) (hj : j < n ∧ n < 2 ^ 31) : q_sem d Y pc ls (.int v :: .int i :: .ref p :: st) (q_K o g) = q_sem d Y (pc + 1) ls st (q_K o (q_up g p j v)) := by
  subst hi
  have h := k_iast (d := d) (ls := ls) (st := st) (o := o) (g := g) (v := v) hd hp (vp_in_nI hj.1 hj.2)
  rw [nI_clamp (Nat.lt_trans hj.1 hj.2)] at h
  exact h
end QKN
theorem r_b1 {P : Prop} [Decidable P] {k : q_H} (h : P) : (some (some (.int 1), k) : Option (Option Value × q_H)) = some (some (.int (if P then 1 else 0)), k) := by rw [if_pos h]
theorem r_b0 {P : Prop} [Decidable P] {k : q_H} (h : ¬ P) : (some (some (.int 0), k) : Option (Option Value × q_H)) = some (some (.int (if P then 1 else 0)), k) := by rw [if_neg h]
section QT
variable {o : q_H} {g : Nat → Nat → Int32}
/-- v lies from a to b -/
abbrev q_wi (v a b : Int32) : Prop := a ≤ v ∧ v ≤ b
theorem s_within (d : Nat) (v a b : Int32) : q_sem (d + 1) mX11_within 0 [.int v, .int a, .int b] [] (q_K o g) = some (some (.int (if q_wi v a b then 1 else 0)), q_K o g) := by
  refine (q_blk (Y := mX11_within) (q_dcC dX11_within_0 (q_dcC dX11_within_1 (q_dcC dX11_within_2 q_dcN))) (show _ = some ((if q_cc .lt v a = true then 14 else 5), [.int v, .int a, .int b], []) from rfl)).trans ?_
  by_cases c1 : v < a
  · rw [if_pos (show q_cc .lt v a = true from decide_eq_true c1)]
    refine (q_blk (Y := mX11_within) (q_dcC dX11_within_14 q_dcN) (show _ = some (15, [.int v, .int a, .int b], [.int 0]) from rfl)).trans ?_
    refine (k_iret (Y := mX11_within) dX11_within_15 rfl).trans ?_
    exact r_b0 (by simp only [q_wi, Int32.lt_iff_toInt_lt, Int32.le_iff_toInt_le] at c1 ⊢; omega)
  · rw [if_neg (show ¬ q_cc .lt v a = true from fun z => c1 (of_decide_eq_true z))]
    refine (q_blk (Y := mX11_within) (q_dcC dX11_within_5 (q_dcC dX11_within_6 (q_dcC dX11_within_7 q_dcN))) (show _ = some ((if q_cc .gt v b = true then 14 else 10), [.int v, .int a, .int b], []) from rfl)).trans ?_
    by_cases c2 : b < v
    · rw [if_pos (show q_cc .gt v b = true from decide_eq_true c2)]
      refine (q_blk (Y := mX11_within) (q_dcC dX11_within_14 q_dcN) (show _ = some (15, [.int v, .int a, .int b], [.int 0]) from rfl)).trans ?_
      refine (k_iret (Y := mX11_within) dX11_within_15 rfl).trans ?_
      exact r_b0 (by simp only [q_wi, Int32.lt_iff_toInt_lt, Int32.le_iff_toInt_le] at c1 c2 ⊢; omega)
    · rw [if_neg (show ¬ q_cc .gt v b = true from fun z => c2 (of_decide_eq_true z))]
      refine (q_blk (Y := mX11_within) (q_dcC dX11_within_10 (q_dcC dX11_within_11 q_dcN)) (show _ = some (15, [.int v, .int a, .int b], [.int 1]) from rfl)).trans ?_
      refine (k_iret (Y := mX11_within) dX11_within_15 rfl).trans ?_
      exact r_b1 (by simp only [q_wi, Int32.lt_iff_toInt_lt, Int32.le_iff_toInt_le] at c1 c2 ⊢; omega)
end QT
