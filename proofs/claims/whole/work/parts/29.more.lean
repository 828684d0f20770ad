/-! more of a world: raids, hits, rules in force, meetings, plots -/
theorem q_leN {a b : Int32} : (¬ b < a) = (a ≤ b) := by
  apply propext
  rw [Int32.lt_iff_toInt_lt, Int32.le_iff_toInt_le]
  omega
theorem q_ltN {a b : Int32} : (¬ a ≤ b) = (b < a) := by
  apply propext
  rw [Int32.lt_iff_toInt_lt, Int32.le_iff_toInt_le]
  omega
def q_mrB (S : Nat → Nat → Int32) (i : Nat) (acc : Int32) : Int32 := acc + (if q_rai S i then S 19 i else 0)
def q_htB (S : Nat → Nat → Int32) (cell : Int32) (i : Nat) (acc : Int32) : Int32 := acc + (if q_rai S i ∧ S 15 i = cell then (if S 14 i = 2 then 1 else S 19 i) else 0)
def q_if (S : Nat → Nat → Int32) (u m : Int32) : Nat → Int32
  | 0 => -1
  | r + 1 => if S 26 r = u ∧ S 27 r ≤ m then nI r else q_if S u m r
abbrev q_mf (S : Nat → Nat → Int32) (i j : Nat) : Prop := 0 < S 8 j - S 8 i ∧ nI (q_ap (q_cl2 (S 6 i)) (q_cl2 (S 6 j))) ≤ S 0 10 * (S 8 j - S 8 i)
section QWN
variable {o : q_H} {w : Nat} {g S : Nat → Nat → Int32} {N : Nat → Nat}
theorem c_isA1 (hr : repC w g S N) (hf : q_wf S N) (ho : q_oR o) (d : Nat) (row : Int32) : q_sem (d + 2) mX10_isA 0 [.ref w, .int row, .int 1, .retAddr 0, .retAddr 0] [] (q_K o g) = some (some (.int (if q_at S (N 5) 14 row = 1 ∨ q_at S (N 5) 14 row = 2 then 1 else 0)), q_K o g) := by
  have h := c_isA hr hf ho (d := d) row (a := 1) (by decide)
  rw [show (nI 1 : Int32) = 1 from rfl] at h
  rw [h]
  have e := q_un1 (q_at S (N 5) 14 row)
  rw [show (nI 1 : Int32) = 1 from rfl] at e
  simp only [e]
theorem c_isA2 (hr : repC w g S N) (hf : q_wf S N) (ho : q_oR o) (d : Nat) (row : Int32) : q_sem (d + 2) mX10_isA 0 [.ref w, .int row, .int 2, .retAddr 0, .retAddr 0] [] (q_K o g) = some (some (.int (if q_at S (N 5) 14 row = 2 then 1 else 0)), q_K o g) := by
  have h := c_isA hr hf ho (d := d) row (a := 2) (by decide)
  rw [show (nI 2 : Int32) = 2 from rfl] at h
  rw [h]
  obtain ⟨k, hk, ek⟩ := q_kind hf hr row
  have e := q_un2 k hk
  rw [show (nI 2 : Int32) = 2 from rfl] at e
  rw [ek]
  simp only [e]
theorem c_isA3 (hr : repC w g S N) (hf : q_wf S N) (ho : q_oR o) (d : Nat) (row : Int32) : q_sem (d + 2) mX10_isA 0 [.ref w, .int row, .int 3, .retAddr 0, .retAddr 0] [] (q_K o g) = some (some (.int (if q_at S (N 5) 14 row < 3 then 0 else 1)), q_K o g) := by
  have h := c_isA hr hf ho (d := d) row (a := 3) (by decide)
  rw [show (nI 3 : Int32) = 3 from rfl] at h
  rw [h]
  obtain ⟨k, hk, ek⟩ := q_kind hf hr row
  have e := q_un3 k hk
  rw [show (nI 3 : Int32) = 3 from rfl] at e
  rw [ek]
  simp only [e]
  by_cases z : nI k < 3 <;> simp [z]
theorem c_isA4 (hr : repC w g S N) (hf : q_wf S N) (ho : q_oR o) (d : Nat) (row : Int32) : q_sem (d + 2) mX10_isA 0 [.ref w, .int row, .int 4, .retAddr 0, .retAddr 0] [] (q_K o g) = some (some (.int (if 3 < q_at S (N 5) 14 row then 1 else 0)), q_K o g) := by
  have h := c_isA hr hf ho (d := d) row (a := 4) (by decide)
  rw [show (nI 4 : Int32) = 4 from rfl] at h
  rw [h]
  obtain ⟨k, hk, ek⟩ := q_kind hf hr row
  have e := q_un4 k hk
  rw [show (nI 4 : Int32) = 4 from rfl] at e
  rw [ek]
  simp only [e]
theorem c_manyOfRaids_l (hr : repC w g S N) (hf : q_wf S N) (ho : q_oR o) (d : Nat) : ∀ n m acc, m + n = N 5 → q_sem (d + 3) mX10_manyOfRaids 4 [.ref w, .int acc, .int (nI m)] [] (q_K o g) = some (some (.int (q_fo (q_mrB S) m n acc)), q_K o g) := by
  have hw := hr.1
  have hN := n_cnt_fl hr
  intro n
  induction n with
  | zero =>
    intro m acc hm
    have c1 : nI (N 5) ≤ nI m := nI_le (by omega) (by omega)
    rw [B_X10_manyOfRaids_4 hw]
    simp only [B_X10_manyOfRaids_0 hw, B_X10_manyOfRaids_12 hw, B_X10_manyOfRaids_22 hw, B_X10_manyOfRaids_31 hw, B_X10_manyOfRaids_43 hw, w_get_fl0 hr, w_get_fl1 hr, w_get_fl2 hr, w_get_fl3 hr, w_get_fl4 hr, w_get_fl5 hr, w_get_fl6 hr, w_get_fl7 hr, w_get_fl8 hr, w_get_fl9 hr, w_get_fl10 hr, w_get_fl11 hr, w_size_fl hr, w_has_fl hr, w_full_fl hr, Option.bind_some, Option.toList_some, Option.toList_none, List.cons_append, List.nil_append, c1, ↓reduceIte, q_fo]
  | succ n ih =>
    intro m acc hm
    have hm2 : m < N 5 := by omega
    have c1 : ¬ nI (N 5) ≤ nI m := nI_ge hm2 (by omega)
    have e1 : q_at S (N 5) 14 (nI m) = S 14 m := q_at_in hm2 (by omega)
    have e2 : q_at S (N 5) 20 (nI m) = S 20 m := q_at_in hm2 (by omega)
    have e3 : q_at S (N 5) 19 (nI m) = S 19 m := q_at_in hm2 (by omega)
    rw [B_X10_manyOfRaids_4 hw]
    simp only [B_X10_manyOfRaids_0 hw, B_X10_manyOfRaids_12 hw, B_X10_manyOfRaids_22 hw, B_X10_manyOfRaids_31 hw, B_X10_manyOfRaids_43 hw, w_get_fl0 hr, w_get_fl1 hr, w_get_fl2 hr, w_get_fl3 hr, w_get_fl4 hr, w_get_fl5 hr, w_get_fl6 hr, w_get_fl7 hr, w_get_fl8 hr, w_get_fl9 hr, w_get_fl10 hr, w_get_fl11 hr, w_size_fl hr, w_has_fl hr, w_full_fl hr, Option.bind_some, Option.toList_some, Option.toList_none, List.cons_append, List.nil_append, c1, ↓reduceIte, c_isA1 hr hf ho, c_stands hr, e1, e2, e3, nI_1, q_i0]
    by_cases h1 : S 14 m = 1 ∨ S 14 m = 2
    · by_cases h2 : S 20 m = 0
      · simp only [h1, h2, ↓reduceIte, not_true_eq_false, ih (m + 1) _ (by omega), q_fo, q_mrB, q_rai, and_self]
      · simp only [h1, h2, ↓reduceIte, not_true_eq_false, not_false_eq_true, ih (m + 1) _ (by omega), q_fo, q_mrB, q_rai, and_false]
    · simp only [h1, ↓reduceIte, not_false_eq_true, ih (m + 1) _ (by omega), q_fo, q_mrB, q_rai, false_and]
theorem c_manyOfRaids (hr : repC w g S N) (hf : q_wf S N) (ho : q_oR o) (d : Nat) : q_sem (d + 3) mX10_manyOfRaids 0 [.ref w, .retAddr 0, .retAddr 0] [] (q_K o g) = some (some (.int (q_fo (q_mrB S) 0 (N 5) 0)), q_K o g) := by
  have hw := hr.1
  rw [B_X10_manyOfRaids_0 hw]
  exact c_manyOfRaids_l hr hf ho d (N 5) 0 0 (by omega)
theorem c_hits_l (hr : repC w g S N) (hf : q_wf S N) (ho : q_oR o) (d : Nat) (cell : Int32) : ∀ n m acc, m + n = N 5 → q_sem (d + 3) mX2_hits 4 [.ref w, .int cell, .int acc, .int (nI m)] [] (q_K o g) = some (some (.int (q_fo (q_htB S cell) m n acc)), q_K o g) := by
  have hw := hr.1
  have hN := n_cnt_fl hr
  intro n
  induction n with
  | zero =>
    intro m acc hm
    have c1 : nI (N 5) ≤ nI m := nI_le (by omega) (by omega)
    rw [B_X2_hits_4 hw]
    simp only [B_X2_hits_0 hw, B_X2_hits_12 hw, B_X2_hits_21 hw, B_X2_hits_30 hw, B_X2_hits_42 hw, B_X2_hits_53 hw, B_X2_hits_69 hw, w_get_fl0 hr, w_get_fl1 hr, w_get_fl2 hr, w_get_fl3 hr, w_get_fl4 hr, w_get_fl5 hr, w_get_fl6 hr, w_get_fl7 hr, w_get_fl8 hr, w_get_fl9 hr, w_get_fl10 hr, w_get_fl11 hr, w_size_fl hr, w_has_fl hr, w_full_fl hr, Option.bind_some, Option.toList_some, Option.toList_none, List.cons_append, List.nil_append, c1, ↓reduceIte, q_fo]
  | succ n ih =>
    intro m acc hm
    have hm2 : m < N 5 := by omega
    have c1 : ¬ nI (N 5) ≤ nI m := nI_ge hm2 (by omega)
    have e1 : q_at S (N 5) 14 (nI m) = S 14 m := q_at_in hm2 (by omega)
    have e2 : q_at S (N 5) 20 (nI m) = S 20 m := q_at_in hm2 (by omega)
    have e3 : q_at S (N 5) 19 (nI m) = S 19 m := q_at_in hm2 (by omega)
    have e4 : q_at S (N 5) 15 (nI m) = S 15 m := q_at_in hm2 (by omega)
    rw [B_X2_hits_4 hw]
    simp only [B_X2_hits_0 hw, B_X2_hits_12 hw, B_X2_hits_21 hw, B_X2_hits_30 hw, B_X2_hits_42 hw, B_X2_hits_53 hw, B_X2_hits_69 hw, w_get_fl0 hr, w_get_fl1 hr, w_get_fl2 hr, w_get_fl3 hr, w_get_fl4 hr, w_get_fl5 hr, w_get_fl6 hr, w_get_fl7 hr, w_get_fl8 hr, w_get_fl9 hr, w_get_fl10 hr, w_get_fl11 hr, w_size_fl hr, w_has_fl hr, w_full_fl hr, Option.bind_some, Option.toList_some, Option.toList_none, List.cons_append, List.nil_append, c1, ↓reduceIte, c_isA1 hr hf ho, c_isA2 hr hf ho, c_stands hr, e1, e2, e3, e4, nI_1, q_i0]
    by_cases h1 : S 14 m = 1 ∨ S 14 m = 2
    · by_cases h2 : S 20 m = 0
      · by_cases h3 : S 15 m = cell
        · have hq : q_rai S m ∧ S 15 m = cell := ⟨⟨h1, h2⟩, h3⟩
          have e9 : q_htB S cell m acc = acc + (if S 14 m = 2 then 1 else S 19 m) := by unfold q_htB; rw [if_pos hq]
          simp only [h1, h2, h3, ↓reduceIte, not_true_eq_false, q_fo, e9]
          by_cases h4 : S 14 m = 2
          · rw [if_neg (fun z => z h4), if_pos h4, ih (m + 1) _ (by omega)]
          · rw [if_pos h4, if_neg h4, ih (m + 1) _ (by omega)]
        · simp only [h1, h2, h3, ↓reduceIte, not_true_eq_false, not_false_eq_true, ih (m + 1) _ (by omega), q_fo, q_htB, and_false, Int32.add_zero]
      · simp only [h1, h2, ↓reduceIte, not_true_eq_false, not_false_eq_true, ih (m + 1) _ (by omega), q_fo, q_htB, q_rai, and_false, false_and, Int32.add_zero]
    · simp only [h1, ↓reduceIte, not_false_eq_true, ih (m + 1) _ (by omega), q_fo, q_htB, q_rai, false_and, Int32.add_zero]
theorem c_hits (hr : repC w g S N) (hf : q_wf S N) (ho : q_oR o) (d : Nat) (cell : Int32) : q_sem (d + 3) mX2_hits 0 [.ref w, .int cell, .retAddr 0, .retAddr 0] [] (q_K o g) = some (some (.int (q_fo (q_htB S cell) 0 (N 5) 0)), q_K o g) := by
  have hw := hr.1
  rw [B_X2_hits_0 hw]
  exact c_hits_l hr hf ho d cell (N 5) 0 0 (by omega)
theorem c_inForce_l (hr : repC w g S N) (d : Nat) (u m : Int32) : ∀ r, r ≤ N 6 → q_sem (d + 2) mX5_inForce 10 [.ref (w + 15), .int u, .int m, .int (nI r - 1)] [] (q_K o g) = some (some (.int (q_if S u m r)), q_K o g) := by
  have hw := hr.1
  have hN := n_cnt_ru hr
  intro r
  induction r with
  | zero =>
    intro _
    have c1 : nI 0 - 1 < 0 := by decide
    rw [B_X5_inForce_10 hw]
    simp only [c1, ↓reduceIte, q_if]
  | succ r ih =>
    intro h
    have hr2 : r < N 6 := by omega
    have c1 : ¬ nI r < 0 := nI_pos (by omega)
    have e1 : q_at S (N 6) 26 (nI r) = S 26 r := q_at_in hr2 (by omega)
    have e2 : q_at S (N 6) 27 (nI r) = S 27 r := q_at_in hr2 (by omega)
    rw [nI_pred, B_X5_inForce_10 hw]
    have e3 : nI r + (-1) = nI r - 1 := by rw [Int32.sub_eq_add_neg]
    simp only [c1, ↓reduceIte, B_X5_inForce_0 hw, B_X5_inForce_7 hw, B_X5_inForce_23 hw, B_X5_inForce_36 hw, w_get_ru0 hr, w_get_ru1 hr, w_get_ru2 hr, w_size_ru hr, w_has_ru hr, w_full_ru hr, Option.bind_some, Option.toList_some, Option.toList_none, List.cons_append, List.nil_append, e1, e2, e3, ih (by omega), q_if]
    by_cases h1 : S 26 r = u
    · by_cases h2 : S 27 r ≤ m
      · have h3 : ¬ m < S 27 r := fun z => by rw [Int32.le_iff_toInt_le] at h2; rw [Int32.lt_iff_toInt_lt] at z; omega
        simp only [h1, h2, h3, ↓reduceIte, and_self]
      · have h3 : m < S 27 r := by rw [Int32.le_iff_toInt_le] at h2; rw [Int32.lt_iff_toInt_lt]; omega
        simp only [h1, h2, h3, ↓reduceIte, and_false]
    · simp only [h1, ↓reduceIte, false_and]
theorem c_inForce (hr : repC w g S N) (d : Nat) (u m : Int32) : q_sem (d + 2) mX5_inForce 0 [.ref (w + 15), .int u, .int m, .retAddr 0] [] (q_K o g) = some (some (.int (q_if S u m (N 6))), q_K o g) := by
  have hw := hr.1
  simp only [B_X5_inForce_0 hw, B_X5_inForce_7 hw, B_X5_inForce_23 hw, B_X5_inForce_36 hw, w_get_ru0 hr, w_get_ru1 hr, w_get_ru2 hr, w_size_ru hr, w_has_ru hr, w_full_ru hr, Option.bind_some, Option.toList_some, Option.toList_none, List.cons_append, List.nil_append]
  exact c_inForce_l hr d u m (N 6) (Nat.le_refl _)
theorem c_isArmed (hr : repC w g S N) (d : Nat) (row : Int32) : q_sem (d + 2) mX10_isArmed 0 [.ref w, .int row] [] (q_K o g) = some (some (.int (if 0 < q_at S (N 5) 22 row ∧ 0 < q_at S (N 5) 21 row then 1 else 0)), q_K o g) := by
  have hw := hr.1
  simp only [B_X10_isArmed_0 hw, B_X10_isArmed_10 hw, B_X10_isArmed_23 hw, w_get_fl0 hr, w_get_fl1 hr, w_get_fl2 hr, w_get_fl3 hr, w_get_fl4 hr, w_get_fl5 hr, w_get_fl6 hr, w_get_fl7 hr, w_get_fl8 hr, w_get_fl9 hr, w_get_fl10 hr, w_get_fl11 hr, w_size_fl hr, w_has_fl hr, w_full_fl hr, Option.bind_some, Option.toList_some, Option.toList_none, List.cons_append, List.nil_append, ← q_ltN]
  by_cases h1 : q_at S (N 5) 22 row ≤ 0 <;> by_cases h2 : q_at S (N 5) 21 row ≤ 0 <;> simp [h1, h2]
theorem c_meets {c a : Nat} (hc : c < 256) (ha : a < 256) (d : Nat) (h ah : Int32) : q_sem (d + 2) mX10_meets 0 [.int (nI c), .int h, .int (nI a), .int ah] [] (q_K o g) = some (some (.int (if ah ≤ h ∧ nI (q_ap c a) ≤ 1 then 1 else 0)), q_K o g) := by
  simp only [B_X10_meets_0, B_X10_meets_10, Option.bind_some, Option.toList_some, Option.toList_none, List.cons_append, List.nil_append, s_apart _ hc ha, ← q_leN]
  by_cases h1 : h < ah <;> by_cases h2 : 1 < nI (q_ap c a) <;> simp [h1, h2]
theorem c_plotsApart (hr : repC w g S N) (hf : q_wf S N) (d : Nat) {i j : Nat} (hi : i < N 2) (hj : j < N 2) : q_sem (d + 2) mX10_plotsApart 0 [.ref w, .int (nI i), .int (nI j)] [] (q_K o g) = some (some (.int (nI (q_ap (q_cl2 (S 6 i)) (q_cl2 (S 6 j))))), q_K o g) := by
  have hw := hr.1
  have hN := n_cnt_pl hr
  have h1 := hf.2.2.1 i hi
  have h2 := hf.2.2.1 j hj
  have e1 : q_at S (N 2) 6 (nI i) = nI (q_cl2 (S 6 i)) := (q_at_in hi (by omega)).trans h1.2
  have e2 : q_at S (N 2) 6 (nI j) = nI (q_cl2 (S 6 j)) := (q_at_in hj (by omega)).trans h2.2
  simp only [B_X10_plotsApart_0 hw, B_X10_plotsApart_9 hw, B_X10_plotsApart_18 hw, B_X10_plotsApart_21 hw, w_get_pl0 hr, w_get_pl1 hr, w_get_pl2 hr, w_size_pl hr, w_has_pl hr, w_full_pl hr, Option.bind_some, Option.toList_some, Option.toList_none, List.cons_append, List.nil_append, e1, e2, s_apart _ h1.1 h2.1]
theorem c_mayBeFollowed (hr : repC w g S N) (hf : q_wf S N) (d : Nat) {i j : Nat} (hi : i < N 2) (hj : j < N 2) : q_sem (d + 3) mX10_mayBeFollowed 0 [.ref w, .int (nI i), .int (nI j), .retAddr 0] [] (q_K o g) = some (some (.int (if q_mf S i j then 1 else 0)), q_K o g) := by
  have hw := hr.1
  have hN := n_cnt_pl hr
  have e1 : q_at S (N 2) 8 (nI i) = S 8 i := q_at_in hi (by omega)
  have e2 : q_at S (N 2) 8 (nI j) = S 8 j := q_at_in hj (by omega)
  simp only [B_X10_mayBeFollowed_0 hw, B_X10_mayBeFollowed_9 hw, B_X10_mayBeFollowed_18 hw, B_X10_mayBeFollowed_30 hw, w_get_pl0 hr, w_get_pl1 hr, w_get_pl2 hr, w_size_pl hr, w_has_pl hr, w_full_pl hr, Option.bind_some, Option.toList_some, Option.toList_none, List.cons_append, List.nil_append, e1, e2, c_plotsApart hr hf _ hi hj, hr.2.2.2.2.2]
  by_cases h1 : S 8 j - S 8 i ≤ 0
  · have h2 : ¬ q_mf S i j := fun z => by have := z.1; rw [← q_ltN] at this; exact this h1
    simp only [h1, h2, ↓reduceIte]
  · by_cases h3 : S 0 10 * (S 8 j - S 8 i) < nI (q_ap (q_cl2 (S 6 i)) (q_cl2 (S 6 j)))
    · have h2 : ¬ q_mf S i j := fun z => by have := z.2; rw [← q_leN] at this; exact this h3
      simp only [h1, h2, h3, ↓reduceIte]
    · have h2 : q_mf S i j := ⟨by rw [← q_ltN]; exact h1, by rw [← q_leN]; exact h3⟩
      simp only [h1, if_pos h2, h3, ↓reduceIte]
end QWN
