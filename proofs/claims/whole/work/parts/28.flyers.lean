/-! flyers of a world -/
def q_ab (v : Int32) : Int32 := if 0 ≤ v ∧ v < 6 then q_way 1 (q_cl2 v) else -1
def q_isA : Nat → Int32 → Int32 → Int32
  | 0, own, _ => own
  | n + 1, own, k => if own = k then own else q_isA n (q_ab own) k
theorem q_isA_un : ∀ k, k < 6 → ∀ a, a < 6 → ((q_isA 6 (nI k) (nI a) = nI a) ↔ q_un (nI k) (nI a)) := by decide +kernel
abbrev q_rai (S : Nat → Nat → Int32) (i : Nat) : Prop := (S 14 i = 1 ∨ S 14 i = 2) ∧ S 20 i = 0
section QFL
variable {o : q_H} {w : Nat} {g S : Nat → Nat → Int32} {N : Nat → Nat}
theorem c_above (ho : q_oR o) (d : Nat) (v : Int32) : q_sem d mX10_above 0 [.int v] [] (q_K o g) = some (some (.int (q_ab v)), q_K o g) := by
  simp only [B_X10_above_0 ho]
  unfold q_ab
  by_cases h0 : v < 0
  · have h1 : ¬ (0 ≤ v ∧ v < 6) := fun z => by rw [Int32.lt_iff_toInt_lt] at h0; have := z.1; rw [Int32.le_iff_toInt_le] at this; omega
    simp only [h0, h1, ↓reduceIte]
  · obtain ⟨j, hj, rfl⟩ := nI_of h0
    by_cases h6 : j < 6
    · have h1 : 0 ≤ nI j ∧ nI j < 6 := ⟨nI_pos' hj, (by decide : (6 : Int32) = nI 6) ▸ nI_lt h6 (by omega)⟩
      have h2 : ¬ 6 ≤ nI j := (by decide : (6 : Int32) = nI 6) ▸ nI_ge h6 (by omega)
      simp only [h0, h1, h2, ↓reduceIte, and_self, q_rgN h6 (by decide), q_cl2, nI_clamp hj]
    · have h1 : ¬ (0 ≤ nI j ∧ nI j < 6) := fun z => absurd z.2 ((by decide : (6 : Int32) = nI 6) ▸ nI_nlt (by omega) (by omega))
      have h2 : 6 ≤ nI j := (by decide : (6 : Int32) = nI 6) ▸ nI_le (by omega) (by omega)
      simp only [h0, h1, h2, ↓reduceIte]
theorem c_isA_l (hr : repC w g S N) (ho : q_oR o) (d : Nat) (x1 k : Int32) : ∀ n m own, m + n = 6 → q_sem (d + 1) mX10_isA 13 [.ref w, .int x1, .int k, .int own, .int (nI m)] [] (q_K o g) = some (some (.int (if q_isA n own k = k then 1 else 0)), q_K o g) := by
  have hw := hr.1
  intro n
  induction n with
  | zero =>
    intro m own hm
    have c1 : 6 ≤ nI m := (by decide : (6 : Int32) = nI 6) ▸ nI_le (by omega) (by omega)
    rw [B_X10_isA_13 ho hw, if_pos c1]
    by_cases h : own = k <;> simp [h, q_isA]
  | succ n ih =>
    intro m own hm
    have c1 : ¬ 6 ≤ nI m := (by decide : (6 : Int32) = nI 6) ▸ nI_ge (by omega) (by omega)
    rw [B_X10_isA_13 ho hw, if_neg c1]
    by_cases h : own = k
    · simp only [h, ↓reduceIte, q_isA]
    · simp only [h, ↓reduceIte, B_X10_isA_9 hw, B_X10_isA_31 hw, Option.bind_some, Option.toList_some, Option.toList_none, List.cons_append, List.nil_append, c_above ho, nI_1, ih (m + 1) _ (by omega), q_isA]
theorem q_kind (hf : q_wf S N) (hr : repC w g S N) (row : Int32) : ∃ k, k < 6 ∧ q_at S (N 5) 14 row = nI k := by
  by_cases h : 0 ≤ row ∧ row < nI (N 5)
  · have := n_cnt_fl hr
    obtain ⟨i, hi, rfl⟩ := q_row_of h (by omega)
    rw [q_at_in hi (by omega)]
    exact (hf.2.2.2.2.2.1 i hi).2.1
  · exact ⟨0, by decide, by unfold q_at; rw [if_neg h]; rfl⟩
theorem c_isA (hr : repC w g S N) (hf : q_wf S N) (ho : q_oR o) (d : Nat) (row : Int32) {a : Nat} (ha : a < 6) : q_sem (d + 2) mX10_isA 0 [.ref w, .int row, .int (nI a), .retAddr 0, .retAddr 0] [] (q_K o g) = some (some (.int (if q_un (q_at S (N 5) 14 row) (nI a) then 1 else 0)), q_K o g) := by
  have hw := hr.1
  obtain ⟨k, hk, ek⟩ := q_kind hf hr row
  simp only [B_X10_isA_0 hw, B_X10_isA_9 hw, B_X10_isA_31 hw, w_get_fl0 hr, w_get_fl1 hr, w_get_fl2 hr, w_get_fl3 hr, w_get_fl4 hr, w_get_fl5 hr, w_get_fl6 hr, w_get_fl7 hr, w_get_fl8 hr, w_get_fl9 hr, w_get_fl10 hr, w_get_fl11 hr, w_size_fl hr, w_has_fl hr, w_full_fl hr, Option.bind_some, Option.toList_some, Option.toList_none, List.cons_append, List.nil_append]
  refine (c_isA_l hr ho (d + 1) row (nI a) 6 0 _ rfl).trans ?_
  rw [ek]
  simp only [q_isA_un k hk a ha]
theorem c_stands (hr : repC w g S N) (d : Nat) (row how : Int32) : q_sem (d + 2) mX10_stands 0 [.ref w, .int row, .int how] [] (q_K o g) = some (some (.int (if q_at S (N 5) 20 row = how then 1 else 0)), q_K o g) := by
  have hw := hr.1
  simp only [B_X10_stands_0 hw, B_X10_stands_10 hw, w_get_fl0 hr, w_get_fl1 hr, w_get_fl2 hr, w_get_fl3 hr, w_get_fl4 hr, w_get_fl5 hr, w_get_fl6 hr, w_get_fl7 hr, w_get_fl8 hr, w_get_fl9 hr, w_get_fl10 hr, w_get_fl11 hr, w_size_fl hr, w_has_fl hr, w_full_fl hr, Option.bind_some, Option.toList_some, Option.toList_none, List.cons_append, List.nil_append]
  by_cases h : q_at S (N 5) 20 row = how <;> simp [h]
/-- loops over the flyers: what is told of one -/
theorem q_un1 (k : Int32) : q_un k (nI 1) ↔ (k = 1 ∨ k = 2) := by
  have : ¬ (nI 1 : Int32) = 0 := by decide
  have h3 : ¬ (nI 1 : Int32) = 3 := by decide
  have h4 : ¬ (nI 1 : Int32) = 4 := by decide
  have h1 : (nI 1 : Int32) = 1 := by decide
  simp only [q_un, h1, (by decide : ¬ (1 : Int32) = 0), (by decide : ¬ (1 : Int32) = 3), (by decide : ¬ (1 : Int32) = 4), true_and, false_and, or_false, false_or]
theorem q_un4 : ∀ k, k < 6 → (q_un (nI k) (nI 4) ↔ 3 < nI k) := by decide +kernel
theorem q_un3 : ∀ k, k < 6 → (q_un (nI k) (nI 3) ↔ ¬ nI k < 3) := by decide +kernel
theorem q_un2 : ∀ k, k < 6 → (q_un (nI k) (nI 2) ↔ nI k = 2) := by decide +kernel
theorem q_fl_k (hf : q_wf S N) {i : Nat} (hi : i < N 5) : ∃ k, k < 6 ∧ S 14 i = nI k := (hf.2.2.2.2.2.1 i hi).2.1
def q_hmB (S : Nat → Nat → Int32) (a : Nat) (st : Int32) (i : Nat) (acc : Int32) : Int32 := acc + (if q_un (S 14 i) (nI a) ∧ S 20 i = st then 1 else 0)
theorem c_howMany_l (hr : repC w g S N) (hf : q_wf S N) (ho : q_oR o) (d : Nat) {a : Nat} (ha : a < 6) (st : Int32) : ∀ n m acc, m + n = N 5 → q_sem (d + 3) mX10_howMany 5 [.ref w, .int (nI a), .int st, .int acc, .int (nI m)] [] (q_K o g) = some (some (.int (q_fo (q_hmB S a st) m n acc)), q_K o g) := by
  have hw := hr.1
  have hN := n_cnt_fl hr
  intro n
  induction n with
  | zero =>
    intro m acc hm
    have c1 : nI (N 5) ≤ nI m := nI_le (by omega) (by omega)
    rw [B_X10_howMany_5 hw]
    simp only [B_X10_howMany_0 hw, B_X10_howMany_14 hw, B_X10_howMany_25 hw, B_X10_howMany_35 hw, w_get_fl0 hr, w_get_fl1 hr, w_get_fl2 hr, w_get_fl3 hr, w_get_fl4 hr, w_get_fl5 hr, w_get_fl6 hr, w_get_fl7 hr, w_get_fl8 hr, w_get_fl9 hr, w_get_fl10 hr, w_get_fl11 hr, w_size_fl hr, w_has_fl hr, w_full_fl hr, Option.bind_some, Option.toList_some, Option.toList_none, List.cons_append, List.nil_append, c1, ↓reduceIte, q_fo]
  | succ n ih =>
    intro m acc hm
    have hm2 : m < N 5 := by omega
    have c1 : ¬ nI (N 5) ≤ nI m := nI_ge hm2 (by omega)
    have e1 : q_at S (N 5) 14 (nI m) = S 14 m := q_at_in hm2 (by omega)
    have e2 : q_at S (N 5) 20 (nI m) = S 20 m := q_at_in hm2 (by omega)
    rw [B_X10_howMany_5 hw]
    simp only [B_X10_howMany_0 hw, B_X10_howMany_14 hw, B_X10_howMany_25 hw, B_X10_howMany_35 hw, w_get_fl0 hr, w_get_fl1 hr, w_get_fl2 hr, w_get_fl3 hr, w_get_fl4 hr, w_get_fl5 hr, w_get_fl6 hr, w_get_fl7 hr, w_get_fl8 hr, w_get_fl9 hr, w_get_fl10 hr, w_get_fl11 hr, w_size_fl hr, w_has_fl hr, w_full_fl hr, Option.bind_some, Option.toList_some, Option.toList_none, List.cons_append, List.nil_append, c1, ↓reduceIte, c_isA hr hf ho _ _ ha, c_stands hr, e1, e2, nI_1, q_i0]
    by_cases h1 : q_un (S 14 m) (nI a)
    · by_cases h2 : S 20 m = st
      · simp only [h1, h2, ↓reduceIte, not_true_eq_false, ih (m + 1) _ (by omega), q_fo, q_hmB, and_self]
      · simp only [h1, h2, ↓reduceIte, not_true_eq_false, not_false_eq_true, ih (m + 1) _ (by omega), q_fo, q_hmB, and_false]
    · simp only [h1, ↓reduceIte, not_false_eq_true, ih (m + 1) _ (by omega), q_fo, q_hmB, false_and]
theorem c_howMany (hr : repC w g S N) (hf : q_wf S N) (ho : q_oR o) (d : Nat) {a : Nat} (ha : a < 6) (st : Int32) : q_sem (d + 3) mX10_howMany 0 [.ref w, .int (nI a), .int st, .retAddr 0, .retAddr 0] [] (q_K o g) = some (some (.int (q_fo (q_hmB S a st) 0 (N 5) 0)), q_K o g) := by
  have hw := hr.1
  rw [B_X10_howMany_0 hw]
  exact c_howMany_l hr hf ho d ha st (N 5) 0 0 (by omega)

def q_nrB (S : Nat → Nat → Int32) (c i : Nat) (acc : Int32) : Int32 := if q_rai S i then (if nI (q_ap c (q_cl2 (S 15 i))) < acc then nI (q_ap c (q_cl2 (S 15 i))) else acc) else acc
theorem c_nearestRaid_l (hr : repC w g S N) (hf : q_wf S N) (ho : q_oR o) (d : Nat) {c : Nat} (hc : c < 256) : ∀ n m acc, m + n = N 5 → q_sem (d + 3) mX10_nearestRaid 5 [.ref w, .int (nI c), .int acc, .int (nI m)] [] (q_K o g) = some (some (.int (q_fo (q_nrB S c) m n acc)), q_K o g) := by
  have hw := hr.1
  have hN := n_cnt_fl hr
  intro n
  induction n with
  | zero =>
    intro m acc hm
    have c1 : nI (N 5) ≤ nI m := nI_le (by omega) (by omega)
    rw [B_X10_nearestRaid_5 hw]
    simp only [B_X10_nearestRaid_0 hw, B_X10_nearestRaid_13 hw, B_X10_nearestRaid_22 hw, B_X10_nearestRaid_31 hw, B_X10_nearestRaid_45 hw, B_X10_nearestRaid_48 hw, w_get_fl0 hr, w_get_fl1 hr, w_get_fl2 hr, w_get_fl3 hr, w_get_fl4 hr, w_get_fl5 hr, w_get_fl6 hr, w_get_fl7 hr, w_get_fl8 hr, w_get_fl9 hr, w_get_fl10 hr, w_get_fl11 hr, w_size_fl hr, w_has_fl hr, w_full_fl hr, Option.bind_some, Option.toList_some, Option.toList_none, List.cons_append, List.nil_append, c1, ↓reduceIte, q_fo]
  | succ n ih =>
    intro m acc hm
    have hm2 : m < N 5 := by omega
    have hb := (hf.2.2.2.2.2.1 m hm2).1
    have c1 : ¬ nI (N 5) ≤ nI m := nI_ge hm2 (by omega)
    have e1 : q_at S (N 5) 14 (nI m) = S 14 m := q_at_in hm2 (by omega)
    have e2 : q_at S (N 5) 20 (nI m) = S 20 m := q_at_in hm2 (by omega)
    have e3 : q_at S (N 5) 15 (nI m) = nI (q_cl2 (S 15 m)) := (q_at_in hm2 (by omega)).trans hb.2
    rw [B_X10_nearestRaid_5 hw]
    have cA := c_isA hr hf ho (d := d) (nI m) (a := 1) (by decide)
    rw [show (nI 1 : Int32) = 1 from rfl] at cA
    simp only [B_X10_nearestRaid_0 hw, B_X10_nearestRaid_13 hw, B_X10_nearestRaid_22 hw, B_X10_nearestRaid_31 hw, B_X10_nearestRaid_45 hw, B_X10_nearestRaid_48 hw, w_get_fl0 hr, w_get_fl1 hr, w_get_fl2 hr, w_get_fl3 hr, w_get_fl4 hr, w_get_fl5 hr, w_get_fl6 hr, w_get_fl7 hr, w_get_fl8 hr, w_get_fl9 hr, w_get_fl10 hr, w_get_fl11 hr, w_size_fl hr, w_has_fl hr, w_full_fl hr, Option.bind_some, Option.toList_some, Option.toList_none, List.cons_append, List.nil_append, c1, ↓reduceIte, cA, c_stands hr, e1, e2, e3, s_apart _ hc hb.1, nI_1, q_i0]
    by_cases h1 : q_un (S 14 m) 1
    · have h1' : S 14 m = 1 ∨ S 14 m = 2 := (q_un1 _).mp h1
      by_cases h2 : S 20 m = 0
      · have hq : q_rai S m := ⟨h1', h2⟩
        simp only [h1, h2, ↓reduceIte, not_true_eq_false, ih (m + 1) _ (by omega), q_fo, q_nrB, if_pos hq]
      · have hq : ¬ q_rai S m := fun z => h2 z.2
        simp only [h1, h2, ↓reduceIte, not_true_eq_false, not_false_eq_true, ih (m + 1) _ (by omega), q_fo, q_nrB, if_neg hq]
    · have hq : ¬ q_rai S m := fun z => h1 ((q_un1 _).mpr z.1)
      simp only [h1, ↓reduceIte, not_false_eq_true, ih (m + 1) _ (by omega), q_fo, q_nrB, if_neg hq]
theorem c_nearestRaid (hr : repC w g S N) (hf : q_wf S N) (ho : q_oR o) (d : Nat) {c : Nat} (hc : c < 256) : q_sem (d + 3) mX10_nearestRaid 0 [.ref w, .int (nI c), .retAddr 0, .retAddr 0] [] (q_K o g) = some (some (.int (q_fo (q_nrB S c) 0 (N 5) 99)), q_K o g) := by
  have hw := hr.1
  rw [B_X10_nearestRaid_0 hw]
  exact c_nearestRaid_l hr hf ho d hc (N 5) 0 99 (by omega)
end QFL
