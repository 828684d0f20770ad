/-! what the methods of a world tell, by fields and rows -/
def q_ex (f : Nat → Bool) : Nat → Nat → Bool
  | _, 0 => false
  | m, n + 1 => f m || q_ex f (m + 1) n
def q_fo {α : Type} (f : Nat → α → α) : Nat → Nat → α → α
  | _, 0, a => a
  | m, n + 1, a => q_fo f (m + 1) n (f m a)
abbrev q_cl2 (v : Int32) : Nat := v.toNatClampNeg
def q_ce (v : Int32) : Prop := q_cl2 v < 256 ∧ v = nI (q_cl2 v)
theorem q_ce_of {c : Nat} (h : c < 256) : q_ce (nI c) := by
  unfold q_ce q_cl2
  rw [nI_clamp (by omega)]
  exact ⟨h, rfl⟩
theorem q_i0 {P : Prop} [Decidable P] : ((if P then (1 : Int32) else 0) = 0) = ¬ P := by
  by_cases h : P
  · simp [h]
  · simp [h]
theorem q_min2 (a b : Int32) : (if a < b then a else b) = (if b < a then b else a) := by
  by_cases h : a < b
  · rw [if_pos h, if_neg (fun z => by rw [Int32.lt_iff_toInt_lt] at h z; omega)]
  · rw [if_neg h]
    by_cases h2 : b < a
    · rw [if_pos h2]
    · rw [if_neg h2]
      exact Int32.toInt_inj.mp (by rw [Int32.lt_iff_toInt_lt] at h h2; omega)
theorem q_max2 (a b : Int32) : (if b < a then a else b) = (if a < b then b else a) := by
  by_cases h : b < a
  · rw [if_pos h, if_neg (fun z => by rw [Int32.lt_iff_toInt_lt] at h z; omega)]
  · rw [if_neg h]
    by_cases h2 : a < b
    · rw [if_pos h2]
    · rw [if_neg h2]
      exact Int32.toInt_inj.mp (by rw [Int32.lt_iff_toInt_lt] at h h2; omega)
/-- what stands in a flyer's row -/
def q_fw (S : Nat → Nat → Int32) (N : Nat → Nat) (i : Nat) : Prop := q_ce (S 15 i) ∧ (∃ k, k < 6 ∧ S 14 i = nI k) ∧ (∃ y, y < 8 ∧ S 18 i = nI y) ∧ ((S 20 i = 0 ∨ S 20 i = 1 ∨ S 20 i = 2) ∧ ∃ n, n < 100 ∧ S 19 i = nI n) ∧ (3 < S 14 i → (∃ h, h < N 3 ∧ S 25 i = nI h) ∧ (∃ n, n < 100 ∧ S 21 i = nI n) ∧ (∃ n, n < 100 ∧ S 22 i = nI n) ∧ (S 23 i = -1 ∨ ∃ j, j < N 5 ∧ S 23 i = nI j ∧ ¬ 3 < S 14 j))
def q_wf (S : Nat → Nat → Int32) (N : Nat → Nat) : Prop := (∀ i, i < N 0 → q_ce (S 1 i)) ∧ (∀ i, i < N 1 → q_ce (S 4 i)) ∧ (∀ i, i < N 2 → q_ce (S 6 i)) ∧ (∀ i, i < N 3 → q_ce (S 9 i)) ∧ (∀ i, i < N 4 → q_ce (S 10 i)) ∧ (∀ i, i < N 5 → q_fw S N i) ∧ (∃ n, n ≤ 1000 ∧ S 0 7 = nI n)
def q_seB (S : Nat → Nat → Int32) (c m : Nat) : Bool := decide (S 3 m = 0 ∧ nI (q_d2 c (q_cl2 (S 1 m))) ≤ S 2 m * S 2 m)
def q_se (S : Nat → Nat → Int32) (N : Nat → Nat) (c : Nat) : Bool := q_ex (q_seB S c) 0 (N 0)
def q_heB (S : Nat → Nat → Int32) (c p : Nat) : Bool := decide (nI (q_ap c (q_cl2 (S 4 p))) ≤ S 5 p - S 0 9)
def q_he (S : Nat → Nat → Int32) (N : Nat → Nat) (c : Nat) : Bool := q_ex (q_heB S c) 0 (N 1)
section QWM
variable {o : q_H} {w : Nat} {g S : Nat → Nat → Int32} {N : Nat → Nat}
theorem c_isSeen_l (hr : repC w g S N) (hf : q_wf S N) {c : Nat} (hc : c < 256) (d : Nat) : ∀ n m, m + n = N 0 → q_sem (d + 2) mX10_isSeen 2 [.ref w, .int (nI c), .int (nI m)] [] (q_K o g) = some (some (.int (if q_ex (q_seB S c) m n = true then 1 else 0)), q_K o g) := by
  have hw := hr.1
  have hN := n_cnt_ma hr
  intro n
  induction n with
  | zero =>
    intro m hm
    have c1 : nI (N 0) ≤ nI m := nI_le (by omega) (by omega)
    rw [B_X10_isSeen_2 hw]
    simp only [B_X10_isSeen_0 hw, B_X10_isSeen_10 hw, B_X10_isSeen_22 hw, B_X10_isSeen_35 hw, B_X10_isSeen_44 hw, B_X10_isSeen_47 hw, w_get_ma0 hr, w_get_ma1 hr, w_get_ma2 hr, w_size_ma hr, w_has_ma hr, w_full_ma hr, Option.bind_some, Option.toList_some, Option.toList_none, List.cons_append, List.nil_append, c1, ↓reduceIte, q_ex, Bool.false_eq_true]
  | succ n ih =>
    intro m hm
    have hm2 : m < N 0 := by omega
    have hb := hf.1 m hm2
    have c1 : ¬ nI (N 0) ≤ nI m := nI_ge hm2 (by omega)
    have e1 : q_at S (N 0) 1 (nI m) = nI (q_cl2 (S 1 m)) := (q_at_in hm2 (by omega)).trans hb.2
    have e2 : q_at S (N 0) 2 (nI m) = S 2 m := q_at_in hm2 (by omega)
    have e3 : q_at S (N 0) 3 (nI m) = S 3 m := q_at_in hm2 (by omega)
    rw [B_X10_isSeen_2 hw]
    simp only [B_X10_isSeen_0 hw, B_X10_isSeen_10 hw, B_X10_isSeen_22 hw, B_X10_isSeen_35 hw, B_X10_isSeen_44 hw, B_X10_isSeen_47 hw, w_get_ma0 hr, w_get_ma1 hr, w_get_ma2 hr, w_size_ma hr, w_has_ma hr, w_full_ma hr, Option.bind_some, Option.toList_some, Option.toList_none, List.cons_append, List.nil_append, c1, ↓reduceIte, q_ex, e1, e2, e3, s_reaches _ hc hb.1, nI_1, ih (m + 1) (by omega), q_i0]
    by_cases h1 : S 3 m = 0 <;> by_cases h2 : nI (q_d2 c (q_cl2 (S 1 m))) ≤ S 2 m * S 2 m <;> simp [q_seB, h1, h2]
theorem c_isSeen (hr : repC w g S N) (hf : q_wf S N) {c : Nat} (hc : c < 256) (d : Nat) : q_sem (d + 2) mX10_isSeen 0 [.ref w, .int (nI c), .retAddr 0] [] (q_K o g) = some (some (.int (if q_se S N c = true then 1 else 0)), q_K o g) := by
  have hw := hr.1
  rw [B_X10_isSeen_0 hw]
  exact c_isSeen_l hr hf hc d (N 0) 0 (by omega)
theorem c_isHeard_l (hr : repC w g S N) (hf : q_wf S N) {c : Nat} (hc : c < 256) (d : Nat) : ∀ n m, m + n = N 1 → q_sem (d + 2) mX10_isHeard 2 [.ref w, .int (nI c), .int (nI m)] [] (q_K o g) = some (some (.int (if q_ex (q_heB S c) m n = true then 1 else 0)), q_K o g) := by
  have hw := hr.1
  have hN := n_cnt_po hr
  intro n
  induction n with
  | zero =>
    intro m hm
    have c1 : nI (N 1) ≤ nI m := nI_le (by omega) (by omega)
    rw [B_X10_isHeard_2 hw]
    simp only [B_X10_isHeard_0 hw, B_X10_isHeard_10 hw, B_X10_isHeard_23 hw, B_X10_isHeard_26 hw, B_X10_isHeard_35 hw, w_get_po0 hr, w_get_po1 hr, w_size_po hr, w_has_po hr, w_full_po hr, Option.bind_some, Option.toList_some, Option.toList_none, List.cons_append, List.nil_append, c1, ↓reduceIte, q_ex, Bool.false_eq_true]
  | succ n ih =>
    intro m hm
    have hm2 : m < N 1 := by omega
    have hb := hf.2.1 m hm2
    have c1 : ¬ nI (N 1) ≤ nI m := nI_ge hm2 (by omega)
    have e1 : q_at S (N 1) 4 (nI m) = nI (q_cl2 (S 4 m)) := (q_at_in hm2 (by omega)).trans hb.2
    have e2 : q_at S (N 1) 5 (nI m) = S 5 m := q_at_in hm2 (by omega)
    rw [B_X10_isHeard_2 hw]
    simp only [B_X10_isHeard_0 hw, B_X10_isHeard_10 hw, B_X10_isHeard_23 hw, B_X10_isHeard_26 hw, B_X10_isHeard_35 hw, w_get_po0 hr, w_get_po1 hr, w_size_po hr, w_has_po hr, w_full_po hr, Option.bind_some, Option.toList_some, Option.toList_none, List.cons_append, List.nil_append, c1, ↓reduceIte, q_ex, e1, e2, s_apart _ hc hb.1, nI_1, ih (m + 1) (by omega), hr.2.2.2.2.1]
    by_cases h1 : nI (q_ap c (q_cl2 (S 4 m))) ≤ S 5 m - S 0 9
    · have h2 : ¬ S 5 m - S 0 9 < nI (q_ap c (q_cl2 (S 4 m))) := fun z => by rw [Int32.le_iff_toInt_le] at h1; rw [Int32.lt_iff_toInt_lt] at z; omega
      simp [q_heB, h1, h2]
    · have h2 : S 5 m - S 0 9 < nI (q_ap c (q_cl2 (S 4 m))) := by rw [Int32.le_iff_toInt_le] at h1; rw [Int32.lt_iff_toInt_lt]; omega
      simp [q_heB, h1, h2]
theorem c_isHeard (hr : repC w g S N) (hf : q_wf S N) {c : Nat} (hc : c < 256) (d : Nat) : q_sem (d + 2) mX10_isHeard 0 [.ref w, .int (nI c), .retAddr 0] [] (q_K o g) = some (some (.int (if q_he S N c = true then 1 else 0)), q_K o g) := by
  have hw := hr.1
  rw [B_X10_isHeard_0 hw]
  exact c_isHeard_l hr hf hc d (N 1) 0 (by omega)
theorem c_isWatched (hr : repC w g S N) (hf : q_wf S N) {c : Nat} (hc : c < 256) (d : Nat) : q_sem (d + 3) mX10_isWatched 0 [.ref w, .int (nI c)] [] (q_K o g) = some (some (.int (if q_se S N c = true ∨ q_he S N c = true then 1 else 0)), q_K o g) := by
  have hw := hr.1
  simp only [B_X10_isWatched_0 hw, B_X10_isWatched_5 hw, B_X10_isWatched_13 hw, Option.bind_some, Option.toList_some, Option.toList_none, List.cons_append, List.nil_append, c_isSeen hr hf hc, c_isHeard hr hf hc, q_i0]
  by_cases h1 : q_se S N c = true <;> by_cases h2 : q_he S N c = true <;> simp [h1, h2]
theorem c_cellsSeen_l (hr : repC w g S N) (hf : q_wf S N) (d : Nat) : ∀ n m a, m + n = 256 → q_sem (d + 3) mX10_cellsSeen 4 [.ref w, .int a, .int (nI m)] [] (q_K o g) = some (some (.int (q_fo (fun c a => a + (if q_se S N c = true then 1 else 0)) m n a)), q_K o g) := by
  have hw := hr.1
  intro n
  induction n with
  | zero =>
    intro m a hm
    have c1 : 256 ≤ nI m := (by decide : (256 : Int32) = nI 256) ▸ nI_le (by omega) (by omega)
    rw [B_X10_cellsSeen_4 hw, if_pos c1]
    rfl
  | succ n ih =>
    intro m a hm
    have c1 : ¬ 256 ≤ nI m := (by decide : (256 : Int32) = nI 256) ▸ nI_ge (by omega) (by omega)
    rw [B_X10_cellsSeen_4 hw, if_neg c1]
    simp only [B_X10_cellsSeen_0 hw, B_X10_cellsSeen_17 hw, Option.bind_some, Option.toList_some, Option.toList_none, List.cons_append, List.nil_append, c_isSeen hr hf (show m < 256 by omega), q_i0, nI_1]
    by_cases h1 : q_se S N m = true
    · simp only [h1, ↓reduceIte, not_true_eq_false, ih (m + 1) _ (by omega), q_fo]
    · simp only [h1, ↓reduceIte, not_false_eq_true, ih (m + 1) _ (by omega), q_fo, Bool.false_eq_true]
theorem c_cellsSeen (hr : repC w g S N) (hf : q_wf S N) (d : Nat) : q_sem (d + 3) mX10_cellsSeen 0 [.ref w, .retAddr 0, .retAddr 0] [] (q_K o g) = some (some (.int (q_fo (fun c a => a + (if q_se S N c = true then 1 else 0)) 0 256 0)), q_K o g) := by
  have hw := hr.1
  rw [B_X10_cellsSeen_0 hw]
  exact c_cellsSeen_l hr hf d 256 0 0 (by omega)
end QWM
