/-! the Model's minute -/
theorem q_uu {S : Nat → Nat → Int32} {f i : Nat} {a b : Int32} : q_up (q_up S f i a) f i b = q_up S f i b := by
  funext p k
  unfold q_up
  by_cases h : p = f ∧ k = i
  · simp [h]
  · simp [h]
section MMI
variable {o : q_H} {g S : Nat → Nat → Int32} {N : Nat → Nat}
theorem m_ho (hm : repM g S N) {i : Nat} (hi : i < N 5) (hk : 3 < S 14 i) : g 121 i = S 25 i := hm.2.1 i hi hk
theorem m_onward (hm : repM g S N) (hf : q_wf S N) (ho : q_oR o) {i c : Nat} (hi : i < N 5) (hc : c < 256) (d : Nat) : q_sem (d + 2) mX12_onward 0 [.ref 98, .int (nI c), .int (nI i), .retAddr 0, .retAddr 0] [] (q_K o g) = some (some (.int (q_fl c (q_cl2 (S 18 i)) (S 17 i))), q_K o g) := by
  have hN := m_c5 hm
  obtain ⟨y, hy, ey⟩ := (hf.2.2.2.2.2.1 i hi).2.2.1
  have e18 : g 118 i = nI y := (m_f18 hm hi).trans ey
  have ey2 : q_cl2 (S 18 i) = y := by rw [ey]; exact nI_clamp (by omega)
  have w5 : q_way 5 y = q_way 2 y := by
    have : ∀ y, y < 8 → q_way 5 y = q_way 2 y := by decide +kernel
    exact this y hy
  have w6 : q_way 6 y = q_way 3 y := by
    have : ∀ y, y < 8 → q_way 6 y = q_way 3 y := by decide +kernel
    exact this y hy
  have mdx : nI c - nI (c / 16) * 16 = nI (c % 16) := by rw [← m_dy hc]; exact m_dx hc
  rw [ey2]
  simp only [B_X12_onward_0 ho, q_rgN (show i < 16 by omega) (show 16 < 2 ^ 31 by decide), e18, q_rgN hy (show 8 < 2 ^ 31 by decide), m_f17 hm hi, m_dy hc, mdx, show (nI y).toNatClampNeg = y from nI_clamp (by omega), w5, w6, y_in, Option.bind_some, Option.toList_some, Option.toList_none, List.cons_append, List.nil_append, B_X12_onward_54, B_X12_onward_65, bI_0]
  unfold q_fl
  have d1 : q_in (nI (c % 16) + S 17 i * q_way 2 y) 0 15 = decide (q_wi (q_fX c y (S 17 i)) 0 15) := rfl
  have d2 : q_in (nI (c / 16) + S 17 i * q_way 3 y) 0 15 = decide (q_wi (q_fY c y (S 17 i)) 0 15) := rfl
  rw [d1, d2]
  by_cases h1 : q_wi (q_fX c y (S 17 i)) 0 15 <;> by_cases h2 : q_wi (q_fY c y (S 17 i)) 0 15
  · rw [decide_eq_true h1, decide_eq_true h2, if_neg (by decide), if_neg (by decide), if_pos ⟨h1, h2⟩]; rfl
  · rw [decide_eq_true h1, decide_eq_false h2, if_neg (by decide), if_pos rfl, if_neg (fun z => h2 z.2)]
  · rw [decide_eq_false h1, if_pos rfl, if_neg (fun z => h1 z.1)]
  · rw [decide_eq_false h1, if_pos rfl, if_neg (fun z => h1 z.1)]
theorem m_goes (hm : repM g S N) (hf : q_wf S N) (ho : q_oR o) {i : Nat} (hi : i < N 5) (d : Nat) : ∃ g2, q_sem (d + 3) mX12_goes 0 [.ref 98, .int (nI i), .retAddr 0] [] (q_K o g) = some (none, q_K o g2) ∧ repM g2 (q_goS S i) N ∧ q_fM g g2 := by
  have hN := m_c5 hm
  have h1 := (hf.2.2.2.2.2.1 i hi).1
  have e1 := m_onward (o := o) hm hf ho hi h1.1 d
  rw [← h1.2] at e1
  unfold q_goS
  by_cases h0 : q_fl (q_cl2 (S 15 i)) (q_cl2 (S 18 i)) (S 17 i) < 0
  · have h0' : ¬ 0 ≤ q_fl (q_cl2 (S 15 i)) (q_cl2 (S 18 i)) (S 17 i) := by rw [q_ltN]; exact h0
    rw [if_pos h0]
    refine ⟨q_up g 120 i 2, ?_, m_u20 hm i 2, fM_up fM_rf (by decide)⟩
    simp only [B_X12_goes_0, q_rgN (show i < 16 by omega) (show 16 < 2 ^ 31 by decide), m_f15 hm hi, e1, Option.bind_some, Option.toList_some, Option.toList_none, List.cons_append, List.nil_append, B_X12_goes_11, h0', ↓reduceIte]
  · have h0' : 0 ≤ q_fl (q_cl2 (S 15 i)) (q_cl2 (S 18 i)) (S 17 i) := by rw [← q_leN]; exact h0
    rw [if_neg h0]
    refine ⟨q_up g 115 i (q_fl (q_cl2 (S 15 i)) (q_cl2 (S 18 i)) (S 17 i)), ?_, m_u15 hm i _, fM_up fM_rf (by decide)⟩
    simp only [B_X12_goes_0, q_rgN (show i < 16 by omega) (show 16 < 2 ^ 31 by decide), m_f15 hm hi, e1, Option.bind_some, Option.toList_some, Option.toList_none, List.cons_append, List.nil_append, B_X12_goes_11, h0', ↓reduceIte]
theorem m_nearer10 (d : Nat) (v to : Int32) : q_sem (d + 2) mX12_nearer 0 [.int v, .int to, .int 10] [] (q_K o g) = some (some (.int (q_cl v to)), q_K o g) := n_nearer d v to 10
/-- what the landing does -/
theorem m_lnd (hm : repM g S N) {i h : Nat} (hi : i < N 5) (hk : 3 < S 14 i) (hh : h < N 3) (e25 : S 25 i = nI h) (ha : S 23 i < 0) : ∃ g2, (if (g 115 i) = (g 109 h) then some (none, q_K o (q_up (q_up g 120 i 1) 116 i 0)) else some (none, q_K o g) : Option (Option Value × q_H)) = some (none, q_K o g2) ∧ repM g2 (q_lnd S i) N ∧ q_fM g g2 := by
  have eh : q_cl2 (S 25 i) = h := by rw [e25]; have := m_c3 hm; exact nI_clamp (by omega)
  unfold q_lnd
  rw [eh, m_f15 hm hi, m_f9 hm hh]
  by_cases h0 : S 15 i = S 9 h
  · rw [if_pos h0, if_pos h0]
    exact ⟨_, rfl, m_u16 (m_u20 hm i 1) i 0, fM_up (fM_up fM_rf (by decide)) (by decide)⟩
  · rw [if_neg h0, if_neg h0]
    exact ⟨g, rfl, hm, fM_rf⟩
/-- home -/
theorem m_flHome (hm : repM g S N) (hf : q_wf S N) {i h : Nat} (hi : i < N 5) (hk : 3 < S 14 i) (hh : h < N 3) (e25 : S 25 i = nI h) (e23 : S 23 i = -1) (d : Nat) : ∃ g2, q_sem (d + 4) mX12_flies 100 [.ref 98, .int (nI i), .int (-1), .retAddr 0] [.int (q_cl (S 16 i) 0), .int (nI i), .ref 116] (q_K o g) = some (none, q_K o g2) ∧ repM g2 (q_lnd (q_stp2 S i (q_cl2 (S 9 h)) 0) i) N ∧ q_fM g g2 := by
  have hN := m_c5 hm
  have hN3 := m_c3 hm
  have h1 := (hf.2.2.2.2.2.1 i hi).1
  have h9 := hf.2.2.2.1 h hh
  have hm1 := m_u16 hm i (q_cl (S 16 i) 0)
  have e15 : q_up g 116 i (q_cl (S 16 i) 0) 115 i = nI (q_cl2 (S 15 i)) := by rw [q_upN (by decide), m_f15 hm hi]; exact h1.2
  have e109 : q_up g 116 i (q_cl (S 16 i) 0) 109 h = nI (q_cl2 (S 9 h)) := by rw [q_upN (by decide), m_f9 hm hh]; exact h9.2
  have e121 : q_up g 116 i (q_cl (S 16 i) 0) 121 i = nI h := by rw [q_upN (by decide), m_ho hm hi hk]; exact e25
  have hm2 := m_u15 hm1 i (nI (q_sp (q_sp (q_cl2 (S 15 i)) (q_cl2 (S 9 h))) (q_cl2 (S 9 h))))
  have k14 : 3 < q_stp2 S i (q_cl2 (S 9 h)) 0 14 i := by unfold q_stp2; rw [q_upN (by decide), q_upN (by decide)]; exact hk
  have k25 : q_stp2 S i (q_cl2 (S 9 h)) 0 25 i = nI h := by unfold q_stp2; rw [q_upN (by decide), q_upN (by decide)]; exact e25
  have k23 : q_stp2 S i (q_cl2 (S 9 h)) 0 23 i = -1 := by unfold q_stp2; rw [q_upN (by decide), q_upN (by decide)]; exact e23
  obtain ⟨g2, e2, hm3, hf3⟩ := m_lnd (o := o) hm2 hi k14 hh k25 (show q_stp2 S i (q_cl2 (S 9 h)) 0 23 i < 0 by rw [k23]; decide)
  have e124 : q_up (q_up g 116 i (q_cl (S 16 i) 0)) 115 i (nI (q_sp (q_sp (q_cl2 (S 15 i)) (q_cl2 (S 9 h))) (q_cl2 (S 9 h)))) 124 i = -1 := by rw [q_upN (by decide), q_upN (by decide), m_f23 hm hi]; exact e23
  have e121b : q_up (q_up g 116 i (q_cl (S 16 i) 0)) 115 i (nI (q_sp (q_sp (q_cl2 (S 15 i)) (q_cl2 (S 9 h))) (q_cl2 (S 9 h)))) 121 i = nI h := by rw [q_upN (by decide)]; exact e121
  refine ⟨g2, ?_, hm3, fM_tr (fM_up (fM_up fM_rf (by decide)) (by decide)) hf3⟩
  simp only [B_X12_flies_100, q_rgN (show i < 16 by omega) (show 16 < 2 ^ 31 by decide), (by decide : ¬ (0 : Int32) ≤ -1), (by decide : (-1 : Int32) < 0), ↓reduceIte, e121, q_rgN (show h < 5 by omega) (show 5 < 2 ^ 31 by decide), e15, e109, n_steps _ h1.1 h9.1, Option.bind_some, Option.toList_some, Option.toList_none, List.cons_append, List.nil_append, B_X12_flies_139, e124, e121b]
  exact e2
theorem q_sub0 (a b : Int32) : (a - b = 0) = (a = b) := by
  apply propext
  constructor
  · intro h
    have : a - b + b = 0 + b := by rw [h]
    rw [Int32.sub_add_cancel, Int32.zero_add] at this
    exact this
  · intro h; rw [h, Int32.sub_self]
theorem m_flAfter (hm : repM g S N) (hf : q_wf S N) {i j h : Nat} (hi : i < N 5) (hj : j < N 5) (hij : j ≠ i) (hk : 3 < S 14 i) (hh : h < N 3) (e25 : S 25 i = nI h) (e23 : S 23 i = nI j) (e20 : S 20 j = 0) (d : Nat) : ∃ g2, q_sem (d + 4) mX12_flies 100 [.ref 98, .int (nI i), .int (nI j), .retAddr 0] [.int (q_cl (S 16 i) (S 16 j)), .int (nI i), .ref 116] (q_K o g) = some (none, q_K o g2) ∧ repM g2 (if q_met (q_stp2 S i (q_cl2 (S 15 j)) (S 16 j)) i j 23 i < 0 then q_lnd (q_met (q_stp2 S i (q_cl2 (S 15 j)) (S 16 j)) i j) i else q_met (q_stp2 S i (q_cl2 (S 15 j)) (S 16 j)) i j) N ∧ q_fM g g2 := by
  have hN := m_c5 hm
  have hN3 := m_c3 hm
  have h1 := (hf.2.2.2.2.2.1 i hi).1
  have h2 := (hf.2.2.2.2.2.1 j hj).1
  have h9 := hf.2.2.2.1 h hh
  have c1 : 0 ≤ nI j := nI_pos' (by omega)
  have c2 : ¬ nI j < 0 := nI_pos (by omega)
  have hm1 := m_u16 hm i (q_cl (S 16 i) (S 16 j))
  have e15 : q_up g 116 i (q_cl (S 16 i) (S 16 j)) 115 i = nI (q_cl2 (S 15 i)) := by rw [q_upN (by decide), m_f15 hm hi]; exact h1.2
  have e15j : q_up g 116 i (q_cl (S 16 i) (S 16 j)) 115 j = nI (q_cl2 (S 15 j)) := by rw [q_upN (by decide), m_f15 hm hj]; exact h2.2
  have hsp : q_sp (q_sp (q_cl2 (S 15 i)) (q_cl2 (S 15 j))) (q_cl2 (S 15 j)) < 256 := q_spB (q_spB h1.1 h2.1) h2.1
  generalize hT : q_stp2 S i (q_cl2 (S 15 j)) (S 16 j) = T
  have hm2 : repM (q_up (q_up g 116 i (q_cl (S 16 i) (S 16 j))) 115 i (nI (q_sp (q_sp (q_cl2 (S 15 i)) (q_cl2 (S 15 j))) (q_cl2 (S 15 j))))) T N := by rw [← hT]; exact m_u15 hm1 i _
  have t15 : T 15 i = nI (q_sp (q_sp (q_cl2 (S 15 i)) (q_cl2 (S 15 j))) (q_cl2 (S 15 j))) := by rw [← hT]; exact q_upE
  have t15j : T 15 j = S 15 j := by rw [← hT]; unfold q_stp2; rw [q_upJ hij, q_upN (by decide)]
  have t16 : T 16 i = q_cl (S 16 i) (S 16 j) := by rw [← hT]; unfold q_stp2; rw [q_upN (by decide), q_upE]
  have t16j : T 16 j = S 16 j := by rw [← hT]; unfold q_stp2; rw [q_upN (by decide), q_upJ hij]
  have t14 : 3 < T 14 i := by rw [← hT]; unfold q_stp2; rw [q_upN (by decide), q_upN (by decide)]; exact hk
  have t25 : T 25 i = nI h := by rw [← hT]; unfold q_stp2; rw [q_upN (by decide), q_upN (by decide)]; exact e25
  have t23 : T 23 i = nI j := by rw [← hT]; unfold q_stp2; rw [q_upN (by decide), q_upN (by decide)]; exact e23
  have t20 : T 20 j = 0 := by rw [← hT]; unfold q_stp2; rw [q_upN (by decide), q_upN (by decide)]; exact e20
  have hfM : q_fM g (q_up (q_up g 116 i (q_cl (S 16 i) (S 16 j))) 115 i (nI (q_sp (q_sp (q_cl2 (S 15 i)) (q_cl2 (S 15 j))) (q_cl2 (S 15 j))))) := fM_up (fM_up fM_rf (by decide)) (by decide)
  have head : q_sem (d + 4) mX12_flies 100 [.ref 98, .int (nI i), .int (nI j), .retAddr 0] [.int (q_cl (S 16 i) (S 16 j)), .int (nI i), .ref 116] (q_K o g) = q_sem (d + 4) mX12_flies 139 [.ref 98, .int (nI i), .int (nI j), .retAddr 0] [.int (nI (q_sp (q_sp (q_cl2 (S 15 i)) (q_cl2 (S 15 j))) (q_cl2 (S 15 j)))), .int (nI i), .ref 115] (q_K o (q_up g 116 i (q_cl (S 16 i) (S 16 j)))) := by
    simp only [B_X12_flies_100, q_rgN (show i < 16 by omega) (show 16 < 2 ^ 31 by decide), q_rgN (show j < 16 by omega) (show 16 < 2 ^ 31 by decide), c1, ↓reduceIte, e15, e15j, n_steps _ h1.1 h2.1, Option.bind_some, Option.toList_some, Option.toList_none, List.cons_append, List.nil_append]
  rw [head, B_X12_flies_139]
  generalize hG : q_up (q_up g 116 i (q_cl (S 16 i) (S 16 j))) 115 i (nI (q_sp (q_sp (q_cl2 (S 15 i)) (q_cl2 (S 15 j))) (q_cl2 (S 15 j)))) = G at hm2 hfM ⊢
  have g121 : G 121 i = nI h := (m_ho hm2 hi t14).trans t25
  have g124 : G 124 i = nI j := (m_f23 hm2 hi).trans t23
  simp only [q_rgN (show i < 16 by omega) (show 16 < 2 ^ 31 by decide), q_rgN (show j < 16 by omega) (show 16 < 2 ^ 31 by decide), c2, ↓reduceIte, hG, m_f16 hm2 hi, m_f16 hm2 hj, g124, c1]
  by_cases w1 : T 16 i < T 16 j
  · have hnm : ¬ (T 16 j ≤ T 16 i ∧ nI (q_ap (q_cl2 (T 15 i)) (q_cl2 (T 15 j))) ≤ 1) := fun z => by have := z.1; rw [← q_leN] at this; exact this w1
    rw [if_pos w1]
    have em : q_met T i j = T := by unfold q_met; rw [if_neg hnm]
    rw [em, t23, if_neg c2]
    exact ⟨G, rfl, hm2, hfM⟩
  · rw [if_neg w1]
    have f15 : G 115 i = nI (q_cl2 (T 15 i)) := by rw [m_f15 hm2 hi, t15, show q_cl2 (nI (q_sp (q_sp (q_cl2 (S 15 i)) (q_cl2 (S 15 j))) (q_cl2 (S 15 j)))) = _ from nI_clamp (by omega)]
    have f15j : G 115 j = nI (q_cl2 (T 15 j)) := by rw [m_f15 hm2 hj, t15j]; exact h2.2
    have l15 : q_cl2 (T 15 i) < 256 := by rw [t15, show q_cl2 (nI (q_sp (q_sp (q_cl2 (S 15 i)) (q_cl2 (S 15 j))) (q_cl2 (S 15 j)))) = _ from nI_clamp (by omega)]; exact hsp
    have l15j : q_cl2 (T 15 j) < 256 := by rw [t15j]; exact h2.1
    simp only [f15, f15j, n_apart _ l15 l15j, Option.bind_some, Option.toList_some, Option.toList_none, List.cons_append, List.nil_append, B_X12_flies_174]
    by_cases w2 : 1 < nI (q_ap (q_cl2 (T 15 i)) (q_cl2 (T 15 j)))
    · have hnm : ¬ (T 16 j ≤ T 16 i ∧ nI (q_ap (q_cl2 (T 15 i)) (q_cl2 (T 15 j))) ≤ 1) := fun z => by have := z.2; rw [← q_leN] at this; exact this w2
      rw [if_pos w2]
      have em : q_met T i j = T := by unfold q_met; rw [if_neg hnm]
      rw [em, t23, if_neg c2]
      simp only [q_rgN (show i < 16 by omega) (show 16 < 2 ^ 31 by decide), g124, c1, ↓reduceIte]
      exact ⟨G, rfl, hm2, hfM⟩
    · have hme : T 16 j ≤ T 16 i ∧ nI (q_ap (q_cl2 (T 15 i)) (q_cl2 (T 15 j))) ≤ 1 := ⟨by rw [← q_leN]; exact w1, by rw [← q_leN]; exact w2⟩
      rw [if_neg w2]
      have etk : (if T 22 i < T 19 j then T 22 i else T 19 j) = q_tk T i j := by unfold q_tk; rw [q_min2]
      have em : q_met T i j = if T 22 i = q_tk T i j then q_up (q_met2 T i j) 23 i (-1) else q_met2 T i j := by unfold q_met; rw [if_pos hme]
      have n119 : q_up (q_up G 123 i (T 22 i - q_tk T i j)) 119 j (T 19 j - q_tk T i j) 119 j = T 19 j - q_tk T i j := q_upE
      have hmM1 : repM (q_up (q_up G 123 i (T 22 i - q_tk T i j)) 119 j (T 19 j - q_tk T i j)) (q_met1 T i j) N := m_u19 (m_u22 hm2 i _) j _
      -- the state of the other one
      have hmM2 : repM (q_up (q_up (q_up G 123 i (T 22 i - q_tk T i j)) 119 j (T 19 j - q_tk T i j)) 120 j (if T 19 j - q_tk T i j = 0 then 2 else 0)) (q_met2 T i j) N := by
        unfold q_met2
        by_cases w3 : T 19 j = q_tk T i j
        · rw [if_pos w3, if_pos (by rw [q_sub0]; exact w3)]
          exact m_u20 hmM1 j 2
        · rw [if_neg w3, if_neg (by rw [q_sub0]; exact w3)]
          have h0 := m_u20 hmM1 j 0
          rw [q_up_self (S := q_met1 T i j) (by unfold q_met1; rw [q_upN (by decide), q_upN (by decide)]; exact t20)] at h0
          exact h0
      have hmM3 : repM (q_up (q_up (q_up (q_up G 123 i (T 22 i - q_tk T i j)) 119 j (T 19 j - q_tk T i j)) 120 j (if T 19 j - q_tk T i j = 0 then 2 else 0)) 124 i (if T 22 i - q_tk T i j = 0 then -1 else nI j)) (q_met T i j) N := by
        rw [em]
        by_cases w4 : T 22 i = q_tk T i j
        · rw [if_pos w4, if_pos (show T 22 i - q_tk T i j = 0 by rw [q_sub0]; exact w4)]
          exact m_u23 hmM2 i (-1)
        · rw [if_neg w4, if_neg (show ¬ T 22 i - q_tk T i j = 0 by rw [q_sub0]; exact w4)]
          have h0 := m_u23 hmM2 i (nI j)
          have e23' : q_met2 T i j 23 i = nI j := by
            unfold q_met2 q_met1
            split
            · rw [q_upN (by decide), q_upN (by decide), q_upN (by decide)]; exact t23
            · rw [q_upN (by decide), q_upN (by decide)]; exact t23
          rw [q_up_self e23'] at h0
          exact h0
      have hfM3 : q_fM g (q_up (q_up (q_up (q_up G 123 i (T 22 i - q_tk T i j)) 119 j (T 19 j - q_tk T i j)) 120 j (if T 19 j - q_tk T i j = 0 then 2 else 0)) 124 i (if T 22 i - q_tk T i j = 0 then -1 else nI j)) := fM_up (fM_up (fM_up (fM_up hfM (by decide)) (by decide)) (by decide)) (by decide)
      have m14 : 3 < q_met T i j 14 i := by
        have : ∀ T : Nat → Nat → Int32, q_met T i j 14 i = T 14 i := by
          intro T
          unfold q_met q_met2 q_met1
          repeat' split
          all_goals simp only [q_upN (by decide : 14 ≠ 23), q_upN (by decide : 14 ≠ 20), q_upN (by decide : 14 ≠ 19), q_upN (by decide : 14 ≠ 22)]
        rw [this]; exact t14
      have m25 : q_met T i j 25 i = nI h := by
        have : ∀ T : Nat → Nat → Int32, q_met T i j 25 i = T 25 i := by
          intro T
          unfold q_met q_met2 q_met1
          repeat' split
          all_goals simp only [q_upN (by decide : 25 ≠ 23), q_upN (by decide : 25 ≠ 20), q_upN (by decide : 25 ≠ 19), q_upN (by decide : 25 ≠ 22)]
        rw [this]; exact t25
      have u1 : ∀ v : Int32, q_up G 123 i v 119 j = T 19 j := fun v => by rw [q_upN (by decide)]; exact m_f19 hm2 hj
      have u2 : ∀ v w x : Int32, q_up (q_up (q_up G 123 i v) 119 j w) 120 j x 123 i = v := fun v w x => by rw [q_upN (by decide), q_upN (by decide), q_upE]
      simp only [q_rgN (show i < 16 by omega) (show 16 < 2 ^ 31 by decide), q_rgN (show j < 16 by omega) (show 16 < 2 ^ 31 by decide), m_f22 hm2 hi, m_f19 hm2 hj, n_lesser, Option.bind_some, Option.toList_some, Option.toList_none, List.cons_append, List.nil_append, etk, B_X12_flies_193, u1, q_upE, u2]
      by_cases w4 : T 22 i - q_tk T i j = 0
      · rw [if_pos w4] at hmM3 hfM3
        have w4' : T 22 i = q_tk T i j := by rw [← q_sub0]; exact w4
        have m23 : q_met T i j 23 i < 0 := by rw [em, if_pos w4', q_upE]; decide
        obtain ⟨g2, e2, hm4, hf4⟩ := m_lnd (o := o) hmM3 hi m14 hh m25 m23
        rw [if_pos m23]
        refine ⟨g2, ?_, hm4, fM_tr hfM3 hf4⟩
        have u3 : ∀ v w x y : Int32, q_up (q_up (q_up (q_up G 123 i v) 119 j w) 120 j x) 124 i y 121 i = nI h := fun v w x y => by rw [q_upN (by decide), q_upN (by decide), q_upN (by decide), q_upN (by decide)]; exact g121
        by_cases w3 : T 19 j - q_tk T i j = 0
        · rw [if_pos w3] at e2
          simp only [w3, w4, ↓reduceIte, u3, q_rgN (show h < 5 by omega) (show 5 < 2 ^ 31 by decide), (by decide : ¬ (0 : Int32) ≤ -1)] at e2 ⊢
          exact e2
        · rw [if_neg w3] at e2
          simp only [w3, w4, ↓reduceIte, u3, q_rgN (show h < 5 by omega) (show 5 < 2 ^ 31 by decide), (by decide : ¬ (0 : Int32) ≤ -1)] at e2 ⊢
          exact e2
      · rw [if_neg w4] at hmM3 hfM3
        have w4' : ¬ T 22 i = q_tk T i j := fun z => w4 (by rw [q_sub0]; exact z)
        have m23 : ¬ q_met T i j 23 i < 0 := by rw [← m_f23 hmM3 hi, q_upE]; exact c2
        rw [if_neg m23]
        refine ⟨_, ?_, hmM3, hfM3⟩
        by_cases w3 : T 19 j - q_tk T i j = 0
        · simp only [w3, w4, ↓reduceIte, c1]
        · simp only [w3, w4, ↓reduceIte, c1]
theorem m_flies (hm : repM g S N) (hk0 : q_ok S N) {i : Nat} (hi : i < N 5) (hk : 3 < S 14 i) (d : Nat) : ∃ g2, q_sem (d + 4) mX12_flies 0 [.ref 98, .int (nI i), .retAddr 0, .retAddr 0] [] (q_K o g) = some (none, q_K o g2) ∧ repM g2 (q_fly S i) N ∧ q_fM g g2 := by
  have hN := m_c5 hm
  have hN3 := m_c3 hm
  have hf := hk0.1
  obtain ⟨h1, _, _, _, hfl⟩ := hf.2.2.2.2.2.1 i hi
  obtain ⟨⟨h, hh, e25⟩, ⟨n, hn, e21⟩, _, h23⟩ := hfl hk
  have eh : q_cl2 (S 25 i) = h := by rw [e25]; exact nI_clamp (by omega)
  have u1 : q_up g 122 i (g 122 i - 1) 122 i = S 21 i - 1 := by rw [q_upE, m_f21 hm hi]
  have e122 := m_f21 hm hi
  unfold q_fly
  by_cases h0 : S 21 i - 1 < 0
  · have h0' : ¬ 0 ≤ S 21 i - 1 := by rw [q_ltN]; exact h0
    rw [if_pos h0]
    have hmm := m_u23 (m_u20 (m_u21 (m_u21 hm i (S 21 i - 1)) i 0) i 2) i (-1)
    rw [q_uu (S := S)] at hmm
    refine ⟨_, ?_, hmm, fM_up (fM_up (fM_up (fM_up fM_rf (by decide)) (by decide)) (by decide)) (by decide)⟩
    simp only [B_X12_flies_0, q_rgN (show i < 16 by omega) (show 16 < 2 ^ 31 by decide), e122, q_upE, h0', ↓reduceIte]
  · have h0' : 0 ≤ S 21 i - 1 := by rw [← q_leN]; exact h0
    rw [if_neg h0]
    have hv : ∃ m, m < 100 ∧ S 21 i - 1 = nI m := by
      rw [e21] at h0 ⊢
      cases n with
      | zero => exact absurd (by decide) h0
      | succ n => exact ⟨n, by omega, nI_pred n⟩
    have ok1 := ok_up21 (i := i) hk0 hv
    have hm1 := m_u21 hm i (S 21 i - 1)
    generalize hT : q_up S 21 i (S 21 i - 1) = T at hm1 ok1
    have tt : ∀ f k, f ≠ 21 → T f k = S f k := fun f k hf => by rw [← hT]; exact q_upN hf
    have g124 : q_up g 122 i (S 21 i - 1) 124 i = S 23 i := by rw [q_upN (by decide)]; exact m_f23 hm hi
    have g116 : ∀ k, k < N 5 → q_up g 122 i (S 21 i - 1) 116 k = T 16 k := fun k hk => by rw [q_upN (by decide), tt _ _ (by decide)]; exact m_f16 hm hk
    have k14 : 3 < T 14 i := by rw [tt _ _ (by decide)]; exact hk
    have k25 : T 25 i = nI h := by rw [tt _ _ (by decide)]; exact e25
    rcases h23 with h23 | ⟨j, hj, h23, hkj⟩
    · rw [if_pos (Or.inl (by rw [h23]; decide)), eh, q_up_self (S := T) (by rw [tt _ _ (by decide)]; exact h23)]
      obtain ⟨g2, e2, hm2, hf2⟩ := m_flHome (o := o) hm1 ok1.1 hi k14 hh k25 (by rw [tt _ _ (by decide)]; exact h23) d
      rw [tt 9 _ (by decide)] at hm2
      refine ⟨g2, ?_, hm2, fM_tr (fM_up fM_rf (by decide)) hf2⟩
      simp only [B_X12_flies_0, q_rgN (show i < 16 by omega) (show 16 < 2 ^ 31 by decide), e122, q_upE, h0', ↓reduceIte, g124, h23, (by decide : (-1 : Int32) < 0), (by decide : ¬ (0 : Int32) ≤ -1), g116 i hi, m_nearer10, Option.bind_some, Option.toList_some, Option.toList_none, List.cons_append, List.nil_append]
      exact e2
    · have ej : q_cl2 (S 23 i) = j := by rw [h23]; exact nI_clamp (by omega)
      have hij : j ≠ i := fun z => hkj (z ▸ hk)
      have c1 : 0 ≤ nI j := nI_pos' (by omega)
      have c2 : ¬ nI j < 0 := nI_pos (by omega)
      have g120 : q_up g 122 i (S 21 i - 1) 120 j = S 20 j := by rw [q_upN (by decide)]; exact m_f20 hm hj
      rw [ej]
      by_cases h20 : S 20 j = 0
      · rw [if_neg (fun z => by rcases z with z | z; rw [h23] at z; exact c2 z; exact z h20)]
        obtain ⟨g2, e2, hm2, hf2⟩ := m_flAfter (o := o) hm1 ok1.1 hi hj hij k14 hh k25 (by rw [tt _ _ (by decide)]; exact h23) (by rw [tt _ _ (by decide)]; exact h20) d
        rw [tt 15 j (by decide), tt 16 j (by decide)] at hm2
        refine ⟨g2, ?_, hm2, fM_tr (fM_up fM_rf (by decide)) hf2⟩
        simp only [B_X12_flies_0, q_rgN (show i < 16 by omega) (show 16 < 2 ^ 31 by decide), q_rgN (show j < 16 by omega) (show 16 < 2 ^ 31 by decide), e122, q_upE, h0', ↓reduceIte, g124, h23, c1, c2, g120, h20, g116 i hi, g116 j hj, m_nearer10, Option.bind_some, Option.toList_some, Option.toList_none, List.cons_append, List.nil_append]
        exact e2
      · rw [if_pos (Or.inr h20), eh]
        have hm1b := m_u23 hm1 i (-1)
        have ok1b := ok_up23 (i := i) ok1 (v := -1) (Or.inl rfl)
        have k9 : q_up T 23 i (-1) 9 h = S 9 h := by rw [q_upN (by decide), tt _ _ (by decide)]
        obtain ⟨g2, e2, hm2, hf2⟩ := m_flHome (o := o) hm1b ok1b.1 hi (by rw [q_upN (by decide)]; exact k14) hh (by rw [q_upN (by decide)]; exact k25) q_upE d
        rw [k9] at hm2
        refine ⟨g2, ?_, hm2, fM_tr (fM_up (fM_up fM_rf (by decide)) (by decide)) hf2⟩
        have g116b : q_up (q_up g 122 i (S 21 i - 1)) 124 i (-1) 116 i = q_up T 23 i (-1) 16 i := by rw [q_upN (by decide), q_upN (show 16 ≠ 23 by decide)]; exact g116 i hi
        simp only [B_X12_flies_0, q_rgN (show i < 16 by omega) (show 16 < 2 ^ 31 by decide), q_rgN (show j < 16 by omega) (show 16 < 2 ^ 31 by decide), e122, q_upE, h0', ↓reduceIte, g124, h23, c2, g120, h20, g116b, m_nearer10, Option.bind_some, Option.toList_some, Option.toList_none, List.cons_append, List.nil_append]
        exact e2
end MMI
