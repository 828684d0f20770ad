/-! the land: masts, posts, weather, fields, towns -/
theorem q_rB_b {b : Bool} {h : q_H} : q_rB (bI b) h = some (some (.int (bI b)), h) := by cases b <;> rfl
theorem q_exS (f : Nat → Bool) (m n : Nat) (b : Bool) : (b || q_ex f m (n + 1)) = ((b || f m) || q_ex f (m + 1) n) := by
  show (b || (f m || q_ex f (m + 1) n)) = _
  rw [Bool.or_assoc]
section MLD
variable {o : q_H} {g S : Nat → Nat → Int32} {N : Nat → Nat}
theorem m_isSeen_l (hm : repM g S N) (hf : q_wf S N) {c : Nat} (hc : c < 256) (d : Nat) : ∀ n m, m + n = N 0 → ∀ b : Bool, q_sem (d + 2) mX12_isSeen 4 [.ref 98, .int (nI c), .int (bI b), .int (nI m)] [] (q_K o g) = some (some (.int (bI (b || q_ex (q_seB S c) m n))), q_K o g) := by
  have hN := m_c0 hm
  intro n
  induction n with
  | zero =>
    intro m hm0 b
    have c1 : nI (N 0) ≤ nI m := nI_le (by omega) (by omega)
    rw [B_X12_isSeen_4]
    simp only [m_n0 hm, c1, ↓reduceIte, q_ex, Bool.or_false, q_rB_b]
  | succ n ih =>
    intro m hm0 b
    have hm2 : m < N 0 := by omega
    have hb := hf.1 m hm2
    have c1 : ¬ nI (N 0) ≤ nI m := nI_ge hm2 (by omega)
    have ih0 := ih (m + 1) (by omega) false
    have ih1 := ih (m + 1) (by omega) true
    rw [q_exS, B_X12_isSeen_4]
    rw [bI_f] at ih0
    rw [bI_t] at ih1
    cases b with
    | true => simp only [m_n0 hm, c1, ↓reduceIte, bI_t, i10, nI_1, ih1, Bool.true_or]
    | false =>
      simp only [m_n0 hm, c1, ↓reduceIte, bI_f, nI_1, q_rgN (show m < 6 by omega) (by decide), m_f3 hm hm2, m_f2 hm hm2, (m_f1 hm hm2).trans hb.2, n_isWithin _ hc hb.1, Option.bind_some, Option.toList_some, Option.toList_none, List.cons_append, List.nil_append, B_X12_isSeen_43, q_i0, ih0, ih1, Bool.false_or]
      by_cases h1 : S 3 m = 0 <;> by_cases h2 : nI (q_d2 c (q_cl2 (S 1 m))) ≤ S 2 m * S 2 m <;> simp [q_seB, h1, h2]
theorem m_isSeen (hm : repM g S N) (hf : q_wf S N) {c : Nat} (hc : c < 256) (d : Nat) : q_sem (d + 2) mX12_isSeen 0 [.ref 98, .int (nI c), .retAddr 0, .retAddr 0] [] (q_K o g) = some (some (.int (bI (q_se S N c))), q_K o g) := by
  rw [B_X12_isSeen_0]
  have h := m_isSeen_l (o := o) hm hf hc d (N 0) 0 (by omega) false
  rw [Bool.false_or] at h
  exact h
theorem m_isHeard_l (hm : repM g S N) (hf : q_wf S N) {c : Nat} (hc : c < 256) (d : Nat) : ∀ n m, m + n = N 1 → ∀ b : Bool, q_sem (d + 3) mX12_isHeard 4 [.ref 98, .int (nI c), .int (bI b), .int (nI m)] [] (q_K o g) = some (some (.int (bI (b || q_ex (q_heB S c) m n))), q_K o g) := by
  have hN := m_c1 hm
  intro n
  induction n with
  | zero =>
    intro m hm0 b
    have c1 : nI (N 1) ≤ nI m := nI_le (by omega) (by omega)
    rw [B_X12_isHeard_4]
    simp only [m_n1 hm, c1, ↓reduceIte, q_ex, Bool.or_false, q_rB_b]
  | succ n ih =>
    intro m hm0 b
    have hm2 : m < N 1 := by omega
    have hb := hf.2.1 m hm2
    have c1 : ¬ nI (N 1) ≤ nI m := nI_ge hm2 (by omega)
    have ih0 := ih (m + 1) (by omega) false
    have ih1 := ih (m + 1) (by omega) true
    rw [q_exS, B_X12_isHeard_4]
    rw [bI_f] at ih0
    rw [bI_t] at ih1
    cases b with
    | true => simp only [m_n1 hm, c1, ↓reduceIte, bI_t, i10, nI_1, ih1, Bool.true_or]
    | false =>
      simp only [m_n1 hm, c1, ↓reduceIte, bI_f, nI_1, q_rgN (show m < 8 by omega) (by decide), (m_f4 hm hm2).trans hb.2, m_f5 hm hm2, n_apart _ hc hb.1, Option.bind_some, Option.toList_some, Option.toList_none, List.cons_append, List.nil_append, B_X12_isHeard_28, hm.2.2.2.2.2.1, ih0, ih1, Bool.false_or]
      by_cases h1 : nI (q_ap c (q_cl2 (S 4 m))) ≤ S 5 m - S 0 9
      · have h2 : ¬ S 5 m - S 0 9 < nI (q_ap c (q_cl2 (S 4 m))) := by rw [q_leN]; exact h1
        simp [q_heB, h1, h2]
      · have h2 : S 5 m - S 0 9 < nI (q_ap c (q_cl2 (S 4 m))) := by rw [← q_ltN]; exact h1
        simp [q_heB, h1, h2]
theorem m_isHeard (hm : repM g S N) (hf : q_wf S N) {c : Nat} (hc : c < 256) (d : Nat) : q_sem (d + 3) mX12_isHeard 0 [.ref 98, .int (nI c), .retAddr 0, .retAddr 0] [] (q_K o g) = some (some (.int (bI (q_he S N c))), q_K o g) := by
  rw [B_X12_isHeard_0]
  have h := m_isHeard_l (o := o) hm hf hc d (N 1) 0 (by omega) false
  rw [Bool.false_or] at h
  exact h
/-- 1 if it is seen, and 2 if it is heard -/
def q_wat (S : Nat → Nat → Int32) (N : Nat → Nat) (c : Nat) : Int32 := bI (q_se S N c) + (if q_he S N c = true then 2 else 0)
theorem m_watch (hm : repM g S N) (hf : q_wf S N) {c : Nat} (hc : c < 256) (d : Nat) : q_sem (d + 4) mX12_watch 0 [.ref 98, .int (nI c)] [] (q_K o g) = some (some (.int (q_wat S N c)), q_K o g) := by
  simp only [B_X12_watch_0, B_X12_watch_5, B_X12_watch_18, m_isSeen hm hf hc, m_isHeard hm hf hc, Option.bind_some, Option.toList_some, Option.toList_none, List.cons_append, List.nil_append, q_wat]
  cases q_se S N c <;> cases q_he S N c <;> simp [bI]
theorem z_isSeen (hr : repC 1 g S N) (hf : q_wf S N) {c : Nat} (hc : c < 256) (d : Nat) : q_sem (d + 2) mX10_isSeen 0 [.ref 1, .int (nI c), .retAddr 0] [] (q_K o g) = some (some (.int (bI (q_se S N c))), q_K o g) := c_isSeen hr hf hc d
theorem z_isHeard (hr : repC 1 g S N) (hf : q_wf S N) {c : Nat} (hc : c < 256) (d : Nat) : q_sem (d + 2) mX10_isHeard 0 [.ref 1, .int (nI c), .retAddr 0] [] (q_K o g) = some (some (.int (bI (q_he S N c))), q_K o g) := c_isHeard hr hf hc d
theorem q_wat0 {c : Nat} : decide (q_wat S N c = 0) = !(q_se S N c || q_he S N c) := by
  unfold q_wat
  cases q_se S N c <;> cases q_he S N c <;> decide
theorem q_wat0' {c : Nat} : decide (q_wat S N c ≤ 0) = !(q_se S N c || q_he S N c) := by
  unfold q_wat
  cases q_se S N c <;> cases q_he S N c <;> decide
theorem z_isWatched (hr : repC 1 g S N) (hf : q_wf S N) {c : Nat} (hc : c < 256) (d : Nat) : q_sem (d + 3) mX10_isWatched 0 [.ref 1, .int (nI c)] [] (q_K o g) = some (some (.int (bI (q_se S N c || q_he S N c))), q_K o g) := by
  rw [c_isWatched hr hf hc]
  cases q_se S N c <;> cases q_he S N c <;> simp [bI]
/-- a raid that is up -/
def q_raB (S : Nat → Nat → Int32) (i : Nat) : Bool := decide (q_rai S i)
theorem m_isRaid (hm : repM g S N) {i : Nat} (hi : i < N 5) (d : Nat) : q_sem d mX12_isRaid 0 [.ref 98, .int (nI i)] [] (q_K o g) = some (some (.int (bI (q_raB S i))), q_K o g) := by
  have hN := m_c5 hm
  rw [B_X12_isRaid_0]
  simp only [q_rgN (show i < 16 by omega) (by decide), m_f14 hm hi, m_f20 hm hi]
  by_cases h1 : S 14 i = 1 <;> by_cases h2 : S 14 i = 2 <;> by_cases h3 : S 20 i = 0 <;> simp [q_raB, q_rai, h1, h2, h3, bI]
theorem m_nearest_l (hm : repM g S N) (hf : q_wf S N) {t : Nat} (ht : t < N 4) (d : Nat) : ∀ n m acc, m + n = N 5 → q_sem (d + 3) mX12_nearest 5 [.ref 98, .int (nI t), .int acc, .int (nI m)] [] (q_K o g) = some (some (.int (q_fo (q_nrB S (q_cl2 (S 10 t))) m n acc)), q_K o g) := by
  have hN := m_c5 hm
  have hN4 := m_c4 hm
  have ht2 := hf.2.2.2.2.1 t ht
  intro n
  induction n with
  | zero =>
    intro m acc hm0
    have c1 : nI (N 5) ≤ nI m := nI_le (by omega) (by omega)
    rw [B_X12_nearest_5]
    simp only [m_n5 hm, c1, ↓reduceIte, q_fo]
  | succ n ih =>
    intro m acc hm0
    have hm2 : m < N 5 := by omega
    have c1 : ¬ nI (N 5) ≤ nI m := nI_ge hm2 (by omega)
    have hb := (hf.2.2.2.2.2.1 m hm2).1
    have ih0 := fun acc => ih (m + 1) acc (by omega)
    rw [B_X12_nearest_5]
    simp only [m_n5 hm, c1, ↓reduceIte, m_isRaid hm hm2, Option.bind_some, Option.toList_some, Option.toList_none, List.cons_append, List.nil_append, B_X12_nearest_20, B_X12_nearest_39, B_X12_nearest_42, nI_1, ih0, q_fo]
    by_cases h1 : q_rai S m
    · have hb1 : q_raB S m = true := decide_eq_true h1
      simp only [hb1, bI_t, i10, ↓reduceIte, q_rgN (show t < 6 by omega) (by decide), q_rgN (show m < 16 by omega) (by decide), (m_f10 hm ht).trans ht2.2, (m_f15 hm hm2).trans hb.2, n_apart _ ht2.1 hb.1, Option.bind_some, Option.toList_some, Option.toList_none, List.cons_append, List.nil_append, B_X12_nearest_20, B_X12_nearest_39, B_X12_nearest_42, n_lesser, nI_1, ih0, q_nrB, if_pos h1, q_min2]
    · have hb1 : q_raB S m = false := decide_eq_false h1
      simp only [hb1, bI_f, ↓reduceIte, q_nrB, if_neg h1]
theorem m_nearest (hm : repM g S N) (hf : q_wf S N) {t : Nat} (ht : t < N 4) (d : Nat) : q_sem (d + 3) mX12_nearest 0 [.ref 98, .int (nI t), .retAddr 0, .retAddr 0] [] (q_K o g) = some (some (.int (q_near S N t)), q_K o g) := by
  rw [B_X12_nearest_0]
  exact m_nearest_l hm hf ht d (N 5) 0 99 (by omega)
end MLD
section LLD
theorem q_hs_n {i R : Nat} (h : i < R) (hR : R < 2 ^ 31) : q_hs (nI i) R = true := decide_eq_true (q_inR h hR)
theorem nI_cap {a b : Nat} (hb : b < 2 ^ 31) (ha : a ≤ b) : (nI a = nI b) = (a = b) := propext (nI_eq (by omega) hb)
theorem law_mast {o : q_H} {n : Nat} {g : Nat → Nat → Int32} (hR : q_R n g) (ho : q_oR o) (d : Nat) (x1 : Int32) (x2 : Int32) : ∃ v g1 g2, q_sem (d + 30) mX11_mast 0 [.ref 0, .int x1, .int x2, .retAddr 0] [] (q_K o g) = some (some (.int v), q_K o g1) ∧ q_sem (d + 30) mX12_mast 0 [.ref 98, .int x1, .int x2, .retAddr 0] [] (q_K o g1) = some (some (.int v), q_K o g2) ∧ q_R n g2 := by
  obtain ⟨⟨S, N, hr, hm, hk⟩, ha⟩ := id hR
  have hN := n_cnt_ma hr
  cases c1 : q_in x1 0 255
  · exact ⟨-1000001, q_fb g 1, q_fm (q_fb g 1) 1, by simp only [B_X11_mast_0, B_X11_mast_4, B_X11_mast_22, B_X11_mast_14, B_X11_mast_34, B_X11_mast_58, B_X11_mast_44, z_within, z_isCell, z_fin1, z_fin2, z_fin3, z_fin4, z_fin5, Option.bind_some, Option.toList_some, Option.toList_none, List.cons_append, List.nil_append, bI_t, bI_f, i10, i00, i11, i01, ↓reduceIte, Bool.false_eq_true, c1], (by have hm := repM_fb (k := 1) hm; simp only [B_X12_mast_0, B_X12_mast_4, B_X12_mast_23, B_X12_mast_14, B_X12_mast_41, y_in, y_isCell, y_fin1, y_fin2, y_fin3, y_fin4, y_fin5, Option.bind_some, Option.toList_some, Option.toList_none, List.cons_append, List.nil_append, bI_t, bI_f, i10, i00, i11, i01, ↓reduceIte, Bool.false_eq_true, c1]), R_fin hR (by decide)⟩
  cases c2 : q_in x2 1 15
  · exact ⟨-1000001, q_fb g 1, q_fm (q_fb g 1) 1, by simp only [B_X11_mast_0, B_X11_mast_4, B_X11_mast_22, B_X11_mast_14, B_X11_mast_34, B_X11_mast_58, B_X11_mast_44, z_within, z_isCell, z_fin1, z_fin2, z_fin3, z_fin4, z_fin5, Option.bind_some, Option.toList_some, Option.toList_none, List.cons_append, List.nil_append, bI_t, bI_f, i10, i00, i11, i01, ↓reduceIte, Bool.false_eq_true, c1, c2], (by have hm := repM_fb (k := 1) hm; simp only [B_X12_mast_0, B_X12_mast_4, B_X12_mast_23, B_X12_mast_14, B_X12_mast_41, y_in, y_isCell, y_fin1, y_fin2, y_fin3, y_fin4, y_fin5, Option.bind_some, Option.toList_some, Option.toList_none, List.cons_append, List.nil_append, bI_t, bI_f, i10, i00, i11, i01, ↓reduceIte, Bool.false_eq_true, c1, c2]), R_fin hR (by decide)⟩
  obtain ⟨c, hc, rfl⟩ := q_inc_t c1
  by_cases c3 : N 0 = 6
  · exact ⟨-1000004, q_fb g 4, q_fm (q_fb g 4) 4, by simp only [B_X11_mast_0, B_X11_mast_4, B_X11_mast_22, B_X11_mast_14, B_X11_mast_34, B_X11_mast_58, B_X11_mast_44, z_within, z_isCell, z_fin1, z_fin2, z_fin3, z_fin4, z_fin5, Option.bind_some, Option.toList_some, Option.toList_none, List.cons_append, List.nil_append, bI_t, bI_f, i10, i00, i11, i01, ↓reduceIte, Bool.false_eq_true, r_addF_ma hr c3, (by decide : ¬ (0 : Int32) ≤ -1), c1, c2], (by have hm := repM_fb (k := 4) hm; simp only [B_X12_mast_0, B_X12_mast_4, B_X12_mast_23, B_X12_mast_14, B_X12_mast_41, y_in, y_isCell, y_fin1, y_fin2, y_fin3, y_fin4, y_fin5, Option.bind_some, Option.toList_some, Option.toList_none, List.cons_append, List.nil_append, bI_t, bI_f, i10, i00, i11, i01, ↓reduceIte, Bool.false_eq_true, m_n0 hm, c3, (by decide : nI 6 = 6), c1, c2]), R_fin hR (by decide)⟩
  have c4 : N 0 < 6 := by omega
  have c5 : ¬ nI (N 0) = 6 := fun z => c3 ((nI_eq (by omega) (by decide)).mp z)
  have c6 : 0 ≤ nI (N 0) := nI_pos' (by omega)
  obtain ⟨g1, e1, hr1, hf1⟩ := r_add_ma (o := o) hr c4 (d + 27) (nI c)
  obtain ⟨g2, e2, hr2, hf2⟩ := r_w_ma1 (o := o) hr1 (i := N 0) (by rw [q_nu_eq]; omega) (d + 28) x2
  have hf := q_fr_tr hf1 hf2
  have hm2 := repM_fr1 hm hf
  have hS : ∀ f k, (k ≠ N 0 ∨ f < 1 ∨ 4 ≤ f) → q_up (q_an S 1 3 (N 0) (nI c)) 2 (N 0) x2 f k = S f k := fun f k z => by rw [q_up_ne (by omega), q_an_ne (by omega)]
  have v1 : q_up (q_an S 1 3 (N 0) (nI c)) 2 (N 0) x2 1 (N 0) = nI c := by rw [q_upN (by decide)]; simp [q_an]
  have v2 : q_up (q_an S 1 3 (N 0) (nI c)) 2 (N 0) x2 2 (N 0) = x2 := q_upE
  have v3 : q_up (q_an S 1 3 (N 0) (nI c)) 2 (N 0) x2 3 (N 0) = 0 := by rw [q_upN (by decide)]; simp [q_an]
  have hm3 : repM (q_up (q_up (q_up (q_up g2 101 (N 0) (nI c)) 102 (N 0) x2) 103 (N 0) 0) 100 0 (nI (N 0 + 1))) (q_up (q_an S 1 3 (N 0) (nI c)) 2 (N 0) x2) (q_nu N 0 (N 0 + 1)) :=
    m_gr_ma hm2 c4 hS (fun p k a b e => by rw [q_up_ne (by omega), q_up_ne (by omega), q_up_ne (by omega), q_up_ne (by omega)]) q_upE (by rw [v1, q_upN (by decide), q_upN (by decide), q_upN (by decide), q_upE]) (by rw [v2, q_upN (by decide), q_upN (by decide), q_upE]) (by rw [v3, q_upN (by decide), q_upE])
  refine ⟨nI (N 0), g2, _, ?_, ?_, R_st ha hr2 hf hm3 (fM_up (fM_up (fM_up (fM_up fM_rf (by decide)) (by decide)) (by decide)) (by decide)) (ok_gr_ma hk hS (by rw [v1]; exact q_ce_of hc))⟩
  · simp only [B_X11_mast_0, B_X11_mast_4, B_X11_mast_22, B_X11_mast_14, B_X11_mast_34, B_X11_mast_58, B_X11_mast_44, z_within, z_isCell, z_fin1, z_fin2, z_fin3, z_fin4, z_fin5, Option.bind_some, Option.toList_some, Option.toList_none, List.cons_append, List.nil_append, bI_t, bI_f, i10, i00, i11, i01, ↓reduceIte, Bool.false_eq_true, c1, c2, e1, c6, e2]
  · simp only [B_X12_mast_0, B_X12_mast_4, B_X12_mast_23, B_X12_mast_14, B_X12_mast_41, y_in, y_isCell, y_fin1, y_fin2, y_fin3, y_fin4, y_fin5, Option.bind_some, Option.toList_some, Option.toList_none, List.cons_append, List.nil_append, bI_t, bI_f, i10, i00, i11, i01, ↓reduceIte, Bool.false_eq_true, c1, c2, m_n0 hm2, c5, q_rgN c4 (by decide), q_upN (by decide : 100 ≠ 101), q_upN (by decide : 100 ≠ 102), q_upN (by decide : 100 ≠ 103), nI_1]
theorem law_jam {o : q_H} {n : Nat} {g : Nat → Nat → Int32} (hR : q_R n g) (ho : q_oR o) (d : Nat) (x1 : Int32) (x2 : Int32) : ∃ v g1 g2, q_sem (d + 30) mX11_jam 0 [.ref 0, .int x1, .int x2] [] (q_K o g) = some (some (.int v), q_K o g1) ∧ q_sem (d + 30) mX12_jam 0 [.ref 98, .int x1, .int x2, .retAddr 0] [] (q_K o g1) = some (some (.int v), q_K o g2) ∧ q_R n g2 := by
  obtain ⟨⟨S, N, hr, hm, hk⟩, ha⟩ := id hR
  have hN := n_cnt_ma hr
  cases c1 : q_hs x1 (N 0)
  · exact ⟨-1000001, q_fb g 1, q_fm (q_fb g 1) 1, by simp only [B_X11_jam_0, B_X11_jam_11, B_X11_jam_35, B_X11_jam_27, z_within, z_isCell, z_fin1, z_fin2, z_fin3, z_fin4, z_fin5, Option.bind_some, Option.toList_some, Option.toList_none, List.cons_append, List.nil_append, bI_t, bI_f, i10, i00, i11, i01, ↓reduceIte, Bool.false_eq_true, z_has_ma hr, c1], (by have hm := repM_fb (k := 1) hm; simp only [B_X12_jam_0, B_X12_jam_6, B_X12_jam_15, y_in, y_isCell, y_fin1, y_fin2, y_fin3, y_fin4, y_fin5, Option.bind_some, Option.toList_some, Option.toList_none, List.cons_append, List.nil_append, bI_t, bI_f, i10, i00, i11, i01, ↓reduceIte, Bool.false_eq_true, y_isOf0 hm, c1]), R_fin hR (by decide)⟩
  obtain ⟨i, hi, rfl⟩ := q_hs_t c1 (by omega)
  have key : ∀ v : Int32, ∃ g1, q_sem (d + 29) mX7_get 0 [.ref 2, .int (nI i), .int 2] [] (q_K o g) = some (some (.int (S 3 i)), q_K o g) ∧ q_sem (d + 28) mX7_write 0 [.ref 2, .int (nI i), .int 2, .int v] [] (q_K o g) = some (none, q_K o g1) ∧ repM g1 S N ∧ q_R n (q_up g1 103 i v) := by
    intro v
    obtain ⟨g1, e1, hr1, hf1⟩ := r_w_ma2 (o := o) hr hi (d + 27) v
    have hm1 := repM_fr1 hm hf1
    refine ⟨g1, ?_, e1, hm1, R_st ha hr1 hf1 (m_u3 hm1 i v) (fM_up fM_rf (by decide)) (ok_up3 hk)⟩
    rw [r_get_ma2 hr, q_at_in hi (by omega)]
  have e0 : q_sem (d + 28) mX7_get 0 [.ref 2, .int (nI i), .int 2] [] (q_K o g) = some (some (.int (S 3 i)), q_K o g) := by rw [r_get_ma2 hr, q_at_in hi (by omega)]
  have ht : q_is 2 5 := ⟨by decide, rfl⟩
  by_cases c2 : x2 = 0
  · obtain ⟨g1, _, e1, hm1, hR1⟩ := key 0
    refine ⟨if S 3 i = 0 then 0 else 1, g1, _, ?_, ?_, hR1⟩
    · simp only [B_X11_jam_0, B_X11_jam_11, B_X11_jam_35, B_X11_jam_27, z_within, z_isCell, z_fin1, z_fin2, z_fin3, z_fin4, z_fin5, Option.bind_some, Option.toList_some, Option.toList_none, List.cons_append, List.nil_append, bI_t, bI_f, i10, i00, i11, i01, ↓reduceIte, Bool.false_eq_true, z_has_ma hr, c1, B_X11_changed_0 ht, B_X11_changed_17 ht, B_X11_changed_27 ht, c2, e0, e1]
      by_cases c3 : S 3 i = 0 <;> simp only [c3, B_X11_jam_0, B_X11_jam_11, B_X11_jam_35, B_X11_jam_27, z_within, z_isCell, z_fin1, z_fin2, z_fin3, z_fin4, z_fin5, Option.bind_some, Option.toList_some, Option.toList_none, List.cons_append, List.nil_append, bI_t, bI_f, i10, i00, i11, i01, ↓reduceIte, Bool.false_eq_true]
    · simp only [B_X12_jam_0, B_X12_jam_6, B_X12_jam_15, y_in, y_isCell, y_fin1, y_fin2, y_fin3, y_fin4, y_fin5, Option.bind_some, Option.toList_some, Option.toList_none, List.cons_append, List.nil_append, bI_t, bI_f, i10, i00, i11, i01, ↓reduceIte, Bool.false_eq_true, y_isOf0 hm1, c1, c2, q_rgN (show i < 6 by omega) (by decide), m_f3 hm1 hi, q_upE]
      by_cases c3 : S 3 i = 0 <;> simp only [c3, B_X11_jam_0, B_X11_jam_11, B_X11_jam_35, B_X11_jam_27, z_within, z_isCell, z_fin1, z_fin2, z_fin3, z_fin4, z_fin5, Option.bind_some, Option.toList_some, Option.toList_none, List.cons_append, List.nil_append, bI_t, bI_f, i10, i00, i11, i01, ↓reduceIte, Bool.false_eq_true]
  · obtain ⟨g1, _, e1, hm1, hR1⟩ := key 1
    refine ⟨if S 3 i = 1 then 0 else 1, g1, _, ?_, ?_, hR1⟩
    · simp only [B_X11_jam_0, B_X11_jam_11, B_X11_jam_35, B_X11_jam_27, z_within, z_isCell, z_fin1, z_fin2, z_fin3, z_fin4, z_fin5, Option.bind_some, Option.toList_some, Option.toList_none, List.cons_append, List.nil_append, bI_t, bI_f, i10, i00, i11, i01, ↓reduceIte, Bool.false_eq_true, z_has_ma hr, c1, B_X11_changed_0 ht, B_X11_changed_17 ht, B_X11_changed_27 ht, c2, e0, e1]
      by_cases c3 : S 3 i = 1 <;> simp only [c3, B_X11_jam_0, B_X11_jam_11, B_X11_jam_35, B_X11_jam_27, z_within, z_isCell, z_fin1, z_fin2, z_fin3, z_fin4, z_fin5, Option.bind_some, Option.toList_some, Option.toList_none, List.cons_append, List.nil_append, bI_t, bI_f, i10, i00, i11, i01, ↓reduceIte, Bool.false_eq_true]
    · simp only [B_X12_jam_0, B_X12_jam_6, B_X12_jam_15, y_in, y_isCell, y_fin1, y_fin2, y_fin3, y_fin4, y_fin5, Option.bind_some, Option.toList_some, Option.toList_none, List.cons_append, List.nil_append, bI_t, bI_f, i10, i00, i11, i01, ↓reduceIte, Bool.false_eq_true, y_isOf0 hm1, c1, c2, q_rgN (show i < 6 by omega) (by decide), m_f3 hm1 hi, q_upE]
      by_cases c3 : S 3 i = 1 <;> simp only [c3, B_X11_jam_0, B_X11_jam_11, B_X11_jam_35, B_X11_jam_27, z_within, z_isCell, z_fin1, z_fin2, z_fin3, z_fin4, z_fin5, Option.bind_some, Option.toList_some, Option.toList_none, List.cons_append, List.nil_append, bI_t, bI_f, i10, i00, i11, i01, ↓reduceIte, Bool.false_eq_true]
theorem law_watched {o : q_H} {n : Nat} {g : Nat → Nat → Int32} (hR : q_R n g) (ho : q_oR o) (d : Nat) (x1 : Int32) : ∃ v g1 g2, q_sem (d + 30) mX11_watched 0 [.ref 0, .int x1] [] (q_K o g) = some (some (.int v), q_K o g1) ∧ q_sem (d + 30) mX12_watched 0 [.ref 98, .int x1] [] (q_K o g1) = some (some (.int v), q_K o g2) ∧ q_R n g2 := by
  obtain ⟨⟨S, N, hr, hm, hk⟩, ha⟩ := id hR
  cases c1 : q_in x1 0 255
  · exact ⟨-1000001, q_fb g 1, q_fm (q_fb g 1) 1, by simp only [B_X11_watched_0, B_X11_watched_4, B_X11_watched_12, B_X11_watched_21, B_X11_watched_37, z_within, z_isCell, z_fin1, z_fin2, z_fin3, z_fin4, z_fin5, Option.bind_some, Option.toList_some, Option.toList_none, List.cons_append, List.nil_append, bI_t, bI_f, i10, i00, i11, i01, ↓reduceIte, Bool.false_eq_true, c1], (by have hm := repM_fb (k := 1) hm; simp only [B_X12_watched_0, B_X12_watched_4, B_X12_watched_21, B_X12_watched_12, y_in, y_isCell, y_fin1, y_fin2, y_fin3, y_fin4, y_fin5, Option.bind_some, Option.toList_some, Option.toList_none, List.cons_append, List.nil_append, bI_t, bI_f, i10, i00, i11, i01, ↓reduceIte, Bool.false_eq_true, c1]), R_fin hR (by decide)⟩
  obtain ⟨c, hc, rfl⟩ := q_inc_t c1
  refine ⟨q_wat S N c, g, g, ?_, ?_, hR⟩
  · simp only [B_X11_watched_0, B_X11_watched_4, B_X11_watched_12, B_X11_watched_21, B_X11_watched_37, z_within, z_isCell, z_fin1, z_fin2, z_fin3, z_fin4, z_fin5, Option.bind_some, Option.toList_some, Option.toList_none, List.cons_append, List.nil_append, bI_t, bI_f, i10, i00, i11, i01, ↓reduceIte, Bool.false_eq_true, c1, z_isSeen hr hk.1 hc, z_isHeard hr hk.1 hc, q_wat]
    cases q_se S N c <;> cases q_he S N c <;> simp [bI]
  · simp only [B_X12_watched_0, B_X12_watched_4, B_X12_watched_21, B_X12_watched_12, y_in, y_isCell, y_fin1, y_fin2, y_fin3, y_fin4, y_fin5, Option.bind_some, Option.toList_some, Option.toList_none, List.cons_append, List.nil_append, bI_t, bI_f, i10, i00, i11, i01, ↓reduceIte, Bool.false_eq_true, c1, m_watch hm hk.1 hc]
theorem law_townIs {o : q_H} {n : Nat} {g : Nat → Nat → Int32} (hR : q_R n g) (ho : q_oR o) (d : Nat) (x1 : Int32) (x2 : Int32) : ∃ v g1 g2, q_sem (d + 30) mX11_townIs 0 [.ref 0, .int x1, .int x2] [] (q_K o g) = some (some (.int v), q_K o g1) ∧ q_sem (d + 30) mX12_townIs 0 [.ref 98, .int x1, .int x2] [] (q_K o g1) = some (some (.int v), q_K o g2) ∧ q_R n g2 := by
  obtain ⟨⟨S, N, hr, hm, hk⟩, ha⟩ := id hR
  have hN := n_cnt_to hr
  cases c1 : q_hs x1 (N 4)
  · exact ⟨-1000001, q_fb g 1, q_fm (q_fb g 1) 1, by simp only [B_X11_townIs_0, B_X11_townIs_11, B_X11_townIs_28, B_X11_townIs_20, B_X11_townIs_50, B_X11_townIs_68, B_X11_townIs_53, z_within, z_isCell, z_fin1, z_fin2, z_fin3, z_fin4, z_fin5, Option.bind_some, Option.toList_some, Option.toList_none, List.cons_append, List.nil_append, bI_t, bI_f, i10, i00, i11, i01, ↓reduceIte, Bool.false_eq_true, z_has_to hr, c1], (by have hm := repM_fb (k := 1) hm; simp only [B_X12_townIs_0, B_X12_townIs_6, B_X12_townIs_24, B_X12_townIs_15, B_X12_townIs_85, y_in, y_isCell, y_fin1, y_fin2, y_fin3, y_fin4, y_fin5, Option.bind_some, Option.toList_some, Option.toList_none, List.cons_append, List.nil_append, bI_t, bI_f, i10, i00, i11, i01, ↓reduceIte, Bool.false_eq_true, y_isOf4 hm, c1]), R_fin hR (by decide)⟩
  cases c2 : q_in x2 0 4
  · exact ⟨-1000001, q_fb g 1, q_fm (q_fb g 1) 1, by simp only [B_X11_townIs_0, B_X11_townIs_11, B_X11_townIs_28, B_X11_townIs_20, B_X11_townIs_50, B_X11_townIs_68, B_X11_townIs_53, z_within, z_isCell, z_fin1, z_fin2, z_fin3, z_fin4, z_fin5, Option.bind_some, Option.toList_some, Option.toList_none, List.cons_append, List.nil_append, bI_t, bI_f, i10, i00, i11, i01, ↓reduceIte, Bool.false_eq_true, z_has_to hr, c1, c2], (by have hm := repM_fb (k := 1) hm; simp only [B_X12_townIs_0, B_X12_townIs_6, B_X12_townIs_24, B_X12_townIs_15, B_X12_townIs_85, y_in, y_isCell, y_fin1, y_fin2, y_fin3, y_fin4, y_fin5, Option.bind_some, Option.toList_some, Option.toList_none, List.cons_append, List.nil_append, bI_t, bI_f, i10, i00, i11, i01, ↓reduceIte, Bool.false_eq_true, y_isOf4 hm, c1, c2]), R_fin hR (by decide)⟩
  obtain ⟨i, hi, rfl⟩ := q_hs_t c1 (by omega)
  have ht2 := hk.1.2.2.2.2.1 i hi
  have hI := q_atI hi (by omega)
  rcases q_in4c c2 with rfl | rfl | rfl | rfl | rfl
  · refine ⟨S 10 i, g, g, ?_, ?_, hR⟩
    · simp only [B_X11_townIs_0, B_X11_townIs_11, B_X11_townIs_28, B_X11_townIs_20, B_X11_townIs_50, B_X11_townIs_68, B_X11_townIs_53, z_within, z_isCell, z_fin1, z_fin2, z_fin3, z_fin4, z_fin5, Option.bind_some, Option.toList_some, Option.toList_none, List.cons_append, List.nil_append, bI_t, bI_f, i10, i00, i11, i01, ↓reduceIte, Bool.false_eq_true, z_has_to hr, c1, c2, r_get_to0 hr, hI, (by decide : ¬ (0 : Int32) = 4)]
    · simp only [B_X12_townIs_0, B_X12_townIs_6, B_X12_townIs_24, B_X12_townIs_15, B_X12_townIs_85, y_in, y_isCell, y_fin1, y_fin2, y_fin3, y_fin4, y_fin5, Option.bind_some, Option.toList_some, Option.toList_none, List.cons_append, List.nil_append, bI_t, bI_f, i10, i00, i11, i01, ↓reduceIte, Bool.false_eq_true, y_isOf4 hm, c1, c2, q_rgN (show i < 6 by omega) (show 6 < 2 ^ 31 by decide), m_f10 hm hi]
  · refine ⟨S 11 i, g, g, ?_, ?_, hR⟩
    · simp only [B_X11_townIs_0, B_X11_townIs_11, B_X11_townIs_28, B_X11_townIs_20, B_X11_townIs_50, B_X11_townIs_68, B_X11_townIs_53, z_within, z_isCell, z_fin1, z_fin2, z_fin3, z_fin4, z_fin5, Option.bind_some, Option.toList_some, Option.toList_none, List.cons_append, List.nil_append, bI_t, bI_f, i10, i00, i11, i01, ↓reduceIte, Bool.false_eq_true, z_has_to hr, c1, c2, r_get_to1 hr, hI, (by decide : ¬ (1 : Int32) = 4)]
    · simp only [B_X12_townIs_0, B_X12_townIs_6, B_X12_townIs_24, B_X12_townIs_15, B_X12_townIs_85, y_in, y_isCell, y_fin1, y_fin2, y_fin3, y_fin4, y_fin5, Option.bind_some, Option.toList_some, Option.toList_none, List.cons_append, List.nil_append, bI_t, bI_f, i10, i00, i11, i01, ↓reduceIte, Bool.false_eq_true, y_isOf4 hm, c1, c2, q_rgN (show i < 6 by omega) (show 6 < 2 ^ 31 by decide), m_f11 hm hi]
  · refine ⟨S 12 i, g, g, ?_, ?_, hR⟩
    · simp only [B_X11_townIs_0, B_X11_townIs_11, B_X11_townIs_28, B_X11_townIs_20, B_X11_townIs_50, B_X11_townIs_68, B_X11_townIs_53, z_within, z_isCell, z_fin1, z_fin2, z_fin3, z_fin4, z_fin5, Option.bind_some, Option.toList_some, Option.toList_none, List.cons_append, List.nil_append, bI_t, bI_f, i10, i00, i11, i01, ↓reduceIte, Bool.false_eq_true, z_has_to hr, c1, c2, r_get_to2 hr, hI, (by decide : ¬ (2 : Int32) = 4)]
    · simp only [B_X12_townIs_0, B_X12_townIs_6, B_X12_townIs_24, B_X12_townIs_15, B_X12_townIs_85, y_in, y_isCell, y_fin1, y_fin2, y_fin3, y_fin4, y_fin5, Option.bind_some, Option.toList_some, Option.toList_none, List.cons_append, List.nil_append, bI_t, bI_f, i10, i00, i11, i01, ↓reduceIte, Bool.false_eq_true, y_isOf4 hm, c1, c2, (by decide : ¬ (2 : Int32) = 0), (by decide : ¬ (2 : Int32) = 1), q_rgN (show i < 6 by omega) (show 6 < 2 ^ 31 by decide), m_f12 hm hi]
  · refine ⟨S 13 i, g, g, ?_, ?_, hR⟩
    · simp only [B_X11_townIs_0, B_X11_townIs_11, B_X11_townIs_28, B_X11_townIs_20, B_X11_townIs_50, B_X11_townIs_68, B_X11_townIs_53, z_within, z_isCell, z_fin1, z_fin2, z_fin3, z_fin4, z_fin5, Option.bind_some, Option.toList_some, Option.toList_none, List.cons_append, List.nil_append, bI_t, bI_f, i10, i00, i11, i01, ↓reduceIte, Bool.false_eq_true, z_has_to hr, c1, c2, r_get_to3 hr, hI, (by decide : ¬ (3 : Int32) = 4)]
    · simp only [B_X12_townIs_0, B_X12_townIs_6, B_X12_townIs_24, B_X12_townIs_15, B_X12_townIs_85, y_in, y_isCell, y_fin1, y_fin2, y_fin3, y_fin4, y_fin5, Option.bind_some, Option.toList_some, Option.toList_none, List.cons_append, List.nil_append, bI_t, bI_f, i10, i00, i11, i01, ↓reduceIte, Bool.false_eq_true, y_isOf4 hm, c1, c2, (by decide : ¬ (3 : Int32) = 0), (by decide : ¬ (3 : Int32) = 1), (by decide : ¬ (3 : Int32) = 2), q_rgN (show i < 6 by omega) (show 6 < 2 ^ 31 by decide), m_f13 hm hi]
  · refine ⟨q_near S N i, g, g, ?_, ?_, hR⟩
    · have e1 := ht2.2
      have e2 := c_nearestRaid (o := o) hr hk.1 ho (d + 26) ht2.1
      rw [← e1] at e2
      simp only [B_X11_townIs_0, B_X11_townIs_11, B_X11_townIs_28, B_X11_townIs_20, B_X11_townIs_50, B_X11_townIs_68, B_X11_townIs_53, z_within, z_isCell, z_fin1, z_fin2, z_fin3, z_fin4, z_fin5, Option.bind_some, Option.toList_some, Option.toList_none, List.cons_append, List.nil_append, bI_t, bI_f, i10, i00, i11, i01, ↓reduceIte, Bool.false_eq_true, z_has_to hr, c1, c2, r_get_to0 hr, hI, e2, q_near]
    · simp only [B_X12_townIs_0, B_X12_townIs_6, B_X12_townIs_24, B_X12_townIs_15, B_X12_townIs_85, y_in, y_isCell, y_fin1, y_fin2, y_fin3, y_fin4, y_fin5, Option.bind_some, Option.toList_some, Option.toList_none, List.cons_append, List.nil_append, bI_t, bI_f, i10, i00, i11, i01, ↓reduceIte, Bool.false_eq_true, y_isOf4 hm, c1, c2, (by decide : ¬ (4 : Int32) = 0), (by decide : ¬ (4 : Int32) = 1), (by decide : ¬ (4 : Int32) = 2), (by decide : ¬ (4 : Int32) = 3), m_nearest hm hk.1 hi]
end LLD
