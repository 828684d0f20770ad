/-! towns that wail, who is hostile, who is kept down, when two meet -/
theorem q_if_cases (S : Nat → Nat → Int32) (u m : Int32) : ∀ n, q_if S u m n = -1 ∨ ∃ r, r < n ∧ q_if S u m n = nI r
  | 0 => Or.inl rfl
  | n + 1 => by
    unfold q_if
    split
    · exact Or.inr ⟨n, Nat.lt_succ_self n, rfl⟩
    · rcases q_if_cases S u m n with h | ⟨r, h1, h2⟩
      · exact Or.inl h
      · exact Or.inr ⟨r, by omega, h2⟩
def q_near (S : Nat → Nat → Int32) (N : Nat → Nat) (t : Nat) : Int32 := q_fo (q_nrB S (q_cl2 (S 10 t))) 0 (N 5) 99
def q_wl (S : Nat → Nat → Int32) (N : Nat → Nat) (t : Nat) : Int32 := if q_if S 0 (S 0 7) (N 6) < 0 then (if q_near S N t < 3 then 1 else 0) else (if q_wo S (q_cl2 (q_if S 0 (S 0 7) (N 6))) (q_near S N t) (q_fo (q_mrB S) 0 (N 5) 0) (S 0 9) (S 0 7) = 0 then 0 else 1)
def q_ho (S : Nat → Nat → Int32) (N : Nat → Nat) (i : Nat) : Int32 := if q_if S 1 (S 0 7) (N 6) < 0 then (if S 14 i < 3 then 1 else 0) else (if q_wo S (q_cl2 (q_if S 1 (S 0 7) (N 6))) (S 17 i) (S 16 i) (S 24 i) (S 19 i) = 0 then 0 else 1)
def q_kd2 (v : Int32) : Int32 := if 0 < (if 16 < v then 16 else v) then (if 16 < v then 16 else v) else 0
def q_kpd (S : Nat → Nat → Int32) (N : Nat → Nat) : Int32 := if q_if S 2 (S 0 7) (N 6) < 0 then 0 else q_kd2 (q_wo S (q_cl2 (q_if S 2 (S 0 7) (N 6))) (q_fo (q_hmB S 4 1) 0 (N 5) 0) (q_fo (q_hmB S 4 0) 0 (N 5) 0) 0 0)
/-- from minute k on, n at most: when they meet -/
def q_mt (way : Nat) (pace ah : Int32) : Nat → Nat → Nat → Int32 → Nat → Int32
  | 0, _, _, _, _ => -1
  | n + 1, k, c, h, a => if q_fl a way pace < 0 then -1 else (if ah ≤ q_cl h ah ∧ nI (q_ap (q_sp (q_sp c (q_cl2 (q_fl a way pace))) (q_cl2 (q_fl a way pace))) (q_cl2 (q_fl a way pace))) ≤ 1 then nI k else q_mt way pace ah n (k + 1) (q_sp (q_sp c (q_cl2 (q_fl a way pace))) (q_cl2 (q_fl a way pace))) (q_cl h ah) (q_cl2 (q_fl a way pace)))
theorem q_fl_cell {c w : Nat} {p : Int32} (h : ¬ q_fl c w p < 0) : q_ce (q_fl c w p) := by
  unfold q_fl at h ⊢
  split at h
  · rename_i hh
    rw [if_pos hh]
    obtain ⟨⟨a1, a2⟩, b1, b2⟩ := hh
    obtain ⟨x, hx, ex⟩ := nI_of2 (n := 15) (M := 15) (by decide) (show ¬ q_fX c w p < 0 by rw [q_leN]; exact a1) a2
    obtain ⟨y, hy, ey⟩ := nI_of2 (n := 15) (M := 15) (by decide) (show ¬ q_fY c w p < 0 by rw [q_leN]; exact b1) b2
    rw [ex, ey, show (16 : Int32) = nI 16 from rfl, pk_mul, nI_add]
    exact q_ce_of (by omega)
  · exact absurd (by decide) h
/-- how many minutes the two need; -1: they don't meet -/
def q_mm (S : Nat → Nat → Int32) (i j : Nat) : Int32 := if 0 < S 22 i ∧ 0 < S 21 i then q_mt (q_cl2 (S 18 j)) (S 17 j) (S 16 j) (min 60 (q_cl2 (S 21 i))) 1 (q_cl2 (S 15 i)) (S 16 i) (q_cl2 (S 15 j)) else -1
section QWP
variable {o : q_H} {w : Nat} {g S : Nat → Nat → Int32} {N : Nat → Nat}
theorem c_wails (hr : repC w g S N) (hf : q_wf S N) (hv : q_rw S N) (ho : q_oR o) (d : Nat) {t : Nat} (ht : t < N 4) : ∃ g2, q_sem (d + 4) mX10_wails 0 [.ref w, .int (nI t), .retAddr 0, .retAddr 0] [] (q_K o g) = some (some (.int (q_wl S N t)), q_K o g2) ∧ repC w g2 S N ∧ q_fr w g g2 := by
  have hw := hr.1
  have hN := n_cnt_to hr
  have hN6 := n_cnt_ru hr
  have hc := hf.2.2.2.2.1 t ht
  have e1 : q_at S (N 4) 10 (nI t) = nI (q_cl2 (S 10 t)) := (q_at_in ht (by omega)).trans hc.2
  have em := hr.2.2.2.1
  have ew := hr.2.2.2.2.1
  unfold q_wl q_near
  rcases q_if_cases S 0 (S 0 7) (N 6) with h | ⟨r, hrN, h⟩
  · refine ⟨g, ?_, hr, q_fr_rf⟩
    rw [h]
    simp only [B_X10_wails_0 hw, B_X10_wails_10 hw, B_X10_wails_13 hw, B_X10_wails_26 hw, B_X10_wails_54 hw, B_X10_wails_65 hw, w_get_to0 hr, w_get_to1 hr, w_get_to2 hr, w_get_to3 hr, w_size_to hr, w_has_to hr, w_full_to hr, Option.bind_some, Option.toList_some, Option.toList_none, List.cons_append, List.nil_append, e1, c_nearestRaid hr hf ho _ hc.1, c_inForce hr, em, h, (by decide : ¬ (0 : Int32) ≤ -1), (by decide : (-1 : Int32) < 0), ↓reduceIte, ← q_ltN]
    by_cases h3 : 3 ≤ q_fo (q_nrB S (q_cl2 (S 10 t))) 0 (N 5) 99 <;> simp [h3]
  · obtain ⟨g2, e2, hr2, hf2⟩ := c_worth (o := o) hr hv (d + 1) hrN (q_fo (q_nrB S (q_cl2 (S 10 t))) 0 (N 5) 99) (q_fo (q_mrB S) 0 (N 5) 0) (S 0 9) (S 0 7)
    refine ⟨g2, ?_, hr2, hf2⟩
    have c1 : 0 ≤ nI r := nI_pos' (by omega)
    have c2 : ¬ nI r < 0 := nI_pos (by omega)
    rw [h, show q_cl2 (nI r) = r from nI_clamp (by omega), if_neg c2]
    simp only [B_X10_wails_0 hw, B_X10_wails_10 hw, B_X10_wails_13 hw, B_X10_wails_26 hw, B_X10_wails_54 hw, B_X10_wails_65 hw, w_get_to0 hr, w_get_to1 hr, w_get_to2 hr, w_get_to3 hr, w_size_to hr, w_has_to hr, w_full_to hr, Option.bind_some, Option.toList_some, Option.toList_none, List.cons_append, List.nil_append, e1, c_nearestRaid hr hf ho _ hc.1, c_inForce hr, c_manyOfRaids hr hf ho, em, ew, h, c1, ↓reduceIte, e2]
    split <;> rfl
theorem c_isHostile (hr : repC w g S N) (hf : q_wf S N) (hv : q_rw S N) (ho : q_oR o) (d : Nat) {i : Nat} (hi : i < N 5) : ∃ g2, q_sem (d + 4) mX10_isHostile 0 [.ref w, .int (nI i), .retAddr 0] [] (q_K o g) = some (some (.int (q_ho S N i)), q_K o g2) ∧ repC w g2 S N ∧ q_fr w g g2 := by
  have hw := hr.1
  have hN := n_cnt_fl hr
  have hN6 := n_cnt_ru hr
  have em := hr.2.2.2.1
  have e14 : q_at S (N 5) 14 (nI i) = S 14 i := q_at_in hi (by omega)
  have e16 : q_at S (N 5) 16 (nI i) = S 16 i := q_at_in hi (by omega)
  have e17 : q_at S (N 5) 17 (nI i) = S 17 i := q_at_in hi (by omega)
  have e19 : q_at S (N 5) 19 (nI i) = S 19 i := q_at_in hi (by omega)
  have e24 : q_at S (N 5) 24 (nI i) = S 24 i := q_at_in hi (by omega)
  unfold q_ho
  rcases q_if_cases S 1 (S 0 7) (N 6) with h | ⟨r, hrN, h⟩
  · refine ⟨g, ?_, hr, q_fr_rf⟩
    rw [h]
    simp only [B_X10_isHostile_0 hw, B_X10_isHostile_12 hw, B_X10_isHostile_46 hw, B_X10_isHostile_23 hw, B_X10_isHostile_55 hw, B_X10_isHostile_65 hw, B_X10_isHostile_74 hw, B_X10_isHostile_77 hw, w_get_fl0 hr, w_get_fl1 hr, w_get_fl2 hr, w_get_fl3 hr, w_get_fl4 hr, w_get_fl5 hr, w_get_fl6 hr, w_get_fl7 hr, w_get_fl8 hr, w_get_fl9 hr, w_get_fl10 hr, w_get_fl11 hr, w_size_fl hr, w_has_fl hr, w_full_fl hr, Option.bind_some, Option.toList_some, Option.toList_none, List.cons_append, List.nil_append, e14, c_isA3 hr hf ho, c_inForce hr, em, h, (by decide : ¬ (0 : Int32) ≤ -1), (by decide : (-1 : Int32) < 0), ↓reduceIte]
    by_cases h3 : S 14 i < 3 <;> simp [h3]
  · obtain ⟨g2, e2, hr2, hf2⟩ := c_worth (o := o) hr hv (d + 1) hrN (S 17 i) (S 16 i) (S 24 i) (S 19 i)
    refine ⟨g2, ?_, hr2, hf2⟩
    have c1 : 0 ≤ nI r := nI_pos' (by omega)
    have c2 : ¬ nI r < 0 := nI_pos (by omega)
    rw [h, show q_cl2 (nI r) = r from nI_clamp (by omega), if_neg c2]
    simp only [B_X10_isHostile_0 hw, B_X10_isHostile_12 hw, B_X10_isHostile_46 hw, B_X10_isHostile_23 hw, B_X10_isHostile_55 hw, B_X10_isHostile_65 hw, B_X10_isHostile_74 hw, B_X10_isHostile_77 hw, w_get_fl0 hr, w_get_fl1 hr, w_get_fl2 hr, w_get_fl3 hr, w_get_fl4 hr, w_get_fl5 hr, w_get_fl6 hr, w_get_fl7 hr, w_get_fl8 hr, w_get_fl9 hr, w_get_fl10 hr, w_get_fl11 hr, w_size_fl hr, w_has_fl hr, w_full_fl hr, Option.bind_some, Option.toList_some, Option.toList_none, List.cons_append, List.nil_append, e16, e17, e19, e24, c_inForce hr, em, h, c1, ↓reduceIte, e2]
    split <;> rfl
theorem c_keptDown (hr : repC w g S N) (hf : q_wf S N) (hv : q_rw S N) (ho : q_oR o) (d : Nat) : ∃ g2, q_sem (d + 4) mX10_keptDown 0 [.ref w, .retAddr 0, .retAddr 0] [] (q_K o g) = some (some (.int (q_kpd S N)), q_K o g2) ∧ repC w g2 S N ∧ q_fr w g g2 := by
  have hw := hr.1
  have hN6 := n_cnt_ru hr
  have em := hr.2.2.2.1
  unfold q_kpd
  have k1 : ∀ d, q_sem (d + 3) mX10_howMany 0 [.ref w, .int 4, .int 1, .retAddr 0, .retAddr 0] [] (q_K o g) = _ := fun d => c_howMany hr hf ho d (a := 4) (by decide) 1
  have k2 : ∀ d, q_sem (d + 3) mX10_howMany 0 [.ref w, .int 4, .int 0, .retAddr 0, .retAddr 0] [] (q_K o g) = _ := fun d => c_howMany hr hf ho d (a := 4) (by decide) 0
  rcases q_if_cases S 2 (S 0 7) (N 6) with h | ⟨r, hrN, h⟩
  · refine ⟨g, ?_, hr, q_fr_rf⟩
    rw [h]
    simp only [B_X10_keptDown_0 hw, B_X10_keptDown_12 hw, B_X10_keptDown_30 hw, B_X10_keptDown_36 hw, B_X10_keptDown_41 hw, Option.bind_some, Option.toList_some, Option.toList_none, List.cons_append, List.nil_append, c_inForce hr, em, h, (by decide : ¬ (0 : Int32) ≤ -1), (by decide : (-1 : Int32) < 0), ↓reduceIte]
  · obtain ⟨g2, e2, hr2, hf2⟩ := c_worth (o := o) hr hv (d + 1) hrN (q_fo (q_hmB S 4 1) 0 (N 5) 0) (q_fo (q_hmB S 4 0) 0 (N 5) 0) 0 0
    refine ⟨g2, ?_, hr2, hf2⟩
    have c1 : 0 ≤ nI r := nI_pos' (by omega)
    have c2 : ¬ nI r < 0 := nI_pos (by omega)
    rw [h, show q_cl2 (nI r) = r from nI_clamp (by omega), if_neg c2]
    simp only [B_X10_keptDown_0 hw, B_X10_keptDown_12 hw, B_X10_keptDown_30 hw, B_X10_keptDown_36 hw, B_X10_keptDown_41 hw, Option.bind_some, Option.toList_some, Option.toList_none, List.cons_append, List.nil_append, c_inForce hr, em, h, c1, ↓reduceIte, e2, k1, k2, q_kd2]
theorem c_mtm_l (hr : repC w g S N) (hf : q_wf S N) (ho : q_oR o) (d : Nat) {j n : Nat} (hj : j < N 5) (hn : n ≤ 60) (x1 : Int32) : ∀ m k c a h, k + m = n + 1 → 1 ≤ k → c < 256 → a < 256 → q_sem (d + 4) mX10_minutesToMeet 73 [.ref w, .int x1, .int (nI j), .int (nI n), .int (nI c), .int h, .int (nI a), .int (S 16 j), .int (nI k)] [] (q_K o g) = some (some (.int (q_mt (q_cl2 (S 18 j)) (S 17 j) (S 16 j) m k c h a)), q_K o g) := by
  have hw := hr.1
  have hN := n_cnt_fl hr
  obtain ⟨y, hy, ey⟩ := (hf.2.2.2.2.2.1 j hj).2.2.1
  have e18 : q_at S (N 5) 18 (nI j) = nI y := (q_at_in hj (by omega)).trans ey
  have e17 : q_at S (N 5) 17 (nI j) = S 17 j := q_at_in hj (by omega)
  have ey2 : q_cl2 (S 18 j) = y := by rw [ey]; exact nI_clamp (by omega)
  rw [ey2]
  intro m
  induction m with
  | zero =>
    intro k c a h hk _ _ _
    have c1 : nI n < nI k := nI_lt (by omega) (by omega)
    rw [B_X10_minutesToMeet_73 hw, if_pos c1]
    rfl
  | succ m ih =>
    intro k c a h hk hk1 hc ha
    have c1 : ¬ nI n < nI k := nI_nlt (by omega) (by omega)
    rw [B_X10_minutesToMeet_73 hw, if_neg c1]
    have hfl := s_flown (o := o) (g := g) (d + 1) ho ha hy (S 17 j)
    unfold q_mt
    by_cases h0 : q_fl a y (S 17 j) < 0
    · have h0' : ¬ 0 ≤ q_fl a y (S 17 j) := by rw [q_ltN]; exact h0
      simp only [B_X10_minutesToMeet_0 hw, B_X10_minutesToMeet_5 hw, B_X10_minutesToMeet_22 hw, B_X10_minutesToMeet_35 hw, B_X10_minutesToMeet_46 hw, B_X10_minutesToMeet_57 hw, B_X10_minutesToMeet_68 hw, B_X10_minutesToMeet_90 hw, B_X10_minutesToMeet_99 hw, B_X10_minutesToMeet_102 hw, B_X10_minutesToMeet_118 hw, B_X10_minutesToMeet_127 hw, B_X10_minutesToMeet_140 hw, w_get_fl0 hr, w_get_fl1 hr, w_get_fl2 hr, w_get_fl3 hr, w_get_fl4 hr, w_get_fl5 hr, w_get_fl6 hr, w_get_fl7 hr, w_get_fl8 hr, w_get_fl9 hr, w_get_fl10 hr, w_get_fl11 hr, w_size_fl hr, w_has_fl hr, w_full_fl hr, Option.bind_some, Option.toList_some, Option.toList_none, List.cons_append, List.nil_append, e18, e17, hfl, h0, h0', ↓reduceIte]
    · have h0' : 0 ≤ q_fl a y (S 17 j) := by rw [← q_leN]; exact h0
      have hce := q_fl_cell h0
      have e9 := hce.2
      rw [if_neg h0]
      generalize hb : q_cl2 (q_fl a y (S 17 j)) = b at hce e9
      have hb2 : b < 256 := by rw [← hb]; exact hce.1
      rw [e9] at h0' hfl
      have hsp : q_sp (q_sp c b) b < 256 := q_spB (q_spB hc hb2) hb2
      simp only [B_X10_minutesToMeet_0 hw, B_X10_minutesToMeet_5 hw, B_X10_minutesToMeet_22 hw, B_X10_minutesToMeet_35 hw, B_X10_minutesToMeet_46 hw, B_X10_minutesToMeet_57 hw, B_X10_minutesToMeet_68 hw, B_X10_minutesToMeet_90 hw, B_X10_minutesToMeet_99 hw, B_X10_minutesToMeet_102 hw, B_X10_minutesToMeet_118 hw, B_X10_minutesToMeet_127 hw, B_X10_minutesToMeet_140 hw, w_get_fl0 hr, w_get_fl1 hr, w_get_fl2 hr, w_get_fl3 hr, w_get_fl4 hr, w_get_fl5 hr, w_get_fl6 hr, w_get_fl7 hr, w_get_fl8 hr, w_get_fl9 hr, w_get_fl10 hr, w_get_fl11 hr, w_size_fl hr, w_has_fl hr, w_full_fl hr, Option.bind_some, Option.toList_some, Option.toList_none, List.cons_append, List.nil_append, e18, e17, hfl, h0', ↓reduceIte, s_climbed, s_nearer _ hc hb2, c_meets hsp hb2, q_i0]
      by_cases h2 : S 16 j ≤ q_cl h (S 16 j) ∧ nI (q_ap (q_sp (q_sp c b) b) b) ≤ 1
      · simp only [h2, and_self, ↓reduceIte, not_true_eq_false]
      · simp only [h2, ↓reduceIte, not_false_eq_true, nI_1]
        exact ih (k + 1) _ _ _ (by omega) (by omega) hsp hb2
theorem c_minutesToMeet (hr : repC w g S N) (hf : q_wf S N) (ho : q_oR o) (d : Nat) {i j : Nat} (hi : i < N 5) (hj : j < N 5) (hfu : S 21 i = nI (q_cl2 (S 21 i)) ∧ q_cl2 (S 21 i) < 100) : q_sem (d + 4) mX10_minutesToMeet 0 [.ref w, .int (nI i), .int (nI j), .retAddr 0, .retAddr 0, .retAddr 0, .retAddr 0, .retAddr 0, .retAddr 0] [] (q_K o g) = some (some (.int (q_mm S i j)), q_K o g) := by
  have hw := hr.1
  have hN := n_cnt_fl hr
  have h1 := (hf.2.2.2.2.2.1 i hi).1
  have h2 := (hf.2.2.2.2.2.1 j hj).1
  have e15 : q_at S (N 5) 15 (nI i) = nI (q_cl2 (S 15 i)) := (q_at_in hi (by omega)).trans h1.2
  have f15 : q_at S (N 5) 15 (nI j) = nI (q_cl2 (S 15 j)) := (q_at_in hj (by omega)).trans h2.2
  have e16 : q_at S (N 5) 16 (nI i) = S 16 i := q_at_in hi (by omega)
  have f16 : q_at S (N 5) 16 (nI j) = S 16 j := q_at_in hj (by omega)
  have e21 : q_at S (N 5) 21 (nI i) = S 21 i := q_at_in hi (by omega)
  have e22 : q_at S (N 5) 22 (nI i) = S 22 i := q_at_in hi (by omega)
  have e60 : (if S 21 i < 60 then S 21 i else 60) = nI (min 60 (q_cl2 (S 21 i))) := by
    rw [hfu.1, show q_cl2 (nI (q_cl2 (S 21 i))) = q_cl2 (S 21 i) from nI_clamp (by omega)]
    by_cases h : q_cl2 (S 21 i) < 60
    · rw [if_pos ((by decide : (60 : Int32) = nI 60) ▸ nI_lt h (by omega)), Nat.min_eq_right (by omega)]
    · rw [if_neg ((by decide : (60 : Int32) = nI 60) ▸ nI_nlt (by omega) (by omega)), Nat.min_eq_left (by omega)]
      rfl
  unfold q_mm
  simp only [B_X10_minutesToMeet_0 hw, B_X10_minutesToMeet_5 hw, B_X10_minutesToMeet_22 hw, B_X10_minutesToMeet_35 hw, B_X10_minutesToMeet_46 hw, B_X10_minutesToMeet_57 hw, B_X10_minutesToMeet_68 hw, B_X10_minutesToMeet_90 hw, B_X10_minutesToMeet_99 hw, B_X10_minutesToMeet_102 hw, B_X10_minutesToMeet_118 hw, B_X10_minutesToMeet_127 hw, B_X10_minutesToMeet_140 hw, w_get_fl0 hr, w_get_fl1 hr, w_get_fl2 hr, w_get_fl3 hr, w_get_fl4 hr, w_get_fl5 hr, w_get_fl6 hr, w_get_fl7 hr, w_get_fl8 hr, w_get_fl9 hr, w_get_fl10 hr, w_get_fl11 hr, w_size_fl hr, w_has_fl hr, w_full_fl hr, Option.bind_some, Option.toList_some, Option.toList_none, List.cons_append, List.nil_append, c_isArmed hr, e15, f15, e16, f16, e21, e22, q_i0]
  by_cases h3 : 0 < S 22 i ∧ 0 < S 21 i
  · simp only [h3, and_self, ↓reduceIte, not_true_eq_false, e60]
    exact c_mtm_l hr hf ho d hj (by omega) (nI i) _ 1 _ _ _ (by omega) (by omega) h1.1 h2.1
  · simp only [h3, ↓reduceIte, not_false_eq_true]
end QWP
