/-! tracking -/
theorem f_in9 : ∀ n, n < 25 → q_in (nI n) 1 9 = decide (1 ≤ n ∧ n ≤ 9) := by decide +kernel
theorem q_neg2 {x : Int32} (h1 : -2 ≤ x) (h2 : x < 0) : x = -1 ∨ x = -2 := by
  rw [Int32.le_iff_toInt_le] at h1
  rw [Int32.lt_iff_toInt_lt] at h2
  have e1 : (-2 : Int32).toInt = -2 := by decide
  have e2 : (0 : Int32).toInt = 0 := by decide
  rw [e1] at h1; rw [e2] at h2
  have : x.toInt = -1 ∨ x.toInt = -2 := by omega
  rcases this with h | h
  · exact Or.inl (Int32.toInt_inj.mp (h.trans (by decide)))
  · exact Or.inr (Int32.toInt_inj.mp (h.trans (by decide)))
theorem q_io_pos {g : Nat → Nat → Int32} {t i : Nat} {v : Int32} : ∀ n r, (∀ j, r ≤ j → j < i → g (t + 1) j ≠ v) → r ≤ i → i < r + n → g (t + 1) i = v → q_io g t 1 v n r = nI i
  | 0, r, _, a, b, _ => by omega
  | n + 1, r, h, a, b, e => by
    show (if g (t + 1) (r * 1 + 0) = v then nI r else q_io g t 1 v n (r + 1)) = _
    rw [show r * 1 + 0 = r by omega]
    by_cases q : r = i
    · rw [q, if_pos e]
    · rw [if_neg (h r (Nat.le_refl _) (by omega))]
      exact q_io_pos n (r + 1) (fun j a b => h j (by omega) b) (by omega) (by omega) e
section TRL
variable {o : q_H} {g S : Nat → Nat → Int32} {N : Nat → Nat}
theorem z_bc24 (d : Nat) {s : Nat} (h : s < 2 ^ 24) : q_sem d mJ6_bitCount_0f7a4 0 [.int (nI s)] [] (q_K o g) = some (some (.int (nI (q_c24 s))), q_K o g) := z_bitCount d h
theorem z_partner {R C : Nat} {P : Nat → Nat} (h1 : q_ti g 79 9 1 R) (h2 : q_ti g 75 9 1 C) (hP : ∀ i, i < C → g 76 i = nI (P i)) {r c : Nat} (hr : r < R) (hv : g 80 r = if c < C then nI c else -1) (d : Nat) : q_sem (d + 2) mX1_partner 0 [.ref 72, .int (nI r), .retAddr 0] [] (q_K o g) = some (some (.int (q_val C P c)), q_K o g) := by
  have hR9 := h1.2.2.2
  have hC9 := h2.2.2.2
  have b1 : (0 ≤ nI r ∧ nI r < nI R) := ⟨nI_pos' (by omega), nI_lt hr (by omega)⟩
  have b2 : ¬ (0 ≤ (-1 : Int32) ∧ (-1 : Int32) < nI C) := fun z => absurd z.1 (by decide)
  rw [B_X1_partner_0, s_has _ q_tb79, h1.2.2.1, if_pos b1]
  simp only [Option.bind_some, Option.toList_some, Option.toList_none, List.cons_append, List.nil_append, B_X1_partner_8, (by decide : ¬ (1 : Int32) = 0), ↓reduceIte, z_get1 q_tb79 h1 hr, show g (79 + 1) r = _ from hv, B_X1_partner_20, s_has _ q_tb75, h2.2.2.1]
  unfold q_val
  by_cases hc : c < C
  · have b3 : (0 ≤ nI c ∧ nI c < nI C) := ⟨nI_pos' (by omega), nI_lt hc (by omega)⟩
    simp only [hc, ↓reduceIte, b3, and_self, B_X1_partner_33, (by decide : ¬ (1 : Int32) = 0), z_get1 q_tb75 h2 hc, show g (75 + 1) c = _ from hP c hc, Option.bind_some, Option.toList_some, Option.toList_none, List.cons_append, List.nil_append, B_X1_partner_8, B_X1_partner_33, B_X1_partner_20, B_X1_partner_45]
  · simp only [hc, ↓reduceIte, b2, B_X1_partner_33]
theorem m_find {R p : Nat} {P : Nat → Nat} (hR : R ≤ 9) (hm : ∀ i, i < R → g 138 i = nI (P i)) (hP : ∀ i, i < R → P i < 24) {k : Nat} (hk : k < R) (hkp : P k = p) (hinj : ∀ i, i < k → P i ≠ p) (d : Nat) (x1 : Int32) : ∀ t i, i + t = k → q_sem d mX12_tracking 119 [.ref 98, .int x1, .int (nI p), .int (nI i)] [] (q_K o g) = some (some (.int (g 140 k)), q_K o g) := by
  have hp : p < 24 := by rw [← hkp]; exact hP k hk
  intro t
  induction t with
  | zero =>
    intro i hi
    obtain rfl : i = k := by omega
    rw [B_X12_tracking_119, q_rgN (show i < 9 by omega) (by decide), hm i hk, hkp, if_pos rfl, q_rgN (show i < 9 by omega) (by decide)]
  | succ t ih =>
    intro i hi
    have h1 := hP i (by omega)
    rw [B_X12_tracking_119, q_rgN (show i < 9 by omega) (by decide), hm i (by omega), if_neg (fun z => hinj i (by omega) ((nI_eq (by omega) (by omega)).mp z)), nI_1]
    exact ih (i + 1) (by omega)
end TRL
theorem law_tracking {o : q_H} {n : Nat} {g : Nat → Nat → Int32} (hR : q_R n g) (ho : q_oR o) (d : Nat) (x1 : Int32) (x2 : Int32) : ∃ v g1 g2, q_sem (d + 30) mX11_tracking 0 [.ref 0, .int x1, .int x2] [] (q_K o g) = some (some (.int v), q_K o g1) ∧ q_sem (d + 30) mX12_tracking 0 [.ref 98, .int x1, .int x2, .retAddr 0] [] (q_K o g1) = some (some (.int v), q_K o g2) ∧ q_R n g2 := by
  obtain ⟨⟨S, N, hr, hm, hk⟩, ha⟩ := id hR
  have hN : N 2 ≤ 24 := m_c2 hm
  have hN24 : 2 ^ N 2 ≤ 2 ^ 24 := Nat.pow_le_pow_right (by decide) hN
  by_cases c1 : x1.toBitVec.toNat < 2 ^ N 2
  rotate_left
  · exact ⟨-1000001, q_fb g 1, q_fm (q_fb g 1) 1, by simp only [B_X11_tracking_0, B_X11_tracking_5, B_X11_tracking_19, B_X11_tracking_24, B_X11_tracking_30, B_X11_tracking_38, B_X11_tracking_62, B_X11_tracking_48, B_X11_tracking_71, B_X11_tracking_56, B_X11_tracking_80, B_X11_tracking_102, B_X11_tracking_120, B_X11_tracking_87, B_X11_tracking_123, z_within, z_isCell, z_fin1, z_fin2, z_fin3, z_fin4, z_fin5, Option.bind_some, Option.toList_some, Option.toList_none, List.cons_append, List.nil_append, bI_t, bI_f, i10, i00, i11, i01, ↓reduceIte, Bool.false_eq_true, z_arePlots hr hN, c1], (by have hm := repM_fb (k := 1) hm; simp only [B_X12_tracking_0, B_X12_tracking_5, B_X12_tracking_20, B_X12_tracking_25, B_X12_tracking_31, B_X12_tracking_40, B_X12_tracking_75, B_X12_tracking_69, B_X12_tracking_96, y_in, y_isCell, y_fin1, y_fin2, y_fin3, y_fin4, y_fin5, Option.bind_some, Option.toList_some, Option.toList_none, List.cons_append, List.nil_append, bI_t, bI_f, i10, i00, i11, i01, ↓reduceIte, Bool.false_eq_true, m_isTold hm hN, c1]), R_fin hR (by decide)⟩
  by_cases c2 : -2 ≤ x2
  rotate_left
  · exact ⟨-1000001, q_fb g 1, q_fm (q_fb g 1) 1, by simp only [B_X11_tracking_0, B_X11_tracking_5, B_X11_tracking_19, B_X11_tracking_24, B_X11_tracking_30, B_X11_tracking_38, B_X11_tracking_62, B_X11_tracking_48, B_X11_tracking_71, B_X11_tracking_56, B_X11_tracking_80, B_X11_tracking_102, B_X11_tracking_120, B_X11_tracking_87, B_X11_tracking_123, z_within, z_isCell, z_fin1, z_fin2, z_fin3, z_fin4, z_fin5, Option.bind_some, Option.toList_some, Option.toList_none, List.cons_append, List.nil_append, bI_t, bI_f, i10, i00, i11, i01, ↓reduceIte, Bool.false_eq_true, z_arePlots hr hN, (by decide : ¬ (1 : Int32) = 0), c1, c2], (by have hm := repM_fb (k := 1) hm; simp only [B_X12_tracking_0, B_X12_tracking_5, B_X12_tracking_20, B_X12_tracking_25, B_X12_tracking_31, B_X12_tracking_40, B_X12_tracking_75, B_X12_tracking_69, B_X12_tracking_96, y_in, y_isCell, y_fin1, y_fin2, y_fin3, y_fin4, y_fin5, Option.bind_some, Option.toList_some, Option.toList_none, List.cons_append, List.nil_append, bI_t, bI_f, i10, i00, i11, i01, ↓reduceIte, Bool.false_eq_true, m_isTold hm hN, (by decide : ¬ (1 : Int32) = 0), c1, c2]), R_fin hR (by decide)⟩
  obtain ⟨s, hs, rfl⟩ := (q_sto_iff x1 hN).mpr c1
  have hs24 : s < 2 ^ 24 := by omega
  have hcn := c24_n hs hN
  have hle := q_cnt_le (fun i => s.testBit i) 24
  have hc24 : q_c24 s < 25 := Nat.lt_succ_of_le hle
  by_cases c3 : 1 ≤ q_c24 s ∧ q_c24 s ≤ 9
  rotate_left
  · exact ⟨-1000005, q_fb g 5, q_fm (q_fb g 5) 5, by simp only [B_X11_tracking_0, B_X11_tracking_5, B_X11_tracking_19, B_X11_tracking_24, B_X11_tracking_30, B_X11_tracking_38, B_X11_tracking_62, B_X11_tracking_48, B_X11_tracking_71, B_X11_tracking_56, B_X11_tracking_80, B_X11_tracking_102, B_X11_tracking_120, B_X11_tracking_87, B_X11_tracking_123, z_within, z_isCell, z_fin1, z_fin2, z_fin3, z_fin4, z_fin5, Option.bind_some, Option.toList_some, Option.toList_none, List.cons_append, List.nil_append, bI_t, bI_f, i10, i00, i11, i01, ↓reduceIte, Bool.false_eq_true, z_arePlots hr hN, (by decide : ¬ (1 : Int32) = 0), z_bc24 _ hs24, f_in9 _ hc24, decide_eq_false c3, c1, c2], (by have hm := repM_fb (k := 5) hm; simp only [B_X12_tracking_0, B_X12_tracking_5, B_X12_tracking_20, B_X12_tracking_25, B_X12_tracking_31, B_X12_tracking_40, B_X12_tracking_75, B_X12_tracking_69, B_X12_tracking_96, y_in, y_isCell, y_fin1, y_fin2, y_fin3, y_fin4, y_fin5, Option.bind_some, Option.toList_some, Option.toList_none, List.cons_append, List.nil_append, bI_t, bI_f, i10, i00, i11, i01, ↓reduceIte, Bool.false_eq_true, m_isTold hm hN, (by decide : ¬ (1 : Int32) = 0), m_ones24 _ hs24, f_in9 _ hc24, decide_eq_false c3, c1, c2]), R_fin hR (by decide)⟩
  -- one of the set, if a plot is asked for
  have e1002 : g 100 2 = nI (N 2) := hm.2.2.2.1 2 (by decide)
  by_cases c4 : x2 < 0 ∨ ∃ p, p < N 2 ∧ x2 = nI p ∧ s.testBit p = true
  rotate_left
  · have c5 : ¬ x2 < 0 := fun z => c4 (Or.inl z)
    obtain ⟨p, hp, rfl⟩ := nI_of c5
    have hiI : ∀ d, q_sem (d + 2) mX11_isIn 0 [.int (nI s), .int (nI p)] [] (q_K o g) = some (some (.int 0), q_K o g) := fun d => by
      by_cases q : p < 32
      · rw [z_isIn hs24 q]
        have : s.testBit p = false := by
          by_cases q2 : p < N 2
          · cases e : s.testBit p
            · rfl
            · exact absurd (Or.inr ⟨p, q2, rfl, e⟩) c4
          · exact Nat.testBit_lt_two_pow (Nat.lt_of_lt_of_le hs (Nat.pow_le_pow_right (by decide) (by omega)))
        rw [this]; rfl
      · refine z_isInO ?_ d
        cases e : q_in (nI p) 0 31
        · rfl
        · obtain ⟨i, _, h2, h3⟩ := q_in_t (a := 0) (b := 31) e (by decide) (by decide)
          have := (nI_eq hp (by omega)).mp h3
          omega
    refine ⟨-1000002, q_fb g 2, q_fm (q_fb g 2) 2, ?_, ?_, R_fin hR (by decide)⟩
    · simp only [B_X11_tracking_0, B_X11_tracking_5, B_X11_tracking_19, B_X11_tracking_24, B_X11_tracking_30, B_X11_tracking_38, B_X11_tracking_62, B_X11_tracking_48, B_X11_tracking_71, B_X11_tracking_56, B_X11_tracking_80, B_X11_tracking_102, B_X11_tracking_120, B_X11_tracking_87, B_X11_tracking_123, z_within, z_isCell, z_fin1, z_fin2, z_fin3, z_fin4, z_fin5, Option.bind_some, Option.toList_some, Option.toList_none, List.cons_append, List.nil_append, bI_t, bI_f, i10, i00, i11, i01, ↓reduceIte, Bool.false_eq_true, z_arePlots hr hN, (by decide : ¬ (1 : Int32) = 0), z_bc24 _ hs24, f_in9 _ hc24, decide_eq_true c3, c1, c2, c5, hiI]
    · have hm := repM_fb (k := 2) hm
      have e1002 : q_fb g 2 100 2 = nI (N 2) := hm.2.2.2.1 2 (by decide)
      by_cases q2 : p < N 2
      · have hb : s.testBit p = false := by
          cases e : s.testBit p
          · rfl
          · exact absurd (Or.inr ⟨p, q2, rfl, e⟩) c4
        have q3 : ¬ nI (N 2) ≤ nI p := nI_ge q2 (by omega)
        simp only [B_X12_tracking_0, B_X12_tracking_5, B_X12_tracking_20, B_X12_tracking_25, B_X12_tracking_31, B_X12_tracking_40, B_X12_tracking_75, B_X12_tracking_69, B_X12_tracking_96, y_in, y_isCell, y_fin1, y_fin2, y_fin3, y_fin4, y_fin5, Option.bind_some, Option.toList_some, Option.toList_none, List.cons_append, List.nil_append, bI_t, bI_f, i10, i00, i11, i01, ↓reduceIte, Bool.false_eq_true, m_isTold hm hN, (by decide : ¬ (1 : Int32) = 0), m_ones24 _ hs24, f_in9 _ hc24, decide_eq_true c3, c1, c2, c5, e1002, q3, bit24 hs24 (show p < 32 by omega), hb, show nI 0 = 0 from rfl]
      · have q3 : nI (N 2) ≤ nI p := nI_le (by omega) hp
        simp only [B_X12_tracking_0, B_X12_tracking_5, B_X12_tracking_20, B_X12_tracking_25, B_X12_tracking_31, B_X12_tracking_40, B_X12_tracking_75, B_X12_tracking_69, B_X12_tracking_96, y_in, y_isCell, y_fin1, y_fin2, y_fin3, y_fin4, y_fin5, Option.bind_some, Option.toList_some, Option.toList_none, List.cons_append, List.nil_append, bI_t, bI_f, i10, i00, i11, i01, ↓reduceIte, Bool.false_eq_true, m_isTold hm hN, (by decide : ¬ (1 : Int32) = 0), m_ones24 _ hs24, f_in9 _ hc24, decide_eq_true c3, c1, c2, c5, e1002, q3]
  -- both searches
  have hcnt : q_cnt (fun i => s.testBit i) (N 2) = q_c24 s := hcn.symm
  have hPs : ∀ i, i < q_c24 s → q_pos (fun i => s.testBit i) (N 2) i < N 2 := fun i hi => (pos_spec (by omega)).1
  have hPk : ∀ p, p < N 2 → s.testBit p = true → q_cnt (fun i => s.testBit i) p < q_c24 s ∧ q_pos (fun i => s.testBit i) (N 2) (q_cnt (fun i => s.testBit i) p) = p ∧ ∀ i, i < q_cnt (fun i => s.testBit i) p → q_pos (fun i => s.testBit i) (N 2) i ≠ p := by
    intro p hp hb
    have h1 := pos_of (f := fun i => s.testBit i) hp hb
    have h2 : q_cnt (fun i => s.testBit i) p < q_cnt (fun i => s.testBit i) (N 2) := by
      have := cnt_mono (fun i => s.testBit i) (show p + 1 ≤ N 2 by omega)
      rw [cnt_s, hb, if_pos rfl] at this
      omega
    refine ⟨by omega, h1, fun i hi z => ?_⟩
    have := (pos_spec (f := fun i => s.testBit i) (n := N 2) (i := i) (by omega)).2.2
    rw [z] at this
    omega
  obtain ⟨g1, e1, t73, t75, t77, v1, m1, f1⟩ := z_mp (o := o) hr hk.1 hN hs24 hcnt c3.2 ha.2.2.2.2.2 (d + 23)
  obtain ⟨r79, t79⟩ := ha.2.2.2.2.2 (79, 9, 1) (by decide)
  obtain ⟨r81, t81⟩ := ha.2.2.2.2.2 (81, 10, 1) (by decide)
  generalize hPdef : q_pos (fun i => s.testBit i) (N 2) = P at *
  have hW15 : ∀ r c w, q_cut (q_c24 s) (q_c24 s) (q_fol S P) r c = some w → w ≤ 15 := fun r c w h => by
    unfold q_cut at h
    split at h
    · next hc => exact fol_le hk.1 hPs hc.1 hc.2 h
    · simp at h
  obtain ⟨g2, e2, u81, u79, s7, s8, p80, f2⟩ := z_solve (o := o) (g := g1) (L := 9) (R := q_c24 s) (C := q_c24 s) (cost := q_cut (q_c24 s) (q_c24 s) (q_fol S P)) (fun r c w h => Nat.le_trans (hW15 r c w h) (by decide)) ⟨ti_fr t73 (fun k => q_upN (by decide)), ti_fr t75 (fun k => q_upN (by decide)), ti_fr t77 (fun k => q_upN (by decide)), fun r c a b => (q_upN (by decide)).trans (m1 r c a b), q_upE⟩ (ti_fr t81 (fun k => f1 _ _ (by omega))) (ti_fr t79 (fun k => f1 _ _ (by omega))) (d + 23)
  have f12 : ∀ p j, ¬ (72 ≤ p ∧ p < 84) → g2 p j = g p j := fun p j a => (f2 p j (by omega) (by omega)).trans (f1 p j (by omega))
  have htis : q_tis g2 := by
    intro q hq
    simp only [q_scr, List.mem_cons, List.not_mem_nil, or_false] at hq
    rcases hq with rfl | rfl | rfl | rfl | rfl | rfl | rfl | rfl | rfl
    · exact ⟨_, ti_fr t73 (fun k => f2 _ _ (by omega) (by decide))⟩
    · exact ⟨_, ti_fr t75 (fun k => f2 _ _ (by omega) (by decide))⟩
    · exact ⟨_, ti_fr t77 (fun k => f2 _ _ (by omega) (by decide))⟩
    · exact ⟨_, u79⟩
    · exact ⟨_, u81⟩
    · obtain ⟨r, hr⟩ := ha.2.2.2.2.2 (85, 10, 1) (by decide); exact ⟨r, ti_fr hr (fun k => f12 _ _ (by decide))⟩
    · obtain ⟨r, hr⟩ := ha.2.2.2.2.2 (87, 10, 1) (by decide); exact ⟨r, ti_fr hr (fun k => f12 _ _ (by decide))⟩
    · obtain ⟨r, hr⟩ := ha.2.2.2.2.2 (89, 11, 7) (by decide); exact ⟨r, ti_fr hr (fun k => f12 _ _ (by decide))⟩
    · obtain ⟨r, hr⟩ := ha.2.2.2.2.2 (92, 8, 1) (by decide); exact ⟨r, ti_fr hr (fun k => f12 _ _ (by decide))⟩
  have hR2 : q_R n g2 := R_scr hR htis (fun p k a _ _ => f12 p k (by omega))
  have hm2 : repM g2 S N := m_fr hm (fun p a b j => f12 _ _ (by omega))
  obtain ⟨h1, e3, k45, k138, f3⟩ := m_takes (o := o) hm2 hs24 (by omega) (d + 29)
  rw [hcnt] at k45 k138
  rw [hPdef] at k138
  have f3' : ∀ p j, ¬ (p = 98 ∧ (j = 46 ∨ j = 47)) → q_up (q_up h1 98 46 99) 98 47 1000000000 p j = h1 p j := fun p j a => by rw [q_up_ne (by omega), q_up_ne (by omega)]
  obtain ⟨h2, e4, b4, y4, _, _, f4⟩ := m_tracks (o := o) (S := S) (N := N) (R := q_c24 s) (P := P) hk.1 c3.2 hPs (d + 25 - q_c24 s) (q_c24 s) 0 0 0 0 9900000 (q_up (q_up h1 98 46 99) 98 47 1000000000) (by omega) (by decide) (by decide) (by omega) ⟨m_fr hm2 (fun p a b j => (f3' _ _ (by omega)).trans (f3 _ _ (by omega) (by omega))), (f3' _ _ (by decide)).trans k45, fun i hi => (f3' _ _ (by omega)).trans (k138 i hi)⟩ ⟨99, 1000000000, by rw [q_upJ (by decide), q_upE]; rfl, by rw [q_upE]; rfl, by decide, by decide, Or.inr ⟨rfl, rfl⟩⟩
  rw [show d + 25 - q_c24 s + q_c24 s + 4 = d + 29 by omega] at e4
  have hV := q_V_le (cost := q_cut (q_c24 s) (q_c24 s) (q_fol S P)) (L := 9) (C := q_c24 s) (q_c24 s) 0 0
  obtain ⟨hS1, hS2, hS3⟩ := q_tS_eq (L := 9) (C := q_c24 s) hW15 (q_c24 s) 0 0
  have hlt : 100000 * 0 + 0 + q_V (q_cut (q_c24 s) (q_c24 s) (q_fol S P)) 9 (q_c24 s) (q_c24 s) 0 0 < 9900000 := by omega
  rw [if_pos hlt] at b4
  obtain ⟨f, l, h46, h47, _, _, hKK⟩ := b4
  have hal : (q_tS (q_cut (q_c24 s) (q_c24 s) (q_fol S P)) 9 (q_c24 s) (q_c24 s) 0 0).1 = f ∧ (q_tS (q_cut (q_c24 s) (q_c24 s) (q_fol S P)) 9 (q_c24 s) (q_c24 s) 0 0).2 = l := by omega
  have ff : ∀ p j, ¬ (138 ≤ p ∧ p ≠ 149) → ¬ (p = 98 ∧ 39 ≤ j ∧ j ≠ 68) → h2 p j = g2 p j := fun p j a b => by rw [f4 p j (by omega) (by omega) (by omega), f3' p j (by omega), f3 p j (by omega) (by omega)]
  have hRh : q_R n h2 := R_scr hR2 (tis_fr htis (fun p k z => ff p k (by omega) (by omega))) (fun p k a b c => ff p k b c)
  -- the class up to the answer, the Model up to the answer
  have cls : ∀ A, q_sem (d + 30) mX11_tracking 71 [.ref 0, .int (nI s), .int x2] [] (q_K o g2) = A → q_sem (d + 30) mX11_tracking 0 [.ref 0, .int (nI s), .int x2] [] (q_K o g) = A := by
    intro A hA
    simp only [B_X11_tracking_0, B_X11_tracking_5, B_X11_tracking_24, B_X11_tracking_30, z_within, z_isCell, z_fin1, z_fin2, z_fin3, z_fin4, z_fin5, Option.bind_some, Option.toList_some, Option.toList_none, List.cons_append, List.nil_append, bI_t, bI_f, i10, i00, i11, i01, ↓reduceIte, Bool.false_eq_true, z_arePlots hr hN, (by decide : ¬ (1 : Int32) = 0), z_bc24 _ hs24, f_in9 _ hc24, decide_eq_true c3, c1, c2]
    rcases c4 with c5 | ⟨p, hp, rfl, hb⟩
    · simp only [c5, ↓reduceIte, e1, Option.bind_some, Option.toList_some, Option.toList_none, List.cons_append, List.nil_append, B_X11_tracking_62, e2]; exact hA
    · simp only [nI_pos (show p < 2 ^ 31 by omega), ↓reduceIte, z_isIn hs24 (show p < 32 by omega), hb, z_within, z_isCell, z_fin1, z_fin2, z_fin3, z_fin4, z_fin5, Option.bind_some, Option.toList_some, Option.toList_none, List.cons_append, List.nil_append, bI_t, bI_f, i10, i00, i11, i01, ↓reduceIte, Bool.false_eq_true, B_X11_tracking_48, e1, B_X11_tracking_62, e2]; exact hA
  have mdl : ∀ A, q_sem (d + 30) mX12_tracking 96 [.ref 98, .int (nI s), .int x2, .retAddr 0] [] (q_K o h2) = A → q_sem (d + 30) mX12_tracking 0 [.ref 98, .int (nI s), .int x2, .retAddr 0] [] (q_K o g2) = A := by
    intro A hA
    have e1002' : g2 100 2 = nI (N 2) := hm2.2.2.2.1 2 (by decide)
    have e4' : q_sem (d + 29) mX12_tracks 0 [.ref 98, .int 0, .int 0, .int 0, .int 0, .retAddr 0] [] (q_K o (q_up (q_up h1 98 46 99) 98 47 1000000000)) = some (none, q_K o h2) := e4
    simp only [B_X12_tracking_0, B_X12_tracking_5, B_X12_tracking_25, B_X12_tracking_31, y_in, y_isCell, y_fin1, y_fin2, y_fin3, y_fin4, y_fin5, Option.bind_some, Option.toList_some, Option.toList_none, List.cons_append, List.nil_append, bI_t, bI_f, i10, i00, i11, i01, ↓reduceIte, Bool.false_eq_true, m_isTold hm2 hN, (by decide : ¬ (1 : Int32) = 0), m_ones24 _ hs24, f_in9 _ hc24, decide_eq_true c3, c1, c2]
    rcases c4 with c5 | ⟨p, hp, rfl, hb⟩
    · simp only [c5, ↓reduceIte, e3, Option.bind_some, Option.toList_some, Option.toList_none, List.cons_append, List.nil_append, B_X12_tracking_75, e4']; exact hA
    · simp only [nI_pos (show p < 2 ^ 31 by omega), ↓reduceIte, e1002', nI_ge hp (show N 2 < 2 ^ 31 by omega), bit24 hs24 (show p < 32 by omega), hb, show ¬ nI 1 = 0 by decide, e3, Option.bind_some, Option.toList_some, Option.toList_none, List.cons_append, List.nil_append, B_X12_tracking_75, e4']; exact hA
  rcases c4 with c5 | ⟨p, hp, rfl, hb⟩
  · rcases q_neg2 c2 c5 with rfl | rfl
    · refine ⟨nI f, g2, h2, cls _ ?_, mdl _ ?_, hRh⟩
      · rw [B_X11_tracking_71, if_pos rfl, z_bc24 _ hs24]
        simp only [Option.bind_some, Option.toList_some, Option.toList_none, List.cons_append, List.nil_append, B_X11_tracking_80, B_X1_pairs_0, s8, B_X11_tracking_87]
        have hfin : q_c24 s - (q_c24 s - (q_tS (q_cut (q_c24 s) (q_c24 s) (q_fol S P)) 9 (q_c24 s) (q_c24 s) 0 0).1) = f := by omega
        rw [nI_sub (by omega), hfin]
      · rw [B_X12_tracking_96, if_neg (by decide), if_pos rfl, h46]
    · refine ⟨nI l, g2, h2, cls _ ?_, mdl _ ?_, hRh⟩
      · rw [B_X11_tracking_71, if_neg (by decide), if_pos rfl, B_X1_sum_0]
        simp only [Option.bind_some, Option.toList_some, Option.toList_none, List.cons_append, List.nil_append, s7, hal.2, B_X11_tracking_5, B_X11_tracking_19, B_X11_tracking_24, B_X11_tracking_30, B_X11_tracking_38, B_X11_tracking_62, B_X11_tracking_48, B_X11_tracking_71, B_X11_tracking_56, B_X11_tracking_80, B_X11_tracking_102, B_X11_tracking_120, B_X11_tracking_87, B_X11_tracking_123]
      · rw [B_X12_tracking_96, if_neg (by decide), if_neg (by decide), h47]
  · obtain ⟨k1, k2, k3⟩ := hPk p hp hb
    generalize q_cnt (fun i => s.testBit i) p = k at *
    have hidx : q_io g2 73 1 (nI p) (q_c24 s) 0 = nI k := q_io_pos _ _ (fun j a b => by
      rw [f2 _ _ (by omega) (by omega), (v1 j (by omega)).1]
      intro z
      have := hPs j (by omega)
      exact k3 j b ((nI_eq (by omega) (by omega)).mp z)) (Nat.zero_le _) (by omega) (by rw [f2 _ _ (by omega) (by omega), (v1 k k1).1, k2])
    have hpa := fun d => z_partner (o := o) (g := g2) (P := P) u79 (ti_fr t75 (fun k => f2 _ _ (by omega) (by decide))) (fun i hi => (f2 _ _ (by omega) (by decide)).trans (v1 i hi).2) k1 (p80 k k1) d
    refine ⟨q_val (q_c24 s) P (q_mP (q_cut (q_c24 s) (q_c24 s) (q_fol S P)) 9 (q_c24 s) (q_c24 s) 0 0 k), g2, h2, cls _ ?_, mdl _ ?_, hRh⟩
    · have n1 : ¬ nI p = -1 := fun z => absurd (show (0 : Int32) ≤ nI p from nI_pos' (by omega)) (by rw [z]; decide)
      have n2 : ¬ nI p = -2 := fun z => absurd (show (0 : Int32) ≤ nI p from nI_pos' (by omega)) (by rw [z]; decide)
      rw [B_X11_tracking_71, if_neg n1, if_neg n2, s_indexOf _ q_tb73 (ti_fr t73 (fun k => f2 _ _ (by omega) (by decide))), hidx]
      simp only [Option.bind_some, Option.toList_some, Option.toList_none, List.cons_append, List.nil_append, B_X11_tracking_120, hpa, B_X11_tracking_5, B_X11_tracking_19, B_X11_tracking_24, B_X11_tracking_30, B_X11_tracking_38, B_X11_tracking_62, B_X11_tracking_48, B_X11_tracking_71, B_X11_tracking_56, B_X11_tracking_80, B_X11_tracking_102, B_X11_tracking_120, B_X11_tracking_87, B_X11_tracking_123]
    · have y5 := y4 hlt k k1
      rw [if_neg (Nat.not_lt_zero _)] at y5
      rw [B_X12_tracking_96, if_pos (nI_pos' (by omega)), ← y5]
      exact m_find (o := o) c3.2 (fun i hi => by rw [f4 _ _ (by decide) (by decide) (by omega), f3' _ _ (by omega)]; exact k138 i hi) (fun i hi => by have := hPs i hi; omega) k1 k2 k3 (d + 30) (nI s) k 0 (by omega)
