/-! meeting; copies of all; image, restore, ahead -/
section MMT
variable {o : q_H} {g S : Nat → Nat → Int32} {N : Nat → Nat}
def q_mtm (S : Nat → Nat → Int32) (v : Int32) : Int32 := if v < 0 then -1 else S 0 7 + v
theorem m_meets_l (hm : repM g S N) (hf : q_wf S N) (ho : q_oR o) {i j n fu : Nat} (hi : i < N 5) (hj : j < N 5) (ef : S 21 i = nI fu) (hfu : fu < 100) (hn : n = min 60 fu) (d : Nat) : ∀ m k c a h, k + m = n + 1 → 1 ≤ k → c < 256 → a < 256 → q_sem (d + 4) mX12_meets 46 [.ref 98, .int (nI i), .int (nI j), .int (nI c), .int h, .int (nI a), .int (nI k)] [] (q_K o g) = some (some (.int (q_mtm S (q_mt (q_cl2 (S 18 j)) (S 17 j) (S 16 j) m k c h a))), q_K o g) := by
  have hN := m_c5 hm
  intro m
  induction m with
  | zero =>
    intro k c a h hk hk1 hc ha
    rw [B_X12_meets_46]
    have e0 : q_mtm S (q_mt (q_cl2 (S 18 j)) (S 17 j) (S 16 j) 0 k c h a) = -1 := by unfold q_mt q_mtm; rw [if_pos (by decide)]
    rw [e0]
    by_cases c1 : 60 < k
    · rw [if_pos ((by decide : (60 : Int32) = nI 60) ▸ nI_lt c1 (by omega))]
    · rw [if_neg ((by decide : (60 : Int32) = nI 60) ▸ nI_nlt (by omega) (by omega)), q_rgN (show i < 16 by omega) (by decide), m_f21 hm hi, ef, if_pos (nI_lt (by omega) (by omega))]
  | succ m ih =>
    intro k c a h hk hk1 hc ha
    have c1 : ¬ (60 : Int32) < nI k := (by decide : (60 : Int32) = nI 60) ▸ nI_nlt (by omega) (by omega)
    have c2 : ¬ nI fu < nI k := nI_nlt (by omega) (by omega)
    have eo := m_onward (o := o) hm hf ho hj ha (d + 1)
    rw [B_X12_meets_46, if_neg c1, q_rgN (show i < 16 by omega) (by decide), m_f21 hm hi, ef, if_neg c2, eo]
    simp only [Option.bind_some, Option.toList_some, Option.toList_none, List.cons_append, List.nil_append, B_X12_meets_71]
    unfold q_mt
    by_cases h0 : q_fl a (q_cl2 (S 18 j)) (S 17 j) < 0
    · have h0' : ¬ 0 ≤ q_fl a (q_cl2 (S 18 j)) (S 17 j) := by rw [q_ltN]; exact h0
      rw [if_neg h0', if_pos h0]
      unfold q_mtm
      rw [if_pos (by decide)]
    · have h0' : 0 ≤ q_fl a (q_cl2 (S 18 j)) (S 17 j) := by rw [← q_leN]; exact h0
      have hce := q_fl_cell h0
      have e9 := hce.2
      rw [if_neg h0, if_pos h0']
      generalize hb : q_cl2 (q_fl a (q_cl2 (S 18 j)) (S 17 j)) = b at hce e9
      have hb2 : b < 256 := by rw [← hb]; exact hce.1
      rw [e9]
      have hsp : q_sp (q_sp c b) b < 256 := q_spB (q_spB hc hb2) hb2
      simp only [q_rgN (show j < 16 by omega) (show 16 < 2 ^ 31 by decide), m_f16 hm hj, m_nearer10, Option.bind_some, Option.toList_some, Option.toList_none, List.cons_append, List.nil_append, B_X12_meets_93, n_steps _ hc hb2, B_X12_meets_101]
      have ih0 := ih (k + 1) (q_sp (q_sp c b) b) b (q_cl h (S 16 j)) (by omega) (by omega) hsp hb2
      by_cases h1 : q_cl h (S 16 j) < S 16 j
      · have hn : ¬ (S 16 j ≤ q_cl h (S 16 j) ∧ nI (q_ap (q_sp (q_sp c b) b) b) ≤ 1) := fun z => by have := z.1; rw [← q_leN] at this; exact this h1
        rw [if_pos h1, if_neg hn, nI_1]
        exact ih0
      · rw [if_neg h1]
        simp only [n_apart _ hsp hb2, Option.bind_some, Option.toList_some, Option.toList_none, List.cons_append, List.nil_append, B_X12_meets_119]
        by_cases h2 : 1 < nI (q_ap (q_sp (q_sp c b) b) b)
        · have hn : ¬ (S 16 j ≤ q_cl h (S 16 j) ∧ nI (q_ap (q_sp (q_sp c b) b) b) ≤ 1) := fun z => by have := z.2; rw [← q_leN] at this; exact this h2
          rw [if_pos h2, if_neg hn, nI_1]
          exact ih0
        · rw [if_neg h2, if_pos ⟨by rw [← q_leN]; exact h1, by rw [← q_leN]; exact h2⟩]
          unfold q_mtm
          rw [if_neg (nI_pos (by omega)), hm.2.2.2.2.1]
theorem m_meets (hm : repM g S N) (hf : q_wf S N) (ho : q_oR o) {i j fu ro : Nat} (hi : i < N 5) (hj : j < N 5) (ef : S 21 i = nI fu) (hfu : fu < 100) (er : S 22 i = nI ro) (hro : ro < 100) (d : Nat) : q_sem (d + 4) mX12_meets 0 [.ref 98, .int (nI i), .int (nI j), .retAddr 0, .retAddr 0, .retAddr 0, .retAddr 0] [] (q_K o g) = some (some (.int (q_mtm S (q_mm S i j))), q_K o g) := by
  have hN := m_c5 hm
  have h1 := (hf.2.2.2.2.2.1 i hi).1
  have h2 := (hf.2.2.2.2.2.1 j hj).1
  have em : q_mtm S (-1) = -1 := by unfold q_mtm; rw [if_pos (by decide)]
  rw [B_X12_meets_0]
  simp only [q_rgN (show i < 16 by omega) (show 16 < 2 ^ 31 by decide), q_rgN (show j < 16 by omega) (show 16 < 2 ^ 31 by decide), m_f22 hm hi, m_f21 hm hi, m_f15 hm hi, m_f15 hm hj, m_f16 hm hi]
  unfold q_mm
  by_cases t1 : S 22 i = 0
  · rw [if_pos t1, if_neg (fun z => absurd z.1 (by rw [t1]; decide)), em]
  · rw [if_neg t1]
    by_cases t2 : S 21 i = 0
    · rw [if_pos t2, if_neg (fun z => absurd z.2 (by rw [t2]; decide)), em]
    · have p1 : 0 < S 22 i := by
        rw [er] at t1 ⊢
        exact nI_lt (a := 0) (Nat.pos_of_ne_zero (fun z => t1 (by rw [z]; rfl))) (by omega)
      have p2 : 0 < S 21 i := by
        rw [ef] at t2 ⊢
        exact nI_lt (a := 0) (Nat.pos_of_ne_zero (fun z => t2 (by rw [z]; rfl))) (by omega)
      rw [if_neg t2, if_pos ⟨p1, p2⟩]
      have e1 := h1.2
      have e2 := h2.2
      have el := m_meets_l (o := o) hm hf ho hi hj ef hfu rfl d (min 60 fu) 1 (q_cl2 (S 15 i)) (q_cl2 (S 15 j)) (S 16 i) (by omega) (by omega) h1.1 h2.1
      rw [← e1, ← e2] at el
      rw [show q_cl2 (S 21 i) = fu by rw [ef]; exact nI_clamp (by omega)]
      exact el
end MMT
theorem law_meeting {o : q_H} {n : Nat} {g : Nat → Nat → Int32} (hR : q_R n g) (ho : q_oR o) (d : Nat) (x1 : Int32) (x2 : Int32) : ∃ v g1 g2, q_sem (d + 30) mX11_meeting 0 [.ref 0, .int x1, .int x2, .retAddr 0, .retAddr 0] [] (q_K o g) = some (some (.int v), q_K o g1) ∧ q_sem (d + 30) mX12_meeting 0 [.ref 98, .int x1, .int x2, .retAddr 0] [] (q_K o g1) = some (some (.int v), q_K o g2) ∧ q_R n g2 := by
  obtain ⟨⟨S, N, hr, hm, hk⟩, ha⟩ := id hR
  have hN := n_cnt_fl hr
  cases c1 : q_hs x1 (N 5)
  · exact ⟨-1000001, q_fb g 1, q_fm (q_fb g 1) 1, by simp only [B_X11_meeting_0, B_X11_meeting_6, B_X11_meeting_26, B_X11_meeting_16, B_X11_meeting_38, z_within, z_isCell, z_fin1, z_fin2, z_fin3, z_fin4, z_fin5, Option.bind_some, Option.toList_some, Option.toList_none, List.cons_append, List.nil_append, bI_t, bI_f, i10, i00, i11, i01, ↓reduceIte, Bool.false_eq_true, z_has_fl hr, B_X11_notSendable_0, B_X11_notSendable_11, B_X11_notSendable_25, B_X11_notSendable_39, B_X11_notSendable_51, B_X11_notSendable_65, B_X11_notSendable_77, c1], (by have hm := repM_fb (k := 1) hm; simp only [B_X12_meeting_0, B_X12_meeting_6, B_X12_meeting_24, B_X12_meeting_15, B_X12_meeting_30, B_X12_meeting_47, B_X12_meeting_38, B_X12_meeting_73, B_X12_meeting_80, B_X12_meeting_91, y_in, y_isCell, y_fin1, y_fin2, y_fin3, y_fin4, y_fin5, Option.bind_some, Option.toList_some, Option.toList_none, List.cons_append, List.nil_append, bI_t, bI_f, i10, i00, i11, i01, ↓reduceIte, Bool.false_eq_true, y_isOf5 hm, c1]), R_fin hR (by decide)⟩
  cases c2 : q_hs x2 (N 5)
  · exact ⟨-1000001, q_fb g 1, q_fm (q_fb g 1) 1, by simp only [B_X11_meeting_0, B_X11_meeting_6, B_X11_meeting_26, B_X11_meeting_16, B_X11_meeting_38, z_within, z_isCell, z_fin1, z_fin2, z_fin3, z_fin4, z_fin5, Option.bind_some, Option.toList_some, Option.toList_none, List.cons_append, List.nil_append, bI_t, bI_f, i10, i00, i11, i01, ↓reduceIte, Bool.false_eq_true, z_has_fl hr, B_X11_notSendable_0, B_X11_notSendable_11, B_X11_notSendable_25, B_X11_notSendable_39, B_X11_notSendable_51, B_X11_notSendable_65, B_X11_notSendable_77, c1, c2], (by have hm := repM_fb (k := 1) hm; simp only [B_X12_meeting_0, B_X12_meeting_6, B_X12_meeting_24, B_X12_meeting_15, B_X12_meeting_30, B_X12_meeting_47, B_X12_meeting_38, B_X12_meeting_73, B_X12_meeting_80, B_X12_meeting_91, y_in, y_isCell, y_fin1, y_fin2, y_fin3, y_fin4, y_fin5, Option.bind_some, Option.toList_some, Option.toList_none, List.cons_append, List.nil_append, bI_t, bI_f, i10, i00, i11, i01, ↓reduceIte, Bool.false_eq_true, y_isOf5 hm, c1, c2]), R_fin hR (by decide)⟩
  obtain ⟨i, hi, rfl⟩ := q_hs_t c1 (by omega)
  obtain ⟨j, hj, rfl⟩ := q_hs_t c2 (by omega)
  have zs := fun d => z_notSendable (o := o) hr hk.1 ho hi hj d
  by_cases k1 : 3 < S 14 i
  rotate_left
  · have en : q_nse S i j = 5 := by unfold q_nse; rw [if_neg k1]
    exact ⟨-1000005, q_fb g 5, q_fm (q_fb g 5) 5, by simp only [B_X11_meeting_0, B_X11_meeting_6, B_X11_meeting_26, B_X11_meeting_16, B_X11_meeting_38, z_within, z_isCell, z_fin1, z_fin2, z_fin3, z_fin4, z_fin5, Option.bind_some, Option.toList_some, Option.toList_none, List.cons_append, List.nil_append, bI_t, bI_f, i10, i00, i11, i01, ↓reduceIte, Bool.false_eq_true, zs, en, (by decide : ¬ (5 : Int32) = 0), c1, c2, decide_eq_false k1], (by have hm := repM_fb (k := 5) hm; simp only [B_X12_meeting_0, B_X12_meeting_6, B_X12_meeting_24, B_X12_meeting_15, B_X12_meeting_30, B_X12_meeting_47, B_X12_meeting_38, B_X12_meeting_73, B_X12_meeting_80, B_X12_meeting_91, y_in, y_isCell, y_fin1, y_fin2, y_fin3, y_fin4, y_fin5, Option.bind_some, Option.toList_some, Option.toList_none, List.cons_append, List.nil_append, bI_t, bI_f, i10, i00, i11, i01, ↓reduceIte, Bool.false_eq_true, y_isOf5 hm, m_isFlight hm hi, m_isFlight hm hj, c1, c2, decide_eq_false k1]), R_fin hR (by decide)⟩
  by_cases k2 : 3 < S 14 j
  · have en : q_nse S i j = 5 := by unfold q_nse; rw [if_pos k1, if_pos k2]
    exact ⟨-1000005, q_fb g 5, q_fm (q_fb g 5) 5, by simp only [B_X11_meeting_0, B_X11_meeting_6, B_X11_meeting_26, B_X11_meeting_16, B_X11_meeting_38, z_within, z_isCell, z_fin1, z_fin2, z_fin3, z_fin4, z_fin5, Option.bind_some, Option.toList_some, Option.toList_none, List.cons_append, List.nil_append, bI_t, bI_f, i10, i00, i11, i01, ↓reduceIte, Bool.false_eq_true, zs, en, (by decide : ¬ (5 : Int32) = 0), c1, c2, decide_eq_true k1, decide_eq_true k2], (by have hm := repM_fb (k := 5) hm; simp only [B_X12_meeting_0, B_X12_meeting_6, B_X12_meeting_24, B_X12_meeting_15, B_X12_meeting_30, B_X12_meeting_47, B_X12_meeting_38, B_X12_meeting_73, B_X12_meeting_80, B_X12_meeting_91, y_in, y_isCell, y_fin1, y_fin2, y_fin3, y_fin4, y_fin5, Option.bind_some, Option.toList_some, Option.toList_none, List.cons_append, List.nil_append, bI_t, bI_f, i10, i00, i11, i01, ↓reduceIte, Bool.false_eq_true, y_isOf5 hm, m_isFlight hm hi, m_isFlight hm hj, c1, c2, decide_eq_true k1, decide_eq_true k2]), R_fin hR (by decide)⟩
  by_cases s1 : S 20 i = 2
  · have en : q_nse S i j = 3 := by unfold q_nse; rw [if_pos k1, if_neg k2, if_pos s1]
    exact ⟨-1000003, q_fb g 3, q_fm (q_fb g 3) 3, by simp only [B_X11_meeting_0, B_X11_meeting_6, B_X11_meeting_26, B_X11_meeting_16, B_X11_meeting_38, z_within, z_isCell, z_fin1, z_fin2, z_fin3, z_fin4, z_fin5, Option.bind_some, Option.toList_some, Option.toList_none, List.cons_append, List.nil_append, bI_t, bI_f, i10, i00, i11, i01, ↓reduceIte, Bool.false_eq_true, zs, en, (by decide : ¬ (3 : Int32) = 0), c1, c2, decide_eq_true k1, decide_eq_false k2, s1], (by have hm := repM_fb (k := 3) hm; simp only [B_X12_meeting_0, B_X12_meeting_6, B_X12_meeting_24, B_X12_meeting_15, B_X12_meeting_30, B_X12_meeting_47, B_X12_meeting_38, B_X12_meeting_73, B_X12_meeting_80, B_X12_meeting_91, y_in, y_isCell, y_fin1, y_fin2, y_fin3, y_fin4, y_fin5, Option.bind_some, Option.toList_some, Option.toList_none, List.cons_append, List.nil_append, bI_t, bI_f, i10, i00, i11, i01, ↓reduceIte, Bool.false_eq_true, y_isOf5 hm, m_isFlight hm hi, m_isFlight hm hj, q_rgN (show i < 16 by omega) (show 16 < 2 ^ 31 by decide), m_f20 hm hi, c1, c2, decide_eq_true k1, decide_eq_false k2, s1]), R_fin hR (by decide)⟩
  by_cases s2 : S 20 j = 0
  rotate_left
  · have en : q_nse S i j = 3 := by unfold q_nse; rw [if_pos k1, if_neg k2, if_neg s1, if_neg s2]
    exact ⟨-1000003, q_fb g 3, q_fm (q_fb g 3) 3, by simp only [B_X11_meeting_0, B_X11_meeting_6, B_X11_meeting_26, B_X11_meeting_16, B_X11_meeting_38, z_within, z_isCell, z_fin1, z_fin2, z_fin3, z_fin4, z_fin5, Option.bind_some, Option.toList_some, Option.toList_none, List.cons_append, List.nil_append, bI_t, bI_f, i10, i00, i11, i01, ↓reduceIte, Bool.false_eq_true, zs, en, (by decide : ¬ (3 : Int32) = 0), c1, c2, decide_eq_true k1, decide_eq_false k2, s1, s2], (by have hm := repM_fb (k := 3) hm; simp only [B_X12_meeting_0, B_X12_meeting_6, B_X12_meeting_24, B_X12_meeting_15, B_X12_meeting_30, B_X12_meeting_47, B_X12_meeting_38, B_X12_meeting_73, B_X12_meeting_80, B_X12_meeting_91, y_in, y_isCell, y_fin1, y_fin2, y_fin3, y_fin4, y_fin5, Option.bind_some, Option.toList_some, Option.toList_none, List.cons_append, List.nil_append, bI_t, bI_f, i10, i00, i11, i01, ↓reduceIte, Bool.false_eq_true, y_isOf5 hm, m_isFlight hm hi, m_isFlight hm hj, q_rgN (show i < 16 by omega) (show 16 < 2 ^ 31 by decide), q_rgN (show j < 16 by omega) (show 16 < 2 ^ 31 by decide), m_f20 hm hi, m_f20 hm hj, c1, c2, decide_eq_true k1, decide_eq_false k2, s1, s2]), R_fin hR (by decide)⟩
  have en : q_nse S i j = 0 := by unfold q_nse; rw [if_pos k1, if_neg k2, if_neg s1, if_pos s2]
  obtain ⟨_, ⟨f1, hf1, ef⟩, ⟨r1, hr1, er⟩, _⟩ := (hk.1.2.2.2.2.2.1 i hi).2.2.2.2 k1
  have ef2 : q_cl2 (S 21 i) = f1 := by rw [ef]; exact nI_clamp (by omega)
  have zm : ∀ d, q_sem (d + 4) mX10_minutesToMeet 0 [.ref 1, .int (nI i), .int (nI j), .retAddr 0, .retAddr 0, .retAddr 0, .retAddr 0, .retAddr 0, .retAddr 0] [] (q_K o g) = some (some (.int (q_mm S i j)), q_K o g) := fun d => c_minutesToMeet hr hk.1 ho d hi hj ⟨by rw [ef2]; exact ef, by rw [ef2]; exact hf1⟩
  have e8 := hr.2.2.2.1
  obtain ⟨t, ht, et⟩ := hk.1.2.2.2.2.2.2
  have hmt : ∀ m k c h a, k + m ≤ 200 → q_mt (q_cl2 (S 18 j)) (S 17 j) (S 16 j) m k c h a = -1 ∨ ∃ n, n ≤ 200 ∧ q_mt (q_cl2 (S 18 j)) (S 17 j) (S 16 j) m k c h a = nI n := by
    intro m
    induction m with
    | zero => intro k c h a _; exact Or.inl rfl
    | succ m ih =>
      intro k c h a hkm
      unfold q_mt
      split
      · exact Or.inl rfl
      · split
        · exact Or.inr ⟨k, by omega, rfl⟩
        · exact ih _ _ _ _ (by omega)
  have hmm : q_mm S i j = -1 ∨ ∃ n, n ≤ 200 ∧ q_mm S i j = nI n := by
    unfold q_mm
    split
    · exact hmt _ _ _ _ _ (by omega)
    · exact Or.inl rfl
  rcases hmm with h | ⟨n, hn, h⟩
  · have hm1 : repM (q_fb g 2) S N := repM_fb hm
    have ym := fun d => m_meets (o := o) hm1 hk.1 ho hi hj ef hf1 er hr1 d
    have eq1 : q_mtm S (q_mm S i j) = -1 := by rw [h]; unfold q_mtm; rw [if_pos (by decide)]
    exact ⟨-1000002, q_fb g 2, q_fm (q_fb g 2) 2, by simp only [B_X11_meeting_0, B_X11_meeting_6, B_X11_meeting_26, B_X11_meeting_16, B_X11_meeting_38, z_within, z_isCell, z_fin1, z_fin2, z_fin3, z_fin4, z_fin5, Option.bind_some, Option.toList_some, Option.toList_none, List.cons_append, List.nil_append, bI_t, bI_f, i10, i00, i11, i01, ↓reduceIte, Bool.false_eq_true, zs, en, zm, h, (by decide : ¬ (0 : Int32) ≤ -1), c1, c2, decide_eq_true k1, decide_eq_false k2, s1, s2], (by have hm := repM_fb (k := 2) hm; simp only [B_X12_meeting_0, B_X12_meeting_6, B_X12_meeting_24, B_X12_meeting_15, B_X12_meeting_30, B_X12_meeting_47, B_X12_meeting_38, B_X12_meeting_73, B_X12_meeting_80, B_X12_meeting_91, y_in, y_isCell, y_fin1, y_fin2, y_fin3, y_fin4, y_fin5, Option.bind_some, Option.toList_some, Option.toList_none, List.cons_append, List.nil_append, bI_t, bI_f, i10, i00, i11, i01, ↓reduceIte, Bool.false_eq_true, y_isOf5 hm, m_isFlight hm hi, m_isFlight hm hj, q_rgN (show i < 16 by omega) (show 16 < 2 ^ 31 by decide), q_rgN (show j < 16 by omega) (show 16 < 2 ^ 31 by decide), m_f20 hm hi, m_f20 hm hj, ym, eq1, (by decide : ¬ (0 : Int32) ≤ -1), c1, c2, decide_eq_true k1, decide_eq_false k2, s1, s2]), R_fin hR (by decide)⟩
  · have ym := fun d => m_meets (o := o) hm hk.1 ho hi hj ef hf1 er hr1 d
    have eq1 : q_mtm S (q_mm S i j) = nI (t + n) := by rw [h]; unfold q_mtm; rw [if_neg (nI_pos (by omega)), et, nI_add]
    have c3 : 0 ≤ nI n := nI_pos' (by omega)
    have c4 : 0 ≤ nI (t + n) := nI_pos' (by omega)
    refine ⟨nI (t + n), g, g, ?_, ?_, hR⟩
    · simp only [B_X11_meeting_0, B_X11_meeting_6, B_X11_meeting_26, B_X11_meeting_16, B_X11_meeting_38, z_within, z_isCell, z_fin1, z_fin2, z_fin3, z_fin4, z_fin5, Option.bind_some, Option.toList_some, Option.toList_none, List.cons_append, List.nil_append, bI_t, bI_f, i10, i00, i11, i01, ↓reduceIte, Bool.false_eq_true, c1, c2, zs, en, zm, h, c3, e8, et, nI_add]
    · simp only [B_X12_meeting_0, B_X12_meeting_6, B_X12_meeting_24, B_X12_meeting_15, B_X12_meeting_30, B_X12_meeting_47, B_X12_meeting_38, B_X12_meeting_73, B_X12_meeting_80, B_X12_meeting_91, y_in, y_isCell, y_fin1, y_fin2, y_fin3, y_fin4, y_fin5, Option.bind_some, Option.toList_some, Option.toList_none, List.cons_append, List.nil_append, bI_t, bI_f, i10, i00, i11, i01, ↓reduceIte, Bool.false_eq_true, c1, c2, y_isOf5 hm, m_isFlight hm hi, m_isFlight hm hj, decide_eq_true k1, decide_eq_false k2, q_rgN (show i < 16 by omega) (show 16 < 2 ^ 31 by decide), q_rgN (show j < 16 by omega) (show 16 < 2 ^ 31 by decide), m_f20 hm hi, m_f20 hm hj, s1, s2, ym, eq1, c4]
/-! the Model's copies -/
section CPA
variable {o : q_H} {b : Nat}
/-- row b holds what stood in these rows -/
def q_iO (b : Nat) (g h : Nat → Nat → Int32) (l : List (Nat × Nat × Nat)) (off : Nat) : Prop := (∀ q ∈ l, q.2.2 + q.2.1 ≤ off ∧ ∀ k, k < q.2.1 → h b (q.2.2 + k) = g q.1 k) ∧ (∀ p k, p ≠ b → ¬ (p = 98 ∧ k = 36) → h p k = g p k) ∧ h 98 36 = nI off
theorem m_out (hb : q_ar b 2000) (hbp : b = 133 ∨ b = 134) {a na len off : Nat} (ha : q_ar a na) (hab : a ≠ b) (ha98 : a ≠ 98) (hlen : len ≤ na) (hna : na < 2 ^ 31) (hoff : off + len ≤ 2000) {g h : Nat → Nat → Int32} {l : List (Nat × Nat × Nat)} (hI : q_iO b g h l off) (d : Nat) : ∃ h2, q_sem d mX12_copies 0 [.ref 98, .ref a, .int (nI len), .ref b, .int 1, .retAddr 0] [] (q_K o h) = some (none, q_K o h2) ∧ q_iO b g h2 (l ++ [(a, len, off)]) (off + len) := by
  have key : ∀ n i h, i + n = len → (∀ q ∈ l, ∀ k, k < q.2.1 → h b (q.2.2 + k) = g q.1 k) → (∀ k, k < i → h b (off + k) = g a k) → (∀ p k, p ≠ b → ¬ (p = 98 ∧ k = 36) → h p k = g p k) → h 98 36 = nI (off + i) → ∃ h2, q_sem d mX12_copies 3 [.ref 98, .ref a, .int (nI len), .ref b, .int 1, .int (nI i)] [] (q_K o h) = some (none, q_K o h2) ∧ q_iO b g h2 (l ++ [(a, len, off)]) (off + len) := by
    intro n
    induction n with
    | zero =>
      intro i h hi h1 h2 h3 h4
      have c1 : nI len ≤ nI i := nI_le (by omega) (by omega)
      have ei : i = len := by omega
      subst ei
      refine ⟨h, by rw [B_X12_copies_3 ha hb, if_pos c1], ?_, h3, h4⟩
      intro q hq
      rw [List.mem_append, List.mem_singleton] at hq
      rcases hq with hq | rfl
      · exact ⟨by have := (hI.1 q hq).1; omega, h1 q hq⟩
      · exact ⟨Nat.le_refl _, h2⟩
    | succ n ih =>
      intro i h hi h1 h2 h3 h4
      have c1 : ¬ nI len ≤ nI i := nI_ge (by omega) (by omega)
      have hb98 : b ≠ 98 := by omega
      obtain ⟨h5, e5, hI5⟩ := ih (i + 1) (q_up (q_up h b (off + i) (h a i)) 98 36 (nI (off + i + 1))) (by omega) (fun q hq k hk => by
        have := (hI.1 q hq).1
        rw [q_upN (by omega), q_upJ (by omega)]; exact h1 q hq k hk) (fun k hk => by
        by_cases e : k = i
        · subst e; rw [q_upN (by omega), q_upE]; exact h3 _ _ hab (by omega)
        · rw [q_upN (by omega), q_upJ (by omega)]; exact h2 k (by omega)) (fun p k hp hk => by rw [q_up_ne (by omega), q_upN hp]; exact h3 p k hp hk) (by rw [q_upE, Nat.add_assoc])
      refine ⟨h5, ?_, hI5⟩
      rw [B_X12_copies_3 ha hb, if_neg c1, if_neg (by decide), q_rgN (show i < na by omega) hna, h4, q_rgN (show off + i < 2000 by omega) (by decide), q_upN (Ne.symm hb98), h4, nI_1, nI_1]
      exact e5
  rw [B_X12_copies_0 ha hb]
  have := key len 0 h (by omega) (fun q hq => (hI.1 q hq).2) (fun k hk => absurd hk (Nat.not_lt_zero k)) hI.2.1 (by rw [Nat.add_zero]; exact hI.2.2)
  rw [nI_0] at this
  exact this
/-- these rows hold what stands in row b -/
def q_iI (b : Nat) (g h : Nat → Nat → Int32) (l : List (Nat × Nat × Nat)) (off : Nat) : Prop := (∀ q ∈ l, ∀ k, k < q.2.1 → h q.1 k = g b (q.2.2 + k)) ∧ (∀ p k, (∀ q ∈ l, p ≠ q.1) → ¬ (p = 98 ∧ k = 36) → h p k = g p k) ∧ h 98 36 = nI off
theorem m_in (hb : q_ar b 2000) (hbp : b = 133 ∨ b = 134) {a na len off : Nat} (ha : q_ar a na) (hab : a ≠ b) (ha98 : a ≠ 98) (hlen : len ≤ na) (hna : na < 2 ^ 31) (hoff : off + len ≤ 2000) {g h : Nat → Nat → Int32} {l : List (Nat × Nat × Nat)} (hbl : ∀ q ∈ l, b ≠ q.1) (hal : ∀ q ∈ l, q.1 ≠ a ∧ q.1 ≠ 98) (hI : q_iI b g h l off) (d : Nat) : ∃ h2, q_sem d mX12_copies 0 [.ref 98, .ref a, .int (nI len), .ref b, .int 0, .retAddr 0] [] (q_K o h) = some (none, q_K o h2) ∧ q_iI b g h2 (l ++ [(a, len, off)]) (off + len) := by
  have hb98 : b ≠ 98 := by omega
  have key : ∀ n i h, i + n = len → (∀ q ∈ l, ∀ k, k < q.2.1 → h q.1 k = g b (q.2.2 + k)) → (∀ k, k < i → h a k = g b (off + k)) → (∀ p k, (∀ q ∈ l, p ≠ q.1) → p ≠ a → ¬ (p = 98 ∧ k = 36) → h p k = g p k) → h 98 36 = nI (off + i) → ∃ h2, q_sem d mX12_copies 3 [.ref 98, .ref a, .int (nI len), .ref b, .int 0, .int (nI i)] [] (q_K o h) = some (none, q_K o h2) ∧ q_iI b g h2 (l ++ [(a, len, off)]) (off + len) := by
    intro n
    induction n with
    | zero =>
      intro i h hi h1 h2 h3 h4
      have c1 : nI len ≤ nI i := nI_le (by omega) (by omega)
      have ei : i = len := by omega
      subst ei
      refine ⟨h, by rw [B_X12_copies_3 ha hb, if_pos c1], ?_, ?_, h4⟩
      · intro q hq
        rw [List.mem_append, List.mem_singleton] at hq
        rcases hq with hq | rfl
        · exact h1 q hq
        · exact h2
      · intro p k hp hk
        exact h3 p k (fun q hq => hp q (List.mem_append_left _ hq)) (hp (a, i, off) (List.mem_append_right _ (List.mem_singleton.mpr rfl))) hk
    | succ n ih =>
      intro i h hi h1 h2 h3 h4
      have c1 : ¬ nI len ≤ nI i := nI_ge (by omega) (by omega)
      have hbb : h b (off + i) = g b (off + i) := h3 _ _ hbl (Ne.symm hab) (by omega)
      obtain ⟨h5, e5, hI5⟩ := ih (i + 1) (q_up (q_up h a i (h b (off + i))) 98 36 (nI (off + i + 1))) (by omega) (fun q hq k hk => by
        have := hal q hq
        rw [q_up_ne (by omega), q_upN this.1]; exact h1 q hq k hk) (fun k hk => by
        by_cases e : k = i
        · subst e; rw [q_up_ne (by omega), q_upE]; exact hbb
        · rw [q_up_ne (by omega), q_upJ (by omega)]; exact h2 k (by omega)) (fun p k hp hpa hk => by rw [q_up_ne hk, q_upN hpa]; exact h3 p k hp hpa hk) (by rw [q_upE, Nat.add_assoc])
      refine ⟨h5, ?_, hI5⟩
      rw [B_X12_copies_3 ha hb, if_neg c1, if_pos rfl, h4, q_rgN (show off + i < 2000 by omega) (by decide), q_rgN (show i < na by omega) hna, q_upN (Ne.symm ha98), h4, nI_1, nI_1]
      exact e5
  rw [B_X12_copies_0 ha hb]
  have := key len 0 h (by omega) hI.1 (fun k hk => absurd hk (Nat.not_lt_zero k)) (fun p k hp _ hk => hI.2.1 p k hp hk) (by rw [Nat.add_zero]; exact hI.2.2)
  rw [nI_0] at this
  exact this
theorem m_allOut (hb : q_ar b 2000) (hbp : b = 133 ∨ b = 134) (g : Nat → Nat → Int32) (d : Nat) : ∃ h2, q_sem (d + 1) mX12_copiesAll 0 [.ref 98, .ref b, .int 1] [] (q_K o g) = some (none, q_K o h2) ∧ q_iO b g h2 q_kpt 1645 := by
  have hb2 : 133 ≤ b := by omega
  have I0 : q_iO b g (q_up g 98 36 0) [] 0 := ⟨fun q hq => (by cases hq), fun p k _ hk => q_up_ne hk, q_upE⟩
  obtain ⟨h1, e1, I1⟩ := m_out (o := o) hb hbp (a := 100) (na := 12) (len := 12) (off := 0) ⟨by decide, rfl, rfl⟩ (by omega) (by decide) (by decide) (by decide) (by decide) I0 d
  have I1 : q_iO b g h1 [(100, 12, 0)] 12 := I1
  have e1 : q_sem d mX12_copies 0 [.ref 98, .ref 100, .int 12, .ref b, .int 1, .retAddr 0] [] (q_K o (q_up g 98 36 0)) = some (none, q_K o h1) := e1
  obtain ⟨h2, e2, I2⟩ := m_out (o := o) hb hbp (a := 101) (na := 6) (len := 6) (off := 12) ⟨by decide, rfl, rfl⟩ (by omega) (by decide) (by decide) (by decide) (by decide) I1 d
  have I2 : q_iO b g h2 [(100, 12, 0), (101, 6, 12)] 18 := I2
  have e2 : q_sem d mX12_copies 0 [.ref 98, .ref 101, .int 6, .ref b, .int 1, .retAddr 0] [] (q_K o h1) = some (none, q_K o h2) := e2
  obtain ⟨h3, e3, I3⟩ := m_out (o := o) hb hbp (a := 102) (na := 6) (len := 6) (off := 18) ⟨by decide, rfl, rfl⟩ (by omega) (by decide) (by decide) (by decide) (by decide) I2 d
  have I3 : q_iO b g h3 [(100, 12, 0), (101, 6, 12), (102, 6, 18)] 24 := I3
  have e3 : q_sem d mX12_copies 0 [.ref 98, .ref 102, .int 6, .ref b, .int 1, .retAddr 0] [] (q_K o h2) = some (none, q_K o h3) := e3
  obtain ⟨h4, e4, I4⟩ := m_out (o := o) hb hbp (a := 103) (na := 6) (len := 6) (off := 24) ⟨by decide, rfl, rfl⟩ (by omega) (by decide) (by decide) (by decide) (by decide) I3 d
  have I4 : q_iO b g h4 [(100, 12, 0), (101, 6, 12), (102, 6, 18), (103, 6, 24)] 30 := I4
  have e4 : q_sem d mX12_copies 0 [.ref 98, .ref 103, .int 6, .ref b, .int 1, .retAddr 0] [] (q_K o h3) = some (none, q_K o h4) := e4
  obtain ⟨h5, e5, I5⟩ := m_out (o := o) hb hbp (a := 104) (na := 8) (len := 8) (off := 30) ⟨by decide, rfl, rfl⟩ (by omega) (by decide) (by decide) (by decide) (by decide) I4 d
  have I5 : q_iO b g h5 [(100, 12, 0), (101, 6, 12), (102, 6, 18), (103, 6, 24), (104, 8, 30)] 38 := I5
  have e5 : q_sem d mX12_copies 0 [.ref 98, .ref 104, .int 8, .ref b, .int 1, .retAddr 0] [] (q_K o h4) = some (none, q_K o h5) := e5
  obtain ⟨h6, e6, I6⟩ := m_out (o := o) hb hbp (a := 105) (na := 8) (len := 8) (off := 38) ⟨by decide, rfl, rfl⟩ (by omega) (by decide) (by decide) (by decide) (by decide) I5 d
  have I6 : q_iO b g h6 [(100, 12, 0), (101, 6, 12), (102, 6, 18), (103, 6, 24), (104, 8, 30), (105, 8, 38)] 46 := I6
  have e6 : q_sem d mX12_copies 0 [.ref 98, .ref 105, .int 8, .ref b, .int 1, .retAddr 0] [] (q_K o h5) = some (none, q_K o h6) := e6
  obtain ⟨h7, e7, I7⟩ := m_out (o := o) hb hbp (a := 106) (na := 24) (len := 24) (off := 46) ⟨by decide, rfl, rfl⟩ (by omega) (by decide) (by decide) (by decide) (by decide) I6 d
  have I7 : q_iO b g h7 [(100, 12, 0), (101, 6, 12), (102, 6, 18), (103, 6, 24), (104, 8, 30), (105, 8, 38), (106, 24, 46)] 70 := I7
  have e7 : q_sem d mX12_copies 0 [.ref 98, .ref 106, .int 24, .ref b, .int 1, .retAddr 0] [] (q_K o h6) = some (none, q_K o h7) := e7
  obtain ⟨h8, e8, I8⟩ := m_out (o := o) hb hbp (a := 107) (na := 24) (len := 24) (off := 70) ⟨by decide, rfl, rfl⟩ (by omega) (by decide) (by decide) (by decide) (by decide) I7 d
  have I8 : q_iO b g h8 [(100, 12, 0), (101, 6, 12), (102, 6, 18), (103, 6, 24), (104, 8, 30), (105, 8, 38), (106, 24, 46), (107, 24, 70)] 94 := I8
  have e8 : q_sem d mX12_copies 0 [.ref 98, .ref 107, .int 24, .ref b, .int 1, .retAddr 0] [] (q_K o h7) = some (none, q_K o h8) := e8
  obtain ⟨h9, e9, I9⟩ := m_out (o := o) hb hbp (a := 108) (na := 24) (len := 24) (off := 94) ⟨by decide, rfl, rfl⟩ (by omega) (by decide) (by decide) (by decide) (by decide) I8 d
  have I9 : q_iO b g h9 [(100, 12, 0), (101, 6, 12), (102, 6, 18), (103, 6, 24), (104, 8, 30), (105, 8, 38), (106, 24, 46), (107, 24, 70), (108, 24, 94)] 118 := I9
  have e9 : q_sem d mX12_copies 0 [.ref 98, .ref 108, .int 24, .ref b, .int 1, .retAddr 0] [] (q_K o h8) = some (none, q_K o h9) := e9
  obtain ⟨h10, e10, I10⟩ := m_out (o := o) hb hbp (a := 109) (na := 5) (len := 5) (off := 118) ⟨by decide, rfl, rfl⟩ (by omega) (by decide) (by decide) (by decide) (by decide) I9 d
  have I10 : q_iO b g h10 [(100, 12, 0), (101, 6, 12), (102, 6, 18), (103, 6, 24), (104, 8, 30), (105, 8, 38), (106, 24, 46), (107, 24, 70), (108, 24, 94), (109, 5, 118)] 123 := I10
  have e10 : q_sem d mX12_copies 0 [.ref 98, .ref 109, .int 5, .ref b, .int 1, .retAddr 0] [] (q_K o h9) = some (none, q_K o h10) := e10
  obtain ⟨h11, e11, I11⟩ := m_out (o := o) hb hbp (a := 110) (na := 6) (len := 6) (off := 123) ⟨by decide, rfl, rfl⟩ (by omega) (by decide) (by decide) (by decide) (by decide) I10 d
  have I11 : q_iO b g h11 [(100, 12, 0), (101, 6, 12), (102, 6, 18), (103, 6, 24), (104, 8, 30), (105, 8, 38), (106, 24, 46), (107, 24, 70), (108, 24, 94), (109, 5, 118), (110, 6, 123)] 129 := I11
  have e11 : q_sem d mX12_copies 0 [.ref 98, .ref 110, .int 6, .ref b, .int 1, .retAddr 0] [] (q_K o h10) = some (none, q_K o h11) := e11
  obtain ⟨h12, e12, I12⟩ := m_out (o := o) hb hbp (a := 111) (na := 6) (len := 6) (off := 129) ⟨by decide, rfl, rfl⟩ (by omega) (by decide) (by decide) (by decide) (by decide) I11 d
  have I12 : q_iO b g h12 [(100, 12, 0), (101, 6, 12), (102, 6, 18), (103, 6, 24), (104, 8, 30), (105, 8, 38), (106, 24, 46), (107, 24, 70), (108, 24, 94), (109, 5, 118), (110, 6, 123), (111, 6, 129)] 135 := I12
  have e12 : q_sem d mX12_copies 0 [.ref 98, .ref 111, .int 6, .ref b, .int 1, .retAddr 0] [] (q_K o h11) = some (none, q_K o h12) := e12
  obtain ⟨h13, e13, I13⟩ := m_out (o := o) hb hbp (a := 112) (na := 6) (len := 6) (off := 135) ⟨by decide, rfl, rfl⟩ (by omega) (by decide) (by decide) (by decide) (by decide) I12 d
  have I13 : q_iO b g h13 [(100, 12, 0), (101, 6, 12), (102, 6, 18), (103, 6, 24), (104, 8, 30), (105, 8, 38), (106, 24, 46), (107, 24, 70), (108, 24, 94), (109, 5, 118), (110, 6, 123), (111, 6, 129), (112, 6, 135)] 141 := I13
  have e13 : q_sem d mX12_copies 0 [.ref 98, .ref 112, .int 6, .ref b, .int 1, .retAddr 0] [] (q_K o h12) = some (none, q_K o h13) := e13
  obtain ⟨h14, e14, I14⟩ := m_out (o := o) hb hbp (a := 113) (na := 6) (len := 6) (off := 141) ⟨by decide, rfl, rfl⟩ (by omega) (by decide) (by decide) (by decide) (by decide) I13 d
  have I14 : q_iO b g h14 [(100, 12, 0), (101, 6, 12), (102, 6, 18), (103, 6, 24), (104, 8, 30), (105, 8, 38), (106, 24, 46), (107, 24, 70), (108, 24, 94), (109, 5, 118), (110, 6, 123), (111, 6, 129), (112, 6, 135), (113, 6, 141)] 147 := I14
  have e14 : q_sem d mX12_copies 0 [.ref 98, .ref 113, .int 6, .ref b, .int 1, .retAddr 0] [] (q_K o h13) = some (none, q_K o h14) := e14
  obtain ⟨h15, e15, I15⟩ := m_out (o := o) hb hbp (a := 114) (na := 16) (len := 16) (off := 147) ⟨by decide, rfl, rfl⟩ (by omega) (by decide) (by decide) (by decide) (by decide) I14 d
  have I15 : q_iO b g h15 [(100, 12, 0), (101, 6, 12), (102, 6, 18), (103, 6, 24), (104, 8, 30), (105, 8, 38), (106, 24, 46), (107, 24, 70), (108, 24, 94), (109, 5, 118), (110, 6, 123), (111, 6, 129), (112, 6, 135), (113, 6, 141), (114, 16, 147)] 163 := I15
  have e15 : q_sem d mX12_copies 0 [.ref 98, .ref 114, .int 16, .ref b, .int 1, .retAddr 0] [] (q_K o h14) = some (none, q_K o h15) := e15
  obtain ⟨h16, e16, I16⟩ := m_out (o := o) hb hbp (a := 115) (na := 16) (len := 16) (off := 163) ⟨by decide, rfl, rfl⟩ (by omega) (by decide) (by decide) (by decide) (by decide) I15 d
  have I16 : q_iO b g h16 [(100, 12, 0), (101, 6, 12), (102, 6, 18), (103, 6, 24), (104, 8, 30), (105, 8, 38), (106, 24, 46), (107, 24, 70), (108, 24, 94), (109, 5, 118), (110, 6, 123), (111, 6, 129), (112, 6, 135), (113, 6, 141), (114, 16, 147), (115, 16, 163)] 179 := I16
  have e16 : q_sem d mX12_copies 0 [.ref 98, .ref 115, .int 16, .ref b, .int 1, .retAddr 0] [] (q_K o h15) = some (none, q_K o h16) := e16
  obtain ⟨h17, e17, I17⟩ := m_out (o := o) hb hbp (a := 116) (na := 16) (len := 16) (off := 179) ⟨by decide, rfl, rfl⟩ (by omega) (by decide) (by decide) (by decide) (by decide) I16 d
  have I17 : q_iO b g h17 [(100, 12, 0), (101, 6, 12), (102, 6, 18), (103, 6, 24), (104, 8, 30), (105, 8, 38), (106, 24, 46), (107, 24, 70), (108, 24, 94), (109, 5, 118), (110, 6, 123), (111, 6, 129), (112, 6, 135), (113, 6, 141), (114, 16, 147), (115, 16, 163), (116, 16, 179)] 195 := I17
  have e17 : q_sem d mX12_copies 0 [.ref 98, .ref 116, .int 16, .ref b, .int 1, .retAddr 0] [] (q_K o h16) = some (none, q_K o h17) := e17
  obtain ⟨h18, e18, I18⟩ := m_out (o := o) hb hbp (a := 117) (na := 16) (len := 16) (off := 195) ⟨by decide, rfl, rfl⟩ (by omega) (by decide) (by decide) (by decide) (by decide) I17 d
  have I18 : q_iO b g h18 [(100, 12, 0), (101, 6, 12), (102, 6, 18), (103, 6, 24), (104, 8, 30), (105, 8, 38), (106, 24, 46), (107, 24, 70), (108, 24, 94), (109, 5, 118), (110, 6, 123), (111, 6, 129), (112, 6, 135), (113, 6, 141), (114, 16, 147), (115, 16, 163), (116, 16, 179), (117, 16, 195)] 211 := I18
  have e18 : q_sem d mX12_copies 0 [.ref 98, .ref 117, .int 16, .ref b, .int 1, .retAddr 0] [] (q_K o h17) = some (none, q_K o h18) := e18
  obtain ⟨h19, e19, I19⟩ := m_out (o := o) hb hbp (a := 118) (na := 16) (len := 16) (off := 211) ⟨by decide, rfl, rfl⟩ (by omega) (by decide) (by decide) (by decide) (by decide) I18 d
  have I19 : q_iO b g h19 [(100, 12, 0), (101, 6, 12), (102, 6, 18), (103, 6, 24), (104, 8, 30), (105, 8, 38), (106, 24, 46), (107, 24, 70), (108, 24, 94), (109, 5, 118), (110, 6, 123), (111, 6, 129), (112, 6, 135), (113, 6, 141), (114, 16, 147), (115, 16, 163), (116, 16, 179), (117, 16, 195), (118, 16, 211)] 227 := I19
  have e19 : q_sem d mX12_copies 0 [.ref 98, .ref 118, .int 16, .ref b, .int 1, .retAddr 0] [] (q_K o h18) = some (none, q_K o h19) := e19
  obtain ⟨h20, e20, I20⟩ := m_out (o := o) hb hbp (a := 119) (na := 16) (len := 16) (off := 227) ⟨by decide, rfl, rfl⟩ (by omega) (by decide) (by decide) (by decide) (by decide) I19 d
  have I20 : q_iO b g h20 [(100, 12, 0), (101, 6, 12), (102, 6, 18), (103, 6, 24), (104, 8, 30), (105, 8, 38), (106, 24, 46), (107, 24, 70), (108, 24, 94), (109, 5, 118), (110, 6, 123), (111, 6, 129), (112, 6, 135), (113, 6, 141), (114, 16, 147), (115, 16, 163), (116, 16, 179), (117, 16, 195), (118, 16, 211), (119, 16, 227)] 243 := I20
  have e20 : q_sem d mX12_copies 0 [.ref 98, .ref 119, .int 16, .ref b, .int 1, .retAddr 0] [] (q_K o h19) = some (none, q_K o h20) := e20
  obtain ⟨h21, e21, I21⟩ := m_out (o := o) hb hbp (a := 120) (na := 16) (len := 16) (off := 243) ⟨by decide, rfl, rfl⟩ (by omega) (by decide) (by decide) (by decide) (by decide) I20 d
  have I21 : q_iO b g h21 [(100, 12, 0), (101, 6, 12), (102, 6, 18), (103, 6, 24), (104, 8, 30), (105, 8, 38), (106, 24, 46), (107, 24, 70), (108, 24, 94), (109, 5, 118), (110, 6, 123), (111, 6, 129), (112, 6, 135), (113, 6, 141), (114, 16, 147), (115, 16, 163), (116, 16, 179), (117, 16, 195), (118, 16, 211), (119, 16, 227), (120, 16, 243)] 259 := I21
  have e21 : q_sem d mX12_copies 0 [.ref 98, .ref 120, .int 16, .ref b, .int 1, .retAddr 0] [] (q_K o h20) = some (none, q_K o h21) := e21
  obtain ⟨h22, e22, I22⟩ := m_out (o := o) hb hbp (a := 121) (na := 16) (len := 16) (off := 259) ⟨by decide, rfl, rfl⟩ (by omega) (by decide) (by decide) (by decide) (by decide) I21 d
  have I22 : q_iO b g h22 [(100, 12, 0), (101, 6, 12), (102, 6, 18), (103, 6, 24), (104, 8, 30), (105, 8, 38), (106, 24, 46), (107, 24, 70), (108, 24, 94), (109, 5, 118), (110, 6, 123), (111, 6, 129), (112, 6, 135), (113, 6, 141), (114, 16, 147), (115, 16, 163), (116, 16, 179), (117, 16, 195), (118, 16, 211), (119, 16, 227), (120, 16, 243), (121, 16, 259)] 275 := I22
  have e22 : q_sem d mX12_copies 0 [.ref 98, .ref 121, .int 16, .ref b, .int 1, .retAddr 0] [] (q_K o h21) = some (none, q_K o h22) := e22
  obtain ⟨h23, e23, I23⟩ := m_out (o := o) hb hbp (a := 122) (na := 16) (len := 16) (off := 275) ⟨by decide, rfl, rfl⟩ (by omega) (by decide) (by decide) (by decide) (by decide) I22 d
  have I23 : q_iO b g h23 [(100, 12, 0), (101, 6, 12), (102, 6, 18), (103, 6, 24), (104, 8, 30), (105, 8, 38), (106, 24, 46), (107, 24, 70), (108, 24, 94), (109, 5, 118), (110, 6, 123), (111, 6, 129), (112, 6, 135), (113, 6, 141), (114, 16, 147), (115, 16, 163), (116, 16, 179), (117, 16, 195), (118, 16, 211), (119, 16, 227), (120, 16, 243), (121, 16, 259), (122, 16, 275)] 291 := I23
  have e23 : q_sem d mX12_copies 0 [.ref 98, .ref 122, .int 16, .ref b, .int 1, .retAddr 0] [] (q_K o h22) = some (none, q_K o h23) := e23
  obtain ⟨h24, e24, I24⟩ := m_out (o := o) hb hbp (a := 123) (na := 16) (len := 16) (off := 291) ⟨by decide, rfl, rfl⟩ (by omega) (by decide) (by decide) (by decide) (by decide) I23 d
  have I24 : q_iO b g h24 [(100, 12, 0), (101, 6, 12), (102, 6, 18), (103, 6, 24), (104, 8, 30), (105, 8, 38), (106, 24, 46), (107, 24, 70), (108, 24, 94), (109, 5, 118), (110, 6, 123), (111, 6, 129), (112, 6, 135), (113, 6, 141), (114, 16, 147), (115, 16, 163), (116, 16, 179), (117, 16, 195), (118, 16, 211), (119, 16, 227), (120, 16, 243), (121, 16, 259), (122, 16, 275), (123, 16, 291)] 307 := I24
  have e24 : q_sem d mX12_copies 0 [.ref 98, .ref 123, .int 16, .ref b, .int 1, .retAddr 0] [] (q_K o h23) = some (none, q_K o h24) := e24
  obtain ⟨h25, e25, I25⟩ := m_out (o := o) hb hbp (a := 124) (na := 16) (len := 16) (off := 307) ⟨by decide, rfl, rfl⟩ (by omega) (by decide) (by decide) (by decide) (by decide) I24 d
  have I25 : q_iO b g h25 [(100, 12, 0), (101, 6, 12), (102, 6, 18), (103, 6, 24), (104, 8, 30), (105, 8, 38), (106, 24, 46), (107, 24, 70), (108, 24, 94), (109, 5, 118), (110, 6, 123), (111, 6, 129), (112, 6, 135), (113, 6, 141), (114, 16, 147), (115, 16, 163), (116, 16, 179), (117, 16, 195), (118, 16, 211), (119, 16, 227), (120, 16, 243), (121, 16, 259), (122, 16, 275), (123, 16, 291), (124, 16, 307)] 323 := I25
  have e25 : q_sem d mX12_copies 0 [.ref 98, .ref 124, .int 16, .ref b, .int 1, .retAddr 0] [] (q_K o h24) = some (none, q_K o h25) := e25
  obtain ⟨h26, e26, I26⟩ := m_out (o := o) hb hbp (a := 125) (na := 16) (len := 16) (off := 323) ⟨by decide, rfl, rfl⟩ (by omega) (by decide) (by decide) (by decide) (by decide) I25 d
  have I26 : q_iO b g h26 [(100, 12, 0), (101, 6, 12), (102, 6, 18), (103, 6, 24), (104, 8, 30), (105, 8, 38), (106, 24, 46), (107, 24, 70), (108, 24, 94), (109, 5, 118), (110, 6, 123), (111, 6, 129), (112, 6, 135), (113, 6, 141), (114, 16, 147), (115, 16, 163), (116, 16, 179), (117, 16, 195), (118, 16, 211), (119, 16, 227), (120, 16, 243), (121, 16, 259), (122, 16, 275), (123, 16, 291), (124, 16, 307), (125, 16, 323)] 339 := I26
  have e26 : q_sem d mX12_copies 0 [.ref 98, .ref 125, .int 16, .ref b, .int 1, .retAddr 0] [] (q_K o h25) = some (none, q_K o h26) := e26
  obtain ⟨h27, e27, I27⟩ := m_out (o := o) hb hbp (a := 126) (na := 12) (len := 12) (off := 339) ⟨by decide, rfl, rfl⟩ (by omega) (by decide) (by decide) (by decide) (by decide) I26 d
  have I27 : q_iO b g h27 [(100, 12, 0), (101, 6, 12), (102, 6, 18), (103, 6, 24), (104, 8, 30), (105, 8, 38), (106, 24, 46), (107, 24, 70), (108, 24, 94), (109, 5, 118), (110, 6, 123), (111, 6, 129), (112, 6, 135), (113, 6, 141), (114, 16, 147), (115, 16, 163), (116, 16, 179), (117, 16, 195), (118, 16, 211), (119, 16, 227), (120, 16, 243), (121, 16, 259), (122, 16, 275), (123, 16, 291), (124, 16, 307), (125, 16, 323), (126, 12, 339)] 351 := I27
  have e27 : q_sem d mX12_copies 0 [.ref 98, .ref 126, .int 12, .ref b, .int 1, .retAddr 0] [] (q_K o h26) = some (none, q_K o h27) := e27
  obtain ⟨h28, e28, I28⟩ := m_out (o := o) hb hbp (a := 127) (na := 12) (len := 12) (off := 351) ⟨by decide, rfl, rfl⟩ (by omega) (by decide) (by decide) (by decide) (by decide) I27 d
  have I28 : q_iO b g h28 [(100, 12, 0), (101, 6, 12), (102, 6, 18), (103, 6, 24), (104, 8, 30), (105, 8, 38), (106, 24, 46), (107, 24, 70), (108, 24, 94), (109, 5, 118), (110, 6, 123), (111, 6, 129), (112, 6, 135), (113, 6, 141), (114, 16, 147), (115, 16, 163), (116, 16, 179), (117, 16, 195), (118, 16, 211), (119, 16, 227), (120, 16, 243), (121, 16, 259), (122, 16, 275), (123, 16, 291), (124, 16, 307), (125, 16, 323), (126, 12, 339), (127, 12, 351)] 363 := I28
  have e28 : q_sem d mX12_copies 0 [.ref 98, .ref 127, .int 12, .ref b, .int 1, .retAddr 0] [] (q_K o h27) = some (none, q_K o h28) := e28
  obtain ⟨h29, e29, I29⟩ := m_out (o := o) hb hbp (a := 128) (na := 12) (len := 12) (off := 363) ⟨by decide, rfl, rfl⟩ (by omega) (by decide) (by decide) (by decide) (by decide) I28 d
  have I29 : q_iO b g h29 [(100, 12, 0), (101, 6, 12), (102, 6, 18), (103, 6, 24), (104, 8, 30), (105, 8, 38), (106, 24, 46), (107, 24, 70), (108, 24, 94), (109, 5, 118), (110, 6, 123), (111, 6, 129), (112, 6, 135), (113, 6, 141), (114, 16, 147), (115, 16, 163), (116, 16, 179), (117, 16, 195), (118, 16, 211), (119, 16, 227), (120, 16, 243), (121, 16, 259), (122, 16, 275), (123, 16, 291), (124, 16, 307), (125, 16, 323), (126, 12, 339), (127, 12, 351), (128, 12, 363)] 375 := I29
  have e29 : q_sem d mX12_copies 0 [.ref 98, .ref 128, .int 12, .ref b, .int 1, .retAddr 0] [] (q_K o h28) = some (none, q_K o h29) := e29
  obtain ⟨h30, e30, I30⟩ := m_out (o := o) hb hbp (a := 129) (na := 600) (len := 600) (off := 375) ⟨by decide, rfl, rfl⟩ (by omega) (by decide) (by decide) (by decide) (by decide) I29 d
  have I30 : q_iO b g h30 [(100, 12, 0), (101, 6, 12), (102, 6, 18), (103, 6, 24), (104, 8, 30), (105, 8, 38), (106, 24, 46), (107, 24, 70), (108, 24, 94), (109, 5, 118), (110, 6, 123), (111, 6, 129), (112, 6, 135), (113, 6, 141), (114, 16, 147), (115, 16, 163), (116, 16, 179), (117, 16, 195), (118, 16, 211), (119, 16, 227), (120, 16, 243), (121, 16, 259), (122, 16, 275), (123, 16, 291), (124, 16, 307), (125, 16, 323), (126, 12, 339), (127, 12, 351), (128, 12, 363), (129, 600, 375)] 975 := I30
  have e30 : q_sem d mX12_copies 0 [.ref 98, .ref 129, .int 600, .ref b, .int 1, .retAddr 0] [] (q_K o h29) = some (none, q_K o h30) := e30
  obtain ⟨h31, e31, I31⟩ := m_out (o := o) hb hbp (a := 130) (na := 600) (len := 600) (off := 975) ⟨by decide, rfl, rfl⟩ (by omega) (by decide) (by decide) (by decide) (by decide) I30 d
  have I31 : q_iO b g h31 [(100, 12, 0), (101, 6, 12), (102, 6, 18), (103, 6, 24), (104, 8, 30), (105, 8, 38), (106, 24, 46), (107, 24, 70), (108, 24, 94), (109, 5, 118), (110, 6, 123), (111, 6, 129), (112, 6, 135), (113, 6, 141), (114, 16, 147), (115, 16, 163), (116, 16, 179), (117, 16, 195), (118, 16, 211), (119, 16, 227), (120, 16, 243), (121, 16, 259), (122, 16, 275), (123, 16, 291), (124, 16, 307), (125, 16, 323), (126, 12, 339), (127, 12, 351), (128, 12, 363), (129, 600, 375), (130, 600, 975)] 1575 := I31
  have e31 : q_sem d mX12_copies 0 [.ref 98, .ref 130, .int 600, .ref b, .int 1, .retAddr 0] [] (q_K o h30) = some (none, q_K o h31) := e31
  obtain ⟨h32, e32, I32⟩ := m_out (o := o) hb hbp (a := 131) (na := 50) (len := 50) (off := 1575) ⟨by decide, rfl, rfl⟩ (by omega) (by decide) (by decide) (by decide) (by decide) I31 d
  have I32 : q_iO b g h32 [(100, 12, 0), (101, 6, 12), (102, 6, 18), (103, 6, 24), (104, 8, 30), (105, 8, 38), (106, 24, 46), (107, 24, 70), (108, 24, 94), (109, 5, 118), (110, 6, 123), (111, 6, 129), (112, 6, 135), (113, 6, 141), (114, 16, 147), (115, 16, 163), (116, 16, 179), (117, 16, 195), (118, 16, 211), (119, 16, 227), (120, 16, 243), (121, 16, 259), (122, 16, 275), (123, 16, 291), (124, 16, 307), (125, 16, 323), (126, 12, 339), (127, 12, 351), (128, 12, 363), (129, 600, 375), (130, 600, 975), (131, 50, 1575)] 1625 := I32
  have e32 : q_sem d mX12_copies 0 [.ref 98, .ref 131, .int 50, .ref b, .int 1, .retAddr 0] [] (q_K o h31) = some (none, q_K o h32) := e32
  obtain ⟨h33, e33, I33⟩ := m_out (o := o) hb hbp (a := 132) (na := 20) (len := 20) (off := 1625) ⟨by decide, rfl, rfl⟩ (by omega) (by decide) (by decide) (by decide) (by decide) I32 d
  have I33 : q_iO b g h33 [(100, 12, 0), (101, 6, 12), (102, 6, 18), (103, 6, 24), (104, 8, 30), (105, 8, 38), (106, 24, 46), (107, 24, 70), (108, 24, 94), (109, 5, 118), (110, 6, 123), (111, 6, 129), (112, 6, 135), (113, 6, 141), (114, 16, 147), (115, 16, 163), (116, 16, 179), (117, 16, 195), (118, 16, 211), (119, 16, 227), (120, 16, 243), (121, 16, 259), (122, 16, 275), (123, 16, 291), (124, 16, 307), (125, 16, 323), (126, 12, 339), (127, 12, 351), (128, 12, 363), (129, 600, 375), (130, 600, 975), (131, 50, 1575), (132, 20, 1625)] 1645 := I33
  have e33 : q_sem d mX12_copies 0 [.ref 98, .ref 132, .int 20, .ref b, .int 1, .retAddr 0] [] (q_K o h32) = some (none, q_K o h33) := e33
  refine ⟨h33, ?_, I33⟩
  simp only [B_X12_copiesAll_0 hb, B_X12_copiesAll_17 hb, B_X12_copiesAll_29 hb, B_X12_copiesAll_41 hb, B_X12_copiesAll_53 hb, B_X12_copiesAll_65 hb, B_X12_copiesAll_77 hb, B_X12_copiesAll_89 hb, B_X12_copiesAll_101 hb, B_X12_copiesAll_113 hb, B_X12_copiesAll_124 hb, B_X12_copiesAll_136 hb, B_X12_copiesAll_148 hb, B_X12_copiesAll_160 hb, B_X12_copiesAll_172 hb, B_X12_copiesAll_184 hb, B_X12_copiesAll_196 hb, B_X12_copiesAll_208 hb, B_X12_copiesAll_220 hb, B_X12_copiesAll_232 hb, B_X12_copiesAll_244 hb, B_X12_copiesAll_256 hb, B_X12_copiesAll_268 hb, B_X12_copiesAll_280 hb, B_X12_copiesAll_292 hb, B_X12_copiesAll_304 hb, B_X12_copiesAll_316 hb, B_X12_copiesAll_328 hb, B_X12_copiesAll_340 hb, B_X12_copiesAll_352 hb, B_X12_copiesAll_365 hb, B_X12_copiesAll_378 hb, B_X12_copiesAll_390 hb, B_X12_copiesAll_402 hb, Option.bind_some, Option.toList_some, Option.toList_none, List.cons_append, List.nil_append, e1, e2, e3, e4, e5, e6, e7, e8, e9, e10, e11, e12, e13, e14, e15, e16, e17, e18, e19, e20, e21, e22, e23, e24, e25, e26, e27, e28, e29, e30, e31, e32, e33]
theorem m_allIn (hb : q_ar b 2000) (hbp : b = 133 ∨ b = 134) (g : Nat → Nat → Int32) (d : Nat) : ∃ h2, q_sem (d + 1) mX12_copiesAll 0 [.ref 98, .ref b, .int 0] [] (q_K o g) = some (none, q_K o h2) ∧ q_iI b g h2 q_kpt 1645 := by
  have hb2 : 133 ≤ b := by omega
  have I0 : q_iI b g (q_up g 98 36 0) [] 0 := ⟨fun q hq => (by cases hq), fun p k _ hk => q_up_ne hk, q_upE⟩
  obtain ⟨h1, e1, I1⟩ := m_in (o := o) hb hbp (a := 100) (na := 12) (len := 12) (off := 0) ⟨by decide, rfl, rfl⟩ (by omega) (by decide) (by decide) (by decide) (by decide) (fun q hq => Nat.ne_of_gt (Nat.lt_of_lt_of_le ((by decide : ∀ q ∈ ([] : List (Nat × Nat × Nat)), q.1 < 133) q hq) hb2)) (by decide) I0 d
  have I1 : q_iI b g h1 [(100, 12, 0)] 12 := I1
  have e1 : q_sem d mX12_copies 0 [.ref 98, .ref 100, .int 12, .ref b, .int 0, .retAddr 0] [] (q_K o (q_up g 98 36 0)) = some (none, q_K o h1) := e1
  obtain ⟨h2, e2, I2⟩ := m_in (o := o) hb hbp (a := 101) (na := 6) (len := 6) (off := 12) ⟨by decide, rfl, rfl⟩ (by omega) (by decide) (by decide) (by decide) (by decide) (fun q hq => Nat.ne_of_gt (Nat.lt_of_lt_of_le ((by decide : ∀ q ∈ ([(100, 12, 0)] : List (Nat × Nat × Nat)), q.1 < 133) q hq) hb2)) (by decide) I1 d
  have I2 : q_iI b g h2 [(100, 12, 0), (101, 6, 12)] 18 := I2
  have e2 : q_sem d mX12_copies 0 [.ref 98, .ref 101, .int 6, .ref b, .int 0, .retAddr 0] [] (q_K o h1) = some (none, q_K o h2) := e2
  obtain ⟨h3, e3, I3⟩ := m_in (o := o) hb hbp (a := 102) (na := 6) (len := 6) (off := 18) ⟨by decide, rfl, rfl⟩ (by omega) (by decide) (by decide) (by decide) (by decide) (fun q hq => Nat.ne_of_gt (Nat.lt_of_lt_of_le ((by decide : ∀ q ∈ ([(100, 12, 0), (101, 6, 12)] : List (Nat × Nat × Nat)), q.1 < 133) q hq) hb2)) (by decide) I2 d
  have I3 : q_iI b g h3 [(100, 12, 0), (101, 6, 12), (102, 6, 18)] 24 := I3
  have e3 : q_sem d mX12_copies 0 [.ref 98, .ref 102, .int 6, .ref b, .int 0, .retAddr 0] [] (q_K o h2) = some (none, q_K o h3) := e3
  obtain ⟨h4, e4, I4⟩ := m_in (o := o) hb hbp (a := 103) (na := 6) (len := 6) (off := 24) ⟨by decide, rfl, rfl⟩ (by omega) (by decide) (by decide) (by decide) (by decide) (fun q hq => Nat.ne_of_gt (Nat.lt_of_lt_of_le ((by decide : ∀ q ∈ ([(100, 12, 0), (101, 6, 12), (102, 6, 18)] : List (Nat × Nat × Nat)), q.1 < 133) q hq) hb2)) (by decide) I3 d
  have I4 : q_iI b g h4 [(100, 12, 0), (101, 6, 12), (102, 6, 18), (103, 6, 24)] 30 := I4
  have e4 : q_sem d mX12_copies 0 [.ref 98, .ref 103, .int 6, .ref b, .int 0, .retAddr 0] [] (q_K o h3) = some (none, q_K o h4) := e4
  obtain ⟨h5, e5, I5⟩ := m_in (o := o) hb hbp (a := 104) (na := 8) (len := 8) (off := 30) ⟨by decide, rfl, rfl⟩ (by omega) (by decide) (by decide) (by decide) (by decide) (fun q hq => Nat.ne_of_gt (Nat.lt_of_lt_of_le ((by decide : ∀ q ∈ ([(100, 12, 0), (101, 6, 12), (102, 6, 18), (103, 6, 24)] : List (Nat × Nat × Nat)), q.1 < 133) q hq) hb2)) (by decide) I4 d
  have I5 : q_iI b g h5 [(100, 12, 0), (101, 6, 12), (102, 6, 18), (103, 6, 24), (104, 8, 30)] 38 := I5
  have e5 : q_sem d mX12_copies 0 [.ref 98, .ref 104, .int 8, .ref b, .int 0, .retAddr 0] [] (q_K o h4) = some (none, q_K o h5) := e5
  obtain ⟨h6, e6, I6⟩ := m_in (o := o) hb hbp (a := 105) (na := 8) (len := 8) (off := 38) ⟨by decide, rfl, rfl⟩ (by omega) (by decide) (by decide) (by decide) (by decide) (fun q hq => Nat.ne_of_gt (Nat.lt_of_lt_of_le ((by decide : ∀ q ∈ ([(100, 12, 0), (101, 6, 12), (102, 6, 18), (103, 6, 24), (104, 8, 30)] : List (Nat × Nat × Nat)), q.1 < 133) q hq) hb2)) (by decide) I5 d
  have I6 : q_iI b g h6 [(100, 12, 0), (101, 6, 12), (102, 6, 18), (103, 6, 24), (104, 8, 30), (105, 8, 38)] 46 := I6
  have e6 : q_sem d mX12_copies 0 [.ref 98, .ref 105, .int 8, .ref b, .int 0, .retAddr 0] [] (q_K o h5) = some (none, q_K o h6) := e6
  obtain ⟨h7, e7, I7⟩ := m_in (o := o) hb hbp (a := 106) (na := 24) (len := 24) (off := 46) ⟨by decide, rfl, rfl⟩ (by omega) (by decide) (by decide) (by decide) (by decide) (fun q hq => Nat.ne_of_gt (Nat.lt_of_lt_of_le ((by decide : ∀ q ∈ ([(100, 12, 0), (101, 6, 12), (102, 6, 18), (103, 6, 24), (104, 8, 30), (105, 8, 38)] : List (Nat × Nat × Nat)), q.1 < 133) q hq) hb2)) (by decide) I6 d
  have I7 : q_iI b g h7 [(100, 12, 0), (101, 6, 12), (102, 6, 18), (103, 6, 24), (104, 8, 30), (105, 8, 38), (106, 24, 46)] 70 := I7
  have e7 : q_sem d mX12_copies 0 [.ref 98, .ref 106, .int 24, .ref b, .int 0, .retAddr 0] [] (q_K o h6) = some (none, q_K o h7) := e7
  obtain ⟨h8, e8, I8⟩ := m_in (o := o) hb hbp (a := 107) (na := 24) (len := 24) (off := 70) ⟨by decide, rfl, rfl⟩ (by omega) (by decide) (by decide) (by decide) (by decide) (fun q hq => Nat.ne_of_gt (Nat.lt_of_lt_of_le ((by decide : ∀ q ∈ ([(100, 12, 0), (101, 6, 12), (102, 6, 18), (103, 6, 24), (104, 8, 30), (105, 8, 38), (106, 24, 46)] : List (Nat × Nat × Nat)), q.1 < 133) q hq) hb2)) (by decide) I7 d
  have I8 : q_iI b g h8 [(100, 12, 0), (101, 6, 12), (102, 6, 18), (103, 6, 24), (104, 8, 30), (105, 8, 38), (106, 24, 46), (107, 24, 70)] 94 := I8
  have e8 : q_sem d mX12_copies 0 [.ref 98, .ref 107, .int 24, .ref b, .int 0, .retAddr 0] [] (q_K o h7) = some (none, q_K o h8) := e8
  obtain ⟨h9, e9, I9⟩ := m_in (o := o) hb hbp (a := 108) (na := 24) (len := 24) (off := 94) ⟨by decide, rfl, rfl⟩ (by omega) (by decide) (by decide) (by decide) (by decide) (fun q hq => Nat.ne_of_gt (Nat.lt_of_lt_of_le ((by decide : ∀ q ∈ ([(100, 12, 0), (101, 6, 12), (102, 6, 18), (103, 6, 24), (104, 8, 30), (105, 8, 38), (106, 24, 46), (107, 24, 70)] : List (Nat × Nat × Nat)), q.1 < 133) q hq) hb2)) (by decide) I8 d
  have I9 : q_iI b g h9 [(100, 12, 0), (101, 6, 12), (102, 6, 18), (103, 6, 24), (104, 8, 30), (105, 8, 38), (106, 24, 46), (107, 24, 70), (108, 24, 94)] 118 := I9
  have e9 : q_sem d mX12_copies 0 [.ref 98, .ref 108, .int 24, .ref b, .int 0, .retAddr 0] [] (q_K o h8) = some (none, q_K o h9) := e9
  obtain ⟨h10, e10, I10⟩ := m_in (o := o) hb hbp (a := 109) (na := 5) (len := 5) (off := 118) ⟨by decide, rfl, rfl⟩ (by omega) (by decide) (by decide) (by decide) (by decide) (fun q hq => Nat.ne_of_gt (Nat.lt_of_lt_of_le ((by decide : ∀ q ∈ ([(100, 12, 0), (101, 6, 12), (102, 6, 18), (103, 6, 24), (104, 8, 30), (105, 8, 38), (106, 24, 46), (107, 24, 70), (108, 24, 94)] : List (Nat × Nat × Nat)), q.1 < 133) q hq) hb2)) (by decide) I9 d
  have I10 : q_iI b g h10 [(100, 12, 0), (101, 6, 12), (102, 6, 18), (103, 6, 24), (104, 8, 30), (105, 8, 38), (106, 24, 46), (107, 24, 70), (108, 24, 94), (109, 5, 118)] 123 := I10
  have e10 : q_sem d mX12_copies 0 [.ref 98, .ref 109, .int 5, .ref b, .int 0, .retAddr 0] [] (q_K o h9) = some (none, q_K o h10) := e10
  obtain ⟨h11, e11, I11⟩ := m_in (o := o) hb hbp (a := 110) (na := 6) (len := 6) (off := 123) ⟨by decide, rfl, rfl⟩ (by omega) (by decide) (by decide) (by decide) (by decide) (fun q hq => Nat.ne_of_gt (Nat.lt_of_lt_of_le ((by decide : ∀ q ∈ ([(100, 12, 0), (101, 6, 12), (102, 6, 18), (103, 6, 24), (104, 8, 30), (105, 8, 38), (106, 24, 46), (107, 24, 70), (108, 24, 94), (109, 5, 118)] : List (Nat × Nat × Nat)), q.1 < 133) q hq) hb2)) (by decide) I10 d
  have I11 : q_iI b g h11 [(100, 12, 0), (101, 6, 12), (102, 6, 18), (103, 6, 24), (104, 8, 30), (105, 8, 38), (106, 24, 46), (107, 24, 70), (108, 24, 94), (109, 5, 118), (110, 6, 123)] 129 := I11
  have e11 : q_sem d mX12_copies 0 [.ref 98, .ref 110, .int 6, .ref b, .int 0, .retAddr 0] [] (q_K o h10) = some (none, q_K o h11) := e11
  obtain ⟨h12, e12, I12⟩ := m_in (o := o) hb hbp (a := 111) (na := 6) (len := 6) (off := 129) ⟨by decide, rfl, rfl⟩ (by omega) (by decide) (by decide) (by decide) (by decide) (fun q hq => Nat.ne_of_gt (Nat.lt_of_lt_of_le ((by decide : ∀ q ∈ ([(100, 12, 0), (101, 6, 12), (102, 6, 18), (103, 6, 24), (104, 8, 30), (105, 8, 38), (106, 24, 46), (107, 24, 70), (108, 24, 94), (109, 5, 118), (110, 6, 123)] : List (Nat × Nat × Nat)), q.1 < 133) q hq) hb2)) (by decide) I11 d
  have I12 : q_iI b g h12 [(100, 12, 0), (101, 6, 12), (102, 6, 18), (103, 6, 24), (104, 8, 30), (105, 8, 38), (106, 24, 46), (107, 24, 70), (108, 24, 94), (109, 5, 118), (110, 6, 123), (111, 6, 129)] 135 := I12
  have e12 : q_sem d mX12_copies 0 [.ref 98, .ref 111, .int 6, .ref b, .int 0, .retAddr 0] [] (q_K o h11) = some (none, q_K o h12) := e12
  obtain ⟨h13, e13, I13⟩ := m_in (o := o) hb hbp (a := 112) (na := 6) (len := 6) (off := 135) ⟨by decide, rfl, rfl⟩ (by omega) (by decide) (by decide) (by decide) (by decide) (fun q hq => Nat.ne_of_gt (Nat.lt_of_lt_of_le ((by decide : ∀ q ∈ ([(100, 12, 0), (101, 6, 12), (102, 6, 18), (103, 6, 24), (104, 8, 30), (105, 8, 38), (106, 24, 46), (107, 24, 70), (108, 24, 94), (109, 5, 118), (110, 6, 123), (111, 6, 129)] : List (Nat × Nat × Nat)), q.1 < 133) q hq) hb2)) (by decide) I12 d
  have I13 : q_iI b g h13 [(100, 12, 0), (101, 6, 12), (102, 6, 18), (103, 6, 24), (104, 8, 30), (105, 8, 38), (106, 24, 46), (107, 24, 70), (108, 24, 94), (109, 5, 118), (110, 6, 123), (111, 6, 129), (112, 6, 135)] 141 := I13
  have e13 : q_sem d mX12_copies 0 [.ref 98, .ref 112, .int 6, .ref b, .int 0, .retAddr 0] [] (q_K o h12) = some (none, q_K o h13) := e13
  obtain ⟨h14, e14, I14⟩ := m_in (o := o) hb hbp (a := 113) (na := 6) (len := 6) (off := 141) ⟨by decide, rfl, rfl⟩ (by omega) (by decide) (by decide) (by decide) (by decide) (fun q hq => Nat.ne_of_gt (Nat.lt_of_lt_of_le ((by decide : ∀ q ∈ ([(100, 12, 0), (101, 6, 12), (102, 6, 18), (103, 6, 24), (104, 8, 30), (105, 8, 38), (106, 24, 46), (107, 24, 70), (108, 24, 94), (109, 5, 118), (110, 6, 123), (111, 6, 129), (112, 6, 135)] : List (Nat × Nat × Nat)), q.1 < 133) q hq) hb2)) (by decide) I13 d
  have I14 : q_iI b g h14 [(100, 12, 0), (101, 6, 12), (102, 6, 18), (103, 6, 24), (104, 8, 30), (105, 8, 38), (106, 24, 46), (107, 24, 70), (108, 24, 94), (109, 5, 118), (110, 6, 123), (111, 6, 129), (112, 6, 135), (113, 6, 141)] 147 := I14
  have e14 : q_sem d mX12_copies 0 [.ref 98, .ref 113, .int 6, .ref b, .int 0, .retAddr 0] [] (q_K o h13) = some (none, q_K o h14) := e14
  obtain ⟨h15, e15, I15⟩ := m_in (o := o) hb hbp (a := 114) (na := 16) (len := 16) (off := 147) ⟨by decide, rfl, rfl⟩ (by omega) (by decide) (by decide) (by decide) (by decide) (fun q hq => Nat.ne_of_gt (Nat.lt_of_lt_of_le ((by decide : ∀ q ∈ ([(100, 12, 0), (101, 6, 12), (102, 6, 18), (103, 6, 24), (104, 8, 30), (105, 8, 38), (106, 24, 46), (107, 24, 70), (108, 24, 94), (109, 5, 118), (110, 6, 123), (111, 6, 129), (112, 6, 135), (113, 6, 141)] : List (Nat × Nat × Nat)), q.1 < 133) q hq) hb2)) (by decide) I14 d
  have I15 : q_iI b g h15 [(100, 12, 0), (101, 6, 12), (102, 6, 18), (103, 6, 24), (104, 8, 30), (105, 8, 38), (106, 24, 46), (107, 24, 70), (108, 24, 94), (109, 5, 118), (110, 6, 123), (111, 6, 129), (112, 6, 135), (113, 6, 141), (114, 16, 147)] 163 := I15
  have e15 : q_sem d mX12_copies 0 [.ref 98, .ref 114, .int 16, .ref b, .int 0, .retAddr 0] [] (q_K o h14) = some (none, q_K o h15) := e15
  obtain ⟨h16, e16, I16⟩ := m_in (o := o) hb hbp (a := 115) (na := 16) (len := 16) (off := 163) ⟨by decide, rfl, rfl⟩ (by omega) (by decide) (by decide) (by decide) (by decide) (fun q hq => Nat.ne_of_gt (Nat.lt_of_lt_of_le ((by decide : ∀ q ∈ ([(100, 12, 0), (101, 6, 12), (102, 6, 18), (103, 6, 24), (104, 8, 30), (105, 8, 38), (106, 24, 46), (107, 24, 70), (108, 24, 94), (109, 5, 118), (110, 6, 123), (111, 6, 129), (112, 6, 135), (113, 6, 141), (114, 16, 147)] : List (Nat × Nat × Nat)), q.1 < 133) q hq) hb2)) (by decide) I15 d
  have I16 : q_iI b g h16 [(100, 12, 0), (101, 6, 12), (102, 6, 18), (103, 6, 24), (104, 8, 30), (105, 8, 38), (106, 24, 46), (107, 24, 70), (108, 24, 94), (109, 5, 118), (110, 6, 123), (111, 6, 129), (112, 6, 135), (113, 6, 141), (114, 16, 147), (115, 16, 163)] 179 := I16
  have e16 : q_sem d mX12_copies 0 [.ref 98, .ref 115, .int 16, .ref b, .int 0, .retAddr 0] [] (q_K o h15) = some (none, q_K o h16) := e16
  obtain ⟨h17, e17, I17⟩ := m_in (o := o) hb hbp (a := 116) (na := 16) (len := 16) (off := 179) ⟨by decide, rfl, rfl⟩ (by omega) (by decide) (by decide) (by decide) (by decide) (fun q hq => Nat.ne_of_gt (Nat.lt_of_lt_of_le ((by decide : ∀ q ∈ ([(100, 12, 0), (101, 6, 12), (102, 6, 18), (103, 6, 24), (104, 8, 30), (105, 8, 38), (106, 24, 46), (107, 24, 70), (108, 24, 94), (109, 5, 118), (110, 6, 123), (111, 6, 129), (112, 6, 135), (113, 6, 141), (114, 16, 147), (115, 16, 163)] : List (Nat × Nat × Nat)), q.1 < 133) q hq) hb2)) (by decide) I16 d
  have I17 : q_iI b g h17 [(100, 12, 0), (101, 6, 12), (102, 6, 18), (103, 6, 24), (104, 8, 30), (105, 8, 38), (106, 24, 46), (107, 24, 70), (108, 24, 94), (109, 5, 118), (110, 6, 123), (111, 6, 129), (112, 6, 135), (113, 6, 141), (114, 16, 147), (115, 16, 163), (116, 16, 179)] 195 := I17
  have e17 : q_sem d mX12_copies 0 [.ref 98, .ref 116, .int 16, .ref b, .int 0, .retAddr 0] [] (q_K o h16) = some (none, q_K o h17) := e17
  obtain ⟨h18, e18, I18⟩ := m_in (o := o) hb hbp (a := 117) (na := 16) (len := 16) (off := 195) ⟨by decide, rfl, rfl⟩ (by omega) (by decide) (by decide) (by decide) (by decide) (fun q hq => Nat.ne_of_gt (Nat.lt_of_lt_of_le ((by decide : ∀ q ∈ ([(100, 12, 0), (101, 6, 12), (102, 6, 18), (103, 6, 24), (104, 8, 30), (105, 8, 38), (106, 24, 46), (107, 24, 70), (108, 24, 94), (109, 5, 118), (110, 6, 123), (111, 6, 129), (112, 6, 135), (113, 6, 141), (114, 16, 147), (115, 16, 163), (116, 16, 179)] : List (Nat × Nat × Nat)), q.1 < 133) q hq) hb2)) (by decide) I17 d
  have I18 : q_iI b g h18 [(100, 12, 0), (101, 6, 12), (102, 6, 18), (103, 6, 24), (104, 8, 30), (105, 8, 38), (106, 24, 46), (107, 24, 70), (108, 24, 94), (109, 5, 118), (110, 6, 123), (111, 6, 129), (112, 6, 135), (113, 6, 141), (114, 16, 147), (115, 16, 163), (116, 16, 179), (117, 16, 195)] 211 := I18
  have e18 : q_sem d mX12_copies 0 [.ref 98, .ref 117, .int 16, .ref b, .int 0, .retAddr 0] [] (q_K o h17) = some (none, q_K o h18) := e18
  obtain ⟨h19, e19, I19⟩ := m_in (o := o) hb hbp (a := 118) (na := 16) (len := 16) (off := 211) ⟨by decide, rfl, rfl⟩ (by omega) (by decide) (by decide) (by decide) (by decide) (fun q hq => Nat.ne_of_gt (Nat.lt_of_lt_of_le ((by decide : ∀ q ∈ ([(100, 12, 0), (101, 6, 12), (102, 6, 18), (103, 6, 24), (104, 8, 30), (105, 8, 38), (106, 24, 46), (107, 24, 70), (108, 24, 94), (109, 5, 118), (110, 6, 123), (111, 6, 129), (112, 6, 135), (113, 6, 141), (114, 16, 147), (115, 16, 163), (116, 16, 179), (117, 16, 195)] : List (Nat × Nat × Nat)), q.1 < 133) q hq) hb2)) (by decide) I18 d
  have I19 : q_iI b g h19 [(100, 12, 0), (101, 6, 12), (102, 6, 18), (103, 6, 24), (104, 8, 30), (105, 8, 38), (106, 24, 46), (107, 24, 70), (108, 24, 94), (109, 5, 118), (110, 6, 123), (111, 6, 129), (112, 6, 135), (113, 6, 141), (114, 16, 147), (115, 16, 163), (116, 16, 179), (117, 16, 195), (118, 16, 211)] 227 := I19
  have e19 : q_sem d mX12_copies 0 [.ref 98, .ref 118, .int 16, .ref b, .int 0, .retAddr 0] [] (q_K o h18) = some (none, q_K o h19) := e19
  obtain ⟨h20, e20, I20⟩ := m_in (o := o) hb hbp (a := 119) (na := 16) (len := 16) (off := 227) ⟨by decide, rfl, rfl⟩ (by omega) (by decide) (by decide) (by decide) (by decide) (fun q hq => Nat.ne_of_gt (Nat.lt_of_lt_of_le ((by decide : ∀ q ∈ ([(100, 12, 0), (101, 6, 12), (102, 6, 18), (103, 6, 24), (104, 8, 30), (105, 8, 38), (106, 24, 46), (107, 24, 70), (108, 24, 94), (109, 5, 118), (110, 6, 123), (111, 6, 129), (112, 6, 135), (113, 6, 141), (114, 16, 147), (115, 16, 163), (116, 16, 179), (117, 16, 195), (118, 16, 211)] : List (Nat × Nat × Nat)), q.1 < 133) q hq) hb2)) (by decide) I19 d
  have I20 : q_iI b g h20 [(100, 12, 0), (101, 6, 12), (102, 6, 18), (103, 6, 24), (104, 8, 30), (105, 8, 38), (106, 24, 46), (107, 24, 70), (108, 24, 94), (109, 5, 118), (110, 6, 123), (111, 6, 129), (112, 6, 135), (113, 6, 141), (114, 16, 147), (115, 16, 163), (116, 16, 179), (117, 16, 195), (118, 16, 211), (119, 16, 227)] 243 := I20
  have e20 : q_sem d mX12_copies 0 [.ref 98, .ref 119, .int 16, .ref b, .int 0, .retAddr 0] [] (q_K o h19) = some (none, q_K o h20) := e20
  obtain ⟨h21, e21, I21⟩ := m_in (o := o) hb hbp (a := 120) (na := 16) (len := 16) (off := 243) ⟨by decide, rfl, rfl⟩ (by omega) (by decide) (by decide) (by decide) (by decide) (fun q hq => Nat.ne_of_gt (Nat.lt_of_lt_of_le ((by decide : ∀ q ∈ ([(100, 12, 0), (101, 6, 12), (102, 6, 18), (103, 6, 24), (104, 8, 30), (105, 8, 38), (106, 24, 46), (107, 24, 70), (108, 24, 94), (109, 5, 118), (110, 6, 123), (111, 6, 129), (112, 6, 135), (113, 6, 141), (114, 16, 147), (115, 16, 163), (116, 16, 179), (117, 16, 195), (118, 16, 211), (119, 16, 227)] : List (Nat × Nat × Nat)), q.1 < 133) q hq) hb2)) (by decide) I20 d
  have I21 : q_iI b g h21 [(100, 12, 0), (101, 6, 12), (102, 6, 18), (103, 6, 24), (104, 8, 30), (105, 8, 38), (106, 24, 46), (107, 24, 70), (108, 24, 94), (109, 5, 118), (110, 6, 123), (111, 6, 129), (112, 6, 135), (113, 6, 141), (114, 16, 147), (115, 16, 163), (116, 16, 179), (117, 16, 195), (118, 16, 211), (119, 16, 227), (120, 16, 243)] 259 := I21
  have e21 : q_sem d mX12_copies 0 [.ref 98, .ref 120, .int 16, .ref b, .int 0, .retAddr 0] [] (q_K o h20) = some (none, q_K o h21) := e21
  obtain ⟨h22, e22, I22⟩ := m_in (o := o) hb hbp (a := 121) (na := 16) (len := 16) (off := 259) ⟨by decide, rfl, rfl⟩ (by omega) (by decide) (by decide) (by decide) (by decide) (fun q hq => Nat.ne_of_gt (Nat.lt_of_lt_of_le ((by decide : ∀ q ∈ ([(100, 12, 0), (101, 6, 12), (102, 6, 18), (103, 6, 24), (104, 8, 30), (105, 8, 38), (106, 24, 46), (107, 24, 70), (108, 24, 94), (109, 5, 118), (110, 6, 123), (111, 6, 129), (112, 6, 135), (113, 6, 141), (114, 16, 147), (115, 16, 163), (116, 16, 179), (117, 16, 195), (118, 16, 211), (119, 16, 227), (120, 16, 243)] : List (Nat × Nat × Nat)), q.1 < 133) q hq) hb2)) (by decide) I21 d
  have I22 : q_iI b g h22 [(100, 12, 0), (101, 6, 12), (102, 6, 18), (103, 6, 24), (104, 8, 30), (105, 8, 38), (106, 24, 46), (107, 24, 70), (108, 24, 94), (109, 5, 118), (110, 6, 123), (111, 6, 129), (112, 6, 135), (113, 6, 141), (114, 16, 147), (115, 16, 163), (116, 16, 179), (117, 16, 195), (118, 16, 211), (119, 16, 227), (120, 16, 243), (121, 16, 259)] 275 := I22
  have e22 : q_sem d mX12_copies 0 [.ref 98, .ref 121, .int 16, .ref b, .int 0, .retAddr 0] [] (q_K o h21) = some (none, q_K o h22) := e22
  obtain ⟨h23, e23, I23⟩ := m_in (o := o) hb hbp (a := 122) (na := 16) (len := 16) (off := 275) ⟨by decide, rfl, rfl⟩ (by omega) (by decide) (by decide) (by decide) (by decide) (fun q hq => Nat.ne_of_gt (Nat.lt_of_lt_of_le ((by decide : ∀ q ∈ ([(100, 12, 0), (101, 6, 12), (102, 6, 18), (103, 6, 24), (104, 8, 30), (105, 8, 38), (106, 24, 46), (107, 24, 70), (108, 24, 94), (109, 5, 118), (110, 6, 123), (111, 6, 129), (112, 6, 135), (113, 6, 141), (114, 16, 147), (115, 16, 163), (116, 16, 179), (117, 16, 195), (118, 16, 211), (119, 16, 227), (120, 16, 243), (121, 16, 259)] : List (Nat × Nat × Nat)), q.1 < 133) q hq) hb2)) (by decide) I22 d
  have I23 : q_iI b g h23 [(100, 12, 0), (101, 6, 12), (102, 6, 18), (103, 6, 24), (104, 8, 30), (105, 8, 38), (106, 24, 46), (107, 24, 70), (108, 24, 94), (109, 5, 118), (110, 6, 123), (111, 6, 129), (112, 6, 135), (113, 6, 141), (114, 16, 147), (115, 16, 163), (116, 16, 179), (117, 16, 195), (118, 16, 211), (119, 16, 227), (120, 16, 243), (121, 16, 259), (122, 16, 275)] 291 := I23
  have e23 : q_sem d mX12_copies 0 [.ref 98, .ref 122, .int 16, .ref b, .int 0, .retAddr 0] [] (q_K o h22) = some (none, q_K o h23) := e23
  obtain ⟨h24, e24, I24⟩ := m_in (o := o) hb hbp (a := 123) (na := 16) (len := 16) (off := 291) ⟨by decide, rfl, rfl⟩ (by omega) (by decide) (by decide) (by decide) (by decide) (fun q hq => Nat.ne_of_gt (Nat.lt_of_lt_of_le ((by decide : ∀ q ∈ ([(100, 12, 0), (101, 6, 12), (102, 6, 18), (103, 6, 24), (104, 8, 30), (105, 8, 38), (106, 24, 46), (107, 24, 70), (108, 24, 94), (109, 5, 118), (110, 6, 123), (111, 6, 129), (112, 6, 135), (113, 6, 141), (114, 16, 147), (115, 16, 163), (116, 16, 179), (117, 16, 195), (118, 16, 211), (119, 16, 227), (120, 16, 243), (121, 16, 259), (122, 16, 275)] : List (Nat × Nat × Nat)), q.1 < 133) q hq) hb2)) (by decide) I23 d
  have I24 : q_iI b g h24 [(100, 12, 0), (101, 6, 12), (102, 6, 18), (103, 6, 24), (104, 8, 30), (105, 8, 38), (106, 24, 46), (107, 24, 70), (108, 24, 94), (109, 5, 118), (110, 6, 123), (111, 6, 129), (112, 6, 135), (113, 6, 141), (114, 16, 147), (115, 16, 163), (116, 16, 179), (117, 16, 195), (118, 16, 211), (119, 16, 227), (120, 16, 243), (121, 16, 259), (122, 16, 275), (123, 16, 291)] 307 := I24
  have e24 : q_sem d mX12_copies 0 [.ref 98, .ref 123, .int 16, .ref b, .int 0, .retAddr 0] [] (q_K o h23) = some (none, q_K o h24) := e24
  obtain ⟨h25, e25, I25⟩ := m_in (o := o) hb hbp (a := 124) (na := 16) (len := 16) (off := 307) ⟨by decide, rfl, rfl⟩ (by omega) (by decide) (by decide) (by decide) (by decide) (fun q hq => Nat.ne_of_gt (Nat.lt_of_lt_of_le ((by decide : ∀ q ∈ ([(100, 12, 0), (101, 6, 12), (102, 6, 18), (103, 6, 24), (104, 8, 30), (105, 8, 38), (106, 24, 46), (107, 24, 70), (108, 24, 94), (109, 5, 118), (110, 6, 123), (111, 6, 129), (112, 6, 135), (113, 6, 141), (114, 16, 147), (115, 16, 163), (116, 16, 179), (117, 16, 195), (118, 16, 211), (119, 16, 227), (120, 16, 243), (121, 16, 259), (122, 16, 275), (123, 16, 291)] : List (Nat × Nat × Nat)), q.1 < 133) q hq) hb2)) (by decide) I24 d
  have I25 : q_iI b g h25 [(100, 12, 0), (101, 6, 12), (102, 6, 18), (103, 6, 24), (104, 8, 30), (105, 8, 38), (106, 24, 46), (107, 24, 70), (108, 24, 94), (109, 5, 118), (110, 6, 123), (111, 6, 129), (112, 6, 135), (113, 6, 141), (114, 16, 147), (115, 16, 163), (116, 16, 179), (117, 16, 195), (118, 16, 211), (119, 16, 227), (120, 16, 243), (121, 16, 259), (122, 16, 275), (123, 16, 291), (124, 16, 307)] 323 := I25
  have e25 : q_sem d mX12_copies 0 [.ref 98, .ref 124, .int 16, .ref b, .int 0, .retAddr 0] [] (q_K o h24) = some (none, q_K o h25) := e25
  obtain ⟨h26, e26, I26⟩ := m_in (o := o) hb hbp (a := 125) (na := 16) (len := 16) (off := 323) ⟨by decide, rfl, rfl⟩ (by omega) (by decide) (by decide) (by decide) (by decide) (fun q hq => Nat.ne_of_gt (Nat.lt_of_lt_of_le ((by decide : ∀ q ∈ ([(100, 12, 0), (101, 6, 12), (102, 6, 18), (103, 6, 24), (104, 8, 30), (105, 8, 38), (106, 24, 46), (107, 24, 70), (108, 24, 94), (109, 5, 118), (110, 6, 123), (111, 6, 129), (112, 6, 135), (113, 6, 141), (114, 16, 147), (115, 16, 163), (116, 16, 179), (117, 16, 195), (118, 16, 211), (119, 16, 227), (120, 16, 243), (121, 16, 259), (122, 16, 275), (123, 16, 291), (124, 16, 307)] : List (Nat × Nat × Nat)), q.1 < 133) q hq) hb2)) (by decide) I25 d
  have I26 : q_iI b g h26 [(100, 12, 0), (101, 6, 12), (102, 6, 18), (103, 6, 24), (104, 8, 30), (105, 8, 38), (106, 24, 46), (107, 24, 70), (108, 24, 94), (109, 5, 118), (110, 6, 123), (111, 6, 129), (112, 6, 135), (113, 6, 141), (114, 16, 147), (115, 16, 163), (116, 16, 179), (117, 16, 195), (118, 16, 211), (119, 16, 227), (120, 16, 243), (121, 16, 259), (122, 16, 275), (123, 16, 291), (124, 16, 307), (125, 16, 323)] 339 := I26
  have e26 : q_sem d mX12_copies 0 [.ref 98, .ref 125, .int 16, .ref b, .int 0, .retAddr 0] [] (q_K o h25) = some (none, q_K o h26) := e26
  obtain ⟨h27, e27, I27⟩ := m_in (o := o) hb hbp (a := 126) (na := 12) (len := 12) (off := 339) ⟨by decide, rfl, rfl⟩ (by omega) (by decide) (by decide) (by decide) (by decide) (fun q hq => Nat.ne_of_gt (Nat.lt_of_lt_of_le ((by decide : ∀ q ∈ ([(100, 12, 0), (101, 6, 12), (102, 6, 18), (103, 6, 24), (104, 8, 30), (105, 8, 38), (106, 24, 46), (107, 24, 70), (108, 24, 94), (109, 5, 118), (110, 6, 123), (111, 6, 129), (112, 6, 135), (113, 6, 141), (114, 16, 147), (115, 16, 163), (116, 16, 179), (117, 16, 195), (118, 16, 211), (119, 16, 227), (120, 16, 243), (121, 16, 259), (122, 16, 275), (123, 16, 291), (124, 16, 307), (125, 16, 323)] : List (Nat × Nat × Nat)), q.1 < 133) q hq) hb2)) (by decide) I26 d
  have I27 : q_iI b g h27 [(100, 12, 0), (101, 6, 12), (102, 6, 18), (103, 6, 24), (104, 8, 30), (105, 8, 38), (106, 24, 46), (107, 24, 70), (108, 24, 94), (109, 5, 118), (110, 6, 123), (111, 6, 129), (112, 6, 135), (113, 6, 141), (114, 16, 147), (115, 16, 163), (116, 16, 179), (117, 16, 195), (118, 16, 211), (119, 16, 227), (120, 16, 243), (121, 16, 259), (122, 16, 275), (123, 16, 291), (124, 16, 307), (125, 16, 323), (126, 12, 339)] 351 := I27
  have e27 : q_sem d mX12_copies 0 [.ref 98, .ref 126, .int 12, .ref b, .int 0, .retAddr 0] [] (q_K o h26) = some (none, q_K o h27) := e27
  obtain ⟨h28, e28, I28⟩ := m_in (o := o) hb hbp (a := 127) (na := 12) (len := 12) (off := 351) ⟨by decide, rfl, rfl⟩ (by omega) (by decide) (by decide) (by decide) (by decide) (fun q hq => Nat.ne_of_gt (Nat.lt_of_lt_of_le ((by decide : ∀ q ∈ ([(100, 12, 0), (101, 6, 12), (102, 6, 18), (103, 6, 24), (104, 8, 30), (105, 8, 38), (106, 24, 46), (107, 24, 70), (108, 24, 94), (109, 5, 118), (110, 6, 123), (111, 6, 129), (112, 6, 135), (113, 6, 141), (114, 16, 147), (115, 16, 163), (116, 16, 179), (117, 16, 195), (118, 16, 211), (119, 16, 227), (120, 16, 243), (121, 16, 259), (122, 16, 275), (123, 16, 291), (124, 16, 307), (125, 16, 323), (126, 12, 339)] : List (Nat × Nat × Nat)), q.1 < 133) q hq) hb2)) (by decide) I27 d
  have I28 : q_iI b g h28 [(100, 12, 0), (101, 6, 12), (102, 6, 18), (103, 6, 24), (104, 8, 30), (105, 8, 38), (106, 24, 46), (107, 24, 70), (108, 24, 94), (109, 5, 118), (110, 6, 123), (111, 6, 129), (112, 6, 135), (113, 6, 141), (114, 16, 147), (115, 16, 163), (116, 16, 179), (117, 16, 195), (118, 16, 211), (119, 16, 227), (120, 16, 243), (121, 16, 259), (122, 16, 275), (123, 16, 291), (124, 16, 307), (125, 16, 323), (126, 12, 339), (127, 12, 351)] 363 := I28
  have e28 : q_sem d mX12_copies 0 [.ref 98, .ref 127, .int 12, .ref b, .int 0, .retAddr 0] [] (q_K o h27) = some (none, q_K o h28) := e28
  obtain ⟨h29, e29, I29⟩ := m_in (o := o) hb hbp (a := 128) (na := 12) (len := 12) (off := 363) ⟨by decide, rfl, rfl⟩ (by omega) (by decide) (by decide) (by decide) (by decide) (fun q hq => Nat.ne_of_gt (Nat.lt_of_lt_of_le ((by decide : ∀ q ∈ ([(100, 12, 0), (101, 6, 12), (102, 6, 18), (103, 6, 24), (104, 8, 30), (105, 8, 38), (106, 24, 46), (107, 24, 70), (108, 24, 94), (109, 5, 118), (110, 6, 123), (111, 6, 129), (112, 6, 135), (113, 6, 141), (114, 16, 147), (115, 16, 163), (116, 16, 179), (117, 16, 195), (118, 16, 211), (119, 16, 227), (120, 16, 243), (121, 16, 259), (122, 16, 275), (123, 16, 291), (124, 16, 307), (125, 16, 323), (126, 12, 339), (127, 12, 351)] : List (Nat × Nat × Nat)), q.1 < 133) q hq) hb2)) (by decide) I28 d
  have I29 : q_iI b g h29 [(100, 12, 0), (101, 6, 12), (102, 6, 18), (103, 6, 24), (104, 8, 30), (105, 8, 38), (106, 24, 46), (107, 24, 70), (108, 24, 94), (109, 5, 118), (110, 6, 123), (111, 6, 129), (112, 6, 135), (113, 6, 141), (114, 16, 147), (115, 16, 163), (116, 16, 179), (117, 16, 195), (118, 16, 211), (119, 16, 227), (120, 16, 243), (121, 16, 259), (122, 16, 275), (123, 16, 291), (124, 16, 307), (125, 16, 323), (126, 12, 339), (127, 12, 351), (128, 12, 363)] 375 := I29
  have e29 : q_sem d mX12_copies 0 [.ref 98, .ref 128, .int 12, .ref b, .int 0, .retAddr 0] [] (q_K o h28) = some (none, q_K o h29) := e29
  obtain ⟨h30, e30, I30⟩ := m_in (o := o) hb hbp (a := 129) (na := 600) (len := 600) (off := 375) ⟨by decide, rfl, rfl⟩ (by omega) (by decide) (by decide) (by decide) (by decide) (fun q hq => Nat.ne_of_gt (Nat.lt_of_lt_of_le ((by decide : ∀ q ∈ ([(100, 12, 0), (101, 6, 12), (102, 6, 18), (103, 6, 24), (104, 8, 30), (105, 8, 38), (106, 24, 46), (107, 24, 70), (108, 24, 94), (109, 5, 118), (110, 6, 123), (111, 6, 129), (112, 6, 135), (113, 6, 141), (114, 16, 147), (115, 16, 163), (116, 16, 179), (117, 16, 195), (118, 16, 211), (119, 16, 227), (120, 16, 243), (121, 16, 259), (122, 16, 275), (123, 16, 291), (124, 16, 307), (125, 16, 323), (126, 12, 339), (127, 12, 351), (128, 12, 363)] : List (Nat × Nat × Nat)), q.1 < 133) q hq) hb2)) (by decide) I29 d
  have I30 : q_iI b g h30 [(100, 12, 0), (101, 6, 12), (102, 6, 18), (103, 6, 24), (104, 8, 30), (105, 8, 38), (106, 24, 46), (107, 24, 70), (108, 24, 94), (109, 5, 118), (110, 6, 123), (111, 6, 129), (112, 6, 135), (113, 6, 141), (114, 16, 147), (115, 16, 163), (116, 16, 179), (117, 16, 195), (118, 16, 211), (119, 16, 227), (120, 16, 243), (121, 16, 259), (122, 16, 275), (123, 16, 291), (124, 16, 307), (125, 16, 323), (126, 12, 339), (127, 12, 351), (128, 12, 363), (129, 600, 375)] 975 := I30
  have e30 : q_sem d mX12_copies 0 [.ref 98, .ref 129, .int 600, .ref b, .int 0, .retAddr 0] [] (q_K o h29) = some (none, q_K o h30) := e30
  obtain ⟨h31, e31, I31⟩ := m_in (o := o) hb hbp (a := 130) (na := 600) (len := 600) (off := 975) ⟨by decide, rfl, rfl⟩ (by omega) (by decide) (by decide) (by decide) (by decide) (fun q hq => Nat.ne_of_gt (Nat.lt_of_lt_of_le ((by decide : ∀ q ∈ ([(100, 12, 0), (101, 6, 12), (102, 6, 18), (103, 6, 24), (104, 8, 30), (105, 8, 38), (106, 24, 46), (107, 24, 70), (108, 24, 94), (109, 5, 118), (110, 6, 123), (111, 6, 129), (112, 6, 135), (113, 6, 141), (114, 16, 147), (115, 16, 163), (116, 16, 179), (117, 16, 195), (118, 16, 211), (119, 16, 227), (120, 16, 243), (121, 16, 259), (122, 16, 275), (123, 16, 291), (124, 16, 307), (125, 16, 323), (126, 12, 339), (127, 12, 351), (128, 12, 363), (129, 600, 375)] : List (Nat × Nat × Nat)), q.1 < 133) q hq) hb2)) (by decide) I30 d
  have I31 : q_iI b g h31 [(100, 12, 0), (101, 6, 12), (102, 6, 18), (103, 6, 24), (104, 8, 30), (105, 8, 38), (106, 24, 46), (107, 24, 70), (108, 24, 94), (109, 5, 118), (110, 6, 123), (111, 6, 129), (112, 6, 135), (113, 6, 141), (114, 16, 147), (115, 16, 163), (116, 16, 179), (117, 16, 195), (118, 16, 211), (119, 16, 227), (120, 16, 243), (121, 16, 259), (122, 16, 275), (123, 16, 291), (124, 16, 307), (125, 16, 323), (126, 12, 339), (127, 12, 351), (128, 12, 363), (129, 600, 375), (130, 600, 975)] 1575 := I31
  have e31 : q_sem d mX12_copies 0 [.ref 98, .ref 130, .int 600, .ref b, .int 0, .retAddr 0] [] (q_K o h30) = some (none, q_K o h31) := e31
  obtain ⟨h32, e32, I32⟩ := m_in (o := o) hb hbp (a := 131) (na := 50) (len := 50) (off := 1575) ⟨by decide, rfl, rfl⟩ (by omega) (by decide) (by decide) (by decide) (by decide) (fun q hq => Nat.ne_of_gt (Nat.lt_of_lt_of_le ((by decide : ∀ q ∈ ([(100, 12, 0), (101, 6, 12), (102, 6, 18), (103, 6, 24), (104, 8, 30), (105, 8, 38), (106, 24, 46), (107, 24, 70), (108, 24, 94), (109, 5, 118), (110, 6, 123), (111, 6, 129), (112, 6, 135), (113, 6, 141), (114, 16, 147), (115, 16, 163), (116, 16, 179), (117, 16, 195), (118, 16, 211), (119, 16, 227), (120, 16, 243), (121, 16, 259), (122, 16, 275), (123, 16, 291), (124, 16, 307), (125, 16, 323), (126, 12, 339), (127, 12, 351), (128, 12, 363), (129, 600, 375), (130, 600, 975)] : List (Nat × Nat × Nat)), q.1 < 133) q hq) hb2)) (by decide) I31 d
  have I32 : q_iI b g h32 [(100, 12, 0), (101, 6, 12), (102, 6, 18), (103, 6, 24), (104, 8, 30), (105, 8, 38), (106, 24, 46), (107, 24, 70), (108, 24, 94), (109, 5, 118), (110, 6, 123), (111, 6, 129), (112, 6, 135), (113, 6, 141), (114, 16, 147), (115, 16, 163), (116, 16, 179), (117, 16, 195), (118, 16, 211), (119, 16, 227), (120, 16, 243), (121, 16, 259), (122, 16, 275), (123, 16, 291), (124, 16, 307), (125, 16, 323), (126, 12, 339), (127, 12, 351), (128, 12, 363), (129, 600, 375), (130, 600, 975), (131, 50, 1575)] 1625 := I32
  have e32 : q_sem d mX12_copies 0 [.ref 98, .ref 131, .int 50, .ref b, .int 0, .retAddr 0] [] (q_K o h31) = some (none, q_K o h32) := e32
  obtain ⟨h33, e33, I33⟩ := m_in (o := o) hb hbp (a := 132) (na := 20) (len := 20) (off := 1625) ⟨by decide, rfl, rfl⟩ (by omega) (by decide) (by decide) (by decide) (by decide) (fun q hq => Nat.ne_of_gt (Nat.lt_of_lt_of_le ((by decide : ∀ q ∈ ([(100, 12, 0), (101, 6, 12), (102, 6, 18), (103, 6, 24), (104, 8, 30), (105, 8, 38), (106, 24, 46), (107, 24, 70), (108, 24, 94), (109, 5, 118), (110, 6, 123), (111, 6, 129), (112, 6, 135), (113, 6, 141), (114, 16, 147), (115, 16, 163), (116, 16, 179), (117, 16, 195), (118, 16, 211), (119, 16, 227), (120, 16, 243), (121, 16, 259), (122, 16, 275), (123, 16, 291), (124, 16, 307), (125, 16, 323), (126, 12, 339), (127, 12, 351), (128, 12, 363), (129, 600, 375), (130, 600, 975), (131, 50, 1575)] : List (Nat × Nat × Nat)), q.1 < 133) q hq) hb2)) (by decide) I32 d
  have I33 : q_iI b g h33 [(100, 12, 0), (101, 6, 12), (102, 6, 18), (103, 6, 24), (104, 8, 30), (105, 8, 38), (106, 24, 46), (107, 24, 70), (108, 24, 94), (109, 5, 118), (110, 6, 123), (111, 6, 129), (112, 6, 135), (113, 6, 141), (114, 16, 147), (115, 16, 163), (116, 16, 179), (117, 16, 195), (118, 16, 211), (119, 16, 227), (120, 16, 243), (121, 16, 259), (122, 16, 275), (123, 16, 291), (124, 16, 307), (125, 16, 323), (126, 12, 339), (127, 12, 351), (128, 12, 363), (129, 600, 375), (130, 600, 975), (131, 50, 1575), (132, 20, 1625)] 1645 := I33
  have e33 : q_sem d mX12_copies 0 [.ref 98, .ref 132, .int 20, .ref b, .int 0, .retAddr 0] [] (q_K o h32) = some (none, q_K o h33) := e33
  refine ⟨h33, ?_, I33⟩
  simp only [B_X12_copiesAll_0 hb, B_X12_copiesAll_17 hb, B_X12_copiesAll_29 hb, B_X12_copiesAll_41 hb, B_X12_copiesAll_53 hb, B_X12_copiesAll_65 hb, B_X12_copiesAll_77 hb, B_X12_copiesAll_89 hb, B_X12_copiesAll_101 hb, B_X12_copiesAll_113 hb, B_X12_copiesAll_124 hb, B_X12_copiesAll_136 hb, B_X12_copiesAll_148 hb, B_X12_copiesAll_160 hb, B_X12_copiesAll_172 hb, B_X12_copiesAll_184 hb, B_X12_copiesAll_196 hb, B_X12_copiesAll_208 hb, B_X12_copiesAll_220 hb, B_X12_copiesAll_232 hb, B_X12_copiesAll_244 hb, B_X12_copiesAll_256 hb, B_X12_copiesAll_268 hb, B_X12_copiesAll_280 hb, B_X12_copiesAll_292 hb, B_X12_copiesAll_304 hb, B_X12_copiesAll_316 hb, B_X12_copiesAll_328 hb, B_X12_copiesAll_340 hb, B_X12_copiesAll_352 hb, B_X12_copiesAll_365 hb, B_X12_copiesAll_378 hb, B_X12_copiesAll_390 hb, B_X12_copiesAll_402 hb, Option.bind_some, Option.toList_some, Option.toList_none, List.cons_append, List.nil_append, e1, e2, e3, e4, e5, e6, e7, e8, e9, e10, e11, e12, e13, e14, e15, e16, e17, e18, e19, e20, e21, e22, e23, e24, e25, e26, e27, e28, e29, e30, e31, e32, e33]
end CPA
