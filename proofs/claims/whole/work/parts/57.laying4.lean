section LBN
variable {o : q_H} {g : Nat → Nat → Int32} {s n nc N ms cs : Nat} {M C : Nat → Int32}
theorem m_layW (hM : q_sM g ms n M) (hC0 : q_sM g cs nc C) (hok : ∀ m, m < N → q_okm M m = true) (hcc : ∀ c, c < nc → q_in (C c) 0 255 = true) {s : Nat} (hs : s < 2 ^ N) (hN : N ≤ 8) (d : Nat) (x3 x4 x6 x7 : Int32) : ∀ k j, j + k = N → q_sem (d + 3) mX12_laying 149 [.ref 98, .int (nI ms), .int (nI cs), .int x3, .int x4, .int (nI N), .int x6, .int x7, .int (nI s), .int (nI (q_wst (fun t => q_cnt (fun c => q_any (q_P M C) t N c) nc) s 1000000000 j)), .int (nI j)] [] (q_K o g) = if nI (q_wst (fun t => q_cnt (fun c => q_any (q_P M C) t N c) nc) s 1000000000 N) ≤ x6 then q_sem (d + 3) mX12_laying 120 [.ref 98, .int (nI ms), .int (nI cs), .int x3, .int x4, .int (nI N), .int x6, .int x7, .int (nI (s + 1)), .int (nI (q_wst (fun t => q_cnt (fun c => q_any (q_P M C) t N c) nc) s 1000000000 N)), .int (nI N)] [] (q_K o g) else q_sem (d + 3) mX12_laying 120 [.ref 98, .int (nI ms), .int (nI cs), .int x3, .int x4, .int (nI N), .int (nI (q_wst (fun t => q_cnt (fun c => q_any (q_P M C) t N c) nc) s 1000000000 N)), .int (nI s), .int (nI (s + 1)), .int (nI (q_wst (fun t => q_cnt (fun c => q_any (q_P M C) t N c) nc) s 1000000000 N)), .int (nI N)] [] (q_K o g) := by
  generalize hW : (fun t => q_cnt (fun c => q_any (q_P M C) t N c) nc) = W
  have hWs : ∀ t, W t = q_cnt (fun c => q_any (q_P M C) t N c) nc := fun t => by rw [← hW]
  have h256 : 2 ^ N ≤ 2 ^ 8 := Nat.pow_le_pow_right (by decide) hN
  intro k
  induction k with
  | zero =>
    intro j hj
    obtain rfl : j = N := by omega
    rw [B_X12_laying_149, if_pos (nI_le (Nat.le_refl _) (by omega)), nI_1]
  | succ k ih =>
    intro j hj
    have c1 : ¬ nI N ≤ nI j := nI_ge (by omega) (by omega)
    have ih0 := ih (j + 1) (by omega)
    rw [q_wst_s] at ih0
    have hcl := f_clr s (by omega) j (by omega)
    have hsb := m_seenBy (o := o) hM hC0 hok hcc (show q_clr s j < 2 ^ N by omega) hN d
    rw [← hWs] at hsb
    have hle := q_wst_le (W := W) (s := s) (a := 1000000000) j
    have hW24 : W (q_clr s j) ≤ 24 := by rw [hWs]; exact Nat.le_trans (q_cnt_le _ _) hC0.2.1
    have hl : ∀ d, q_sem (d + 1) mX12_lesser 0 [.int (nI (q_wst W s 1000000000 j)), .int (nI (W (q_clr s j)))] [] (q_K o g) = some (some (.int (nI (min (q_wst W s 1000000000 j) (W (q_clr s j))))), q_K o g) := fun d => by rw [n_lesser, nI_min (by omega) (by omega), Nat.min_comm]
    rw [B_X12_laying_149, if_neg c1, f_bit s (by omega) j (by omega), hcl.1]
    cases e : s.testBit j
    · rw [e, if_neg (by decide)] at ih0
      rw [if_neg (show ¬ nI (if false = true then 1 else 0) = 1 by decide), nI_1]
      exact ih0
    · rw [e, if_pos rfl] at ih0
      rw [if_pos (show nI (if true = true then 1 else 0) = 1 by decide), hsb]
      simp only [Option.bind_some, Option.toList_some, Option.toList_none, List.cons_append, List.nil_append, B_X12_laying_184, hl, B_X12_laying_187, nI_1]
      exact ih0
theorem m_layL (hM : q_sM g ms n M) (hC0 : q_sM g cs nc C) (hok : ∀ m, m < N → q_okm M m = true) (hcc : ∀ c, c < nc → q_in (C c) 0 255 = true) (hN : N ≤ 8) (d : Nat) (x3 x4 : Int32) : ∀ k s v9 v10, s + k = 2 ^ N → ((v9 = .retAddr 0 ∧ v10 = .retAddr 0) ∨ ∃ a b, v9 = .int a ∧ v10 = .int b) → q_sem (d + 3) mX12_laying 120 [.ref 98, .int (nI ms), .int (nI cs), .int x3, .int x4, .int (nI N), .int (q_ch (fun s => q_wst (fun t => q_cnt (fun c => q_any (q_P M C) t N c) nc) s 1000000000 N) x3 s).1, .int (q_ch (fun s => q_wst (fun t => q_cnt (fun c => q_any (q_P M C) t N c) nc) s 1000000000 N) x3 s).2, .int (nI s), v9, v10] [] (q_K o g) = some (some (.int (if x4 = -1 then (q_ch (fun s => q_wst (fun t => q_cnt (fun c => q_any (q_P M C) t N c) nc) s 1000000000 N) x3 (2 ^ N)).1 else (q_ch (fun s => q_wst (fun t => q_cnt (fun c => q_any (q_P M C) t N c) nc) s 1000000000 N) x3 (2 ^ N)).2)), q_K o g) := by
  have hW := fun (s : Nat) (hs : s < 2 ^ N) x6 x7 => m_layW (o := o) hM hC0 hok hcc hs hN d x3 x4 x6 x7 N 0 (by omega)
  generalize hV : (fun s => q_wst (fun t => q_cnt (fun c => q_any (q_P M C) t N c) nc) s 1000000000 N) = V
  have hVs : ∀ s, q_wst (fun t => q_cnt (fun c => q_any (q_P M C) t N c) nc) s 1000000000 N = V s := fun s => by rw [← hV]
  have hp : (1 : Int32) <<< (nI N &&& 31) = nI (2 ^ N) := f_one N (by omega)
  have h256 : 2 ^ N ≤ 2 ^ 8 := Nat.pow_le_pow_right (by decide) hN
  intro k
  induction k with
  | zero =>
    intro s v9 v10 hs hx
    have c1 : nI (2 ^ N) ≤ nI s := nI_le (by omega) (by omega)
    have go : ∀ A : Option (Option Value × q_H), (A = if x4 = -1 then some (some (.int (q_ch V x3 s).1), q_K o g) else some (some (.int (q_ch V x3 s).2), q_K o g)) → A = some (some (.int (if x4 = -1 then (q_ch V x3 (2 ^ N)).1 else (q_ch V x3 (2 ^ N)).2)), q_K o g) := fun A hA => by
      rw [hA, show s = 2 ^ N by omega]; split <;> rfl
    apply go
    rcases hx with ⟨rfl, rfl⟩ | ⟨a, b, rfl, rfl⟩
    · rw [B_X12_laying_120, hp, if_pos c1]
    · rw [B_X12_laying_120a, hp, if_pos c1]
  | succ k ih =>
    intro s v9 v10 hs hx
    have c1 : ¬ nI (2 ^ N) ≤ nI s := nI_ge (by omega) (by omega)
    have hw := hW s (by omega) (q_ch V x3 s).1 (q_ch V x3 s).2
    rw [hVs, show q_wst (fun t => q_cnt (fun c => q_any (q_P M C) t N c) nc) s 1000000000 0 = 1000000000 from rfl] at hw
    have ihs := fun v9 v10 hx => ih (s + 1) v9 v10 (by omega) hx
    have go : ∀ A : Option (Option Value × q_H), (A = if nI (q_cnt (fun i => s.testBit i) 8) = x3 then q_sem (d + 3) mX12_laying 149 [.ref 98, .int (nI ms), .int (nI cs), .int x3, .int x4, .int (nI N), .int (q_ch V x3 s).1, .int (q_ch V x3 s).2, .int (nI s), .int 1000000000, .int 0] [] (q_K o g) else q_sem (d + 3) mX12_laying 120 [.ref 98, .int (nI ms), .int (nI cs), .int x3, .int x4, .int (nI N), .int (q_ch V x3 s).1, .int (q_ch V x3 s).2, .int (nI (s + 1)), v9, v10] [] (q_K o g)) → A = some (some (.int (if x4 = -1 then (q_ch V x3 (2 ^ N)).1 else (q_ch V x3 (2 ^ N)).2)), q_K o g) := fun A hA => by
      rw [hA]
      by_cases e1 : nI (q_cnt (fun i => s.testBit i) 8) = x3
      · rw [if_pos e1]
        refine hw.trans ?_
        by_cases e2 : nI (V s) ≤ (q_ch V x3 s).1
        · rw [if_pos e2]
          have := ihs (.int (nI (V s))) (.int (nI N)) (Or.inr ⟨_, _, rfl, rfl⟩)
          rw [q_ch_s, if_neg (fun z => z.2 e2)] at this
          exact this
        · rw [if_neg e2]
          have := ihs (.int (nI (V s))) (.int (nI N)) (Or.inr ⟨_, _, rfl, rfl⟩)
          rw [q_ch_s, if_pos ⟨e1, e2⟩] at this
          exact this
      · rw [if_neg e1]
        have := ihs v9 v10 hx
        rw [q_ch_s, if_neg (fun z => e1 z.1)] at this
        exact this
    apply go
    rcases hx with ⟨rfl, rfl⟩ | ⟨a, b, rfl, rfl⟩
    · rw [B_X12_laying_120, hp, if_neg c1, m_ones _ (by omega)]
      simp only [Option.bind_some, Option.toList_some, Option.toList_none, List.cons_append, List.nil_append, B_X12_laying_134, nI_1]
    · rw [B_X12_laying_120a, hp, if_neg c1, m_ones _ (by omega)]
      simp only [Option.bind_some, Option.toList_some, Option.toList_none, List.cons_append, List.nil_append, B_X12_laying_134a, nI_1]
end LBN
theorem law_laying {o : q_H} {n : Nat} {g : Nat → Nat → Int32} (hR : q_R n g) (ho : q_oR o) (d : Nat) (x1 : Int32) (x2 : Int32) (x3 : Int32) (x4 : Int32) : ∃ v g1 g2, q_sem (d + 30) mX11_laying 0 [.ref 0, .int x1, .int x2, .int x3, .int x4] [] (q_K o g) = some (some (.int v), q_K o g1) ∧ q_sem (d + 30) mX12_laying 0 [.ref 98, .int x1, .int x2, .int x3, .int x4, .retAddr 0, .retAddr 0, .retAddr 0, .retAddr 0, .retAddr 0, .retAddr 0] [] (q_K o g1) = some (some (.int v), q_K o g2) ∧ q_R n g2 := by
  obtain ⟨⟨S, N, hr, hm, hk⟩, ha⟩ := id hR
  have hs0 := ha.2.1
  cases c1 : q_hs x1 4
  · exact ⟨-1000001, q_fb g 1, q_fm (q_fb g 1) 1, by simp only [B_X11_laying_0, B_X11_laying_8, B_X11_laying_46, B_X11_laying_19, B_X11_laying_28, B_X11_laying_38, B_X11_laying_55, B_X11_laying_66, B_X11_laying_74, B_X11_laying_88, B_X11_laying_96, B_X11_laying_104, B_X11_laying_122, B_X11_laying_113, B_X11_laying_135, B_X11_laying_145, z_within, z_isCell, z_fin1, z_fin2, z_fin3, z_fin4, z_fin5, Option.bind_some, Option.toList_some, Option.toList_none, List.cons_append, List.nil_append, bI_t, bI_f, i10, i00, i11, i01, ↓reduceIte, Bool.false_eq_true, x_has hs0.1, c1], (by have hm := repM_fb (k := 1) hm; simp only [B_X12_laying_0, B_X12_laying_4, B_X12_laying_39, B_X12_laying_11, B_X12_laying_20, B_X12_laying_30, B_X12_laying_64, B_X12_laying_70, B_X12_laying_87, B_X12_laying_78, B_X12_laying_110, B_X12_laying_134, B_X12_laying_184, B_X12_laying_134a, B_X12_laying_187, y_in, y_isCell, y_fin1, y_fin2, y_fin3, y_fin4, y_fin5, Option.bind_some, Option.toList_some, Option.toList_none, List.cons_append, List.nil_append, bI_t, bI_f, i10, i00, i11, i01, ↓reduceIte, Bool.false_eq_true, y_isSheet, c1]), R_fin hR (by decide)⟩
  cases c2 : q_hs x2 4
  · exact ⟨-1000001, q_fb g 1, q_fm (q_fb g 1) 1, by simp only [B_X11_laying_0, B_X11_laying_8, B_X11_laying_46, B_X11_laying_19, B_X11_laying_28, B_X11_laying_38, B_X11_laying_55, B_X11_laying_66, B_X11_laying_74, B_X11_laying_88, B_X11_laying_96, B_X11_laying_104, B_X11_laying_122, B_X11_laying_113, B_X11_laying_135, B_X11_laying_145, z_within, z_isCell, z_fin1, z_fin2, z_fin3, z_fin4, z_fin5, Option.bind_some, Option.toList_some, Option.toList_none, List.cons_append, List.nil_append, bI_t, bI_f, i10, i00, i11, i01, ↓reduceIte, Bool.false_eq_true, x_has hs0.1, c1, c2], (by have hm := repM_fb (k := 1) hm; simp only [B_X12_laying_0, B_X12_laying_4, B_X12_laying_39, B_X12_laying_11, B_X12_laying_20, B_X12_laying_30, B_X12_laying_64, B_X12_laying_70, B_X12_laying_87, B_X12_laying_78, B_X12_laying_110, B_X12_laying_134, B_X12_laying_184, B_X12_laying_134a, B_X12_laying_187, y_in, y_isCell, y_fin1, y_fin2, y_fin3, y_fin4, y_fin5, Option.bind_some, Option.toList_some, Option.toList_none, List.cons_append, List.nil_append, bI_t, bI_f, i10, i00, i11, i01, ↓reduceIte, Bool.false_eq_true, y_isSheet, c1, c2]), R_fin hR (by decide)⟩
  cases c3 : q_in x3 1 4
  · exact ⟨-1000001, q_fb g 1, q_fm (q_fb g 1) 1, by simp only [B_X11_laying_0, B_X11_laying_8, B_X11_laying_46, B_X11_laying_19, B_X11_laying_28, B_X11_laying_38, B_X11_laying_55, B_X11_laying_66, B_X11_laying_74, B_X11_laying_88, B_X11_laying_96, B_X11_laying_104, B_X11_laying_122, B_X11_laying_113, B_X11_laying_135, B_X11_laying_145, z_within, z_isCell, z_fin1, z_fin2, z_fin3, z_fin4, z_fin5, Option.bind_some, Option.toList_some, Option.toList_none, List.cons_append, List.nil_append, bI_t, bI_f, i10, i00, i11, i01, ↓reduceIte, Bool.false_eq_true, x_has hs0.1, c1, c2, c3], (by have hm := repM_fb (k := 1) hm; simp only [B_X12_laying_0, B_X12_laying_4, B_X12_laying_39, B_X12_laying_11, B_X12_laying_20, B_X12_laying_30, B_X12_laying_64, B_X12_laying_70, B_X12_laying_87, B_X12_laying_78, B_X12_laying_110, B_X12_laying_134, B_X12_laying_184, B_X12_laying_134a, B_X12_laying_187, y_in, y_isCell, y_fin1, y_fin2, y_fin3, y_fin4, y_fin5, Option.bind_some, Option.toList_some, Option.toList_none, List.cons_append, List.nil_append, bI_t, bI_f, i10, i00, i11, i01, ↓reduceIte, Bool.false_eq_true, y_isSheet, c1, c2, c3]), R_fin hR (by decide)⟩
  cases c4 : q_in x4 (-1) 0
  · exact ⟨-1000001, q_fb g 1, q_fm (q_fb g 1) 1, by simp only [B_X11_laying_0, B_X11_laying_8, B_X11_laying_46, B_X11_laying_19, B_X11_laying_28, B_X11_laying_38, B_X11_laying_55, B_X11_laying_66, B_X11_laying_74, B_X11_laying_88, B_X11_laying_96, B_X11_laying_104, B_X11_laying_122, B_X11_laying_113, B_X11_laying_135, B_X11_laying_145, z_within, z_isCell, z_fin1, z_fin2, z_fin3, z_fin4, z_fin5, Option.bind_some, Option.toList_some, Option.toList_none, List.cons_append, List.nil_append, bI_t, bI_f, i10, i00, i11, i01, ↓reduceIte, Bool.false_eq_true, x_has hs0.1, c1, c2, c3, c4], (by have hm := repM_fb (k := 1) hm; simp only [B_X12_laying_0, B_X12_laying_4, B_X12_laying_39, B_X12_laying_11, B_X12_laying_20, B_X12_laying_30, B_X12_laying_64, B_X12_laying_70, B_X12_laying_87, B_X12_laying_78, B_X12_laying_110, B_X12_laying_134, B_X12_laying_184, B_X12_laying_134a, B_X12_laying_187, y_in, y_isCell, y_fin1, y_fin2, y_fin3, y_fin4, y_fin5, Option.bind_some, Option.toList_some, Option.toList_none, List.cons_append, List.nil_append, bI_t, bI_f, i10, i00, i11, i01, ↓reduceIte, Bool.false_eq_true, y_isSheet, c1, c2, c3, c4]), R_fin hR (by decide)⟩
  obtain ⟨ms, hms, rfl⟩ := q_hs_t c1 (by decide)
  obtain ⟨cs, hcs, rfl⟩ := q_hs_t c2 (by decide)
  obtain ⟨a1, a2, _, ⟨nn, hn, a3⟩, a4, _⟩ := hs0.2 ms hms
  obtain ⟨b1, b2, _, ⟨nc, hnc, b3⟩, b4, _⟩ := hs0.2 cs hcs
  by_cases w1 : g 135 ms = 0
  · exact ⟨-1000002, q_fb g 2, q_fm (q_fb g 2) 2, by simp only [B_X11_laying_0, B_X11_laying_8, B_X11_laying_46, B_X11_laying_19, B_X11_laying_28, B_X11_laying_38, B_X11_laying_55, B_X11_laying_66, B_X11_laying_74, B_X11_laying_88, B_X11_laying_96, B_X11_laying_104, B_X11_laying_122, B_X11_laying_113, B_X11_laying_135, B_X11_laying_145, z_within, z_isCell, z_fin1, z_fin2, z_fin3, z_fin4, z_fin5, Option.bind_some, Option.toList_some, Option.toList_none, List.cons_append, List.nil_append, bI_t, bI_f, i10, i00, i11, i01, ↓reduceIte, Bool.false_eq_true, x_has hs0.1, x_want hs0.1 hms, a1, (by decide : ¬ (2 : Int32) = 0), c1, c2, c3, c4, w1], (by have hm := repM_fb (k := 2) hm; simp only [B_X12_laying_0, B_X12_laying_4, B_X12_laying_39, B_X12_laying_11, B_X12_laying_20, B_X12_laying_30, B_X12_laying_64, B_X12_laying_70, B_X12_laying_87, B_X12_laying_78, B_X12_laying_110, B_X12_laying_134, B_X12_laying_184, B_X12_laying_134a, B_X12_laying_187, y_in, y_isCell, y_fin1, y_fin2, y_fin3, y_fin4, y_fin5, Option.bind_some, Option.toList_some, Option.toList_none, List.cons_append, List.nil_append, bI_t, bI_f, i10, i00, i11, i01, ↓reduceIte, Bool.false_eq_true, y_isSheet, q_fb_ne (show 135 ≠ 97 by decide), q_rgN hms (show 4 < 2 ^ 31 by decide), c1, c2, c3, c4, w1]), R_fin hR (by decide)⟩
  by_cases w2 : g 135 cs = 0
  · exact ⟨-1000002, q_fb g 2, q_fm (q_fb g 2) 2, by simp only [B_X11_laying_0, B_X11_laying_8, B_X11_laying_46, B_X11_laying_19, B_X11_laying_28, B_X11_laying_38, B_X11_laying_55, B_X11_laying_66, B_X11_laying_74, B_X11_laying_88, B_X11_laying_96, B_X11_laying_104, B_X11_laying_122, B_X11_laying_113, B_X11_laying_135, B_X11_laying_145, z_within, z_isCell, z_fin1, z_fin2, z_fin3, z_fin4, z_fin5, Option.bind_some, Option.toList_some, Option.toList_none, List.cons_append, List.nil_append, bI_t, bI_f, i10, i00, i11, i01, ↓reduceIte, Bool.false_eq_true, x_has hs0.1, x_want hs0.1 hms, x_want hs0.1 hcs, a1, b1, (by decide : ¬ (2 : Int32) = 0), c1, c2, c3, c4, w1, w2], (by have hm := repM_fb (k := 2) hm; simp only [B_X12_laying_0, B_X12_laying_4, B_X12_laying_39, B_X12_laying_11, B_X12_laying_20, B_X12_laying_30, B_X12_laying_64, B_X12_laying_70, B_X12_laying_87, B_X12_laying_78, B_X12_laying_110, B_X12_laying_134, B_X12_laying_184, B_X12_laying_134a, B_X12_laying_187, y_in, y_isCell, y_fin1, y_fin2, y_fin3, y_fin4, y_fin5, Option.bind_some, Option.toList_some, Option.toList_none, List.cons_append, List.nil_append, bI_t, bI_f, i10, i00, i11, i01, ↓reduceIte, Bool.false_eq_true, y_isSheet, q_fb_ne (show 135 ≠ 97 by decide), q_rgN hms (show 4 < 2 ^ 31 by decide), q_rgN hcs (show 4 < 2 ^ 31 by decide), c1, c2, c3, c4, w1, w2]), R_fin hR (by decide)⟩
  have hV1 : q_sV g ms nn (fun i => g 137 (24 * ms + i)) := ⟨hs0.1, hms, hn, a2.trans a3, a4⟩
  have hV2 : q_sV g cs nc (fun i => g 137 (24 * cs + i)) := ⟨hs0.1, hcs, hnc, b2.trans b3, b4⟩
  have hM1 : q_sM g ms nn (fun i => g 137 (24 * ms + i)) := ⟨hms, hn, a3, fun _ _ => rfl⟩
  have hM2 : q_sM g cs nc (fun i => g 137 (24 * cs + i)) := ⟨hcs, hnc, b3, fun _ _ => rfl⟩
  generalize (fun i => g 137 (24 * ms + i)) = M at *
  generalize (fun i => g 137 (24 * cs + i)) = C at *
  obtain ⟨R0, ht⟩ := ha.2.2.2.2.2 (92, 8, 1) (by decide)
  obtain ⟨g2, R, e2, h2, f2, k2⟩ := z_read (o := o) hV1 hV2 ht (d + 24)
  have hR2 : q_R n g2 := R_scr hR (tis_one (show (92, 8, 1) ∈ q_scr by decide) ha.2.2.2.2.2 h2 (fun p k a b _ => f2 p k a b)) (fun p k a _ _ => f2 p k (by omega) (by omega))
  have r4 := fun (f : Nat → Option (Option Value × q_H)) => q_rgN (k := f) hms (show 4 < 2 ^ 31 by decide)
  have r5 := fun (f : Nat → Option (Option Value × q_H)) => q_rgN (k := f) hcs (show 4 < 2 ^ 31 by decide)
  have mm : ∀ (h : Nat → Nat → Int32), (∀ p k, 135 ≤ p → p < 138 → h p k = g p k) → ∀ d, q_sem (d + 3) mX12_areMasts 0 [.ref 98, .int (nI ms), .retAddr 0, .retAddr 0] [] (q_K o h) = some (some (.int (bI (decide (nn ≠ 0 ∧ nn % 3 = 0 ∧ ∀ m, m < nn / 3 → q_okm M m = true)))), q_K o h) := fun h hh d => m_areMasts (sM_fr hM1 (fun p k q => hh p k (by omega) (by omega))) d
  have mc : ∀ (h : Nat → Nat → Int32), (∀ p k, 135 ≤ p → p < 138 → h p k = g p k) → ∀ d, q_sem (d + 3) mX12_areCells 0 [.ref 98, .int (nI cs), .retAddr 0, .retAddr 0] [] (q_K o h) = some (some (.int (bI (decide (∀ i, i < nc → q_in (C i) 0 255 = true)))), q_K o h) := fun h hh d => m_areCells (sM_fr hM2 (fun p k q => hh p k (by omega) (by omega))) d
  by_cases rd : q_rdy nn nc M C
  rotate_left
  · have hh : ∀ p k, 135 ≤ p → p < 138 → q_fb g2 5 p k = g p k := fun p k a b => by rw [q_fb_ne (by omega), f2 p k (by omega) (by omega)]
    have w1' : ¬ q_fb g2 5 135 ms = 0 := by rw [hh _ _ (by decide) (by decide)]; exact w1
    have w2' : ¬ q_fb g2 5 135 cs = 0 := by rw [hh _ _ (by decide) (by decide)]; exact w2
    rw [decide_eq_false rd] at e2
    refine ⟨-1000005, q_fb g2 5, q_fm (q_fb g2 5) 5, ?_, ?_, R_fin hR2 (by decide)⟩
    · simp only [B_X11_laying_0, B_X11_laying_8, B_X11_laying_46, B_X11_laying_19, B_X11_laying_28, B_X11_laying_38, B_X11_laying_55, B_X11_laying_66, B_X11_laying_74, B_X11_laying_88, B_X11_laying_96, B_X11_laying_104, B_X11_laying_122, B_X11_laying_113, B_X11_laying_135, B_X11_laying_145, z_within, z_isCell, z_fin1, z_fin2, z_fin3, z_fin4, z_fin5, Option.bind_some, Option.toList_some, Option.toList_none, List.cons_append, List.nil_append, bI_t, bI_f, i10, i00, i11, i01, ↓reduceIte, Bool.false_eq_true, x_has hs0.1, x_want hs0.1 hms, x_want hs0.1 hcs, a1, b1, c1, c2, c3, c4, w1, w2, e2]
    · simp only [B_X12_laying_0, B_X12_laying_4, B_X12_laying_11, B_X12_laying_20, B_X12_laying_30, y_in, y_isCell, y_fin1, y_fin2, y_fin3, y_fin4, y_fin5, Option.bind_some, Option.toList_some, Option.toList_none, List.cons_append, List.nil_append, bI_t, bI_f, i10, i00, i11, i01, ↓reduceIte, Bool.false_eq_true, y_isSheet, c1, c2, c3, c4, r4, r5, w1', w2', mm _ hh, B_X12_laying_70, mc _ hh, B_X12_laying_78]
      by_cases q1 : nn ≠ 0 ∧ nn % 3 = 0 ∧ ∀ m, m < nn / 3 → q_okm M m = true
      · have q2 : ¬ ∀ i, i < nc → q_in (C i) 0 255 = true := fun z => rd ⟨q1, z⟩
        simp only [decide_eq_true q1, decide_eq_false q2, y_in, y_isCell, y_fin1, y_fin2, y_fin3, y_fin4, y_fin5, Option.bind_some, Option.toList_some, Option.toList_none, List.cons_append, List.nil_append, bI_t, bI_f, i10, i00, i11, i01, ↓reduceIte, Bool.false_eq_true, B_X12_laying_4, B_X12_laying_39, B_X12_laying_11, B_X12_laying_20, B_X12_laying_30, B_X12_laying_64, B_X12_laying_70, B_X12_laying_87, B_X12_laying_78, B_X12_laying_110, B_X12_laying_134, B_X12_laying_184, B_X12_laying_134a, B_X12_laying_187]
      · simp only [decide_eq_false q1, y_in, y_isCell, y_fin1, y_fin2, y_fin3, y_fin4, y_fin5, Option.bind_some, Option.toList_some, Option.toList_none, List.cons_append, List.nil_append, bI_t, bI_f, i10, i00, i11, i01, ↓reduceIte, Bool.false_eq_true, B_X12_laying_4, B_X12_laying_39, B_X12_laying_11, B_X12_laying_20, B_X12_laying_30, B_X12_laying_64, B_X12_laying_70, B_X12_laying_87, B_X12_laying_78, B_X12_laying_110, B_X12_laying_134, B_X12_laying_184, B_X12_laying_134a, B_X12_laying_187]
  rw [decide_eq_true rd] at e2
  obtain ⟨k2, k3⟩ := k2 rd
  have e3 : ∀ h : Nat → Nat → Int32, (∀ p k, 135 ≤ p → p < 138 → h p k = g p k) → h 136 ms / 3 = nI (nn / 3) := fun h hh => by
    rw [hh _ _ (by decide) (by decide), a3]; exact pk_div (d := 3) (by omega) (by decide) (by decide)
  have hx3 : ∃ q, 1 ≤ q ∧ q ≤ 4 ∧ x3 = nI q := q_in_t (a := 1) (b := 4) c3 (by decide) (by decide)
  obtain ⟨q, hq1, hq2, rfl⟩ := hx3
  subst k2
  have hsz : ∀ d, q_sem (d + 2) mX0_masts 0 [.ref 91] [] (q_K o g2) = some (some (.int (nI (nn / 3))), q_K o g2) := fun d => by
    simp only [B_X0_masts_0, B_X0_masts_7, s_size _ q_tb92, Option.bind_some, Option.toList_some, Option.toList_none, List.cons_append, List.nil_append, h2.2.2.1]
  by_cases e4 : q ≤ nn / 3
  rotate_left
  · have c5 : ¬ nI q ≤ nI (nn / 3) := nI_ge (by omega) (by omega)
    have hh : ∀ p k, 135 ≤ p → p < 138 → q_fb g2 3 p k = g p k := fun p k a b => by rw [q_fb_ne (by omega), f2 p k (by omega) (by omega)]
    have w1' : ¬ q_fb g2 3 135 ms = 0 := by rw [hh _ _ (by decide) (by decide)]; exact w1
    have w2' : ¬ q_fb g2 3 135 cs = 0 := by rw [hh _ _ (by decide) (by decide)]; exact w2
    refine ⟨-1000003, q_fb g2 3, q_fm (q_fb g2 3) 3, ?_, ?_, R_fin hR2 (by decide)⟩
    · simp only [B_X11_laying_0, B_X11_laying_8, B_X11_laying_46, B_X11_laying_19, B_X11_laying_28, B_X11_laying_38, B_X11_laying_55, B_X11_laying_66, B_X11_laying_74, B_X11_laying_88, B_X11_laying_96, B_X11_laying_104, B_X11_laying_122, B_X11_laying_113, B_X11_laying_135, B_X11_laying_145, z_within, z_isCell, z_fin1, z_fin2, z_fin3, z_fin4, z_fin5, Option.bind_some, Option.toList_some, Option.toList_none, List.cons_append, List.nil_append, bI_t, bI_f, i10, i00, i11, i01, ↓reduceIte, Bool.false_eq_true, x_has hs0.1, x_want hs0.1 hms, x_want hs0.1 hcs, a1, b1, c1, c2, c3, c4, w1, w2, e2, hsz, c5]
    · simp only [B_X12_laying_0, B_X12_laying_4, B_X12_laying_11, B_X12_laying_20, B_X12_laying_30, y_in, y_isCell, y_fin1, y_fin2, y_fin3, y_fin4, y_fin5, Option.bind_some, Option.toList_some, Option.toList_none, List.cons_append, List.nil_append, bI_t, bI_f, i10, i00, i11, i01, ↓reduceIte, Bool.false_eq_true, y_isSheet, c1, c2, c3, c4, r4, r5, w1', w2', mm _ hh, B_X12_laying_70, mc _ hh, B_X12_laying_78, decide_eq_true rd.1, decide_eq_true rd.2, e3 _ hh, c5, B_X12_laying_110]
  have c5 : nI q ≤ nI (nn / 3) := nI_le (by omega) (by omega)
  have hN : nn / 3 ≤ 8 := by omega
  have fu : ∀ p j, p ≠ 91 → q_up (q_up g2 91 1 (-1)) 91 2 0 p j = g2 p j := fun p j h => by rw [q_upN h, q_upN h]
  obtain ⟨g3, e5, h5, h6, f5⟩ := z_chL (o := o) (P := q_P M C) hnc hN (nI q) (d + 25) (2 ^ (nn / 3)) 0 (by omega) (q_up (q_up g2 91 1 (-1)) 91 2 0) (ti_fr h2 (fun k => fu _ _ (by decide))) (fun m hm => (fu _ _ (by decide)).trans (k3 m hm)) (by rw [q_upJ (by decide), q_upE]; rfl) (by rw [q_upE]; rfl)
  have f3 : ∀ p j, p ≠ 91 → p ≠ 92 → p ≠ 93 → g3 p j = g p j := fun p j h1 h2 h3 => (f5 p j h1).trans ((fu p j h1).trans (f2 p j h2 h3))
  have hR3 : q_R n g3 := R_scr hR (tis_one (show (92, 8, 1) ∈ q_scr by decide) ha.2.2.2.2.2 (ti_fr h2 (fun k => (f5 _ _ (by decide)).trans (fu _ _ (by decide)))) (fun p k a b z => f3 p k z a b)) (fun p k a _ _ => f3 p k (by omega) (by omega) (by omega))
  have hh : ∀ p k, 135 ≤ p → p < 138 → g3 p k = g p k := fun p k a b => f3 p k (by omega) (by omega) (by omega)
  have w1' : ¬ g3 135 ms = 0 := by rw [hh _ _ (by decide) (by decide)]; exact w1
  have w2' : ¬ g3 135 cs = 0 := by rw [hh _ _ (by decide) (by decide)]; exact w2
  have hch := q_ch_eq (W := fun t => q_cnt (fun c => q_any (q_P M C) t (nn / 3) c) nc) (fun t => Nat.le_trans (q_cnt_le _ _) hnc) hN (show nI q ≠ 0 from nI_ne0 (by omega) (by omega)) (show 24 ≤ 1000000000 by decide) (2 ^ (nn / 3)) (Nat.le_refl _)
  have hml := m_layL (o := o) (sM_fr hM1 (fun p k q => hh p k (by omega) (by omega))) (sM_fr hM2 (fun p k q => hh p k (by omega) (by omega))) rd.1.2.2 rd.2 hN (d + 27) (nI q) x4 (2 ^ (nn / 3)) 0 (.retAddr 0) (.retAddr 0) (by omega) (Or.inl ⟨rfl, rfl⟩)
  rw [← hch] at hml
  have e5' : ∀ A, A = q_sem (d + 29) mX0_choose 12 [.ref 91, .int (nI q), .int 0] [] (q_K o (q_up (q_up g2 91 1 (-1)) 91 2 0)) → A = some (none, q_K o g3) := fun A hA => hA.trans e5
  have ech : q_sem (d + 29) mX0_choose 0 [.ref 91, .int (nI q), .retAddr 0] [] (q_K o g2) = some (none, q_K o g3) := by
    rw [B_X0_choose_0]; exact e5
  generalize q_ch (fun s => q_wst (fun t => q_cnt (fun c => q_any (q_P M C) t (nn / 3) c) nc) s 24 (nn / 3)) (nI q) (2 ^ (nn / 3)) = X at h5 h6 hml
  refine ⟨if x4 = -1 then X.1 else X.2, g3, g3, ?_, ?_, hR3⟩
  rotate_left
  · simp only [B_X12_laying_0, B_X12_laying_4, B_X12_laying_11, B_X12_laying_20, B_X12_laying_30, y_in, y_isCell, y_fin1, y_fin2, y_fin3, y_fin4, y_fin5, Option.bind_some, Option.toList_some, Option.toList_none, List.cons_append, List.nil_append, bI_t, bI_f, i10, i00, i11, i01, ↓reduceIte, Bool.false_eq_true, y_isSheet, c1, c2, c3, c4, r4, r5, w1', w2', mm _ hh, B_X12_laying_70, mc _ hh, B_X12_laying_78, decide_eq_true rd.1, decide_eq_true rd.2, e3 _ hh, c5]
    exact hml
  · simp only [B_X11_laying_0, B_X11_laying_8, B_X11_laying_46, B_X11_laying_19, B_X11_laying_28, B_X11_laying_38, B_X11_laying_55, B_X11_laying_66, B_X11_laying_74, B_X11_laying_88, B_X11_laying_96, B_X11_laying_104, B_X11_laying_122, B_X11_laying_113, B_X11_laying_135, B_X11_laying_145, z_within, z_isCell, z_fin1, z_fin2, z_fin3, z_fin4, z_fin5, Option.bind_some, Option.toList_some, Option.toList_none, List.cons_append, List.nil_append, bI_t, bI_f, i10, i00, i11, i01, ↓reduceIte, Bool.false_eq_true, x_has hs0.1, x_want hs0.1 hms, x_want hs0.1 hcs, a1, b1, c1, c2, c3, c4, w1, w2, e2, hsz, c5, ech, B_X0_best_0, B_X0_chosen_0, h5, h6]
    by_cases q4 : x4 = -1
    · simp only [q4, ↓reduceIte]
    · simp only [q4, ↓reduceIte]
