/-! sheets -/
theorem q_hs4 (x : Int32) : q_in x 0 3 = q_hs x 4 := by rw [← q_hs_wi x (show 4 < 2 ^ 31 by decide)]; rfl
theorem q_tb70 : q_tb 70 4 26 := ⟨⟨by decide, rfl⟩, rfl, rfl, rfl, rfl, ⟨by decide, rfl, rfl⟩, by decide, by decide, by decide⟩
theorem q_in_hs (x : Int32) {n : Nat} (hn : n < 2 ^ 31) : q_in x 0 (nI n - 1) = q_hs x n := by rw [← q_hs_wi x hn]; rfl
section SHT
variable {o : q_H} {g : Nat → Nat → Int32}
theorem x_has (ht : q_ti g 70 4 26 4) (d : Nat) (x : Int32) : q_sem (d + 2) mX6_has 0 [.ref 69, .int x] [] (q_K o g) = some (some (.int (bI (q_hs x 4))), q_K o g) := by
  have e : ∀ d, q_sem (d + 1) mX7_has 0 [.ref 70, .int x] [] (q_K o g) = some (some (.int (bI (q_hs x 4))), q_K o g) := fun d => by rw [s_has d q_tb70, ht.2.2.1, bI_d]; rfl
  simp only [B_X6_has_0, B_X6_has_8, Option.bind_some, Option.toList_some, Option.toList_none, List.cons_append, List.nil_append, e, q_rB_b]
theorem x_get7 (ht : q_ti g 70 4 26 4) {s c : Nat} (hs : s < 4) (hc : c < 26) (d : Nat) : q_sem (d + 1) mX7_get 0 [.ref 70, .int (nI s), .int (nI c)] [] (q_K o g) = some (some (.int (g 71 (s * 26 + c))), q_K o g) := by
  rw [s_get d q_tb70 ht, q_gt_in hs hc (by decide) (by decide)]
theorem x_bits (ht : q_ti g 70 4 26 4) {s : Nat} (hs : s < 4) (d : Nat) : q_sem (d + 2) mX6_bits 0 [.ref 69, .int (nI s)] [] (q_K o g) = some (some (.int (g 71 (s * 26))), q_K o g) := by
  have e := fun d => x_get7 (o := o) ht hs (show 0 < 26 by decide) d
  rw [show nI 0 = (0 : Int32) from rfl] at e
  simp only [B_X6_bits_0, B_X6_bits_9, Option.bind_some, Option.toList_some, Option.toList_none, List.cons_append, List.nil_append, e, Nat.add_zero]
theorem x_size (ht : q_ti g 70 4 26 4) {s : Nat} (hs : s < 4) (d : Nat) : q_sem (d + 2) mX6_size 0 [.ref 69, .int (nI s)] [] (q_K o g) = some (some (.int (g 71 (s * 26 + 1))), q_K o g) := by
  have e := fun d => x_get7 (o := o) ht hs (show 1 < 26 by decide) d
  rw [show nI 1 = (1 : Int32) from rfl] at e
  simp only [B_X6_size_0, B_X6_size_9, Option.bind_some, Option.toList_some, Option.toList_none, List.cons_append, List.nil_append, e]
theorem x_wantN (ht : q_ti g 70 4 26 4) {x : Int32} (h : q_hs x 4 = false) (d : Nat) : q_sem (d + 3) mX6_wanting 0 [.ref 69, .int x] [] (q_K o g) = some (some (.int 1), q_K o g) := by
  simp only [B_X6_wanting_0, B_X6_wanting_5, B_X6_wanting_15, Option.bind_some, Option.toList_some, Option.toList_none, List.cons_append, List.nil_append, x_has ht, h, bI_f, ↓reduceIte]
theorem x_want (ht : q_ti g 70 4 26 4) {s : Nat} (hs : s < 4) (d : Nat) : q_sem (d + 3) mX6_wanting 0 [.ref 69, .int (nI s)] [] (q_K o g) = some (some (.int (if g 71 (s * 26) = 0 then 2 else 0)), q_K o g) := by
  simp only [B_X6_wanting_0, B_X6_wanting_5, B_X6_wanting_15, Option.bind_some, Option.toList_some, Option.toList_none, List.cons_append, List.nil_append, x_has ht, q_hs_n hs (by decide), bI_t, i10, ↓reduceIte, x_bits ht hs]
  by_cases h : g 71 (s * 26) = 0 <;> simp [h]
theorem x_get (ht : q_ti g 70 4 26 4) {s n i : Nat} (hs : s < 4) (hn : n ≤ 24) (en : g 71 (s * 26 + 1) = nI n) (hi : i < n) (d : Nat) : q_sem (d + 3) mX6_get 0 [.ref 69, .int (nI s), .int (nI i)] [] (q_K o g) = some (some (.int (g 71 (s * 26 + (2 + i)))), q_K o g) := by
  have e := fun d => x_get7 (o := o) ht hs (show 2 + i < 26 by omega) d
  simp only [B_X6_get_0, B_X6_get_7, B_X6_get_12, B_X6_get_26, Option.bind_some, Option.toList_some, Option.toList_none, List.cons_append, List.nil_append, x_size ht hs, en, z_within, q_in_hs _ (show n < 2 ^ 31 by omega), q_hs_n hi (show n < 2 ^ 31 by omega), bI_t, i10, ↓reduceIte, show (2 : Int32) + nI i = nI (2 + i) from nI_add 2 i, e]
theorem x_write (ht : q_ti g 70 4 26 4) {s n i : Nat} (hs : s < 4) (hn : n ≤ 24) (en : g 71 (s * 26 + 1) = nI n) (hi : i < n) (d : Nat) (v : Int32) : q_sem (d + 3) mX6_write 0 [.ref 69, .int (nI s), .int (nI i), .int v, .retAddr 0] [] (q_K o g) = some (none, q_K o (q_up g 71 (s * 26 + (2 + i)) (if g 71 (s * 26) = 8 then v.toInt8.toInt32 else if g 71 (s * 26) = 16 then v.toInt16.toInt32 else v))) := by
  have e : ∀ d v, q_sem (d + 1) mX7_write 0 [.ref 70, .int (nI s), .int (nI (2 + i)), .int v] [] (q_K o g) = some (none, q_K o (q_up g 71 (s * 26 + (2 + i)) v)) := fun d v => by rw [s_write d q_tb70 ht, q_pt_in hs (by omega) (by decide) (by decide)]
  simp only [B_X6_write_0, B_X6_write_7, B_X6_write_12, B_X6_write_20, B_X6_write_58, Option.bind_some, Option.toList_some, Option.toList_none, List.cons_append, List.nil_append, x_size ht hs, en, z_within, q_in_hs _ (show n < 2 ^ 31 by omega), q_hs_n hi (show n < 2 ^ 31 by omega), bI_t, i10, ↓reduceIte, show (2 : Int32) + nI i = nI (2 + i) from nI_add 2 i, e, x_bits ht hs]
  by_cases h1 : g 71 (s * 26) = 8
  · simp only [h1, ↓reduceIte]
  · by_cases h2 : g 71 (s * 26) = 16
    · simp only [h1, h2, ↓reduceIte, (by decide : ¬ (16 : Int32) = 8)]
    · simp only [h1, h2, ↓reduceIte]
theorem x_lay_l {s : Nat} (hs : s < 4) (d : Nat) (x2 x3 : Int32) : ∀ n m g, m + n = 24 → q_ti g 70 4 26 4 → ∃ g2, q_sem (d + 2) mX6_lay 23 [.ref 69, .int (nI s), .int x2, .int x3, .int (nI m)] [] (q_K o g) = some (none, q_K o g2) ∧ (∀ i, m ≤ i → i < 24 → g2 71 (s * 26 + (2 + i)) = 0) ∧ ∀ p k, ¬ (p = 71 ∧ s * 26 + (2 + m) ≤ k ∧ k < s * 26 + 26) → g2 p k = g p k := by
  intro n
  induction n with
  | zero =>
    intro m g hm ht
    have c1 : 24 ≤ nI m := (by decide : (24 : Int32) = nI 24) ▸ nI_le (by omega) (by omega)
    refine ⟨g, ?_, fun i a b => by omega, fun _ _ _ => rfl⟩
    rw [B_X6_lay_23, if_pos c1]
  | succ n ih =>
    intro m g hm ht
    have c1 : ¬ 24 ≤ nI m := (by decide : (24 : Int32) = nI 24) ▸ nI_ge (by omega) (by omega)
    obtain ⟨g2, e2, h2, f2⟩ := ih (m + 1) (q_up g 71 (s * 26 + (2 + m)) 0) (by omega) (ti_fr ht (fun k => q_upN (by decide)))
    refine ⟨g2, ?_, ?_, ?_⟩
    · have e : ∀ d, q_sem (d + 1) mX7_write 0 [.ref 70, .int (nI s), .int (nI (2 + m)), .int 0] [] (q_K o g) = some (none, q_K o (q_up g 71 (s * 26 + (2 + m)) 0)) := fun d => by rw [s_write d q_tb70 ht, q_pt_in hs (by omega) (by decide) (by decide)]
      rw [B_X6_lay_23, if_neg c1, show (2 : Int32) + nI m = nI (2 + m) from nI_add 2 m, e]
      simp only [Option.bind_some, Option.toList_some, Option.toList_none, List.cons_append, List.nil_append, B_X6_lay_43, nI_1]
      exact e2
    · intro i a b
      by_cases q : i = m
      · subst q; rw [f2 _ _ (by omega), q_upE]
      · exact h2 i (by omega) b
    · intro p k z
      rw [f2 _ _ (by omega), q_up_ne (by omega)]
theorem x_lay {s : Nat} (hs : s < 4) (ht : q_ti g 70 4 26 4) (d : Nat) (x2 x3 : Int32) : ∃ g2, q_sem (d + 2) mX6_lay 0 [.ref 69, .int (nI s), .int x2, .int x3, .retAddr 0] [] (q_K o g) = some (none, q_K o g2) ∧ g2 71 (s * 26) = x2 ∧ g2 71 (s * 26 + 1) = x3 ∧ (∀ i, i < 24 → g2 71 (s * 26 + (2 + i)) = 0) ∧ ∀ p k, ¬ (p = 71 ∧ s * 26 ≤ k ∧ k < s * 26 + 26) → g2 p k = g p k := by
  have h1 : q_ti (q_up g 71 (s * 26 + 0) x2) 70 4 26 4 := ti_fr ht (fun k => q_upN (by decide))
  have h2 : q_ti (q_up (q_up g 71 (s * 26 + 0) x2) 71 (s * 26 + 1) x3) 70 4 26 4 := ti_fr h1 (fun k => q_upN (by decide))
  have e1 : ∀ d, q_sem (d + 1) mX7_write 0 [.ref 70, .int (nI s), .int (nI 0), .int x2] [] (q_K o g) = some (none, q_K o (q_up g 71 (s * 26 + 0) x2)) := fun d => by rw [s_write d q_tb70 ht, q_pt_in hs (by decide) (by decide) (by decide)]
  have e2 : ∀ d, q_sem (d + 1) mX7_write 0 [.ref 70, .int (nI s), .int (nI 1), .int x3] [] (q_K o (q_up g 71 (s * 26 + 0) x2)) = some (none, q_K o (q_up (q_up g 71 (s * 26 + 0) x2) 71 (s * 26 + 1) x3)) := fun d => by rw [s_write d q_tb70 h1, q_pt_in hs (by decide) (by decide) (by decide)]
  obtain ⟨g2, e3, h3, f3⟩ := x_lay_l (o := o) hs d x2 x3 24 0 _ (by omega) h2
  refine ⟨g2, ?_, ?_, ?_, fun i hi => h3 i (Nat.zero_le _) hi, ?_⟩
  · rw [show nI 0 = (0 : Int32) from rfl] at e1
    rw [show nI 1 = (1 : Int32) from rfl] at e2
    simp only [B_X6_lay_0, B_X6_lay_10, B_X6_lay_20, Option.bind_some, Option.toList_some, Option.toList_none, List.cons_append, List.nil_append, e1, e2]
    exact e3
  · rw [f3 _ _ (by omega), q_up_ne (by omega), Nat.add_zero, q_upE]
  · rw [f3 _ _ (by omega), q_upE]
  · intro p k z
    rw [f3 _ _ (by omega), q_up_ne (by omega), q_up_ne (by omega)]
theorem y_isSheet (d : Nat) (x : Int32) : q_sem (d + 2) mX12_isSheet 0 [.int x] [] (q_K o g) = some (some (.int (bI (q_hs x 4))), q_K o g) := by
  simp only [B_X12_isSheet_0, B_X12_isSheet_6, Option.bind_some, Option.toList_some, Option.toList_none, List.cons_append, List.nil_append, y_in, q_hs4, q_rB_b]
theorem m_sheet_l {s : Nat} (hs : s < 4) (d : Nat) (x2 x3 : Int32) : ∀ n m g, m + n = 24 → ∃ g2, q_sem d mX12_sheet 93 [.ref 98, .int (nI s), .int x2, .int x3, .int (nI m)] [] (q_K o g) = some (some (.int 1), q_K o g2) ∧ (∀ i, m ≤ i → i < 24 → g2 137 (24 * s + i) = 0) ∧ ∀ p k, ¬ (p = 137 ∧ 24 * s + m ≤ k ∧ k < 24 * s + 24) → g2 p k = g p k := by
  intro n
  induction n with
  | zero =>
    intro m g hm
    have c1 : 24 ≤ nI m := (by decide : (24 : Int32) = nI 24) ▸ nI_le (by omega) (by omega)
    refine ⟨g, ?_, fun i a b => by omega, fun _ _ _ => rfl⟩
    rw [B_X12_sheet_93, if_pos c1]
  | succ n ih =>
    intro m g hm
    have c1 : ¬ 24 ≤ nI m := (by decide : (24 : Int32) = nI 24) ▸ nI_ge (by omega) (by omega)
    obtain ⟨g2, e2, h2, f2⟩ := ih (m + 1) (q_up g 137 (24 * s + m) 0) (by omega)
    refine ⟨g2, ?_, ?_, ?_⟩
    · have e : (24 : Int32) * nI s + nI m = nI (24 * s + m) := by rw [show (24 : Int32) = nI 24 from rfl, pk_mul, nI_add]
      rw [B_X12_sheet_93, if_neg c1, e, q_rgN (show 24 * s + m < 96 by omega) (by decide), nI_1]
      exact e2
    · intro i a b
      by_cases q : i = m
      · subst q; rw [f2 _ _ (by omega), q_upE]
      · exact h2 i (by omega) b
    · intro p k z
      rw [f2 _ _ (by omega), q_up_ne (by omega)]
end SHT
/-- other sheets -/
theorem R_sh {n : Nat} {g g2 : Nat → Nat → Int32} (hR : q_R n g) (h : q_shs g2) (hg : ∀ p k, p ≠ 71 → ¬ (135 ≤ p ∧ p < 138) → ¬ (138 ≤ p ∧ p ≠ 149) → g2 p k = g p k) : q_R n g2 := by
  obtain ⟨⟨S, N, h1, h2, h3⟩, h4, h5, h6, h7, h8, h9⟩ := hR
  exact ⟨⟨S, N, repC_fr h1 (fun p j a b => hg _ _ (by omega) (by omega) (by omega)), m_fr h2 (fun p a b j => hg _ _ (by omega) (by omega) (by omega)), h3⟩, fnd_fr h4 (fun k => hg _ _ (by omega) (by omega) (by omega)) (fun k => hg _ _ (by omega) (by omega) (by omega)), h, trc_fr h6 (fun p j a => hg _ _ (by omega) (by omega) (by omega)), img_fr h7 (fun p j a => hg _ _ (by omega) (by omega) (by omega)), gss_fr h8 (fun p j a => hg _ _ (by omega) (by omega) (by omega)), tis_fr h9 (fun p j a => hg _ _ (by omega) (by omega) (by omega))⟩
theorem shs_fb {g : Nat → Nat → Int32} {k : Nat} (h : q_shs g) : q_shs (q_fb g k) := shs_fr h (fun p j z => q_upN (by omega))
theorem law_sheet {o : q_H} {n : Nat} {g : Nat → Nat → Int32} (hR : q_R n g) (ho : q_oR o) (d : Nat) (x1 : Int32) (x2 : Int32) (x3 : Int32) : ∃ v g1 g2, q_sem (d + 30) mX11_sheet 0 [.ref 0, .int x1, .int x2, .int x3] [] (q_K o g) = some (some (.int v), q_K o g1) ∧ q_sem (d + 30) mX12_sheet 0 [.ref 98, .int x1, .int x2, .int x3, .retAddr 0] [] (q_K o g1) = some (some (.int v), q_K o g2) ∧ q_R n g2 := by
  obtain ⟨⟨S, N, hr, hm, hk⟩, ha⟩ := id hR
  have hs0 := ha.2.1
  cases c1 : q_hs x1 4
  · exact ⟨-1000001, q_fb g 1, q_fm (q_fb g 1) 1, by simp only [B_X11_sheet_0, B_X11_sheet_8, B_X11_sheet_38, B_X11_sheet_87, B_X11_sheet_68, B_X11_sheet_52, z_within, z_isCell, z_fin1, z_fin2, z_fin3, z_fin4, z_fin5, Option.bind_some, Option.toList_some, Option.toList_none, List.cons_append, List.nil_append, bI_t, bI_f, i10, i00, i11, i01, ↓reduceIte, Bool.false_eq_true, x_has hs0.1, c1], (by have hm := repM_fb (k := 1) hm; simp only [B_X12_sheet_0, B_X12_sheet_4, B_X12_sheet_35, B_X12_sheet_67, B_X12_sheet_50, y_in, y_isCell, y_fin1, y_fin2, y_fin3, y_fin4, y_fin5, Option.bind_some, Option.toList_some, Option.toList_none, List.cons_append, List.nil_append, bI_t, bI_f, i10, i00, i11, i01, ↓reduceIte, Bool.false_eq_true, y_isSheet, c1]), R_fin hR (by decide)⟩
  obtain ⟨s, hs, rfl⟩ := q_hs_t c1 (by decide)
  have key : ∀ b nn, (b = 0 ∨ b = 8 ∨ b = 16 ∨ b = 32) → nn ≤ 24 → ∃ g1 g2, q_sem (d + 29) mX6_lay 0 [.ref 69, .int (nI s), .int b, .int (nI nn), .retAddr 0] [] (q_K o g) = some (none, q_K o g1) ∧ q_sem (d + 30) mX12_sheet 93 [.ref 98, .int (nI s), .int x2, .int x3, .int 0] [] (q_K o (q_up (q_up g1 135 s b) 136 s (nI nn))) = some (some (.int 1), q_K o g2) ∧ q_R n g2 := by
    intro b nn hb hnn
    obtain ⟨g1, e1, h11, h12, h13, f1⟩ := x_lay (o := o) hs hs0.1 (d + 27) b (nI nn)
    obtain ⟨g2, e2, h2, f2⟩ := m_sheet_l (o := o) hs (d + 30) x2 x3 24 0 (q_up (q_up g1 135 s b) 136 s (nI nn)) (by omega)
    refine ⟨g1, g2, e1, e2, R_sh hR ⟨ti_fr hs0.1 (fun k => by rw [f2 _ _ (by omega), q_upN (by decide), q_upN (by decide), f1 _ _ (by omega)]), fun t ht => ?_⟩ (fun p k a b c => by rw [f2 _ _ (by omega), q_up_ne (by omega), q_up_ne (by omega), f1 _ _ (by omega)])⟩
    have g71 : ∀ k, g2 71 k = g1 71 k := fun k => by rw [f2 _ _ (by omega), q_upN (by decide), q_upN (by decide)]
    unfold q_sh1
    by_cases e : t = s
    · subst e
      have g135 : g2 135 t = b := by rw [f2 _ _ (by omega), q_upN (by decide), q_upE]
      have g136 : g2 136 t = nI nn := by rw [f2 _ _ (by omega), q_upE]
      have z0 : ∀ i, i < 24 → g2 137 (24 * t + i) = 0 := fun i hi => h2 i (Nat.zero_le _) hi
      refine ⟨by rw [g71, g135]; exact h11, by rw [g71, g136]; exact h12, by rw [g135]; exact hb, ⟨nn, hnn, g136⟩, fun i hi => by rw [g71, z0 i hi]; exact h13 i hi, fun i hi => ?_⟩
      rw [z0 i hi]
      exact ⟨fun _ => by decide, fun _ => by decide⟩
    · have g135 : g2 135 t = g 135 t := by rw [f2 _ _ (by omega), q_upN (by decide), q_upJ e, f1 _ _ (by omega)]
      have g136 : g2 136 t = g 136 t := by rw [f2 _ _ (by omega), q_upJ e, q_upN (by decide), f1 _ _ (by omega)]
      have g137 : ∀ i, i < 24 → g2 137 (24 * t + i) = g 137 (24 * t + i) := fun i hi => by rw [f2 _ _ (by omega), q_upN (by decide), q_upN (by decide), f1 _ _ (by omega)]
      have k71 : ∀ c, c < 26 → g2 71 (t * 26 + c) = g 71 (t * 26 + c) := fun c hc => by rw [g71, f1 _ _ (by omega)]
      obtain ⟨a1, a2, a3, a4, a5, a6⟩ := hs0.2 t ht
      rw [g135, g136, show t * 26 = t * 26 + 0 from rfl, k71 0 (by decide), k71 1 (by decide)]
      refine ⟨a1, a2, a3, a4, fun i hi => by rw [Nat.add_zero, k71 (2 + i) (by omega), g137 i hi]; exact a5 i hi, fun i hi => by rw [g137 i hi]; exact a6 i hi⟩
  by_cases b0 : x2 = 0
  · obtain ⟨g1, g2, e1, e2, hR2⟩ := key 0 0 (Or.inl rfl) (by decide)
    subst b0
    rw [nI_0] at e1 e2
    refine ⟨1, g1, g2, ?_, ?_, hR2⟩
    · simp only [B_X11_sheet_0, B_X11_sheet_8, B_X11_sheet_38, B_X11_sheet_87, B_X11_sheet_68, B_X11_sheet_52, z_within, z_isCell, z_fin1, z_fin2, z_fin3, z_fin4, z_fin5, Option.bind_some, Option.toList_some, Option.toList_none, List.cons_append, List.nil_append, bI_t, bI_f, i10, i00, i11, i01, ↓reduceIte, Bool.false_eq_true, x_has hs0.1, c1, e1]
    · simp only [B_X12_sheet_0, B_X12_sheet_4, y_in, y_isCell, y_fin1, y_fin2, y_fin3, y_fin4, y_fin5, Option.bind_some, Option.toList_some, Option.toList_none, List.cons_append, List.nil_append, bI_t, bI_f, i10, i00, i11, i01, ↓reduceIte, Bool.false_eq_true, y_isSheet, c1, q_rgN hs (show 4 < 2 ^ 31 by decide), e2]
  by_cases b1 : x2 = 8 ∨ x2 = 16 ∨ x2 = 32
  · by_cases n0 : 0 ≤ x3
    · by_cases n1 : x3 ≤ 24
      · obtain ⟨nn, hnn, rfl⟩ := nI_of2 (M := 24) (n := 24) (by decide) (show ¬ x3 < 0 by rw [q_leN]; exact n0) n1
        obtain ⟨g1, g2, e1, e2, hR2⟩ := key x2 nn (Or.inr b1) hnn
        refine ⟨1, g1, g2, ?_, ?_, hR2⟩
        · simp only [B_X11_sheet_0, B_X11_sheet_8, B_X11_sheet_38, B_X11_sheet_87, B_X11_sheet_68, B_X11_sheet_52, z_within, z_isCell, z_fin1, z_fin2, z_fin3, z_fin4, z_fin5, Option.bind_some, Option.toList_some, Option.toList_none, List.cons_append, List.nil_append, bI_t, bI_f, i10, i00, i11, i01, ↓reduceIte, Bool.false_eq_true, x_has hs0.1, c1, b0, n0, n1, e1]
          rcases b1 with rfl | rfl | rfl <;> simp only [↓reduceIte, (by decide : ¬ (16 : Int32) = 8), (by decide : ¬ (32 : Int32) = 8), (by decide : ¬ (32 : Int32) = 16)]
        · simp only [B_X12_sheet_0, B_X12_sheet_4, y_in, y_isCell, y_fin1, y_fin2, y_fin3, y_fin4, y_fin5, Option.bind_some, Option.toList_some, Option.toList_none, List.cons_append, List.nil_append, bI_t, bI_f, i10, i00, i11, i01, ↓reduceIte, Bool.false_eq_true, y_isSheet, c1, b0, n0, n1, q_rgN hs (show 4 < 2 ^ 31 by decide), e2]
          rcases b1 with rfl | rfl | rfl <;> simp only [↓reduceIte, (by decide : ¬ (16 : Int32) = 8), (by decide : ¬ (32 : Int32) = 8), (by decide : ¬ (32 : Int32) = 16)]
      · rcases b1 with rfl | rfl | rfl
        · exact ⟨-1000001, q_fb g 1, q_fm (q_fb g 1) 1, by simp only [B_X11_sheet_0, B_X11_sheet_8, B_X11_sheet_38, B_X11_sheet_87, B_X11_sheet_68, B_X11_sheet_52, z_within, z_isCell, z_fin1, z_fin2, z_fin3, z_fin4, z_fin5, Option.bind_some, Option.toList_some, Option.toList_none, List.cons_append, List.nil_append, bI_t, bI_f, i10, i00, i11, i01, ↓reduceIte, Bool.false_eq_true, x_has hs0.1, c1, b0, n0, n1], (by have hm := repM_fb (k := 1) hm; simp only [B_X12_sheet_0, B_X12_sheet_4, B_X12_sheet_35, B_X12_sheet_67, B_X12_sheet_50, y_in, y_isCell, y_fin1, y_fin2, y_fin3, y_fin4, y_fin5, Option.bind_some, Option.toList_some, Option.toList_none, List.cons_append, List.nil_append, bI_t, bI_f, i10, i00, i11, i01, ↓reduceIte, Bool.false_eq_true, y_isSheet, c1, b0, n0, n1]), R_fin hR (by decide)⟩
        · exact ⟨-1000001, q_fb g 1, q_fm (q_fb g 1) 1, by simp only [B_X11_sheet_0, B_X11_sheet_8, B_X11_sheet_38, B_X11_sheet_87, B_X11_sheet_68, B_X11_sheet_52, z_within, z_isCell, z_fin1, z_fin2, z_fin3, z_fin4, z_fin5, Option.bind_some, Option.toList_some, Option.toList_none, List.cons_append, List.nil_append, bI_t, bI_f, i10, i00, i11, i01, ↓reduceIte, Bool.false_eq_true, x_has hs0.1, c1, b0, n0, n1, (by decide : ¬ (16 : Int32) = 8)], (by have hm := repM_fb (k := 1) hm; simp only [B_X12_sheet_0, B_X12_sheet_4, B_X12_sheet_35, B_X12_sheet_67, B_X12_sheet_50, y_in, y_isCell, y_fin1, y_fin2, y_fin3, y_fin4, y_fin5, Option.bind_some, Option.toList_some, Option.toList_none, List.cons_append, List.nil_append, bI_t, bI_f, i10, i00, i11, i01, ↓reduceIte, Bool.false_eq_true, y_isSheet, c1, b0, n0, n1, (by decide : ¬ (16 : Int32) = 8)]), R_fin hR (by decide)⟩
        · exact ⟨-1000001, q_fb g 1, q_fm (q_fb g 1) 1, by simp only [B_X11_sheet_0, B_X11_sheet_8, B_X11_sheet_38, B_X11_sheet_87, B_X11_sheet_68, B_X11_sheet_52, z_within, z_isCell, z_fin1, z_fin2, z_fin3, z_fin4, z_fin5, Option.bind_some, Option.toList_some, Option.toList_none, List.cons_append, List.nil_append, bI_t, bI_f, i10, i00, i11, i01, ↓reduceIte, Bool.false_eq_true, x_has hs0.1, c1, b0, n0, n1, (by decide : ¬ (32 : Int32) = 8), (by decide : ¬ (32 : Int32) = 16)], (by have hm := repM_fb (k := 1) hm; simp only [B_X12_sheet_0, B_X12_sheet_4, B_X12_sheet_35, B_X12_sheet_67, B_X12_sheet_50, y_in, y_isCell, y_fin1, y_fin2, y_fin3, y_fin4, y_fin5, Option.bind_some, Option.toList_some, Option.toList_none, List.cons_append, List.nil_append, bI_t, bI_f, i10, i00, i11, i01, ↓reduceIte, Bool.false_eq_true, y_isSheet, c1, b0, n0, n1, (by decide : ¬ (32 : Int32) = 8), (by decide : ¬ (32 : Int32) = 16)]), R_fin hR (by decide)⟩
    · rcases b1 with rfl | rfl | rfl
      · exact ⟨-1000003, q_fb g 3, q_fm (q_fb g 3) 3, by simp only [B_X11_sheet_0, B_X11_sheet_8, B_X11_sheet_38, B_X11_sheet_87, B_X11_sheet_68, B_X11_sheet_52, z_within, z_isCell, z_fin1, z_fin2, z_fin3, z_fin4, z_fin5, Option.bind_some, Option.toList_some, Option.toList_none, List.cons_append, List.nil_append, bI_t, bI_f, i10, i00, i11, i01, ↓reduceIte, Bool.false_eq_true, x_has hs0.1, c1, b0, n0], (by have hm := repM_fb (k := 3) hm; simp only [B_X12_sheet_0, B_X12_sheet_4, B_X12_sheet_35, B_X12_sheet_67, B_X12_sheet_50, y_in, y_isCell, y_fin1, y_fin2, y_fin3, y_fin4, y_fin5, Option.bind_some, Option.toList_some, Option.toList_none, List.cons_append, List.nil_append, bI_t, bI_f, i10, i00, i11, i01, ↓reduceIte, Bool.false_eq_true, y_isSheet, c1, b0, n0]), R_fin hR (by decide)⟩
      · exact ⟨-1000003, q_fb g 3, q_fm (q_fb g 3) 3, by simp only [B_X11_sheet_0, B_X11_sheet_8, B_X11_sheet_38, B_X11_sheet_87, B_X11_sheet_68, B_X11_sheet_52, z_within, z_isCell, z_fin1, z_fin2, z_fin3, z_fin4, z_fin5, Option.bind_some, Option.toList_some, Option.toList_none, List.cons_append, List.nil_append, bI_t, bI_f, i10, i00, i11, i01, ↓reduceIte, Bool.false_eq_true, x_has hs0.1, c1, b0, n0, (by decide : ¬ (16 : Int32) = 8)], (by have hm := repM_fb (k := 3) hm; simp only [B_X12_sheet_0, B_X12_sheet_4, B_X12_sheet_35, B_X12_sheet_67, B_X12_sheet_50, y_in, y_isCell, y_fin1, y_fin2, y_fin3, y_fin4, y_fin5, Option.bind_some, Option.toList_some, Option.toList_none, List.cons_append, List.nil_append, bI_t, bI_f, i10, i00, i11, i01, ↓reduceIte, Bool.false_eq_true, y_isSheet, c1, b0, n0, (by decide : ¬ (16 : Int32) = 8)]), R_fin hR (by decide)⟩
      · exact ⟨-1000003, q_fb g 3, q_fm (q_fb g 3) 3, by simp only [B_X11_sheet_0, B_X11_sheet_8, B_X11_sheet_38, B_X11_sheet_87, B_X11_sheet_68, B_X11_sheet_52, z_within, z_isCell, z_fin1, z_fin2, z_fin3, z_fin4, z_fin5, Option.bind_some, Option.toList_some, Option.toList_none, List.cons_append, List.nil_append, bI_t, bI_f, i10, i00, i11, i01, ↓reduceIte, Bool.false_eq_true, x_has hs0.1, c1, b0, n0, (by decide : ¬ (32 : Int32) = 8), (by decide : ¬ (32 : Int32) = 16)], (by have hm := repM_fb (k := 3) hm; simp only [B_X12_sheet_0, B_X12_sheet_4, B_X12_sheet_35, B_X12_sheet_67, B_X12_sheet_50, y_in, y_isCell, y_fin1, y_fin2, y_fin3, y_fin4, y_fin5, Option.bind_some, Option.toList_some, Option.toList_none, List.cons_append, List.nil_append, bI_t, bI_f, i10, i00, i11, i01, ↓reduceIte, Bool.false_eq_true, y_isSheet, c1, b0, n0, (by decide : ¬ (32 : Int32) = 8), (by decide : ¬ (32 : Int32) = 16)]), R_fin hR (by decide)⟩
  · have b8 : ¬ x2 = 8 := fun z => b1 (Or.inl z)
    have b16 : ¬ x2 = 16 := fun z => b1 (Or.inr (Or.inl z))
    have b32 : ¬ x2 = 32 := fun z => b1 (Or.inr (Or.inr z))
    exact ⟨-1000001, q_fb g 1, q_fm (q_fb g 1) 1, by simp only [B_X11_sheet_0, B_X11_sheet_8, B_X11_sheet_38, B_X11_sheet_87, B_X11_sheet_68, B_X11_sheet_52, z_within, z_isCell, z_fin1, z_fin2, z_fin3, z_fin4, z_fin5, Option.bind_some, Option.toList_some, Option.toList_none, List.cons_append, List.nil_append, bI_t, bI_f, i10, i00, i11, i01, ↓reduceIte, Bool.false_eq_true, x_has hs0.1, c1, b0, b8, b16, b32], (by have hm := repM_fb (k := 1) hm; simp only [B_X12_sheet_0, B_X12_sheet_4, B_X12_sheet_35, B_X12_sheet_67, B_X12_sheet_50, y_in, y_isCell, y_fin1, y_fin2, y_fin3, y_fin4, y_fin5, Option.bind_some, Option.toList_some, Option.toList_none, List.cons_append, List.nil_append, bI_t, bI_f, i10, i00, i11, i01, ↓reduceIte, Bool.false_eq_true, y_isSheet, c1, b0, b8, b16, b32]), R_fin hR (by decide)⟩
