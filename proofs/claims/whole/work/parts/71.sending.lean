theorem fu_eq {S : Nat → Nat → Int32} {N : Nat → Nat} (i : Nat) : q_fu S i = (decide (q_un (S 14 i) (nI 1)) && decide (S 20 i = 0)) := by
  unfold q_fu q_raB
  rw [← Bool.decide_and]
  apply decide_eq_decide.mpr
  constructor
  · intro h; exact ⟨(q_un1 _).mpr h.1, h.2⟩
  · intro h; exact ⟨(q_un1 _).mp h.1, h.2⟩
theorem f_in60 : ∀ n, n < 61 → ∀ l, l < 61 → q_in (nI n) 1 (nI l) = decide (1 ≤ n ∧ n ≤ l) := by decide +kernel
theorem sco_eq {S : Nat → Nat → Int32} {t l r c : Nat} {U D : Nat → Nat} (ht : t ≤ 1000) (et : S 0 7 = nI t) (hl : l ≤ 60) : (((q_mtm S (q_mm S (D c) (U r)) < 0) ∨ nI (t + l) < q_mtm S (q_mm S (D c) (U r))) ∧ q_sco S (nI l) U D r c = none) ∨ ∃ w, w ≤ 1060 ∧ q_sco S (nI l) U D r c = some w ∧ q_mtm S (q_mm S (D c) (U r)) = nI w ∧ ¬ nI (t + l) < nI w := by
  unfold q_sco q_mtm
  rcases mm_r (S := S) (i := D c) (j := U r) with h | ⟨n, n1, n2, h⟩
  · left
    rw [h]
    have e : q_in (-1) 1 (nI l) = false := by
      unfold q_in
      exact decide_eq_false (fun z => absurd z.1 (by decide))
    rw [e, if_pos (by decide)]
    exact ⟨Or.inl (by decide), rfl⟩
  · rw [h, if_neg (nI_pos (by omega)), et, nI_add, f_in60 n (by omega) l (by omega), show q_cl2 (nI (t + n)) = t + n from nI_clamp (by omega)]
    by_cases c : n ≤ l
    · right
      rw [decide_eq_true ⟨n1, c⟩, if_pos rfl]
      exact ⟨t + n, by omega, rfl, rfl, nI_nlt (by omega) (by omega)⟩
    · left
      rw [decide_eq_false (fun z => c z.2)]
      exact ⟨Or.inr (nI_lt (by omega) (by omega)), rfl⟩
theorem sco_le {S : Nat → Nat → Int32} {t l r c w : Nat} {U D : Nat → Nat} (ht : t ≤ 1000) (et : S 0 7 = nI t) (hl : l ≤ 60) (h : q_sco S (nI l) U D r c = some w) : w ≤ 1060 := by
  rcases sco_eq (r := r) (c := c) (U := U) (D := D) ht et hl with ⟨_, e⟩ | ⟨v, hv, e, _⟩
  · rw [e] at h; exact absurd h (by simp)
  · rw [e] at h; rw [← Option.some.inj h]; exact hv
theorem law_sending {o : q_H} {n : Nat} {g : Nat → Nat → Int32} (hR : q_R n g) (ho : q_oR o) (d : Nat) (x1 : Int32) (x2 : Int32) : ∃ v g1 g2, q_sem (d + 30) mX11_sending 0 [.ref 0, .int x1, .int x2] [] (q_K o g) = some (some (.int v), q_K o g1) ∧ q_sem (d + 30) mX12_sending 0 [.ref 98, .int x1, .int x2] [] (q_K o g1) = some (some (.int v), q_K o g2) ∧ q_R n g2 := by
  obtain ⟨⟨S, N, hr, hm, hk⟩, ha⟩ := id hR
  have hR_ := hR
  cases c1 : q_in x1 1 60
  · exact ⟨-1000001, q_fb g 1, q_fm (q_fb g 1) 1, by simp only [B_X11_sending_0, B_X11_sending_7, B_X11_sending_25, B_X11_sending_17, B_X11_sending_33, B_X11_sending_46, B_X11_sending_59, B_X11_sending_70, B_X11_sending_84, B_X11_sending_78, B_X11_sending_97, B_X11_sending_104, B_X11_sending_108, B_X11_sending_143, B_X11_sending_124, B_X11_sending_134, z_within, z_isCell, z_fin1, z_fin2, z_fin3, z_fin4, z_fin5, Option.bind_some, Option.toList_some, Option.toList_none, List.cons_append, List.nil_append, bI_t, bI_f, i10, i00, i11, i01, ↓reduceIte, Bool.false_eq_true, c1], (by have hm := repM_fb (k := 1) hm; simp only [B_X12_sending_0, B_X12_sending_7, B_X12_sending_26, B_X12_sending_17, B_X12_sending_32, B_X12_sending_76, y_in, y_isCell, y_fin1, y_fin2, y_fin3, y_fin4, y_fin5, Option.bind_some, Option.toList_some, Option.toList_none, List.cons_append, List.nil_append, bI_t, bI_f, i10, i00, i11, i01, ↓reduceIte, Bool.false_eq_true, c1]), R_fin hR (by decide)⟩
  cases c2 : q_in x2 (-2) 5
  · exact ⟨-1000001, q_fb g 1, q_fm (q_fb g 1) 1, by simp only [B_X11_sending_0, B_X11_sending_7, B_X11_sending_25, B_X11_sending_17, B_X11_sending_33, B_X11_sending_46, B_X11_sending_59, B_X11_sending_70, B_X11_sending_84, B_X11_sending_78, B_X11_sending_97, B_X11_sending_104, B_X11_sending_108, B_X11_sending_143, B_X11_sending_124, B_X11_sending_134, z_within, z_isCell, z_fin1, z_fin2, z_fin3, z_fin4, z_fin5, Option.bind_some, Option.toList_some, Option.toList_none, List.cons_append, List.nil_append, bI_t, bI_f, i10, i00, i11, i01, ↓reduceIte, Bool.false_eq_true, c1, c2], (by have hm := repM_fb (k := 1) hm; simp only [B_X12_sending_0, B_X12_sending_7, B_X12_sending_26, B_X12_sending_17, B_X12_sending_32, B_X12_sending_76, y_in, y_isCell, y_fin1, y_fin2, y_fin3, y_fin4, y_fin5, Option.bind_some, Option.toList_some, Option.toList_none, List.cons_append, List.nil_append, bI_t, bI_f, i10, i00, i11, i01, ↓reduceIte, Bool.false_eq_true, c1, c2]), R_fin hR (by decide)⟩
  have hN := n_cnt_fl hr
  obtain ⟨lim, hl1, hl60, rfl⟩ := q_in_t (a := 1) (b := 60) c1 (by decide) (by decide)
  obtain ⟨t, ht, et⟩ := hk.1.2.2.2.2.2.2
  have hx2 : -2 ≤ x2 ∧ (x2 < 0 ∨ ∃ p, p ≤ 5 ∧ x2 = nI p) := by
    unfold q_in at c2
    have h := of_decide_eq_true c2
    refine ⟨h.1, ?_⟩
    by_cases q : x2 < 0
    · exact Or.inl q
    · obtain ⟨p, hp, rfl⟩ := nI_of q
      have := (nI_leI (b := 5) hp (by decide)).mp h.2
      exact Or.inr ⟨p, this, rfl⟩
  -- the lists
  obtain ⟨r73, t73⟩ := ha.2.2.2.2.2 (73, 9, 1) (by decide)
  obtain ⟨r75, t75⟩ := ha.2.2.2.2.2 (75, 9, 1) (by decide)
  obtain ⟨r77, t77⟩ := ha.2.2.2.2.2 (77, 9, 9) (by decide)
  obtain ⟨r79, t79⟩ := ha.2.2.2.2.2 (79, 9, 1) (by decide)
  obtain ⟨r81, t81⟩ := ha.2.2.2.2.2 (81, 10, 1) (by decide)
  obtain ⟨g1, e1, a1, b1, k1, m1, f1⟩ := z_mbegin (o := o) t73 t75 t77 (d + 26)
  have hr1 : repC 1 g1 S N := repC_fr hr (fun p k a b => f1 _ _ (by omega))
  obtain ⟨g2, e2, a2, v2, f2⟩ := z_listL (o := o) q_tb73 (Or.inl rfl) 1 0 (q_fu S) (fun i => decide (q_un (S 14 i) (nI 1))) (fun i => decide (S 20 i = 0)) (fun i _ => fu_eq (N := N) i) (fun g hg i hi d => z_isA hg hk.1 ho hi d (a := 1) (by decide)) (fun g hg i hi d => z_stands hg hi d 0) (d + 26) (N 5) 0 g1 (by omega) hr1 a1 (fun j hj => by simp [q_cnt] at hj)
  have hr2 : repC 1 g2 S N := repC_fr hr1 (fun p k a b => f2 _ _ (by omega) (by omega))
  obtain ⟨g3, e3, b3, v3, f3⟩ := z_listL (o := o) q_tb75 (Or.inr rfl) 4 1 (q_fd S) (fun i => decide (3 < S 14 i)) (fun i => decide (S 20 i = 1)) (fun i _ => rfl) (fun g hg i hi d => z_isA4 hg hk.1 ho hi d) (fun g hg i hi d => z_stands hg hi d 1) (d + 26) (N 5) 0 g2 (by omega) hr2 (ti_fr b1 (fun k => f2 _ _ (by decide) (by decide))) (fun j hj => by simp [q_cnt] at hj)
  have hr3 : repC 1 g3 S N := repC_fr hr2 (fun p k a b => f3 _ _ (by omega) (by omega))
  have a3 := ti_fr a2 (fun k => f3 73 k (by decide) (by decide))
  have k3 : q_ti g3 77 9 9 9 := ti_fr k1 (fun k => (f3 _ _ (by decide) (by decide)).trans (f2 _ _ (by decide) (by decide)))
  have f13 : ∀ p j, ¬ (73 ≤ p ∧ p < 79) → g3 p j = g p j := fun p j a => by rw [f3 p j (by omega) (by omega), f2 p j (by omega) (by omega), f1 p j a]
  have hUs : ∀ i, i < min 6 (q_cnt (q_fu S) (N 5)) → q_pos (q_fu S) (N 5) i < N 5 := fun i hi => (pos_spec (by omega)).1
  have hDs : ∀ i, i < min 6 (q_cnt (q_fd S) (N 5)) → q_pos (q_fd S) (N 5) i < N 5 ∧ 3 < S 14 (q_pos (q_fd S) (N 5) i) := fun i hi => by
    obtain ⟨h1, h2, _⟩ := pos_spec (f := q_fd S) (n := N 5) (i := i) (by omega)
    unfold q_fd at h2
    rw [Bool.and_eq_true] at h2
    exact ⟨h1, of_decide_eq_true h2.1⟩
  have hm3 : repM g3 S N := m_fr hm (fun p a b j => f13 _ _ (by omega))
  have hR6 : min 6 (q_cnt (q_fu S) (N 5)) ≤ 6 := Nat.min_le_left _ _
  have hC6 : min 6 (q_cnt (q_fd S) (N 5)) ≤ 6 := Nat.min_le_left _ _
  -- the Model's lists, its waits and its search, from any state of the class's
  have mdl : ∀ h : Nat → Nat → Int32, repM h S N → ∃ h2 K, q_sem (d + 29) mX12_findSending 0 [.ref 98, .int (nI lim), .retAddr 0, .retAddr 0] [] (q_K o h) = some (none, q_K o h2) ∧ (∀ p j, p < 138 → ¬ (p = 98 ∧ 59 ≤ j ∧ j < 65) → h2 p j = h p j) ∧ (∀ p j, p = 149 → h2 p j = h p j) ∧ h2 98 60 = nI (min 6 (q_cnt (q_fu S) (N 5))) ∧ q_skk h2 (min 6 (q_cnt (q_fu S) (N 5))) K ∧ K = q_V (q_sco S (nI lim) (q_pos (q_fu S) (N 5)) (q_pos (q_fd S) (N 5))) (q_fo (q_hmB S 4 1) 0 (N 5) 0 - q_kpd S N) (min 6 (q_cnt (q_fd S) (N 5))) (min 6 (q_cnt (q_fu S) (N 5))) 0 0 ∧ ∀ j, j < min 6 (q_cnt (q_fu S) (N 5)) → h2 145 j = q_val (min 6 (q_cnt (q_fd S) (N 5))) (q_pos (q_fd S) (N 5)) (q_mP (q_sco S (nI lim) (q_pos (q_fu S) (N 5)) (q_pos (q_fd S) (N 5))) (q_fo (q_hmB S 4 1) 0 (N 5) 0 - q_kpd S N) (min 6 (q_cnt (q_fd S) (N 5))) (min 6 (q_cnt (q_fu S) (N 5))) 0 0 j) := by
    intro h hh
    have fu0 : ∀ p j, ¬ (p = 98 ∧ (j = 59 ∨ j = 60)) → q_up (q_up h 98 59 0) 98 60 0 p j = h p j := fun p j a => by rw [q_up_ne (by omega), q_up_ne (by omega)]
    have hh0 : repM (q_up (q_up h 98 59 0) 98 60 0) S N := m_fr hh (fun p a b j => fu0 _ _ (by omega))
    obtain ⟨h1, e1, l1, f1⟩ := m_fsA (o := o) (nI lim) (d + 28) (N 5) 0 (q_up (q_up h 98 59 0) 98 60 0) (by omega) hh0 ⟨by rw [q_upE]; rfl, by rw [q_upJ (by decide), q_upE]; rfl, fun j hj => by simp [q_cnt] at hj, fun j hj => by simp [q_cnt] at hj⟩
    have hh1 : repM h1 S N := m_fr hh0 (fun p a b j => f1 _ _ (by omega) (by omega) (by omega))
    obtain ⟨h2, w3, hw3, e2, v2, f2⟩ := m_fsO (o := o) hk.1 ho hR6 hC6 hUs hDs (nI lim) (d + 24) _ 0 h1 (.retAddr 0) (Nat.zero_add _) hh1 l1.2.1 l1.1 l1.2.2.1 l1.2.2.2 (fun y x hy => by omega) (Or.inl rfl)
    have hh2 : repM h2 S N := m_fr hh1 (fun p a b j => f2 _ _ (by omega))
    obtain ⟨h3, aa, bb, e3, hh3, f3⟩ := m_fsK (o := o) hk.1 hk.2 (nI lim) (nI (min 6 (q_cnt (q_fu S) (N 5)))) (d + 24) h2 hh2 w3 hw3
    have fu3 : ∀ p j, ¬ (p = 98 ∧ 61 ≤ j ∧ j < 65) → q_up (q_up (q_up (q_up h3 98 61 (q_fo (q_hmB S 4 1) 0 (N 5) 0 - q_kpd S N)) 98 62 (-1)) 98 63 0) 98 64 (S 0 7 + nI lim) p j = h3 p j := fun p j a => by rw [q_up_ne (by omega), q_up_ne (by omega), q_up_ne (by omega), q_up_ne (by omega)]
    have hsd : q_sds (q_up (q_up (q_up (q_up h3 98 61 (q_fo (q_hmB S 4 1) 0 (N 5) 0 - q_kpd S N)) 98 62 (-1)) 98 63 0) 98 64 (S 0 7 + nI lim)) (min 6 (q_cnt (q_fu S) (N 5))) (min 6 (q_cnt (q_fd S) (N 5))) (q_pos (q_fd S) (N 5)) (q_sco S (nI lim) (q_pos (q_fu S) (N 5)) (q_pos (q_fd S) (N 5))) (q_fo (q_hmB S 4 1) 0 (N 5) 0 - q_kpd S N) := by
      refine ⟨?_, ?_, by rw [q_upJ (by decide), q_upJ (by decide), q_upJ (by decide), q_upE], fun i hi => ?_, fun r c hr hc => ?_⟩
      · rw [fu3 _ _ (by omega), f3 _ _ (by decide), f2 _ _ (by decide)]; exact l1.1
      · rw [fu3 _ _ (by omega), f3 _ _ (by decide), f2 _ _ (by decide)]; exact l1.2.1
      · rw [fu3 _ _ (by omega), f3 _ _ (by decide), f2 _ _ (by decide)]; exact l1.2.2.2 i hi
      · rw [fu3 146 _ (by omega), f3 _ _ (by decide), v2 r c hr hc, q_upE, et, nI_add]
        exact sco_eq ht et hl60
    obtain ⟨h4, e4, b4, y4, _, _, f4⟩ := m_sends (o := o) hR6 hC6 (d + 26 - min 6 (q_cnt (q_fu S) (N 5))) (min 6 (q_cnt (q_fu S) (N 5))) 0 0 0 0 (100000 * (min 6 (q_cnt (q_fu S) (N 5)) + 1)) _ (Nat.zero_add _) (by decide) (by decide) (Nat.le_refl _) (Nat.zero_le _) hsd (Or.inr ⟨by rw [q_upJ (by decide), q_upJ (by decide), q_upE], by rw [q_upJ (by decide), q_upE], rfl⟩)
    rw [show d + 26 - min 6 (q_cnt (q_fu S) (N 5)) + min 6 (q_cnt (q_fu S) (N 5)) + 2 = d + 28 by omega] at e4
    have hV := q_V_le (cost := q_sco S (nI lim) (q_pos (q_fu S) (N 5)) (q_pos (q_fd S) (N 5))) (L := q_fo (q_hmB S 4 1) 0 (N 5) 0 - q_kpd S N) (C := min 6 (q_cnt (q_fd S) (N 5))) (min 6 (q_cnt (q_fu S) (N 5))) 0 0
    have hlt : 100000 * (0 - 0) + 0 + q_V (q_sco S (nI lim) (q_pos (q_fu S) (N 5)) (q_pos (q_fd S) (N 5))) (q_fo (q_hmB S 4 1) 0 (N 5) 0 - q_kpd S N) (min 6 (q_cnt (q_fd S) (N 5))) (min 6 (q_cnt (q_fu S) (N 5))) 0 0 < 100000 * (min 6 (q_cnt (q_fu S) (N 5)) + 1) := by omega
    rw [if_pos hlt] at b4
    have ff : ∀ p j, p ≠ 141 → p ≠ 142 → p ≠ 143 → p ≠ 144 → p ≠ 145 → p ≠ 146 → ¬ (p = 98 ∧ 59 ≤ j ∧ j < 65) → h4 p j = h p j := fun p j a1 a2 a3 a4 a5 a6 a7 => by rw [f4 p j a4 a5 (by omega), fu3 p j (by omega), f3 p j a1, f2 p j a6, f1 p j a2 a3 (by omega), fu0 p j (by omega)]
    refine ⟨h4, _, ?_, fun p j a b => ff p j (by omega) (by omega) (by omega) (by omega) (by omega) (by omega) b, fun p j a => ff p j (by omega) (by omega) (by omega) (by omega) (by omega) (by omega) (by omega), ?_, b4, by omega, fun j hj => ?_⟩
    · have e1' : q_sem (d + 29) mX12_findSending 12 [.ref 98, .int (nI lim), .int 0, .retAddr 0] [] (q_K o (q_up (q_up h 98 59 0) 98 60 0)) = _ := e1
      have e2' : q_sem (d + 29) mX12_findSending 114 [.ref 98, .int (nI lim), .int 0, .retAddr 0] [] (q_K o h1) = _ := e2
      have e4' : q_sem (d + 28) mX12_sends 0 [.ref 98, .int 0, .int 0, .int 0, .int 0, .retAddr 0, .retAddr 0] [] _ = some (none, q_K o h4) := e4
      rw [B_X12_findSending_0, e1', e2', e3]
      show (q_sem (d + 28) mX12_sends 0 _ [] _).bind _ = _
      rw [e4']
      simp only [Option.bind_some, Option.toList_some, Option.toList_none, List.cons_append, List.nil_append, B_X12_findSending_261]
    · rw [f4 _ _ (by decide) (by decide) (by omega), fu3 _ _ (by omega), f3 _ _ (by decide), f2 _ _ (by decide)]; exact l1.1
    · rw [y4 hlt j hj, if_neg (Nat.not_lt_zero _)]
  generalize hR : min 6 (q_cnt (q_fu S) (N 5)) = R at *
  generalize hC : min 6 (q_cnt (q_fd S) (N 5)) = C at *
  generalize q_pos (q_fu S) (N 5) = U at *
  generalize q_pos (q_fd S) (N 5) = D at *
  have htisA : ∀ h : Nat → Nat → Int32, (∀ p j, p < 72 ∨ 84 ≤ p → h p j = g p j) → (∃ r, q_ti h 73 9 1 r) → (∃ r, q_ti h 75 9 1 r) → (∃ r, q_ti h 77 9 9 r) → (∃ r, q_ti h 79 9 1 r) → (∃ r, q_ti h 81 10 1 r) → q_tis h := by
    intro h fh x1 x2 x3 x4 x5 q hq
    simp only [q_scr, List.mem_cons, List.not_mem_nil, or_false] at hq
    rcases hq with rfl | rfl | rfl | rfl | rfl | rfl | rfl | rfl | rfl
    · exact x1
    · exact x2
    · exact x3
    · exact x4
    · exact x5
    · obtain ⟨r, hr⟩ := ha.2.2.2.2.2 (85, 10, 1) (by decide); exact ⟨r, ti_fr hr (fun k => fh _ _ (by decide))⟩
    · obtain ⟨r, hr⟩ := ha.2.2.2.2.2 (87, 10, 1) (by decide); exact ⟨r, ti_fr hr (fun k => fh _ _ (by decide))⟩
    · obtain ⟨r, hr⟩ := ha.2.2.2.2.2 (89, 11, 7) (by decide); exact ⟨r, ti_fr hr (fun k => fh _ _ (by decide))⟩
    · obtain ⟨r, hr⟩ := ha.2.2.2.2.2 (92, 8, 1) (by decide); exact ⟨r, ti_fr hr (fun k => fh _ _ (by decide))⟩
  have t79' : q_ti g3 79 9 1 r79 := ti_fr t79 (fun k => f13 _ _ (by decide))
  have t81' : q_ti g3 81 10 1 r81 := ti_fr t81 (fun k => f13 _ _ (by decide))
  have hR3 : q_R n g3 := R_scr hR_ (htisA g3 (fun p j a => f13 p j (by omega)) ⟨_, a3⟩ ⟨_, b3⟩ ⟨_, k3⟩ ⟨_, t79'⟩ ⟨_, t81'⟩) (fun p k a _ _ => f13 p k (by omega))
  have e2' : q_sem (d + 29) mX11_listLeast 0 [.ref 0, .ref 73, .int 1, .int 0, .retAddr 0] [] (q_K o g1) = some (none, q_K o g2) := by
    rw [B_X11_listLeast_0 q_tb73.1]; exact e2
  have e3' : q_sem (d + 29) mX11_listLeast 0 [.ref 0, .ref 75, .int 4, .int 1, .retAddr 0] [] (q_K o g2) = some (none, q_K o g3) := by
    rw [B_X11_listLeast_0 q_tb75.1]; exact e3
  have c2' : q_in x2 (-2) 5 = true := c2
  by_cases hx : x2 < nI R
  rotate_left
  · -- there is no such raid
    have hp : ∃ p, p ≤ 5 ∧ x2 = nI p := by
      rcases hx2.2 with h | h
      · refine absurd ?_ hx
        rw [Int32.lt_iff_toInt_lt] at h ⊢
        rw [nI_toInt (by omega)]
        have : (0 : Int32).toInt = 0 := by decide
        omega
      · exact h
    obtain ⟨p, hp5, rfl⟩ := hp
    have hRp : R ≤ p := by
      apply Nat.le_of_not_lt
      intro z
      exact hx (nI_lt z (by omega))
    have hRf := R_fin (k := 2) hR3 (by decide)
    obtain ⟨h2, K, em, fm, fm9, m60, _, _, _⟩ := mdl (q_fb g3 2) (repM_fb hm3)
    refine ⟨-1000002, q_fb g3 2, q_fm h2 2, ?_, ?_, ?_⟩
    · simp only [B_X11_sending_0, B_X11_sending_7, B_X11_sending_25, B_X11_sending_17, B_X11_sending_33, B_X11_sending_46, B_X11_sending_59, B_X11_sending_70, B_X11_sending_84, B_X11_sending_78, B_X11_sending_97, B_X11_sending_104, B_X11_sending_108, B_X11_sending_143, B_X11_sending_124, B_X11_sending_134, z_within, z_isCell, z_fin1, z_fin2, z_fin3, z_fin4, z_fin5, Option.bind_some, Option.toList_some, Option.toList_none, List.cons_append, List.nil_append, bI_t, bI_f, i10, i00, i11, i01, ↓reduceIte, Bool.false_eq_true, c1, c2', e1, e2', e3', s_size _ q_tb73, a3.2.2.1, hx]
    · simp only [B_X12_sending_0, B_X12_sending_7, B_X12_sending_17, y_in, y_isCell, y_fin1, y_fin2, y_fin3, y_fin4, y_fin5, Option.bind_some, Option.toList_some, Option.toList_none, List.cons_append, List.nil_append, bI_t, bI_f, i10, i00, i11, i01, ↓reduceIte, Bool.false_eq_true, c1, c2', em, B_X12_sending_32, nI_pos' (show p < 2 ^ 31 by omega), m60, nI_le hRp (show p < 2 ^ 31 by omega), B_X12_sending_76]
    · refine R_scr hRf (tis_fr hRf.2.2.2.2.2.2 (fun p k z => ?_)) (fun p k a b c => ?_)
      · unfold q_fm; rw [q_upN (by omega), q_upN (by omega), fm p k (by omega) (by omega)]
      · unfold q_fm
        by_cases q : p = 99
        · subst q
          by_cases q2 : k = 2
          · subst q2; rw [q_upE, q_upE, fm _ _ (by decide) (by decide)]
          · rw [q_upJ q2, q_upJ q2, fm _ _ (by decide) (by omega)]
        · rw [q_upN q, q_upN q]
          by_cases q3 : p = 149
          · exact fm9 p k q3
          · exact fm p k (by omega) (by omega)
  -- the class's search
  obtain ⟨g4, e4, m4, f4⟩ := z_mrO (o := o) (lim := nI lim) (U := U) (D := D) hk.1 ho (show R ≤ 9 by omega) (show C ≤ 9 by omega) hUs hDs (d + 24) R 0 g3 (.retAddr 0) (.retAddr 0) (Nat.zero_add _) hr3 a3 b3 k3 (fun i hi => by rw [f3 _ _ (by decide) (by decide)]; exact v2 i hi) v3 (fun y x hy hx => by rw [if_neg (Nat.not_lt_zero _), f3 _ _ (by decide) (by decide), f2 _ _ (by decide) (by decide)]; exact m1 y x (by omega) (by omega)) (Or.inl ⟨rfl, rfl⟩)
  have hr4 : repC 1 g4 S N := repC_fr hr3 (fun p k a b => f4 _ _ (by omega))
  have hm4 : repM g4 S N := m_fr hm3 (fun p a b j => f4 _ _ (by omega))
  have f14 : ∀ p j, ¬ (73 ≤ p ∧ p < 79) → g4 p j = g p j := fun p j a => (f4 p j (by omega)).trans (f13 p j a)
  have ehm := c_howMany (o := o) hr4 hk.1 ho (d + 26) (a := 4) (by decide) 1
  obtain ⟨g5, e5, hr5, f5⟩ := c_keptDown (o := o) hr4 hk.1 hk.2 ho (d + 25)
  have f5' : ∀ p j, ¬ (1 ≤ p ∧ p < 23) → g5 p j = g4 p j := fun p j a => f5 p j (by omega)
  have hm5 : repM g5 S N := m_fr hm4 (fun p a b j => f5' _ _ (by omega))
  obtain ⟨g6, e6, u81, u79, s7, s8, p80, f6⟩ := z_solve (o := o) (g := g5) (L := q_fo (q_hmB S 4 1) 0 (N 5) 0 - q_kpd S N) (R := R) (C := C) (cost := q_sco S (nI lim) U D) (fun r c w h => Nat.le_trans (sco_le ht et hl60 h) (by decide)) ⟨ti_fr a3 (fun k => by rw [q_upN (by decide), f5' _ _ (by decide), f4 _ _ (by decide)]), ti_fr b3 (fun k => by rw [q_upN (by decide), f5' _ _ (by decide), f4 _ _ (by decide)]), ti_fr k3 (fun k => by rw [q_upN (by decide), f5' _ _ (by decide), f4 _ _ (by decide)]), fun r c hr hc => by rw [q_upN (by decide), f5' _ _ (by decide)]; exact m4 r c hr hc, q_upE⟩ (ti_fr t81' (fun k => by rw [f5' _ _ (by decide), f4 _ _ (by decide)])) (ti_fr t79' (fun k => by rw [f5' _ _ (by decide), f4 _ _ (by decide)])) (d + 23)
  have hR4 : q_R n g4 := R_scr hR_ (htisA g4 (fun p j a => f14 p j (by omega)) ⟨_, ti_fr a3 (fun k => f4 _ _ (by decide))⟩ ⟨_, ti_fr b3 (fun k => f4 _ _ (by decide))⟩ ⟨_, ti_fr k3 (fun k => f4 _ _ (by decide))⟩ ⟨_, ti_fr t79' (fun k => f4 _ _ (by decide))⟩ ⟨_, ti_fr t81' (fun k => f4 _ _ (by decide))⟩) (fun p k a _ _ => f14 p k (by omega))
  have hR5 : q_R n g5 := R_mk hr5 hm5 hk hR4.2 (fun p k z => f5' p k (by unfold q_dep at z; omega))
  have htis6 : q_tis g6 := by
    intro q hq
    have h5 := hR5.2.2.2.2.2.2
    have hs : ∀ t M W, (t, M, W) ∈ q_scr → ¬ (79 ≤ t ∧ t < 84) → t ≠ 72 → ∃ r, q_ti g6 t M W r := fun t M W hq a b => by
      obtain ⟨r, hr⟩ := h5 (t, M, W) hq
      exact ⟨r, ti_fr hr (fun k => f6 _ _ a b)⟩
    simp only [q_scr, List.mem_cons, List.not_mem_nil, or_false] at hq
    rcases hq with rfl | rfl | rfl | rfl | rfl | rfl | rfl | rfl | rfl
    · exact hs 73 9 1 (by decide) (by decide) (by decide)
    · exact hs 75 9 1 (by decide) (by decide) (by decide)
    · exact hs 77 9 9 (by decide) (by decide) (by decide)
    · exact ⟨_, u79⟩
    · exact ⟨_, u81⟩
    · exact hs 85 10 1 (by decide) (by decide) (by decide)
    · exact hs 87 10 1 (by decide) (by decide) (by decide)
    · exact hs 89 11 7 (by decide) (by decide) (by decide)
    · exact hs 92 8 1 (by decide) (by decide) (by decide)
  have hR6' : q_R n g6 := R_scr hR5 htis6 (fun p k a _ _ => f6 p k (by omega) (by omega))
  have hm6 : repM g6 S N := m_fr hm5 (fun p a b j => f6 _ _ (by omega) (by omega))
  obtain ⟨h2, K, em, fm, fm9, m60, mk, mK, mb⟩ := mdl g6 hm6
  have hRh : q_R n h2 := R_scr hR6' (tis_fr htis6 (fun p k z => fm p k (by omega) (by omega))) (fun p k a b c => by
    by_cases q3 : p = 149
    · exact fm9 p k q3
    · exact fm p k (by omega) (by omega))
  obtain ⟨hS1, hS2, hS3⟩ := q_tS_eq (L := q_fo (q_hmB S 4 1) 0 (N 5) 0 - q_kpd S N) (C := C) (cost := q_sco S (nI lim) U D) (W := 1060) (fun r c w h => sco_le ht et hl60 h) R 0 0
  have hfin : ∃ m l, h2 98 62 = nI m ∧ h2 98 63 = nI l ∧ m = R - (q_tS (q_sco S (nI lim) U D) (q_fo (q_hmB S 4 1) 0 (N 5) 0 - q_kpd S N) C R 0 0).1 ∧ l = (q_tS (q_sco S (nI lim) U D) (q_fo (q_hmB S 4 1) 0 (N 5) 0 - q_kpd S N) C R 0 0).2 := by
    rcases mk with ⟨m, l, h62, h63, hm, hl, hKK⟩ | ⟨_, _, hKK⟩
    · exact ⟨m, l, h62, h63, by omega, by omega⟩
    · omega
  obtain ⟨m, l, h62, h63, em1, el1⟩ := hfin
  have e4' : q_sem (d + 29) mX11_matchRaids 0 [.ref 0, .int (nI lim), .retAddr 0, .retAddr 0, .retAddr 0] [] (q_K o g3) = some (none, q_K o g4) := by
    rw [B_X11_matchRaids_0]; exact e4
  have ehm' : q_sem (d + 29) mX10_howMany 0 [.ref 1, .int 4, .int 1, .retAddr 0, .retAddr 0] [] (q_K o g4) = some (some (.int (q_fo (q_hmB S 4 1) 0 (N 5) 0)), q_K o g4) := ehm
  have cls : ∀ A, q_sem (d + 30) mX11_sending 108 [.ref 0, .int (nI lim), .int x2] [] (q_K o g6) = A → q_sem (d + 30) mX11_sending 0 [.ref 0, .int (nI lim), .int x2] [] (q_K o g) = A := by
    intro A hA
    simp only [B_X11_sending_0, B_X11_sending_7, B_X11_sending_17, B_X11_sending_33, B_X11_sending_46, B_X11_sending_59, B_X11_sending_70, B_X11_sending_84, B_X11_sending_97, B_X11_sending_104, z_within, z_isCell, z_fin1, z_fin2, z_fin3, z_fin4, z_fin5, Option.bind_some, Option.toList_some, Option.toList_none, List.cons_append, List.nil_append, bI_t, bI_f, i10, i00, i11, i01, ↓reduceIte, Bool.false_eq_true, c1, c2', e1, e2', e3', s_size _ q_tb73, a3.2.2.1, hx, e4', ehm', e5, e6]
    exact hA
  have mdl2 : ∀ A, q_sem (d + 30) mX12_sending 32 [.ref 98, .int (nI lim), .int x2] [] (q_K o h2) = A → q_sem (d + 30) mX12_sending 0 [.ref 98, .int (nI lim), .int x2] [] (q_K o g6) = A := by
    intro A hA
    simp only [B_X12_sending_0, B_X12_sending_7, B_X12_sending_17, y_in, y_isCell, y_fin1, y_fin2, y_fin3, y_fin4, y_fin5, Option.bind_some, Option.toList_some, Option.toList_none, List.cons_append, List.nil_append, bI_t, bI_f, i10, i00, i11, i01, ↓reduceIte, Bool.false_eq_true, c1, c2', em]
    exact hA
  rcases hx2.2 with h | ⟨p, hp5, rfl⟩
  · have hno : ¬ (0 : Int32) ≤ x2 := fun z => by rw [Int32.lt_iff_toInt_lt] at h; rw [Int32.le_iff_toInt_le] at z; omega
    rcases q_neg2 hx2.1 h with rfl | rfl
    · refine ⟨nI m, g6, h2, cls _ ?_, mdl2 _ ?_, hRh⟩
      · rw [B_X11_sending_108, if_neg hno, if_pos rfl, B_X1_pairs_0, s8, ← em1]
        simp only [Option.bind_some, Option.toList_some, Option.toList_none, List.cons_append, List.nil_append, B_X11_sending_7, B_X11_sending_25, B_X11_sending_17, B_X11_sending_33, B_X11_sending_46, B_X11_sending_59, B_X11_sending_70, B_X11_sending_84, B_X11_sending_78, B_X11_sending_97, B_X11_sending_104, B_X11_sending_108, B_X11_sending_143, B_X11_sending_124, B_X11_sending_134]
      · rw [B_X12_sending_32, if_neg hno, if_pos rfl, h62]
    · refine ⟨nI l, g6, h2, cls _ ?_, mdl2 _ ?_, hRh⟩
      · rw [B_X11_sending_108, if_neg hno, if_neg (by decide), B_X1_sum_0, s7, ← el1]
        simp only [Option.bind_some, Option.toList_some, Option.toList_none, List.cons_append, List.nil_append, B_X11_sending_7, B_X11_sending_25, B_X11_sending_17, B_X11_sending_33, B_X11_sending_46, B_X11_sending_59, B_X11_sending_70, B_X11_sending_84, B_X11_sending_78, B_X11_sending_97, B_X11_sending_104, B_X11_sending_108, B_X11_sending_143, B_X11_sending_124, B_X11_sending_134]
      · rw [B_X12_sending_32, if_neg hno, if_neg (by decide), h63]
  · have hpR : p < R := (nI_ltI (by omega) (by omega)).mp hx
    have hpa := fun d => z_partner (o := o) (g := g6) (P := D) u79 (ti_fr b3 (fun k => by rw [f6 _ _ (by decide) (by decide), f5' _ _ (by decide), f4 _ _ (by decide)])) (fun i hi => by rw [f6 _ _ (by decide) (by decide), f5' _ _ (by decide), f4 _ _ (by decide)]; exact v3 i hi) hpR (p80 p hpR) d
    refine ⟨q_val C D (q_mP (q_sco S (nI lim) U D) (q_fo (q_hmB S 4 1) 0 (N 5) 0 - q_kpd S N) C R 0 0 p), g6, h2, cls _ ?_, mdl2 _ ?_, hRh⟩
    · rw [B_X11_sending_108, if_pos (nI_pos' (by omega)), hpa]
      simp only [Option.bind_some, Option.toList_some, Option.toList_none, List.cons_append, List.nil_append, B_X11_sending_7, B_X11_sending_25, B_X11_sending_17, B_X11_sending_33, B_X11_sending_46, B_X11_sending_59, B_X11_sending_70, B_X11_sending_84, B_X11_sending_78, B_X11_sending_97, B_X11_sending_104, B_X11_sending_108, B_X11_sending_143, B_X11_sending_124, B_X11_sending_134]
    · rw [B_X12_sending_32, if_pos (nI_pos' (by omega)), m60, if_neg (nI_ge hpR (by omega)), q_rgN (show p < 6 by omega) (by decide), mb p hpR]
