/-! the Model's towns, a minute of the Model, minutes, meeting -/
section MEN
variable {o : q_H} {g S : Nat → Nat → Int32} {N : Nat → Nat}
theorem m_allRaids (hm : repM g S N) (d : Nat) : q_sem (d + 1) mX12_allRaids 0 [.ref 98, .retAddr 0, .retAddr 0] [] (q_K o g) = some (some (.int (q_fo (q_mrB S) 0 (N 5) 0)), q_K o g) := by
  have hN := m_c5 hm
  have h : ∀ n m acc, m + n = N 5 → q_sem (d + 1) mX12_allRaids 4 [.ref 98, .int acc, .int (nI m)] [] (q_K o g) = some (some (.int (q_fo (q_mrB S) m n acc)), q_K o g) := by
    intro n
    induction n with
    | zero =>
      intro m acc hm0
      have c1 : nI (N 5) ≤ nI m := nI_le (by omega) (by omega)
      rw [B_X12_allRaids_4, m_n5 hm, if_pos c1]
      rfl
    | succ n ih =>
      intro m acc hm0
      have hm2 : m < N 5 := by omega
      have c1 : ¬ nI (N 5) ≤ nI m := nI_ge hm2 (by omega)
      have ih0 := fun acc => ih (m + 1) acc (by omega)
      rw [B_X12_allRaids_4, m_n5 hm, if_neg c1]
      simp only [m_isRaid hm hm2, Option.bind_some, Option.toList_some, Option.toList_none, List.cons_append, List.nil_append, B_X12_allRaids_20, nI_1, q_fo, ih0, q_rgN (show m < 16 by omega) (show 16 < 2 ^ 31 by decide), m_f19 hm hm2, bI_0]
      cases hb : q_raB S m
      · have : ¬ q_rai S m := of_decide_eq_false hb
        rw [if_pos rfl]
        unfold q_mrB
        rw [if_neg this]
      · have : q_rai S m := of_decide_eq_true hb
        rw [if_neg (by decide)]
        unfold q_mrB
        rw [if_pos this]
  rw [B_X12_allRaids_0]
  exact h (N 5) 0 0 (by omega)
theorem m_hits_l (hm : repM g S N) {t : Nat} (ht : t < N 4) (d : Nat) (x2 x3 : Int32) : ∀ n m acc, m + n = N 5 → q_sem (d + 1) mX12_sounds 108 [.ref 98, .int (nI t), .int x2, .int x3, .int 0, .int (nI m)] [] (q_K o (q_up g 113 t acc)) = some (none, q_K o (q_up g 113 t (q_fo (q_htB S (S 10 t)) m n acc))) := by
  have hN := m_c5 hm
  have hN4 := m_c4 hm
  intro n
  induction n with
  | zero =>
    intro m acc hm0
    have c1 : nI (N 5) ≤ nI m := nI_le (by omega) (by omega)
    rw [B_X12_sounds_108, q_upN (by decide), m_n5 hm, if_pos c1]
    rfl
  | succ n ih =>
    intro m acc hm0
    have hm2 : m < N 5 := by omega
    have c1 : ¬ nI (N 5) ≤ nI m := nI_ge hm2 (by omega)
    have ih0 := fun acc => ih (m + 1) acc (by omega)
    have er : ∀ d, q_sem d mX12_isRaid 0 [.ref 98, .int (nI m)] [] (q_K o (q_up g 113 t acc)) = some (some (.int (bI (q_raB S m))), q_K o (q_up g 113 t acc)) := fun d => by
      have h := m_isRaid (o := o) (m_u13 hm t acc) hm2 d
      rw [h]
      unfold q_raB q_rai
      simp only [q_upN (show 14 ≠ 13 by decide), q_upN (show 20 ≠ 13 by decide)]
    rw [B_X12_sounds_108, q_upN (show 100 ≠ 113 by decide), m_n5 hm, if_neg c1]
    simp only [↓reduceIte, q_rgN (show t < 6 by omega) (show 6 < 2 ^ 31 by decide), q_rgN (show m < 16 by omega) (show 16 < 2 ^ 31 by decide), er, Option.bind_some, Option.toList_some, Option.toList_none, List.cons_append, List.nil_append, B_X12_sounds_137, q_upE, q_uu, nI_1, q_fo, ih0, bI_0, q_upN (show 115 ≠ 113 by decide), q_upN (show 110 ≠ 113 by decide), q_upN (show 114 ≠ 113 by decide), q_upN (show 119 ≠ 113 by decide), m_f15 hm hm2, m_f10 hm ht, m_f14 hm hm2, m_f19 hm hm2]
    cases hb : q_raB S m
    · have h1 : ¬ (q_rai S m ∧ S 15 m = S 10 t) := fun z => (of_decide_eq_false hb) z.1
      rw [if_pos rfl]
      unfold q_htB
      rw [if_neg h1]
    · have h1 : q_rai S m := of_decide_eq_true hb
      have e : q_htB S (S 10 t) m acc = acc + (if S 15 m = S 10 t then (if S 14 m = 2 then 1 else S 19 m) else 0) := by
        unfold q_htB
        by_cases h2 : S 15 m = S 10 t
        · rw [if_pos ⟨h1, h2⟩, if_pos h2]
        · rw [if_neg (fun z => h2 z.2), if_neg h2]
      rw [if_neg (by decide), e]
      by_cases h2 : S 15 m = S 10 t
      · by_cases h3 : S 14 m = 2
        · simp only [h2, h3, ↓reduceIte]
        · simp only [h2, h3, ↓reduceIte]
      · simp only [h2, ↓reduceIte]
theorem m_sounds (hm : repM g S N) (hf : q_wf S N) (hv : q_rw S N) {t : Nat} (ht : t < N 4) (d : Nat) : ∃ g2, q_sem (d + 4) mX12_sounds 0 [.ref 98, .int (nI t), .retAddr 0, .retAddr 0, .retAddr 0, .retAddr 0] [] (q_K o g) = some (none, q_K o g2) ∧ repM g2 (q_snd S N t) N ∧ q_fM g g2 := by
  have hN4 := m_c4 hm
  have hN5 := m_c5 hm
  have hN6 := m_c6 hm
  have c5 : nI (N 5) ≤ nI (N 5) := nI_le (Nat.le_refl _) (by omega)
  -- the end, off
  have off : ∀ g x2 x3 d, repM g S N → ∃ g2, q_sem (d + 1) mX12_sounds 108 [.ref 98, .int (nI t), .int x2, .int x3, .int 0, .int 0] [] (q_K o (q_up (q_up g 111 t 0) 112 t (S 12 t + 0))) = some (none, q_K o g2) ∧ repM g2 (q_up (q_up S 11 t 0) 13 t (S 13 t + q_fo (q_htB S (S 10 t)) 0 (N 5) 0)) N ∧ q_fM g g2 := by
    intro g x2 x3 d hm
    have hm1 := m_u12 (m_u11 hm t 0) t (S 12 t + 0)
    rw [q_up_self (S := q_up S 11 t 0) (show q_up S 11 t 0 12 t = S 12 t + 0 by rw [q_upN (by decide), Int32.add_zero])] at hm1
    have h := m_hits_l (o := o) hm1 ht d x2 x3 (N 5) 0 (S 13 t) (by omega)
    have e13 : q_up (q_up (q_up g 111 t 0) 112 t (S 12 t + 0)) 113 t (S 13 t) = q_up (q_up g 111 t 0) 112 t (S 12 t + 0) := q_up_self (by rw [q_upN (by decide), q_upN (by decide)]; exact m_f13 hm ht)
    rw [e13, nI_0] at h
    refine ⟨_, h, ?_, fM_up (fM_up (fM_up fM_rf (by decide)) (by decide)) (by decide)⟩
    have e10 : q_up S 11 t 0 10 t = S 10 t := q_upN (by decide)
    have eb : q_htB (q_up S 11 t 0) (S 10 t) = q_htB S (S 10 t) := by
      funext k acc
      unfold q_htB q_rai
      simp only [q_upN (show 14 ≠ 11 by decide), q_upN (show 20 ≠ 11 by decide), q_upN (show 15 ≠ 11 by decide), q_upN (show 19 ≠ 11 by decide)]
    have eadd : ∀ n m a b, q_fo (q_htB S (S 10 t)) m n (a + b) = a + q_fo (q_htB S (S 10 t)) m n b := by
      intro n
      induction n with
      | zero => intro m a b; rfl
      | succ n ih =>
        intro m a b
        show q_fo _ (m + 1) n (q_htB S (S 10 t) m (a + b)) = a + q_fo _ (m + 1) n (q_htB S (S 10 t) m b)
        rw [← ih]
        congr 1
        unfold q_htB
        rw [Int32.add_assoc]
    have := m_u13 hm1 t (q_fo (q_htB (q_up S 11 t 0) (q_up S 11 t 0 10 t)) 0 (N 5) (S 13 t))
    rw [e10, eb] at this ⊢
    rw [show q_fo (q_htB S (S 10 t)) 0 (N 5) (S 13 t) = S 13 t + q_fo (q_htB S (S 10 t)) 0 (N 5) 0 by rw [← eadd, Int32.add_zero]] at this ⊢
    exact this
  have on : ∀ g x2 x3 d, repM g S N → q_sem (d + 1) mX12_sounds 108 [.ref 98, .int (nI t), .int x2, .int x3, .int 1, .int 0] [] (q_K o (q_up (q_up g 111 t 1) 112 t (S 12 t + 1))) = some (none, q_K o (q_up (q_up g 111 t 1) 112 t (S 12 t + 1))) := by
    intro g x2 x3 d hm
    rw [B_X12_sounds_108, q_upN (show 100 ≠ 112 by decide), q_upN (show 100 ≠ 111 by decide), m_n5 hm]
    simp only [i10, ↓reduceIte]
    split <;> rfl
  have onM : ∀ g, repM g S N → repM (q_up (q_up g 111 t 1) 112 t (S 12 t + 1)) (q_up (q_up S 11 t 1) 12 t (S 12 t + 1)) N := fun g hm => m_u12 (m_u11 hm t 1) t _
  have u12 : ∀ (g : Nat → Nat → Int32) (v : Int32), repM g S N → q_up g 111 t v 112 t = S 12 t := fun g v hm => by rw [q_upN (by decide)]; exact m_f12 hm ht
  unfold q_snd q_wl
  rcases q_if_cases S 0 (S 0 7) (N 6) with h | ⟨r, hrN, h⟩
  · rw [h, if_pos (show (-1 : Int32) < 0 by decide)]
    have e7 := hm.2.2.2.2.1
    by_cases h3 : q_near S N t < 3
    · have h3' : ¬ 3 ≤ q_near S N t := by rw [q_ltN]; exact h3
      rw [if_pos h3, if_neg (by decide)]
      refine ⟨_, ?_, onM g hm, fM_up (fM_up fM_rf (by decide)) (by decide)⟩
      simp only [B_X12_sounds_0, m_inForce hm, e7, h, Option.bind_some, Option.toList_some, Option.toList_none, List.cons_append, List.nil_append, B_X12_sounds_12, m_nearest hm hf ht, B_X12_sounds_18, (by decide : ¬ (0 : Int32) ≤ -1), ↓reduceIte, h3', q_rgN (show t < 6 by omega) (show 6 < 2 ^ 31 by decide), u12 g _ hm, on g _ _ _ hm]
    · have h3' : 3 ≤ q_near S N t := by rw [← q_leN]; exact h3
      rw [if_neg h3, if_pos rfl]
      obtain ⟨g2, e2, hm2, hf2⟩ := off g (-1) (q_near S N t) (d + 3) hm
      refine ⟨g2, ?_, hm2, hf2⟩
      simp only [B_X12_sounds_0, m_inForce hm, e7, h, Option.bind_some, Option.toList_some, Option.toList_none, List.cons_append, List.nil_append, B_X12_sounds_12, m_nearest hm hf ht, B_X12_sounds_18, (by decide : ¬ (0 : Int32) ≤ -1), ↓reduceIte, h3', q_rgN (show t < 6 by omega) (show 6 < 2 ^ 31 by decide), u12 g _ hm]
      exact e2
  · have c1 : 0 ≤ nI r := nI_pos' (by omega)
    have c2 : ¬ nI r < 0 := nI_pos (by omega)
    have e7 := hm.2.2.2.2.1
    have e9 := hm.2.2.2.2.2.1
    rw [h, if_neg c2, show q_cl2 (nI r) = r from nI_clamp (by omega)]
    obtain ⟨g1, e1, hf1⟩ := m_worth (o := o) hm hv (d + 2) hrN (q_near S N t) (q_fo (q_mrB S) 0 (N 5) 0) (S 0 9) (S 0 7)
    have hm1 : repM g1 S N := m_fr hm (fun p a b k => hf1 p k (by omega))
    have hfm1 : q_fM g g1 := fun p k z => hf1 p k (by omega)
    by_cases h3 : q_wo S r (q_near S N t) (q_fo (q_mrB S) 0 (N 5) 0) (S 0 9) (S 0 7) = 0
    · rw [if_pos h3, if_pos rfl]
      obtain ⟨g2, e2, hm2, hf2⟩ := off g1 (nI r) (q_near S N t) (d + 3) hm1
      refine ⟨g2, ?_, hm2, fM_tr hfm1 hf2⟩
      simp only [B_X12_sounds_0, m_inForce hm, e7, h, Option.bind_some, Option.toList_some, Option.toList_none, List.cons_append, List.nil_append, B_X12_sounds_12, m_nearest hm hf ht, B_X12_sounds_18, c1, ↓reduceIte, m_allRaids hm, B_X12_sounds_43, e9, e1, B_X12_sounds_60, h3, q_rgN (show t < 6 by omega) (show 6 < 2 ^ 31 by decide), u12 g1 _ hm1]
      exact e2
    · rw [if_neg h3, if_neg (by decide)]
      refine ⟨_, ?_, onM g1 hm1, fM_tr hfm1 (fM_up (fM_up fM_rf (by decide)) (by decide))⟩
      simp only [B_X12_sounds_0, m_inForce hm, e7, h, Option.bind_some, Option.toList_some, Option.toList_none, List.cons_append, List.nil_append, B_X12_sounds_12, m_nearest hm hf ht, B_X12_sounds_18, c1, ↓reduceIte, m_allRaids hm, B_X12_sounds_43, e9, e1, B_X12_sounds_60, h3, q_rgN (show t < 6 by omega) (show 6 < 2 ^ 31 by decide), u12 g1 _ hm1, on g1 _ _ _ hm1]
theorem m_min (hm : repM g S N) (v : Int32) : repM (q_up g 100 7 v) (q_up S 0 7 v) N := by
  refine ⟨?_, ?_, ?_, ?_, q_upE.trans q_upE.symm, ?_, ?_, fun i hi => by rw [q_upN (by decide)]; exact hm.2.2.2.2.2.2.2 i hi⟩
  · intro q hq
    have hs := q_mps_f q hq
    exact ⟨(hm.1 q hq).1, fun i hi => by rw [q_upN (by omega), q_upN (by omega)]; exact (hm.1 q hq).2 i hi⟩
  · intro i h1 h3
    rw [q_upN (by decide)] at h3
    rw [q_upN (by decide), q_upN (by decide)]
    exact hm.2.1 i h1 h3
  · intro r h1 i h3 h4
    rw [q_upN (by decide)] at h4
    rw [q_upN (by decide), q_upN (by decide), q_upN (by decide)]
    exact hm.2.2.1 r h1 i h3 h4
  · intro j hj
    have := q_nms_1 j hj
    rw [q_upJ (by omega)]
    exact hm.2.2.2.1 j hj
  · rw [q_upJ (by omega), q_upJ (by omega)]; exact hm.2.2.2.2.2.1
  · rw [q_upJ (by omega), q_upJ (by omega)]; exact hm.2.2.2.2.2.2.1
end MEN
section MPA
variable {o : q_H} {N : Nat → Nat}
theorem m_ends1 (ho : q_oR o) (d : Nat) : ∀ n m g S, m + n = N 5 → repM g S N → q_ok S N → N 3 ≤ 5 → ∃ g2, q_sem (d + 6) mX12_ends 13 [.ref 98, .int (nI m)] [] (q_K o g) = q_sem (d + 6) mX12_ends 53 [.ref 98, .int 0] [] (q_K o g2) ∧ repM g2 (q_fo q_p1F m n S) N ∧ q_fM g g2 := by
  intro n
  induction n with
  | zero =>
    intro m g S hm0 hm hk _
    have hN := m_c5 hm
    have c1 : nI (N 5) ≤ nI m := nI_le (by omega) (by omega)
    refine ⟨g, ?_, hm, fM_rf⟩
    rw [B_X12_ends_13, m_n5 hm, if_pos c1]
  | succ n ih =>
    intro m g S hm0 hm hk hN3
    have hN := m_c5 hm
    have hm2 : m < N 5 := by omega
    have c1 : ¬ nI (N 5) ≤ nI m := nI_ge hm2 (by omega)
    have hk1 := ok_p1 hk hm2
    have key : ∃ g1, q_sem (d + 6) mX12_ends 13 [.ref 98, .int (nI m)] [] (q_K o g) = q_sem (d + 6) mX12_ends 13 [.ref 98, .int (nI (m + 1))] [] (q_K o g1) ∧ repM g1 (q_p1F m S) N ∧ q_fM g g1 := by
      unfold q_p1F
      rw [B_X12_ends_13]
      simp only [m_n5 hm, c1, ↓reduceIte, q_rgN (show m < 16 by omega) (show 16 < 2 ^ 31 by decide), m_f20 hm hm2]
      by_cases h1 : S 20 m = 0
      · rw [if_pos h1]
        simp only [m_isFlight hm hm2, Option.bind_some, Option.toList_some, Option.toList_none, List.cons_append, List.nil_append, B_X12_ends_37, bI_0, decide_eq_false_iff_not]
        by_cases h2 : 3 < S 14 m
        · rw [if_neg (fun z => z h2), if_neg (fun z => z.2 h2)]
          exact ⟨g, by rw [nI_1], hm, fM_rf⟩
        · rw [if_pos h2, if_pos ⟨h1, h2⟩]
          obtain ⟨g1, e1, hm1, hf1⟩ := m_goes (o := o) hm hk.1 ho hm2 (d + 2)
          refine ⟨g1, ?_, hm1, hf1⟩
          rw [e1]
          simp only [Option.bind_some, Option.toList_some, Option.toList_none, List.cons_append, List.nil_append, B_X12_ends_45, nI_1]
      · rw [if_neg h1, if_neg (fun z => h1 z.1)]
        exact ⟨g, by rw [nI_1], hm, fM_rf⟩
    obtain ⟨g1, e1, hm1, hf1⟩ := key
    obtain ⟨g2, e2, hm3, hf2⟩ := ih (m + 1) g1 (q_p1F m S) (by omega) hm1 hk1 hN3
    exact ⟨g2, e1.trans e2, hm3, fM_tr hf1 hf2⟩
theorem m_ends2 (ho : q_oR o) (d : Nat) : ∀ n m g S, m + n = N 5 → repM g S N → q_ok S N → N 3 ≤ 5 → ∃ g2, q_sem (d + 6) mX12_ends 53 [.ref 98, .int (nI m)] [] (q_K o g) = q_sem (d + 6) mX12_ends 93 [.ref 98, .int 0] [] (q_K o g2) ∧ repM g2 (q_fo q_p2F m n S) N ∧ q_fM g g2 := by
  intro n
  induction n with
  | zero =>
    intro m g S hm0 hm hk _
    have hN := m_c5 hm
    have c1 : nI (N 5) ≤ nI m := nI_le (by omega) (by omega)
    refine ⟨g, ?_, hm, fM_rf⟩
    rw [B_X12_ends_53, m_n5 hm, if_pos c1]
  | succ n ih =>
    intro m g S hm0 hm hk hN3
    have hN := m_c5 hm
    have hm2 : m < N 5 := by omega
    have c1 : ¬ nI (N 5) ≤ nI m := nI_ge hm2 (by omega)
    have hk1 := ok_p2 hk hm2 hN hN3
    have key : ∃ g1, q_sem (d + 6) mX12_ends 53 [.ref 98, .int (nI m)] [] (q_K o g) = q_sem (d + 6) mX12_ends 53 [.ref 98, .int (nI (m + 1))] [] (q_K o g1) ∧ repM g1 (q_p2F m S) N ∧ q_fM g g1 := by
      unfold q_p2F
      rw [B_X12_ends_53]
      simp only [m_n5 hm, c1, ↓reduceIte, q_rgN (show m < 16 by omega) (show 16 < 2 ^ 31 by decide), m_f20 hm hm2]
      by_cases h1 : S 20 m = 0
      · rw [if_pos h1]
        simp only [m_isFlight hm hm2, Option.bind_some, Option.toList_some, Option.toList_none, List.cons_append, List.nil_append, B_X12_ends_77, bI_0, decide_eq_false_iff_not]
        by_cases h2 : 3 < S 14 m
        · rw [if_neg (fun z => z h2), if_pos ⟨h1, h2⟩]
          obtain ⟨g1, e1, hm1, hf1⟩ := m_flies (o := o) hm hk hm2 h2 (d + 1)
          refine ⟨g1, ?_, hm1, hf1⟩
          rw [e1]
          simp only [Option.bind_some, Option.toList_some, Option.toList_none, List.cons_append, List.nil_append, B_X12_ends_85, nI_1]
        · rw [if_pos h2, if_neg (fun z => h2 z.2)]
          exact ⟨g, by rw [nI_1], hm, fM_rf⟩
      · rw [if_neg h1, if_neg (fun z => h1 z.1)]
        exact ⟨g, by rw [nI_1], hm, fM_rf⟩
    obtain ⟨g1, e1, hm1, hf1⟩ := key
    obtain ⟨g2, e2, hm3, hf2⟩ := ih (m + 1) g1 (q_p2F m S) (by omega) hm1 hk1 hN3
    exact ⟨g2, e1.trans e2, hm3, fM_tr hf1 hf2⟩
theorem m_ends3 (d : Nat) : ∀ n m g S, m + n = N 4 → repM g S N → q_ok S N → ∃ g2, q_sem (d + 6) mX12_ends 93 [.ref 98, .int (nI m)] [] (q_K o g) = some (none, q_K o g2) ∧ repM g2 (q_fo (q_p3F N) m n S) N ∧ q_fM g g2 := by
  intro n
  induction n with
  | zero =>
    intro m g S hm0 hm hk
    have hN := m_c4 hm
    have c1 : nI (N 4) ≤ nI m := nI_le (by omega) (by omega)
    refine ⟨g, ?_, hm, fM_rf⟩
    rw [B_X12_ends_93, m_n4 hm, if_pos c1]
  | succ n ih =>
    intro m g S hm0 hm hk
    have hN := m_c4 hm
    have hm2 : m < N 4 := by omega
    have c1 : ¬ nI (N 4) ≤ nI m := nI_ge hm2 (by omega)
    obtain ⟨g1, e1, hm1, hf1⟩ := m_sounds (o := o) hm hk.1 hk.2 hm2 (d + 1)
    obtain ⟨g2, e2, hm3, hf2⟩ := ih (m + 1) g1 (q_p3F N m S) (by omega) hm1 (ok_snd hk)
    refine ⟨g2, ?_, hm3, fM_tr hf1 hf2⟩
    rw [B_X12_ends_93, m_n4 hm, if_neg c1, e1]
    simp only [Option.bind_some, Option.toList_some, Option.toList_none, List.cons_append, List.nil_append, B_X12_ends_108, nI_1]
    exact e2
theorem q_ok_fo1 {N : Nat → Nat} : ∀ n m S, m + n = N 5 → q_ok S N → q_ok (q_fo q_p1F m n S) N := by
  intro n
  induction n with
  | zero => intro m S _ hk; exact hk
  | succ n ih => intro m S h hk; exact ih (m + 1) _ (by omega) (ok_p1 hk (by omega))
theorem q_ok_fo2 {N : Nat → Nat} (hN : N 5 ≤ 16) (hN3 : N 3 ≤ 5) : ∀ n m S, m + n = N 5 → q_ok S N → q_ok (q_fo q_p2F m n S) N := by
  intro n
  induction n with
  | zero => intro m S _ hk; exact hk
  | succ n ih => intro m S h hk; exact ih (m + 1) _ (by omega) (ok_p2 hk (by omega) hN hN3)
theorem ok_snds {N : Nat → Nat} : ∀ n m S, q_ok S N → q_ok (q_fo (q_p3F N) m n S) N := by
  intro n
  induction n with
  | zero => intro m S hk; exact hk
  | succ n ih => intro m S hk; exact ih (m + 1) _ (ok_snd hk)
theorem ok_pass {N : Nat → Nat} {S : Nat → Nat → Int32} (hk : q_ok S N) (hn : ∃ n, n < 1000 ∧ S 0 7 = nI n) (hN5 : N 5 ≤ 16) (hN3 : N 3 ≤ 5) : q_ok (q_pass S N) N :=
  ok_snds _ _ _ (q_ok_fo2 hN5 hN3 _ _ _ (by omega) (q_ok_fo1 _ _ _ (by omega) (ok_min hk hn)))
theorem m_ends {g S : Nat → Nat → Int32} (hm : repM g S N) (hk : q_ok S N) (ho : q_oR o) (hn : ∃ n, n < 1000 ∧ S 0 7 = nI n) (d : Nat) : ∃ g2, q_sem (d + 6) mX12_ends 0 [.ref 98, .retAddr 0] [] (q_K o g) = some (none, q_K o g2) ∧ repM g2 (q_pass S N) N ∧ q_fM g g2 := by
  have hN3 := m_c3 hm
  have hN5 := m_c5 hm
  have e7 := hm.2.2.2.2.1
  have k0 := ok_min hk hn
  obtain ⟨g1, e1, hm1, hf1⟩ := m_ends1 (o := o) ho d (N 5) 0 _ _ (by omega) (m_min hm (S 0 7 + 1)) k0 hN3
  have k1 := q_ok_fo1 (N 5) 0 _ (by omega) k0
  obtain ⟨g2, e2, hm2, hf2⟩ := m_ends2 (o := o) ho d (N 5) 0 _ _ (by omega) hm1 k1 hN3
  have k2 := q_ok_fo2 hN5 hN3 (N 5) 0 _ (by omega) k1
  obtain ⟨g3, e3, hm3, hf3⟩ := m_ends3 (o := o) d (N 4) 0 _ _ (by omega) hm2 k2
  refine ⟨g3, ?_, hm3, fM_tr (fM_tr (fM_tr (fM_up fM_rf (by decide)) hf1) hf2) hf3⟩
  rw [B_X12_ends_0, e7]
  exact e1.trans (e2.trans e3)
end MPA
theorem pass_min (S : Nat → Nat → Int32) (N : Nat → Nat) : q_pass S N 0 7 = S 0 7 + 1 := by
  have h1 : ∀ i S, q_p1F i S 0 7 = S 0 7 := by
    intro i S
    unfold q_p1F q_goS
    repeat' split
    all_goals first | rfl | exact q_upN (by decide)
  have hl : ∀ i S, q_lnd S i 0 7 = S 0 7 := by
    intro i S
    unfold q_lnd
    split
    · rw [q_upN (by decide), q_upN (by decide)]
    · rfl
  have hs : ∀ S i a ah, q_stp2 S i a ah 0 7 = S 0 7 := by
    intro S i a ah
    unfold q_stp2
    rw [q_upN (by decide), q_upN (by decide)]
  have hm : ∀ S i j, q_met S i j 0 7 = S 0 7 := by
    intro S i j
    unfold q_met q_met2 q_met1
    repeat' split
    all_goals simp only [q_upN (by decide : 0 ≠ 23), q_upN (by decide : 0 ≠ 20), q_upN (by decide : 0 ≠ 19), q_upN (by decide : 0 ≠ 22)]
  have h2 : ∀ i S, q_p2F i S 0 7 = S 0 7 := by
    intro i S
    unfold q_p2F q_fly
    repeat' split
    all_goals simp only [hl, hm, hs, q_upN (by decide : 0 ≠ 21), q_upN (by decide : 0 ≠ 20), q_upN (by decide : 0 ≠ 23)]
  have h3 : ∀ i S, q_p3F N i S 0 7 = S 0 7 := by
    intro i S
    unfold q_p3F q_snd
    split
    · rw [q_upN (by decide), q_upN (by decide)]
    · rw [q_upN (by decide), q_upN (by decide)]
  have fo : ∀ (f : Nat → (Nat → Nat → Int32) → (Nat → Nat → Int32)), (∀ i S, f i S 0 7 = S 0 7) → ∀ n m S, q_fo f m n S 0 7 = S 0 7 := by
    intro f hf n
    induction n with
    | zero => intro m S; rfl
    | succ n ih => intro m S; exact (ih (m + 1) _).trans (hf m S)
  unfold q_pass
  rw [fo _ h3, fo _ h2, fo _ h1, q_upE]
/-- n minutes -/
def q_psn (N : Nat → Nat) : Nat → (Nat → Nat → Int32) → (Nat → Nat → Int32)
  | 0, S => S
  | n + 1, S => q_psn N n (q_pass S N)
theorem law_minutes {o : q_H} {n : Nat} {g : Nat → Nat → Int32} (hR : q_R n g) (ho : q_oR o) (d : Nat) (x1 : Int32) : ∃ v g1 g2, q_sem (d + 30) mX11_minutes 0 [.ref 0, .int x1, .retAddr 0] [] (q_K o g) = some (some (.int v), q_K o g1) ∧ q_sem (d + 30) mX12_minutes 0 [.ref 98, .int x1, .retAddr 0] [] (q_K o g1) = some (some (.int v), q_K o g2) ∧ q_R n g2 := by
  obtain ⟨⟨S, N, hr, hm, hk⟩, ha⟩ := id hR
  cases c1 : q_in x1 1 200
  · exact ⟨-1000001, q_fb g 1, q_fm (q_fb g 1) 1, by simp only [B_X11_minutes_0, B_X11_minutes_8, B_X11_minutes_31, B_X11_minutes_46, z_within, z_isCell, z_fin1, z_fin2, z_fin3, z_fin4, z_fin5, Option.bind_some, Option.toList_some, Option.toList_none, List.cons_append, List.nil_append, bI_t, bI_f, i10, i00, i11, i01, ↓reduceIte, Bool.false_eq_true, c1], (by have hm := repM_fb (k := 1) hm; simp only [B_X12_minutes_0, B_X12_minutes_8, B_X12_minutes_32, B_X12_minutes_44, y_in, y_isCell, y_fin1, y_fin2, y_fin3, y_fin4, y_fin5, Option.bind_some, Option.toList_some, Option.toList_none, List.cons_append, List.nil_append, bI_t, bI_f, i10, i00, i11, i01, ↓reduceIte, Bool.false_eq_true, c1]), R_fin hR (by decide)⟩
  obtain ⟨k, hk1, hk200, rfl⟩ := q_in_t (a := 1) (b := 200) c1 (by decide) (by decide)
  obtain ⟨t, ht, et⟩ := hk.1.2.2.2.2.2.2
  have e8 : g 1 8 = nI t := hr.2.2.2.1.trans et
  have e7 : g 100 7 = nI t := hm.2.2.2.2.1.trans et
  by_cases c2 : t + k ≤ 1000
  rotate_left
  · have c3 : ¬ nI (t + k) ≤ 1000 := (by decide : (1000 : Int32) = nI 1000) ▸ nI_ge (by omega) (by omega)
    have e7b : q_fb g 1 100 7 = nI t := (q_fb_ne (by decide)).trans e7
    exact ⟨-1000001, q_fb g 1, q_fm (q_fb g 1) 1, by simp only [B_X11_minutes_0, B_X11_minutes_8, B_X11_minutes_31, B_X11_minutes_46, z_within, z_isCell, z_fin1, z_fin2, z_fin3, z_fin4, z_fin5, Option.bind_some, Option.toList_some, Option.toList_none, List.cons_append, List.nil_append, bI_t, bI_f, i10, i00, i11, i01, ↓reduceIte, Bool.false_eq_true, e8, nI_add, c1, c3], (by have hm := repM_fb (k := 1) hm; simp only [B_X12_minutes_0, B_X12_minutes_8, B_X12_minutes_32, B_X12_minutes_44, y_in, y_isCell, y_fin1, y_fin2, y_fin3, y_fin4, y_fin5, Option.bind_some, Option.toList_some, Option.toList_none, List.cons_append, List.nil_append, bI_t, bI_f, i10, i00, i11, i01, ↓reduceIte, Bool.false_eq_true, e7b, nI_add, c1, c3]), R_fin hR (by decide)⟩
  have c3 : nI (t + k) ≤ 1000 := (by decide : (1000 : Int32) = nI 1000) ▸ nI_le c2 (by decide)
  have zl : ∀ j i g S t, i + j = k → t + j ≤ 1000 → S 0 7 = nI t → repC 1 g S N → q_ok S N → ∃ g1, q_sem (d + 30) mX11_minutes 34 [.ref 0, .int (nI k), .int (nI i)] [] (q_K o g) = some (some (.int (nI (t + j))), q_K o g1) ∧ repC 1 g1 (q_psn N j S) N ∧ q_ok (q_psn N j S) N ∧ q_fr 1 g g1 := by
    intro j
    induction j with
    | zero =>
      intro i g S t hi ht et hr hk
      have c4 : nI k ≤ nI i := nI_le (by omega) (by omega)
      refine ⟨g, ?_, hr, hk, q_fr_rf⟩
      rw [B_X11_minutes_34, if_pos c4, hr.2.2.2.1, et]
      rfl
    | succ j ih =>
      intro i g S t hi ht et hr hk
      have c4 : ¬ nI k ≤ nI i := nI_ge (by omega) (by omega)
      obtain ⟨g1, e1, hr1, hk1, hf1⟩ := c_pass (o := o) hr hk ho ⟨t, by omega, et⟩ (d + 23)
      obtain ⟨g2, e2, hr2, hk2, hf2⟩ := ih (i + 1) g1 (q_pass S N) (t + 1) (by omega) (by omega) (by rw [pass_min, et, nI_1]) hr1 hk1
      refine ⟨g2, ?_, hr2, hk2, q_fr_tr hf1 hf2⟩
      rw [B_X11_minutes_34, if_neg c4, e1]
      simp only [Option.bind_some, Option.toList_some, Option.toList_none, List.cons_append, List.nil_append, B_X11_minutes_46, nI_1]
      rw [e2, show t + 1 + j = t + (j + 1) by omega]
  have ml : ∀ j i g S t, i + j = k → t + j ≤ 1000 → S 0 7 = nI t → repM g S N → q_ok S N → ∃ g1, q_sem (d + 30) mX12_minutes 35 [.ref 98, .int (nI k), .int (nI i)] [] (q_K o g) = some (some (.int (nI (t + j))), q_K o g1) ∧ repM g1 (q_psn N j S) N ∧ q_fM g g1 := by
    intro j
    induction j with
    | zero =>
      intro i g S t hi ht et hm hk
      have c4 : nI k ≤ nI i := nI_le (by omega) (by omega)
      refine ⟨g, ?_, hm, fM_rf⟩
      rw [B_X12_minutes_35, if_pos c4, hm.2.2.2.2.1, et]
      rfl
    | succ j ih =>
      intro i g S t hi ht et hm hk
      have c4 : ¬ nI k ≤ nI i := nI_ge (by omega) (by omega)
      obtain ⟨g1, e1, hm1, hf1⟩ := m_ends (o := o) hm hk ho ⟨t, by omega, et⟩ (d + 23)
      have hk1 : q_ok (q_pass S N) N := ok_pass hk ⟨t, by omega, et⟩ (m_c5 hm) (m_c3 hm)
      obtain ⟨g2, e2, hm2, hf2⟩ := ih (i + 1) g1 (q_pass S N) (t + 1) (by omega) (by omega) (by rw [pass_min, et, nI_1]) hm1 hk1
      refine ⟨g2, ?_, hm2, fM_tr hf1 hf2⟩
      rw [B_X12_minutes_35, if_neg c4, e1]
      simp only [Option.bind_some, Option.toList_some, Option.toList_none, List.cons_append, List.nil_append, B_X12_minutes_44, nI_1]
      rw [e2, show t + 1 + j = t + (j + 1) by omega]
  obtain ⟨g1, e1, hr1, hkk, hf1⟩ := zl k 0 g S t (by omega) c2 et hr hk
  have hm1 := repM_fr1 hm hf1
  obtain ⟨g2, e2, hm2, hf2⟩ := ml k 0 g1 S t (by omega) c2 et hm1 hk
  rw [nI_0] at e1 e2
  refine ⟨nI (t + k), g1, g2, ?_, ?_, R_st ha hr1 hf1 hm2 hf2 hkk⟩
  · simp only [B_X11_minutes_0, B_X11_minutes_8, z_within, z_isCell, z_fin1, z_fin2, z_fin3, z_fin4, z_fin5, Option.bind_some, Option.toList_some, Option.toList_none, List.cons_append, List.nil_append, bI_t, bI_f, i10, i00, i11, i01, ↓reduceIte, Bool.false_eq_true, c1, e8, nI_add, c3]
    exact e1
  · have e7b : g1 100 7 = nI t := hm1.2.2.2.2.1.trans et
    simp only [B_X12_minutes_0, B_X12_minutes_8, y_in, y_isCell, y_fin1, y_fin2, y_fin3, y_fin4, y_fin5, Option.bind_some, Option.toList_some, Option.toList_none, List.cons_append, List.nil_append, bI_t, bI_f, i10, i00, i11, i01, ↓reduceIte, Bool.false_eq_true, c1, e7b, nI_add, c3]
    exact e2
