section FSD
variable {o : q_H} {S : Nat → Nat → Int32} {N : Nat → Nat}
/-- the Model's lists so far -/
def q_fsl (g S : Nat → Nat → Int32) (N : Nat → Nat) (i : Nat) : Prop := g 98 60 = nI (min 6 (q_cnt (q_fu S) i)) ∧ g 98 59 = nI (min 6 (q_cnt (q_fd S) i)) ∧ (∀ j, j < min 6 (q_cnt (q_fu S) i) → g 143 j = nI (q_pos (q_fu S) (N 5) j)) ∧ ∀ j, j < min 6 (q_cnt (q_fd S) i) → g 142 j = nI (q_pos (q_fd S) (N 5) j)
theorem m_fsA (x1 : Int32) (d : Nat) : ∀ t i (g : Nat → Nat → Int32), i + t = N 5 → repM g S N → q_fsl g S N i → ∃ g2, q_sem (d + 1) mX12_findSending 12 [.ref 98, .int x1, .int (nI i), .retAddr 0] [] (q_K o g) = q_sem (d + 1) mX12_findSending 114 [.ref 98, .int x1, .int 0, .retAddr 0] [] (q_K o g2) ∧ q_fsl g2 S N (N 5) ∧ ∀ p j, p ≠ 142 → p ≠ 143 → ¬ (p = 98 ∧ (j = 59 ∨ j = 60)) → g2 p j = g p j := by
  intro t
  induction t with
  | zero =>
    intro i g hi hm hl
    obtain rfl : i = N 5 := by omega
    have e5 : g 100 5 = nI (N 5) := hm.2.2.2.1 5 (by decide)
    have hN := m_c5 hm
    refine ⟨g, ?_, hl, fun _ _ _ _ _ => rfl⟩
    rw [B_X12_findSending_12, e5, if_pos (nI_le (Nat.le_refl _) (by omega))]
  | succ t ih =>
    intro i g hi hm hl
    have hN := m_c5 hm
    have e5 : g 100 5 = nI (N 5) := hm.2.2.2.1 5 (by decide)
    have c1 : ¬ nI (N 5) ≤ nI i := nI_ge (by omega) (by omega)
    have cu := cnt_s (q_fu S) i
    have cd := cnt_s (q_fd S) i
    -- after the raid, the flight
    have fl : ∀ h : Nat → Nat → Int32, repM h S N → h 98 60 = nI (min 6 (q_cnt (q_fu S) (i + 1))) → h 98 59 = nI (min 6 (q_cnt (q_fd S) i)) → (∀ j, j < min 6 (q_cnt (q_fu S) (i + 1)) → h 143 j = nI (q_pos (q_fu S) (N 5) j)) → (∀ j, j < min 6 (q_cnt (q_fd S) i) → h 142 j = nI (q_pos (q_fd S) (N 5) j)) → (∀ p j, p ≠ 142 → p ≠ 143 → ¬ (p = 98 ∧ (j = 59 ∨ j = 60)) → h p j = g p j) → ∃ g2, (q_sem d mX12_isFlight 0 [.ref 98, .int (nI i)] [] (q_K o h)).bind (fun r => q_sem (d + 1) mX12_findSending 64 [.ref 98, .int x1, .int (nI i), .retAddr 0] (r.1.toList ++ []) r.2) = q_sem (d + 1) mX12_findSending 114 [.ref 98, .int x1, .int 0, .retAddr 0] [] (q_K o g2) ∧ q_fsl g2 S N (N 5) ∧ ∀ p j, p ≠ 142 → p ≠ 143 → ¬ (p = 98 ∧ (j = 59 ∨ j = 60)) → g2 p j = g p j := by
      intro h hm h60 h59 hu hd hf
      have next : ∀ h2 : Nat → Nat → Int32, repM h2 S N → q_fsl h2 S N (i + 1) → (∀ p j, p ≠ 142 → p ≠ 143 → ¬ (p = 98 ∧ (j = 59 ∨ j = 60)) → h2 p j = g p j) → ∃ g2, q_sem (d + 1) mX12_findSending 12 [.ref 98, .int x1, .int (nI (i + 1)), .retAddr 0] [] (q_K o h2) = q_sem (d + 1) mX12_findSending 114 [.ref 98, .int x1, .int 0, .retAddr 0] [] (q_K o g2) ∧ q_fsl g2 S N (N 5) ∧ ∀ p j, p ≠ 142 → p ≠ 143 → ¬ (p = 98 ∧ (j = 59 ∨ j = 60)) → g2 p j = g p j := by
        intro h2 hm2 hl2 hf2
        obtain ⟨g2, e2, l2, f2⟩ := ih (i + 1) h2 (by omega) hm2 hl2
        exact ⟨g2, e2, l2, fun p j a b c => (f2 p j a b c).trans (hf2 p j a b c)⟩
      rw [m_isFlight hm (by omega)]
      simp only [Option.bind_some, Option.toList_some, Option.toList_none, List.cons_append, List.nil_append]
      rw [B_X12_findSending_64, nI_1, q_rgN (show i < 16 by omega) (by decide), m_f20 hm (by omega), h59]
      have no : q_fd S i = false → ∃ g2, q_sem (d + 1) mX12_findSending 12 [.ref 98, .int x1, .int (nI (i + 1)), .retAddr 0] [] (q_K o h) = q_sem (d + 1) mX12_findSending 114 [.ref 98, .int x1, .int 0, .retAddr 0] [] (q_K o g2) ∧ q_fsl g2 S N (N 5) ∧ ∀ p j, p ≠ 142 → p ≠ 143 → ¬ (p = 98 ∧ (j = 59 ∨ j = 60)) → g2 p j = g p j := fun e => by
        rw [e, if_neg (by decide), Nat.add_zero] at cd
        exact next h hm ⟨h60, by rw [cd]; exact h59, hu, by rw [cd]; exact hd⟩ hf
      by_cases p1 : 3 < S 14 i
      rotate_left
      · rw [decide_eq_false p1, bI_f, if_pos rfl]
        exact no (by unfold q_fd; rw [decide_eq_false p1]; rfl)
      rw [decide_eq_true p1, bI_t, if_neg (by decide)]
      by_cases p2 : S 20 i = 1
      rotate_left
      · rw [if_neg p2]
        exact no (by unfold q_fd; rw [decide_eq_false p2, Bool.and_false])
      rw [if_pos p2]
      have e : q_fd S i = true := by unfold q_fd; rw [decide_eq_true p1, decide_eq_true p2]; rfl
      rw [e, if_pos rfl] at cd
      by_cases c6 : 6 ≤ q_cnt (q_fd S) i
      · have m1 : min 6 (q_cnt (q_fd S) i) = 6 := Nat.min_eq_left c6
        have m2 : min 6 (q_cnt (q_fd S) (i + 1)) = 6 := Nat.min_eq_left (by omega)
        rw [m1] at h59 hd ⊢
        rw [if_pos (by decide)]
        exact next h hm ⟨h60, by rw [m2]; exact h59, hu, by rw [m2]; exact hd⟩ hf
      · have m1 : min 6 (q_cnt (q_fd S) i) = q_cnt (q_fd S) i := Nat.min_eq_right (by omega)
        have m2 : min 6 (q_cnt (q_fd S) (i + 1)) = q_cnt (q_fd S) i + 1 := by rw [cd]; exact Nat.min_eq_right (by omega)
        have hpo := pos_of (f := q_fd S) (n := N 5) (q := i) (by omega) e
        rw [m1] at h59 hd ⊢
        rw [if_neg (show ¬ (6 : Int32) ≤ nI (q_cnt (q_fd S) i) from nI_ge (b := 6) (by omega) (by omega)), q_rgN (show q_cnt (q_fd S) i < 6 by omega) (by decide), q_upN (show 98 ≠ 142 by decide), h59, nI_1]
        have fu : ∀ p j, p ≠ 142 → ¬ (p = 98 ∧ j = 59) → q_up (q_up h 142 (q_cnt (q_fd S) i) (nI i)) 98 59 (nI (q_cnt (q_fd S) i + 1)) p j = h p j := fun p j a b => by rw [q_up_ne (by omega), q_upN a]
        refine next _ (m_fr hm (fun p a b j => fu _ _ (by omega) (by omega))) ⟨(fu _ _ (by decide) (by decide)).trans h60, by rw [q_upE, m2], fun j hj => (fu _ _ (by decide) (by omega)).trans (hu j hj), fun j hj => ?_⟩ (fun p j a b c => (fu p j a (by omega)).trans (hf p j a b c))
        rw [m2] at hj
        rw [q_upN (by decide)]
        by_cases q : j = q_cnt (q_fd S) i
        · rw [q, q_upE, hpo]
        · rw [q_upJ q]; exact hd j (by omega)
    rw [B_X12_findSending_12, e5, if_neg c1, m_isRaid hm (by omega)]
    simp only [Option.bind_some, Option.toList_some, Option.toList_none, List.cons_append, List.nil_append]
    rw [B_X12_findSending_27, hl.1]
    cases e : q_raB S i
    · have e' : q_fu S i = false := e
      rw [e', if_neg (by decide), Nat.add_zero] at cu
      rw [bI_f, if_pos rfl]
      exact fl g hm (by rw [cu]; exact hl.1) hl.2.1 (by rw [cu]; exact hl.2.2.1) hl.2.2.2 (fun _ _ _ _ _ => rfl)
    · have e' : q_fu S i = true := e
      rw [e', if_pos rfl] at cu
      rw [bI_t, if_neg (by decide)]
      by_cases c6 : 6 ≤ q_cnt (q_fu S) i
      · have m1 : min 6 (q_cnt (q_fu S) i) = 6 := Nat.min_eq_left c6
        have m2 : min 6 (q_cnt (q_fu S) (i + 1)) = 6 := Nat.min_eq_left (by omega)
        rw [m1, if_pos (by decide)]
        exact fl g hm (by rw [m2, ← m1]; exact hl.1) hl.2.1 (by rw [m2, ← m1]; exact hl.2.2.1) hl.2.2.2 (fun _ _ _ _ _ => rfl)
      · have m1 : min 6 (q_cnt (q_fu S) i) = q_cnt (q_fu S) i := Nat.min_eq_right (by omega)
        have m2 : min 6 (q_cnt (q_fu S) (i + 1)) = q_cnt (q_fu S) i + 1 := by rw [cu]; exact Nat.min_eq_right (by omega)
        have hpo := pos_of (f := q_fu S) (n := N 5) (q := i) (by omega) e'
        have h60 := hl.1
        rw [m1] at h60 ⊢
        rw [if_neg (show ¬ (6 : Int32) ≤ nI (q_cnt (q_fu S) i) from nI_ge (b := 6) (by omega) (by omega)), q_rgN (show q_cnt (q_fu S) i < 6 by omega) (by decide), q_upN (show 98 ≠ 143 by decide), h60, nI_1]
        have fu : ∀ p j, p ≠ 143 → ¬ (p = 98 ∧ j = 60) → q_up (q_up g 143 (q_cnt (q_fu S) i) (nI i)) 98 60 (nI (q_cnt (q_fu S) i + 1)) p j = g p j := fun p j a b => by rw [q_up_ne (by omega), q_upN a]
        refine fl _ (m_fr hm (fun p a b j => fu _ _ (by omega) (by omega))) (by rw [q_upE, m2]) ((fu _ _ (by decide) (by decide)).trans hl.2.1) (fun j hj => ?_) (fun j hj => (fu _ _ (by decide) (by omega)).trans (hl.2.2.2 j hj)) (fun p j a b c => fu p j b (by omega))
        rw [m2] at hj
        rw [q_upN (by decide)]
        by_cases q : j = q_cnt (q_fu S) i
        · rw [q, q_upE, hpo]
        · rw [q_upJ q]; exact hl.2.2.1 j (by omega)
/-- the minutes of the meetings -/
theorem m_fsI (hf : q_wf S N) (ho : q_oR o) {R C r : Nat} {U D : Nat → Nat} (hR : R ≤ 6) (hC : C ≤ 6) (hr : r < R) (hU : ∀ i, i < R → U i < N 5) (hD : ∀ i, i < C → D i < N 5 ∧ 3 < S 14 (D i)) (x1 : Int32) (d : Nat) : ∀ t c (g : Nat → Nat → Int32), c + t = C → repM g S N → g 98 59 = nI C → (∀ i, i < R → g 143 i = nI (U i)) → (∀ i, i < C → g 142 i = nI (D i)) → (∀ x, x < c → g 146 (6 * r + x) = q_mtm S (q_mm S (D x) (U r))) → ∃ g2, q_sem (d + 5) mX12_findSending 124 [.ref 98, .int x1, .int (nI r), .int (nI c)] [] (q_K o g) = q_sem (d + 5) mX12_findSending 114 [.ref 98, .int x1, .int (nI (r + 1)), .int (nI C)] [] (q_K o g2) ∧ (∀ x, x < C → g2 146 (6 * r + x) = q_mtm S (q_mm S (D x) (U r))) ∧ ∀ p j, ¬ (p = 146 ∧ 6 * r ≤ j ∧ j < 6 * r + 6) → g2 p j = g p j := by
  intro t
  induction t with
  | zero =>
    intro c g hc hm h59 hu hd hv
    obtain rfl : c = C := by omega
    refine ⟨g, ?_, hv, fun _ _ _ => rfl⟩
    rw [B_X12_findSending_124, h59, if_pos (nI_le (Nat.le_refl _) (by omega)), nI_1]
  | succ t ih =>
    intro c g hc hm h59 hu hd hv
    obtain ⟨hDc, hDk⟩ := hD c (by omega)
    have hN := m_c5 hm
    obtain ⟨_, ⟨f1, hf1, ef⟩, ⟨r1, hr1, er⟩, _⟩ := (hf.2.2.2.2.2.1 _ hDc).2.2.2.2 hDk
    have e36 : (6 : Int32) * nI r + nI c = nI (6 * r + c) := by rw [show (6 : Int32) = nI 6 from rfl, pk_mul, nI_add]
    have hme := m_meets (o := o) hm hf ho hDc (hU r hr) ef hf1 er hr1 d
    obtain ⟨g2, e2, v2, f2⟩ := ih (c + 1) (q_up g 146 (6 * r + c) (q_mtm S (q_mm S (D c) (U r)))) (by omega) (m_fr hm (fun p a b j => q_upN (by omega))) ((q_upN (by decide)).trans h59) (fun i hi => (q_upN (by decide)).trans (hu i hi)) (fun i hi => (q_upN (by decide)).trans (hd i hi)) (fun x hx => by
      by_cases q : x = c
      · rw [q, q_upE]
      · rw [q_upJ (by omega)]; exact hv x (by omega))
    refine ⟨g2, ?_, v2, fun p j a => by rw [f2 p j a, q_up_ne (by omega)]⟩
    rw [B_X12_findSending_124, h59, if_neg (nI_ge (by omega) (by omega)), q_rgN (show c < 6 by omega) (by decide), q_rgN (show r < 6 by omega) (by decide), hd c (by omega), hu r hr, hme]
    simp only [Option.bind_some, Option.toList_some, Option.toList_none, List.cons_append, List.nil_append]
    rw [e36, B_X12_findSending_158, q_rgN (show 6 * r + c < 36 by omega) (by decide), nI_1]
    exact e2
theorem m_fsO (hf : q_wf S N) (ho : q_oR o) {R C : Nat} {U D : Nat → Nat} (hR : R ≤ 6) (hC : C ≤ 6) (hU : ∀ i, i < R → U i < N 5) (hD : ∀ i, i < C → D i < N 5 ∧ 3 < S 14 (D i)) (x1 : Int32) (d : Nat) : ∀ t r (g : Nat → Nat → Int32) (v3 : Value), r + t = R → repM g S N → g 98 59 = nI C → g 98 60 = nI R → (∀ i, i < R → g 143 i = nI (U i)) → (∀ i, i < C → g 142 i = nI (D i)) → (∀ y x, y < r → x < C → g 146 (6 * y + x) = q_mtm S (q_mm S (D x) (U y))) → (v3 = .retAddr 0 ∨ ∃ z, v3 = .int z) → ∃ g2 w3, (w3 = .retAddr 0 ∨ ∃ z, w3 = Value.int z) ∧ q_sem (d + 5) mX12_findSending 114 [.ref 98, .int x1, .int (nI r), v3] [] (q_K o g) = q_sem (d + 5) mX12_findSending 183 [.ref 98, .int x1, .int (nI R), w3] [.int (q_if S 2 (S 0 7) (N 6))] (q_K o g2) ∧ (∀ y x, y < R → x < C → g2 146 (6 * y + x) = q_mtm S (q_mm S (D x) (U y))) ∧ ∀ p j, p ≠ 146 → g2 p j = g p j := by
  intro t
  induction t with
  | zero =>
    intro r g v3 hr hm h59 h60 hu hd hv hx
    obtain rfl : r = R := by omega
    have c1 : nI r ≤ nI r := nI_le (Nat.le_refl _) (by omega)
    have e7 : g 100 7 = S 0 7 := hm.2.2.2.2.1
    refine ⟨g, v3, hx, ?_, hv, fun _ _ _ => rfl⟩
    rcases hx with rfl | ⟨z, rfl⟩
    · rw [B_X12_findSending_114, h60, if_pos c1, e7, m_inForce hm]
      simp only [Option.bind_some, Option.toList_some, Option.toList_none, List.cons_append, List.nil_append]
    · rw [B_X12_findSending_114a, h60, if_pos c1, e7, m_inForce hm]
      simp only [Option.bind_some, Option.toList_some, Option.toList_none, List.cons_append, List.nil_append]
  | succ t ih =>
    intro r g v3 hr hm h59 h60 hu hd hv hx
    have c1 : ¬ nI R ≤ nI r := nI_ge (by omega) (by omega)
    obtain ⟨g1, e1, v1, f1⟩ := m_fsI (o := o) (U := U) (D := D) hf ho hR hC (show r < R by omega) hU hD x1 d C 0 g (by omega) hm h59 hu hd (fun x hx => by omega)
    have f1' : ∀ p j, p ≠ 146 → g1 p j = g p j := fun p j a => f1 p j (by omega)
    obtain ⟨g2, w3, hw, e2, v2, f2⟩ := ih (r + 1) g1 (.int (nI C)) (by omega) (m_fr hm (fun p a b j => f1' _ _ (by omega))) ((f1' _ _ (by decide)).trans h59) ((f1' _ _ (by decide)).trans h60) (fun i hi => (f1' _ _ (by decide)).trans (hu i hi)) (fun i hi => (f1' _ _ (by decide)).trans (hd i hi)) (fun y x hy hx => by
      by_cases q : y = r
      · rw [q]; exact v1 x hx
      · rw [f1 _ _ (by omega)]; exact hv y x (by omega) hx) (Or.inr ⟨_, rfl⟩)
    have e1' : q_sem (d + 5) mX12_findSending 124 [.ref 98, .int x1, .int (nI r), .int 0] [] (q_K o g) = _ := e1
    refine ⟨g2, w3, hw, ?_, v2, fun p j a => (f2 p j a).trans (f1' p j a)⟩
    rcases hx with rfl | ⟨z, rfl⟩
    · rw [B_X12_findSending_114, h60, if_neg c1]
      exact e1'.trans e2
    · rw [B_X12_findSending_114a, h60, if_neg c1]
      exact e1'.trans e2
theorem kd2_eq (v : Int32) : (if 16 < (if v < 0 then 0 else v) then 16 else (if v < 0 then 0 else v)) = q_kd2 v := by
  unfold q_kd2
  have h0 : (0 : Int32).toInt = 0 := by decide
  have h16 : (16 : Int32).toInt = 16 := by decide
  by_cases c1 : v < 0
  · have : ¬ (16 : Int32) < v := fun z => by rw [Int32.lt_iff_toInt_lt] at c1 z; omega
    have c2 : ¬ (0 : Int32) < v := fun z => by rw [Int32.lt_iff_toInt_lt] at c1 z; omega
    rw [if_pos c1, if_neg this, if_neg c2, if_neg (by decide)]
  · rw [if_neg c1]
    by_cases c2 : (16 : Int32) < v
    · rw [if_pos c2, if_pos (by decide)]
    · rw [if_neg c2]
      by_cases c3 : (0 : Int32) < v
      · rw [if_pos c3]
      · rw [if_neg c3]
        apply Int32.toInt_inj.mp
        rw [Int32.lt_iff_toInt_lt] at c1 c3
        omega
/-- what is kept down, then the search -/
theorem m_fsK (hf : q_wf S N) (hv : q_rw S N) (x1 x2 : Int32) (d : Nat) (g : Nat → Nat → Int32) (hm : repM g S N) (v3 : Value) (hx : v3 = .retAddr 0 ∨ ∃ z, v3 = .int z) : ∃ g2 a b, q_sem (d + 5) mX12_findSending 183 [.ref 98, .int x1, .int x2, v3] [.int (q_if S 2 (S 0 7) (N 6))] (q_K o g) = (q_sem (d + 4) mX12_sends 0 [.ref 98, .int 0, .int 0, .int 0, .int 0, .retAddr 0, .retAddr 0] [] (q_K o (q_up (q_up (q_up (q_up g2 98 61 (q_fo (q_hmB S 4 1) 0 (N 5) 0 - q_kpd S N)) 98 62 (-1)) 98 63 0) 98 64 (S 0 7 + x1)))).bind (fun r => q_sem (d + 5) mX12_findSending 261 [.ref 98, .int x1, .int a, .int b] (r.1.toList ++ []) r.2) ∧ repM g2 S N ∧ ∀ p j, p ≠ 141 → g2 p j = g p j := by
  have i1 : ∀ h, repM h S N → ∀ d, q_sem (d + 1) mX12_inState 0 [.ref 98, .int 1, .retAddr 0, .retAddr 0] [] (q_K o h) = some (some (.int (q_fo (q_hmB S 4 1) 0 (N 5) 0)), q_K o h) := fun h hh d => m_inState hh hf d (Or.inr ⟨rfl, rfl⟩)
  have i0 : ∀ h, repM h S N → ∀ d, q_sem (d + 1) mX12_inState 0 [.ref 98, .int 0, .retAddr 0, .retAddr 0] [] (q_K o h) = some (some (.int (q_fo (q_hmB S 4 0) 0 (N 5) 0)), q_K o h) := fun h hh d => m_inState hh hf d (Or.inl ⟨rfl, rfl⟩)
  have e8 : ∀ (h : Nat → Nat → Int32) (a b c : Int32), repM h S N → q_up (q_up (q_up h 98 61 a) 98 62 b) 98 63 c 100 7 = S 0 7 := fun h a b c hh => by rw [q_upN (by decide), q_upN (by decide), q_upN (by decide)]; exact hh.2.2.2.2.1
  rcases q_if_cases S 2 (S 0 7) (N 6) with h | ⟨r, hr, h⟩
  · have hk : q_kpd S N = 0 := by unfold q_kpd; rw [h, if_pos (by decide)]
    rw [h, hk]
    refine ⟨g, -1, 0, ?_, hm, fun _ _ _ => rfl⟩
    rcases hx with rfl | ⟨z, rfl⟩
    · rw [B_X12_findSending_183, if_neg (by decide), i1 g hm]
      simp only [Option.bind_some, Option.toList_some, Option.toList_none, List.cons_append, List.nil_append]
      rw [B_X12_findSending_225, e8 g _ _ _ hm]
    · rw [B_X12_findSending_183a, if_neg (by decide), i1 g hm]
      simp only [Option.bind_some, Option.toList_some, Option.toList_none, List.cons_append, List.nil_append]
      rw [B_X12_findSending_225, e8 g _ _ _ hm]
  · have hN6 : N 6 ≤ 12 := m_c6 hm
    obtain ⟨g2, e2, f2⟩ := m_worth (o := o) hm hv (d + 3) hr (q_fo (q_hmB S 4 1) 0 (N 5) 0) (q_fo (q_hmB S 4 0) 0 (N 5) 0) 0 0
    have hm2 : repM g2 S N := m_fr hm (fun p a b j => f2 _ _ (by omega))
    have hk : q_kpd S N = q_kd2 (q_wo S r (q_fo (q_hmB S 4 1) 0 (N 5) 0) (q_fo (q_hmB S 4 0) 0 (N 5) 0) 0 0) := by
      unfold q_kpd; rw [h, if_neg (nI_pos (by omega)), show q_cl2 (nI r) = r from nI_clamp (by omega)]
    rw [h]
    have hkd := kd2_eq (q_wo S r (q_fo (q_hmB S 4 1) 0 (N 5) 0) (q_fo (q_hmB S 4 0) 0 (N 5) 0) 0 0)
    rw [← hk] at hkd
    refine ⟨g2, nI r, q_kpd S N, ?_, hm2, f2⟩
    rcases hx with rfl | ⟨z, rfl⟩
    · rw [B_X12_findSending_183, if_pos (nI_pos' (by omega)), i1 g hm]
      simp only [Option.bind_some, Option.toList_some, Option.toList_none, List.cons_append, List.nil_append, B_X12_findSending_202, i0 g hm, B_X12_findSending_207, e2, B_X12_findSending_212, n_greater, B_X12_findSending_215, n_lesser, hkd, B_X12_findSending_218, i1 g2 hm2, B_X12_findSending_225, e8 g2 _ _ _ hm2]
    · rw [B_X12_findSending_183a, if_pos (nI_pos' (by omega)), i1 g hm]
      simp only [Option.bind_some, Option.toList_some, Option.toList_none, List.cons_append, List.nil_append, B_X12_findSending_202a, i0 g hm, B_X12_findSending_207a, e2, B_X12_findSending_212a, n_greater, B_X12_findSending_215a, n_lesser, hkd, B_X12_findSending_218a, i1 g2 hm2, B_X12_findSending_225, e8 g2 _ _ _ hm2]
end FSD
