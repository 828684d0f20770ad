section MCF
variable {o : q_H} {g : Nat → Nat → Int32} {s n : Nat} {M : Nat → Int32} {nd : Nat → Nat}
/-- the Model's dead ends -/
def q_dd (g : Nat → Nat → Int32) (n : Nat) (nd : Nat → Nat) : Prop := ∀ d one two, d < n → one < 64 → two < 64 → g 148 (4096 * d + 64 * one + two) = 0 ∨ (g 148 (4096 * d + 64 * one + two) = 1 ∧ q_feas nd (n - d) d one two = false)
def q_nm (g : Nat → Nat → Int32) (s n : Nat) (nd : Nat → Nat) : Prop := s < 4 ∧ n ≤ 10 ∧ g 136 s = nI n ∧ ∀ i, i < n → g 137 (24 * s + i) = nI (nd i)
theorem nm_fr {g2 : Nat → Nat → Int32} (h : q_nm g s n nd) (hg : ∀ p j, p ≠ 147 → p ≠ 148 → g2 p j = g p j) : q_nm g2 s n nd := ⟨h.1, h.2.1, (hg _ _ (by decide) (by decide)).trans h.2.2.1, fun i hi => (hg _ _ (by decide) (by decide)).trans (h.2.2.2 i hi)⟩
theorem m_canFly (hnd : ∀ i, nd i ≤ 6) (d : Nat) : ∀ k d0 one two (g : Nat → Nat → Int32), d0 + k = n → one < 64 → two < 64 → q_nm g s n nd → q_dd g n nd → ∃ g2, q_sem (d + k + 2) mX12_canFly 0 [.ref 98, .int (nI s), .int (nI d0), .int (nI one), .int (nI two), .retAddr 0, .retAddr 0] [] (q_K o g) = some (some (.int (bI (q_feas nd k d0 one two))), q_K o g2) ∧ q_dd g2 n nd ∧ (∀ p j, p ≠ 147 → p ≠ 148 → g2 p j = g p j) ∧ (∀ j, j < d0 → g2 147 j = g 147 j) ∧ (q_feas nd k d0 one two = true → ∀ j, d0 ≤ j → j < n → g2 147 j = nI (q_pth nd k d0 one two j)) := by
  intro k
  induction k with
  | zero =>
    intro d0 one two g hk h1 h2 hm hd
    obtain rfl : d0 = n := by omega
    refine ⟨g, ?_, hd, fun _ _ _ _ => rfl, fun _ _ => rfl, fun _ j a b => by omega⟩
    rw [B_X12_canFly_0, q_rgN hm.1 (by decide), hm.2.2.1, if_pos rfl]
    rfl
  | succ k ih =>
    intro d0 one two g hk h1 h2 hm hd
    have hs := hm.1
    have hn := hm.2.1
    have c1 : ¬ nI d0 = nI n := fun z => by have := (nI_eq (by omega) (by omega)).mp z; omega
    have ix : (4096 : Int32) * nI d0 + 64 * nI one + nI two = nI (4096 * d0 + 64 * one + two) := by
      rw [show (4096 : Int32) = nI 4096 from rfl, show (64 : Int32) = nI 64 from rfl, pk_mul, pk_mul, nI_add, nI_add]
    have ixl : 4096 * d0 + 64 * one + two < 40960 := by omega
    rw [B_X12_canFly_0, q_rgN hs (by decide), hm.2.2.1, if_neg c1, ix, q_rgN ixl (by decide)]
    rcases hd d0 one two (by omega) h1 h2 with e0 | ⟨e0, f0⟩
    rotate_left
    · refine ⟨g, ?_, hd, fun _ _ _ _ => rfl, fun _ _ => rfl, fun z => ?_⟩
      · rw [e0, if_neg (by decide), show k + 1 = n - d0 by omega, f0]; rfl
      · rw [show k + 1 = n - d0 by omega, f0] at z; exact absurd z (by decide)
    rw [if_pos e0]
    have loop : ∀ t i (g : Nat → Nat → Int32), i + t = 64 → q_fst (q_gd nd k d0 one two) 64 0 = q_fst (q_gd nd k d0 one two) t i → q_nm g s n nd → q_dd g n nd → ∃ g2, q_sem (d + (k + 1) + 2) mX12_canFly 42 [.ref 98, .int (nI s), .int (nI d0), .int (nI one), .int (nI two), .int (nI (4096 * d0 + 64 * one + two)), .int (nI i)] [] (q_K o g) = some (some (.int (bI (q_feas nd (k + 1) d0 one two))), q_K o g2) ∧ q_dd g2 n nd ∧ (∀ p j, p ≠ 147 → p ≠ 148 → g2 p j = g p j) ∧ (∀ j, j < d0 → g2 147 j = g 147 j) ∧ (q_feas nd (k + 1) d0 one two = true → ∀ j, d0 ≤ j → j < n → g2 147 j = nI (q_pth nd (k + 1) d0 one two j)) := by
      intro t
      induction t with
      | zero =>
        intro i g hi hf hm hd
        obtain rfl : i = 64 := by omega
        have hno : q_feas nd (k + 1) d0 one two = false := by
          rw [q_feas_s, hf]; rfl
        refine ⟨q_up g 148 (4096 * d0 + 64 * one + two) 1, ?_, ?_, fun p j a b => q_upN b, fun j hj => q_upN (by decide), fun z => by rw [hno] at z; exact absurd z (by decide)⟩
        · rw [B_X12_canFly_42, if_pos (by decide), q_rgN ixl (by decide), hno]; rfl
        · intro d1 o1 t1 a b c
          by_cases q : d1 = d0 ∧ o1 = one ∧ t1 = two
          · obtain ⟨rfl, rfl, rfl⟩ := q
            right
            rw [q_upE]
            exact ⟨rfl, by rw [show n - d1 = k + 1 by omega]; exact hno⟩
          · rw [q_upJ (by omega)]; exact hd d1 o1 t1 a b c
      | succ t iht =>
        intro i g hi hf hm hd
        have c2 : ¬ (64 : Int32) ≤ nI i := nI_ge (b := 64) (by omega) (by omega)
        have hndd := hnd d0
        have e24 : (24 : Int32) * nI s + nI d0 = nI (24 * s + d0) := by rw [show (24 : Int32) = nI 24 from rfl, pk_mul, nI_add]
        have hpi := f_pcle i (by omega)
        have hio : i &&& one < 64 := and_lt64 (by omega)
        have hiot : i &&& one &&& two < 64 := and_lt64 hio
        rw [B_X12_canFly_42, if_neg c2, m_ones _ (show i < 256 by omega), f_pc i (by omega)]
        simp only [Option.bind_some, Option.toList_some, Option.toList_none, List.cons_append, List.nil_append]
        rw [B_X12_canFly_54, e24, q_rgN (show 24 * s + d0 < 96 by omega) (by decide), hm.2.2.2 d0 (by omega), nI_and (by omega) (by omega), nI_and (by omega) (by omega), nI_1, nI_1]
        have next : q_gd nd k d0 one two i = false → ∀ g1 : Nat → Nat → Int32, q_nm g1 s n nd → q_dd g1 n nd → (∀ p j, p ≠ 147 → p ≠ 148 → g1 p j = g p j) → (∀ j, j < d0 → g1 147 j = g 147 j) → ∃ g2, q_sem (d + (k + 1) + 2) mX12_canFly 42 [.ref 98, .int (nI s), .int (nI d0), .int (nI one), .int (nI two), .int (nI (4096 * d0 + 64 * one + two)), .int (nI (i + 1))] [] (q_K o g1) = some (some (.int (bI (q_feas nd (k + 1) d0 one two))), q_K o g2) ∧ q_dd g2 n nd ∧ (∀ p j, p ≠ 147 → p ≠ 148 → g2 p j = g p j) ∧ (∀ j, j < d0 → g2 147 j = g 147 j) ∧ (q_feas nd (k + 1) d0 one two = true → ∀ j, d0 ≤ j → j < n → g2 147 j = nI (q_pth nd (k + 1) d0 one two j)) := by
          intro hno g1 hm1 hd1 f1 b1
          obtain ⟨g2, e2, d2, f2, b2, k2⟩ := iht (i + 1) g1 (by omega) (by rw [hf, q_fst_s, hno]; rfl) hm1 hd1
          exact ⟨g2, e2, d2, fun p j a b => (f2 p j a b).trans (f1 p j a b), fun j hj => (b2 j hj).trans (b1 j hj), k2⟩
        by_cases e1 : q_pcn i = nd d0
        · rw [if_pos (by rw [e1])]
          by_cases e2 : i &&& one &&& two = 0
          · rw [if_pos (by rw [e2]; rfl), q_rgN (show d0 < 10 by omega) (by decide)]
            have hup : ∀ p j, p ≠ 147 → p ≠ 148 → q_up g 147 d0 (nI i) p j = g p j := fun p j a b => q_upN a
            obtain ⟨g1, e3, d1, f1, b1, k1⟩ := ih (d0 + 1) two i (q_up g 147 d0 (nI i)) (by omega) h2 (by omega) (nm_fr hm hup) (fun x y z a b c => by rw [q_upN (by decide)]; exact hd x y z a b c)
            have hm1 := nm_fr (nm_fr hm hup) f1
            have ex := show q_sem (d + (k + 1) + 1) mX12_canFly 0 [.ref 98, .int (nI s), .int (nI (d0 + 1)), .int (nI two), .int (nI i), .retAddr 0, .retAddr 0] [] (q_K o (q_up g 147 d0 (nI i))) = _ from e3
            rw [ex]
            simp only [Option.bind_some, Option.toList_some, Option.toList_none, List.cons_append, List.nil_append, B_X12_canFly_98, nI_1]
            have hgd : q_gd nd k d0 one two i = q_feas nd k (d0 + 1) two i := by
              unfold q_gd; rw [decide_eq_true e1, decide_eq_true e2]; rfl
            cases e4 : q_feas nd k (d0 + 1) two i
            · rw [bI_f, if_pos rfl]
              exact next (by rw [hgd, e4]) g1 hm1 d1 (fun p j a b => (f1 p j a b).trans (hup p j a b)) (fun j hj => (b1 j (by omega)).trans (q_upJ (by omega)))
            · rw [bI_t, if_neg (by decide)]
              have hft : q_fst (q_gd nd k d0 one two) 64 0 = i := by rw [hf, q_fst_s, hgd, e4]; rfl
              have hyes : q_feas nd (k + 1) d0 one two = true := by
                rw [q_feas_s, hft]; exact decide_eq_true (by omega)
              refine ⟨g1, by rw [hyes]; rfl, d1, fun p j a b => (f1 p j a b).trans (hup p j a b), fun j hj => (b1 j (by omega)).trans (q_upJ (by omega)), fun _ j a b => ?_⟩
              rw [q_pth_s, hft]
              by_cases q : j = d0
              · rw [if_pos q, q, b1 d0 (by omega), q_upE]
              · rw [if_neg q]; exact k1 e4 j (by omega) b
          · rw [if_neg (nI_ne0 (by omega) (by omega))]
            exact next (by unfold q_gd; rw [decide_eq_false e2]; simp) g hm hd (fun _ _ _ _ => rfl) (fun _ _ => rfl)
        · rw [if_neg (fun z => e1 ((nI_eq (by omega) (by omega)).mp z))]
          exact next (by unfold q_gd; rw [decide_eq_false e1]; rfl) g hm hd (fun _ _ _ _ => rfl) (fun _ _ => rfl)
    exact loop 64 0 g (by omega) rfl hm hd
theorem m_good (hM : q_sM g s n M) (d : Nat) (x2 : Int32) : ∀ k i, i + k = n → (∀ b : Bool, q_sem (d + 2) mX12_pilots 46 [.ref 98, .int (nI s), .int x2, .int (bI b), .int (nI i)] [] (q_K o g) = q_sem (d + 2) mX12_pilots 46 [.ref 98, .int (nI s), .int x2, .int (bI (b && decide (∀ j, j < n → i ≤ j → q_in (M j) 0 6 = true))), .int (nI n)] [] (q_K o g)) := by
  obtain ⟨hs, hn, en, hv⟩ := hM
  intro k
  induction k with
  | zero =>
    intro i hi b
    obtain rfl : i = n := by omega
    rw [decide_eq_true (fun j a b => by omega), Bool.and_true]
  | succ k ih =>
    intro i hi b
    have c1 : ¬ nI n ≤ nI i := nI_ge (by omega) (by omega)
    have e24 : (24 : Int32) * nI s + nI i = nI (24 * s + i) := by rw [show (24 : Int32) = nI 24 from rfl, pk_mul, nI_add]
    have hiff : q_in (M i) 0 6 = true → ((∀ c, c < n → i ≤ c → q_in (M c) 0 6 = true) ↔ (∀ c, c < n → i + 1 ≤ c → q_in (M c) 0 6 = true)) := fun e => ⟨fun z m a b => z m a (by omega), fun z m a b => by
      by_cases q : m = i
      · rw [q]; exact e
      · exact z m a (by omega)⟩
    rw [B_X12_pilots_46, q_rgN hs (by decide), en, if_neg c1, e24, q_rgN (show 24 * s + i < 96 by omega) (by decide), hv i (by omega)]
    cases b
    · rw [if_pos (show bI false = 0 from rfl), nI_1]
      have := ih (i + 1) (by omega) false
      rw [Bool.false_and] at this ⊢
      exact this
    · rw [if_neg (show ¬ bI true = 0 by decide)]
      simp only [y_in, Option.bind_some, Option.toList_some, Option.toList_none, List.cons_append, List.nil_append, B_X12_pilots_79, nI_1]
      cases e : q_in (M i) 0 6
      · rw [bI_f, if_pos rfl]
        have bad : ¬ (∀ j, j < n → i ≤ j → q_in (M j) 0 6 = true) := fun z => by
          have := z i (by omega) (Nat.le_refl _)
          rw [e] at this; exact absurd this (by decide)
        rw [decide_eq_false bad]
        have := ih (i + 1) (by omega) false
        rw [Bool.false_and] at this
        exact this
      · rw [bI_t, if_neg (by decide), decide_eq_decide.mpr (hiff e)]
        exact ih (i + 1) (by omega) true
theorem m_dead (d : Nat) (x1 x2 x3 : Int32) : ∀ k i (g : Nat → Nat → Int32), i + k = 40960 → ∃ g2, q_sem (d + 1) mX12_pilots 131 [.ref 98, .int x1, .int x2, .int x3, .int (nI i)] [] (q_K o g) = q_sem (d + 1) mX12_pilots 131 [.ref 98, .int x1, .int x2, .int x3, .int (nI 40960)] [] (q_K o g2) ∧ (∀ j, i ≤ j → j < 40960 → g2 148 j = 0) ∧ ∀ p j, ¬ (p = 148 ∧ i ≤ j) → g2 p j = g p j := by
  intro k
  induction k with
  | zero =>
    intro i g hi
    obtain rfl : i = 40960 := by omega
    exact ⟨g, rfl, fun j a b => by omega, fun _ _ _ => rfl⟩
  | succ k ih =>
    intro i g hi
    have c1 : ¬ (40960 : Int32) ≤ nI i := nI_ge (b := 40960) (by omega) (by decide)
    obtain ⟨g2, e2, h2, f2⟩ := ih (i + 1) (q_up g 148 i 0) (by omega)
    refine ⟨g2, ?_, fun j a b => ?_, fun p j a => ?_⟩
    · rw [B_X12_pilots_131, if_neg c1, q_rgN (show i < 40960 by omega) (by decide), nI_1]; exact e2
    · by_cases q : j = i
      · rw [q, f2 _ _ (by omega), q_upE]
      · exact h2 j (by omega) b
    · rw [f2 _ _ (by omega), q_up_ne (by omega)]
end MCF
theorem law_pilots {o : q_H} {n : Nat} {g : Nat → Nat → Int32} (hR : q_R n g) (ho : q_oR o) (d : Nat) (x1 : Int32) (x2 : Int32) : ∃ v g1 g2, q_sem (d + 30) mX11_pilots 0 [.ref 0, .int x1, .int x2, .retAddr 0] [] (q_K o g) = some (some (.int v), q_K o g1) ∧ q_sem (d + 30) mX12_pilots 0 [.ref 98, .int x1, .int x2, .retAddr 0, .retAddr 0] [] (q_K o g1) = some (some (.int v), q_K o g2) ∧ q_R n g2 := by
  obtain ⟨⟨S, N, hr, hm, hk⟩, ha⟩ := id hR
  have hs0 := ha.2.1
  cases c1 : q_hs x1 4
  · exact ⟨-1000001, q_fb g 1, q_fm (q_fb g 1) 1, by simp only [B_X11_pilots_0, B_X11_pilots_8, B_X11_pilots_31, B_X11_pilots_18, B_X11_pilots_39, B_X11_pilots_50, B_X11_pilots_55, B_X11_pilots_63, B_X11_pilots_71, B_X11_pilots_90, B_X11_pilots_82, z_within, z_isCell, z_fin1, z_fin2, z_fin3, z_fin4, z_fin5, Option.bind_some, Option.toList_some, Option.toList_none, List.cons_append, List.nil_append, bI_t, bI_f, i10, i00, i11, i01, ↓reduceIte, Bool.false_eq_true, x_wantN hs0.1 c1, (by decide : ¬ (1 : Int32) = 0), c1], (by have hm := repM_fb (k := 1) hm; simp only [B_X12_pilots_0, B_X12_pilots_4, B_X12_pilots_13, B_X12_pilots_29, B_X12_pilots_42, B_X12_pilots_104, B_X12_pilots_118, B_X12_pilots_79, B_X12_pilots_127, B_X12_pilots_160, B_X12_pilots_178, y_in, y_isCell, y_fin1, y_fin2, y_fin3, y_fin4, y_fin5, Option.bind_some, Option.toList_some, Option.toList_none, List.cons_append, List.nil_append, bI_t, bI_f, i10, i00, i11, i01, ↓reduceIte, Bool.false_eq_true, y_isSheet, c1]), R_fin hR (by decide)⟩
  obtain ⟨s, hs, rfl⟩ := q_hs_t c1 (by decide)
  obtain ⟨a1, a2, _, ⟨nn, hn, a3⟩, a4, _⟩ := hs0.2 s hs
  by_cases w1 : g 135 s = 0
  · exact ⟨-1000002, q_fb g 2, q_fm (q_fb g 2) 2, by simp only [B_X11_pilots_0, B_X11_pilots_8, B_X11_pilots_31, B_X11_pilots_18, B_X11_pilots_39, B_X11_pilots_50, B_X11_pilots_55, B_X11_pilots_63, B_X11_pilots_71, B_X11_pilots_90, B_X11_pilots_82, z_within, z_isCell, z_fin1, z_fin2, z_fin3, z_fin4, z_fin5, Option.bind_some, Option.toList_some, Option.toList_none, List.cons_append, List.nil_append, bI_t, bI_f, i10, i00, i11, i01, ↓reduceIte, Bool.false_eq_true, x_want hs0.1 hs, a1, (by decide : ¬ (2 : Int32) = 0), c1, w1], (by have hm := repM_fb (k := 2) hm; simp only [B_X12_pilots_0, B_X12_pilots_4, B_X12_pilots_13, B_X12_pilots_29, B_X12_pilots_42, B_X12_pilots_104, B_X12_pilots_118, B_X12_pilots_79, B_X12_pilots_127, B_X12_pilots_160, B_X12_pilots_178, y_in, y_isCell, y_fin1, y_fin2, y_fin3, y_fin4, y_fin5, Option.bind_some, Option.toList_some, Option.toList_none, List.cons_append, List.nil_append, bI_t, bI_f, i10, i00, i11, i01, ↓reduceIte, Bool.false_eq_true, y_isSheet, q_fb_ne (show 135 ≠ 97 by decide), q_rgN hs (show 4 < 2 ^ 31 by decide), c1, w1]), R_fin hR (by decide)⟩
  have hV1 : q_sV g s nn (fun i => g 137 (24 * s + i)) := ⟨hs0.1, hs, hn, a2.trans a3, a4⟩
  have hM1 : q_sM g s nn (fun i => g 137 (24 * s + i)) := ⟨hs, hn, a3, fun _ _ => rfl⟩
  generalize (fun i => g 137 (24 * s + i)) = M at *
  obtain ⟨R0, ht85⟩ := ha.2.2.2.2.2 (85, 10, 1) (by decide)
  obtain ⟨R1, ht87⟩ := ha.2.2.2.2.2 (87, 10, 1) (by decide)
  obtain ⟨R2, ht89⟩ := ha.2.2.2.2.2 (89, 11, 7) (by decide)
  obtain ⟨g2, R, e2, h2, f2, k2⟩ := z_rread (o := o) hV1 ht85 (d + 24)
  have hR2 : q_R n g2 := R_scr hR (tis_one (show (85, 10, 1) ∈ q_scr by decide) ha.2.2.2.2.2 h2 (fun p k a b _ => f2 p k a b)) (fun p k a _ _ => f2 p k (by omega) (by omega))
  have r4 := fun (f : Nat → Option (Option Value × q_H)) => q_rgN (k := f) hs (show 4 < 2 ^ 31 by decide)
  -- the Model up to the days
  have mgo : ∀ (h : Nat → Nat → Int32), (∀ p k, 135 ≤ p → p < 138 → h p k = g p k) → ∀ d, q_sem (d + 3) mX12_pilots 0 [.ref 98, .int (nI s), .int x2, .retAddr 0, .retAddr 0] [] (q_K o h) = q_sem (d + 3) mX12_pilots 46 [.ref 98, .int (nI s), .int x2, .int (bI (decide (q_rok nn M))), .int (nI nn)] [] (q_K o h) := by
    intro h hh d
    have w1' : ¬ h 135 s = 0 := by rw [hh _ _ (by decide) (by decide)]; exact w1
    have w3' : h 136 s = nI nn := by rw [hh _ _ (by decide) (by decide)]; exact a3
    have hg := m_good (o := o) (sM_fr hM1 (fun p k q => hh p k (by omega) (by omega))) (d + 1) x2 nn 0 (by omega) (decide (1 ≤ nn ∧ nn ≤ 10))
    have hiff : (decide (1 ≤ nn ∧ nn ≤ 10) && decide (∀ j, j < nn → 0 ≤ j → q_in (M j) 0 6 = true)) = decide (q_rok nn M) := by
      rw [← Bool.decide_and]
      exact decide_eq_decide.mpr ⟨fun z => ⟨z.1, fun j a => z.2 j a (Nat.zero_le _)⟩, fun z => ⟨z.1, fun j a _ => z.2 j a⟩⟩
    rw [hiff] at hg
    simp only [B_X12_pilots_0, y_in, y_isCell, y_fin1, y_fin2, y_fin3, y_fin4, y_fin5, Option.bind_some, Option.toList_some, Option.toList_none, List.cons_append, List.nil_append, bI_t, bI_f, i10, i00, i11, i01, ↓reduceIte, Bool.false_eq_true, y_isSheet, c1, B_X12_pilots_4, r4, w1', w3', f_in10 nn (by omega), B_X12_pilots_42]
    exact hg
  by_cases rd : q_rok nn M
  rotate_left
  · have hh : ∀ p k, 135 ≤ p → p < 138 → q_fb g2 5 p k = g p k := fun p k a b => by rw [q_fb_ne (by omega), f2 p k (by omega) (by omega)]
    have w3' : q_fb g2 5 136 s = nI nn := by rw [hh _ _ (by decide) (by decide)]; exact a3
    have c6 : nI nn ≤ nI nn := nI_le (Nat.le_refl _) (by omega)
    rw [decide_eq_false rd] at e2
    refine ⟨-1000005, q_fb g2 5, q_fm (q_fb g2 5) 5, ?_, ?_, R_fin hR2 (by decide)⟩
    · simp only [B_X11_pilots_0, B_X11_pilots_8, B_X11_pilots_31, B_X11_pilots_18, B_X11_pilots_39, B_X11_pilots_50, B_X11_pilots_55, B_X11_pilots_63, B_X11_pilots_71, B_X11_pilots_90, B_X11_pilots_82, z_within, z_isCell, z_fin1, z_fin2, z_fin3, z_fin4, z_fin5, Option.bind_some, Option.toList_some, Option.toList_none, List.cons_append, List.nil_append, bI_t, bI_f, i10, i00, i11, i01, ↓reduceIte, Bool.false_eq_true, x_want hs0.1 hs, a1, c1, w1, e2]
    · rw [mgo _ hh, decide_eq_false rd, B_X12_pilots_46]
      simp only [y_in, y_isCell, y_fin1, y_fin2, y_fin3, y_fin4, y_fin5, Option.bind_some, Option.toList_some, Option.toList_none, List.cons_append, List.nil_append, bI_t, bI_f, i10, i00, i11, i01, ↓reduceIte, Bool.false_eq_true, r4, w3', c6, B_X12_pilots_104]
  rw [decide_eq_true rd] at e2
  obtain ⟨k2, k3⟩ := k2 rd
  subst k2
  have hV2 : q_sV g2 s R M := sV_fr hV1 (fun p k q => f2 p k (by omega) (by omega))
  have c6 : nI R ≤ nI R := nI_le (Nat.le_refl _) (by omega)
  have hn1 : nI R - 1 = nI (R - 1) := nI_sub (b := 1) rd.1.1
  cases c2 : q_in x2 0 (nI (R - 1))
  · have hh : ∀ p k, 135 ≤ p → p < 138 → q_fb g2 1 p k = g p k := fun p k a b => by rw [q_fb_ne (by omega), f2 p k (by omega) (by omega)]
    have w3' : q_fb g2 1 136 s = nI R := by rw [hh _ _ (by decide) (by decide)]; exact a3
    refine ⟨-1000001, q_fb g2 1, q_fm (q_fb g2 1) 1, ?_, ?_, R_fin hR2 (by decide)⟩
    · simp only [B_X11_pilots_0, B_X11_pilots_8, B_X11_pilots_31, B_X11_pilots_18, B_X11_pilots_39, B_X11_pilots_50, B_X11_pilots_55, B_X11_pilots_63, B_X11_pilots_71, B_X11_pilots_90, B_X11_pilots_82, z_within, z_isCell, z_fin1, z_fin2, z_fin3, z_fin4, z_fin5, Option.bind_some, Option.toList_some, Option.toList_none, List.cons_append, List.nil_append, bI_t, bI_f, i10, i00, i11, i01, ↓reduceIte, Bool.false_eq_true, x_want hs0.1 hs, a1, c1, w1, e2, z_sizeS hV2, hn1, c2]
    · rw [mgo _ hh, decide_eq_true rd, B_X12_pilots_46]
      simp only [y_in, y_isCell, y_fin1, y_fin2, y_fin3, y_fin4, y_fin5, Option.bind_some, Option.toList_some, Option.toList_none, List.cons_append, List.nil_append, bI_t, bI_f, i10, i00, i11, i01, ↓reduceIte, Bool.false_eq_true, r4, w3', c6, hn1, c2, B_X12_pilots_118, B_X12_pilots_127]
  obtain ⟨dy, _, hdy, rfl⟩ := q_in_t (a := 0) (b := R - 1) c2 (by omega) (by decide)
  have hdy2 : dy < R := by have := rd.1.1; omega
  -- the needs
  have hnd0 : ∃ nd : Nat → Nat, (∀ i, nd i ≤ 6) ∧ ∀ i, i < R → M i = nI (nd i) := by
    refine ⟨fun i => if i < R then q_cl2 (M i) else 0, fun i => ?_, fun i hi => ?_⟩
    · dsimp only
      split
      · next hi =>
        obtain ⟨q, _, hq, eq⟩ := q_in_t (a := 0) (b := 6) (rd.2 i hi) (by decide) (by decide)
        rw [eq, show q_cl2 (nI q) = q from nI_clamp (by omega)]; exact hq
      · omega
    · obtain ⟨q, _, hq, eq⟩ := q_in_t (a := 0) (b := 6) (rd.2 i hi) (by decide) (by decide)
      dsimp only
      rw [if_pos hi, eq, show q_cl2 (nI q) = q from nI_clamp (by omega)]
  obtain ⟨nd, hnd, hMn⟩ := hnd0
  have hnds : q_nds g2 R nd := ⟨h2, fun i hi => (k3 i hi).trans (hMn i hi)⟩
  obtain ⟨g3, R3, e3, p85, p89, p87, f3, k4⟩ := z_rlay (o := o) hnd hnds (ti_fr ht89 (fun k => f2 _ _ (by decide) (by decide))) (ti_fr ht87 (fun k => f2 _ _ (by decide) (by decide))) (d + 25)
  have f23 : ∀ p k, ¬ (85 ≤ p ∧ p < 91) → g3 p k = g p k := fun p k a => (f3 p k a).trans (f2 p k (by omega) (by omega))
  have htis : q_tis g3 := by
    intro q hq
    simp only [q_scr, List.mem_cons, List.not_mem_nil, or_false] at hq
    rcases hq with rfl | rfl | rfl | rfl | rfl | rfl | rfl | rfl | rfl
    · obtain ⟨r, hr⟩ := ha.2.2.2.2.2 (73, 9, 1) (by decide); exact ⟨r, ti_fr hr (fun k => f23 _ _ (by decide))⟩
    · obtain ⟨r, hr⟩ := ha.2.2.2.2.2 (75, 9, 1) (by decide); exact ⟨r, ti_fr hr (fun k => f23 _ _ (by decide))⟩
    · obtain ⟨r, hr⟩ := ha.2.2.2.2.2 (77, 9, 9) (by decide); exact ⟨r, ti_fr hr (fun k => f23 _ _ (by decide))⟩
    · obtain ⟨r, hr⟩ := ha.2.2.2.2.2 (79, 9, 1) (by decide); exact ⟨r, ti_fr hr (fun k => f23 _ _ (by decide))⟩
    · obtain ⟨r, hr⟩ := ha.2.2.2.2.2 (81, 10, 1) (by decide); exact ⟨r, ti_fr hr (fun k => f23 _ _ (by decide))⟩
    · exact ⟨_, p85⟩
    · exact ⟨_, p87⟩
    · exact ⟨_, p89⟩
    · obtain ⟨r, hr⟩ := ha.2.2.2.2.2 (92, 8, 1) (by decide); exact ⟨r, ti_fr hr (fun k => f23 _ _ (by decide))⟩
  have hR3 : q_R n g3 := R_scr hR htis (fun p k a _ _ => f23 p k (by omega))
  -- the Model's days
  have mdays : ∀ (h : Nat → Nat → Int32), (∀ p k, 135 ≤ p → p < 138 → h p k = g p k) → ∃ h2, q_sem (d + 30) mX12_pilots 0 [.ref 98, .int (nI s), .int (nI dy), .retAddr 0, .retAddr 0] [] (q_K o h) = q_sem (d + 30) mX12_pilots 160 [.ref 98, .int (nI s), .int (nI dy), .int 1, .int (nI 40960)] [.int (bI (q_feas nd R 0 0 0))] (q_K o h2) ∧ (∀ p k, p ≠ 147 → p ≠ 148 → h2 p k = h p k) ∧ (q_feas nd R 0 0 0 = true → h2 147 dy = nI (q_pth nd R 0 0 0 dy)) := by
    intro h hh
    have w3' : h 136 s = nI R := by rw [hh _ _ (by decide) (by decide)]; exact a3
    obtain ⟨h1, e1, z1, f1⟩ := m_dead (o := o) (d + 29) (nI s) (nI dy) 1 40960 0 h (by omega)
    have f1' : ∀ p k, p ≠ 147 → p ≠ 148 → h1 p k = h p k := fun p k _ b => f1 p k (by omega)
    obtain ⟨h2, e2, _, f2, _, k5⟩ := m_canFly (o := o) (n := R) (s := s) hnd (d + 27 - R) R 0 0 0 h1 (by omega) (by decide) (by decide) ⟨hs, rd.1.2, (f1' _ _ (by decide) (by decide)).trans w3', fun i hi => by
      rw [f1' _ _ (by decide) (by decide), hh _ _ (by decide) (by decide), ← hMn i hi]
      exact hM1.2.2.2 i (by omega)⟩ (fun d1 o1 t1 a b c => Or.inl (z1 _ (Nat.zero_le _) (by have := rd.1.2; omega)))
    refine ⟨h2, ?_, fun p k a b => (f2 p k a b).trans (f1' p k a b), fun z => k5 z dy (Nat.zero_le _) hdy2⟩
    rw [show d + 27 - R + R + 2 = d + 29 by have := rd.1.2; omega] at e2
    rw [mgo h hh (d + 27), decide_eq_true rd, B_X12_pilots_46]
    simp only [y_in, y_isCell, y_fin1, y_fin2, y_fin3, y_fin4, y_fin5, Option.bind_some, Option.toList_some, Option.toList_none, List.cons_append, List.nil_append, bI_t, bI_f, i10, i00, i11, i01, ↓reduceIte, Bool.false_eq_true, r4, w3', c6, hn1, c2, B_X12_pilots_118]
    refine e1.trans ?_
    rw [B_X12_pilots_131, if_pos (by decide)]
    have e2' : q_sem (d + 29) mX12_canFly 0 [.ref 98, .int (nI s), .int 0, .int 0, .int 0, .retAddr 0, .retAddr 0] [] (q_K o h1) = _ := e2
    rw [e2']
    simp only [Option.bind_some, Option.toList_some, Option.toList_none, List.cons_append, List.nil_append]
  cases e5 : q_feas nd R 0 0 0
  · rw [e5] at e3
    obtain ⟨h2, e6, f6, _⟩ := mdays (q_fb g3 3) (fun p k a b => by rw [q_fb_ne (by omega), f23 p k (by omega)])
    rw [e5] at e6
    have hRf := R_fin (k := 3) hR3 (by decide)
    refine ⟨-1000003, q_fb g3 3, q_fm h2 3, ?_, ?_, ?_⟩
    · simp only [B_X11_pilots_0, B_X11_pilots_8, B_X11_pilots_31, B_X11_pilots_18, B_X11_pilots_39, B_X11_pilots_50, B_X11_pilots_55, B_X11_pilots_63, B_X11_pilots_71, B_X11_pilots_90, B_X11_pilots_82, z_within, z_isCell, z_fin1, z_fin2, z_fin3, z_fin4, z_fin5, Option.bind_some, Option.toList_some, Option.toList_none, List.cons_append, List.nil_append, bI_t, bI_f, i10, i00, i11, i01, ↓reduceIte, Bool.false_eq_true, x_want hs0.1 hs, a1, c1, w1, e2, z_sizeS hV2, hn1, c2, e3]
    · rw [e6]
      simp only [B_X12_pilots_160, y_in, y_isCell, y_fin1, y_fin2, y_fin3, y_fin4, y_fin5, Option.bind_some, Option.toList_some, Option.toList_none, List.cons_append, List.nil_append, bI_t, bI_f, i10, i00, i11, i01, ↓reduceIte, Bool.false_eq_true, B_X12_pilots_178]
    · refine R_scr hRf (tis_fr hRf.2.2.2.2.2.2 (fun p k z => ?_)) (fun p k a b c => ?_)
      · unfold q_fm; rw [q_upN (by omega), q_upN (by omega), f6 p k (by omega) (by omega)]
      · unfold q_fm
        by_cases q : p = 99
        · subst q
          by_cases q2 : k = 3
          · subst q2; rw [q_upE, q_upE, f6 _ _ (by decide) (by decide)]
          · rw [q_upJ q2, q_upJ q2, f6 _ _ (by decide) (by decide)]
        · rw [q_upN q, q_upN q, f6 p k (by omega) (by omega)]
  · rw [e5] at e3
    obtain ⟨k6, k7⟩ := k4 e5
    rw [k6] at p87
    obtain ⟨h2, e6, f6, k8⟩ := mdays g3 (fun p k a b => f23 p k (by omega))
    rw [e5] at e6
    have hday : ∀ d, q_sem (d + 2) mX4_day 0 [.ref 84, .int (nI dy)] [] (q_K o g3) = some (some (.int (nI (q_pth nd R 0 0 0 dy))), q_K o g3) := fun d => by
      rw [B_X4_day_0, z_get1 q_tb87 p87 hdy2, show g3 (87 + 1) dy = _ from k7 dy hdy2]
      simp only [Option.bind_some, Option.toList_some, Option.toList_none, List.cons_append, List.nil_append, B_X4_day_9]
    refine ⟨nI (q_pth nd R 0 0 0 dy), g3, h2, ?_, ?_, R_scr hR3 (tis_fr htis (fun p k z => f6 p k (by omega) (by omega))) (fun p k a b c => f6 p k (by omega) (by omega))⟩
    · simp only [B_X11_pilots_0, B_X11_pilots_8, B_X11_pilots_31, B_X11_pilots_18, B_X11_pilots_39, B_X11_pilots_50, B_X11_pilots_55, B_X11_pilots_63, B_X11_pilots_71, B_X11_pilots_90, B_X11_pilots_82, z_within, z_isCell, z_fin1, z_fin2, z_fin3, z_fin4, z_fin5, Option.bind_some, Option.toList_some, Option.toList_none, List.cons_append, List.nil_append, bI_t, bI_f, i10, i00, i11, i01, ↓reduceIte, Bool.false_eq_true, x_want hs0.1 hs, a1, c1, w1, e2, z_sizeS hV2, hn1, c2, e3, hday]
    · rw [e6]
      simp only [B_X12_pilots_160, y_in, y_isCell, y_fin1, y_fin2, y_fin3, y_fin4, y_fin5, Option.bind_some, Option.toList_some, Option.toList_none, List.cons_append, List.nil_append, bI_t, bI_f, i10, i00, i11, i01, ↓reduceIte, Bool.false_eq_true, q_rgN (show dy < 10 by have := rd.1.2; omega) (show 10 < 2 ^ 31 by decide), k8 e5]
