section MPR
variable {o : q_H} {g S : Nat → Nat → Int32} {N : Nat → Nat}
theorem z_mpO (hf : q_wf S N) (hN : N 2 ≤ 24) {s R : Nat} {P : Nat → Nat} (hR : R ≤ 9) (hP : ∀ i, i < R → P i < N 2) (d : Nat) : ∀ t r (g : Nat → Nat → Int32) (v3 v4 v5 : Value), r + t = R → repC 1 g S N → q_ti g 73 9 1 R → q_ti g 75 9 1 R → q_ti g 77 9 9 9 → (∀ i, i < R → g 74 i = nI (P i) ∧ g 76 i = nI (P i)) → (∀ y x, y < R → x < R → g 78 (y * 9 + x) = if y < r then q_cvo (q_fol S P y x) else -1) → ((v3 = .retAddr 0 ∧ v4 = .retAddr 0 ∧ v5 = .retAddr 0) ∨ ∃ z, v3 = .int z ∧ ((v4 = .retAddr 0 ∧ v5 = .retAddr 0) ∨ ∃ a b, v4 = .int a ∧ v5 = .int b)) → ∃ g2, q_sem (d + 6) mX11_matchPlots 63 [.ref 0, .int (nI s), .int (nI r), v3, v4, v5] [] (q_K o g) = some (none, q_K o g2) ∧ (∀ y x, y < R → x < R → g2 78 (y * 9 + x) = q_cvo (q_fol S P y x)) ∧ ∀ p j, p ≠ 78 → g2 p j = g p j := by
  intro t
  induction t with
  | zero =>
    intro r g v3 v4 v5 hr0 hr h1 h2 h3 hv hm hx
    obtain rfl : r = R := by omega
    have c1 : nI r ≤ nI r := nI_le (Nat.le_refl _) (by omega)
    refine ⟨g, ?_, fun y x a b => by rw [hm y x a b, if_pos a], fun _ _ _ => rfl⟩
    rcases hx with ⟨rfl, rfl, rfl⟩ | ⟨z, rfl, ⟨rfl, rfl⟩ | ⟨a, b, rfl, rfl⟩⟩
    · rw [B_X11_matchPlots_63, s_size _ q_tb73, h1.2.2.1]
      simp only [Option.bind_some, Option.toList_some, Option.toList_none, List.cons_append, List.nil_append, B_X11_matchPlots_74, c1, ↓reduceIte]
    · rw [B_X11_matchPlots_63a, s_size _ q_tb73, h1.2.2.1]
      simp only [Option.bind_some, Option.toList_some, Option.toList_none, List.cons_append, List.nil_append, B_X11_matchPlots_74a, c1, ↓reduceIte]
    · rw [B_X11_matchPlots_63b, s_size _ q_tb73, h1.2.2.1]
      simp only [Option.bind_some, Option.toList_some, Option.toList_none, List.cons_append, List.nil_append, B_X11_matchPlots_74b, c1, ↓reduceIte]
  | succ t ih =>
    intro r g v3 v4 v5 hr0 hr h1 h2 h3 hv hm hx
    have c1 : ¬ nI R ≤ nI r := nI_ge (by omega) (by omega)
    have inner := fun v4 v5 hx => z_mpI (o := o) (s := s) (r := r) (P := P) hf hN hR (by omega) hP d R 0 g v4 v5 (by omega) hr h1 h2 h3 hv (fun x hx => by rw [hm r x (by omega) hx, if_neg (Nat.lt_irrefl _), if_neg (Nat.not_lt_zero _)]) hx
    have rest : ∀ v4 v5 : Value, ((v4 = .retAddr 0 ∧ v5 = .retAddr 0) ∨ ∃ a b, v4 = .int a ∧ v5 = .int b) → ∃ g2, q_sem (d + 6) mX11_matchPlots 79 [.ref 0, .int (nI s), .int (nI r), .int 0, v4, v5] [] (q_K o g) = some (none, q_K o g2) ∧ (∀ y x, y < R → x < R → g2 78 (y * 9 + x) = q_cvo (q_fol S P y x)) ∧ ∀ p j, p ≠ 78 → g2 p j = g p j := by
      intro v4 v5 hx
      obtain ⟨g1, w4, w5, hw, e1, m1, f1⟩ := inner v4 v5 hx
      have f1' : ∀ p j, p ≠ 78 → g1 p j = g p j := fun p j a => f1 p j (by omega)
      obtain ⟨g2, e2, m2, f2⟩ := ih (r + 1) g1 (.int (nI R)) w4 w5 (by omega) (repC_fr hr (fun p k a b => f1' _ _ (by omega))) (ti_fr h1 (fun k => f1' _ _ (by decide))) (ti_fr h2 (fun k => f1' _ _ (by decide))) (ti_fr h3 (fun k => f1' _ _ (by decide))) (fun i hi => by rw [f1' _ _ (by decide), f1' _ _ (by decide)]; exact hv i hi) (fun y x hy hx => by
        by_cases q : y = r
        · subst q; rw [m1 x hx, if_pos (Nat.lt_succ_self _)]
        · rw [f1 _ _ (by omega), hm y x hy hx]
          by_cases q2 : y < r
          · rw [if_pos q2, if_pos (by omega)]
          · rw [if_neg q2, if_neg (by omega)]) (Or.inr ⟨_, rfl, hw⟩)
      have e1' : q_sem (d + 6) mX11_matchPlots 79 [.ref 0, .int (nI s), .int (nI r), .int 0, v4, v5] [] (q_K o g) = _ := e1
      exact ⟨g2, e1'.trans e2, m2, fun p j a => (f2 p j a).trans (f1' p j a)⟩
    rcases hx with ⟨rfl, rfl, rfl⟩ | ⟨z, rfl, ⟨rfl, rfl⟩ | ⟨a, b, rfl, rfl⟩⟩
    · rw [B_X11_matchPlots_63, s_size _ q_tb73, h1.2.2.1]
      simp only [Option.bind_some, Option.toList_some, Option.toList_none, List.cons_append, List.nil_append, B_X11_matchPlots_74, c1, ↓reduceIte]
      exact rest _ _ (Or.inl ⟨rfl, rfl⟩)
    · rw [B_X11_matchPlots_63a, s_size _ q_tb73, h1.2.2.1]
      simp only [Option.bind_some, Option.toList_some, Option.toList_none, List.cons_append, List.nil_append, B_X11_matchPlots_74a, c1, ↓reduceIte]
      exact rest _ _ (Or.inl ⟨rfl, rfl⟩)
    · rw [B_X11_matchPlots_63b, s_size _ q_tb73, h1.2.2.1]
      simp only [Option.bind_some, Option.toList_some, Option.toList_none, List.cons_append, List.nil_append, B_X11_matchPlots_74b, c1, ↓reduceIte]
      exact rest _ _ (Or.inr ⟨_, _, rfl, rfl⟩)
theorem z_mp (hr : repC 1 g S N) (hf : q_wf S N) (hN : N 2 ≤ 24) {s R : Nat} (hs : s < 2 ^ 24) (hR : q_cnt (fun i => s.testBit i) (N 2) = R) (hR9 : R ≤ 9) (ht : q_tis g) (d : Nat) : ∃ g2, q_sem (d + 6) mX11_matchPlots 0 [.ref 0, .int (nI s), .retAddr 0, .retAddr 0, .retAddr 0, .retAddr 0] [] (q_K o g) = some (none, q_K o g2) ∧ q_ti g2 73 9 1 R ∧ q_ti g2 75 9 1 R ∧ q_ti g2 77 9 9 9 ∧ (∀ i, i < R → g2 74 i = nI (q_pos (fun i => s.testBit i) (N 2) i) ∧ g2 76 i = nI (q_pos (fun i => s.testBit i) (N 2) i)) ∧ (∀ r c, r < R → c < R → g2 78 (r * 9 + c) = q_cvo (q_cut R R (q_fol S (q_pos (fun i => s.testBit i) (N 2))) r c)) ∧ ∀ p j, ¬ (73 ≤ p ∧ p < 79) → g2 p j = g p j := by
  obtain ⟨r0, t0⟩ := ht (73, 9, 1) (by decide)
  obtain ⟨r1, t1⟩ := ht (75, 9, 1) (by decide)
  obtain ⟨r2, t2⟩ := ht (77, 9, 9) (by decide)
  obtain ⟨g1, e1, a1, b1, c1, m1, f1⟩ := z_mbegin (o := o) t0 t1 t2 (d + 2)
  have hr1 : repC 1 g1 S N := repC_fr hr (fun p k a b => f1 _ _ (by omega))
  obtain ⟨g2, e2, a2, b2, v2, f2⟩ := z_mpA (o := o) hr1 hN hs (by omega) (d + 1) (N 2) 0 g1 (by omega) hr1 a1 b1 (fun i hi => by unfold q_cnt at hi; omega)
  rw [hR] at a2 b2 v2
  have hP : ∀ i, i < R → q_pos (fun i => s.testBit i) (N 2) i < N 2 := fun i hi => (pos_spec (by omega)).1
  have f12 : ∀ p j, ¬ (73 ≤ p ∧ p < 79) → g2 p j = g p j := fun p j a => (f2 p j (by omega)).trans (f1 p j a)
  obtain ⟨g3, e3, m3, f3⟩ := z_mpO (o := o) (s := s) hf hN hR9 hP d R 0 g2 (.retAddr 0) (.retAddr 0) (.retAddr 0) (by omega) (repC_fr hr1 (fun p k a b => f2 _ _ (by omega))) a2 b2 (ti_fr c1 (fun k => f2 _ _ (by omega))) v2 (fun y x hy hx => by rw [if_neg (Nat.not_lt_zero _), f2 _ _ (by omega)]; exact m1 y x (by omega) (by omega)) (Or.inl ⟨rfl, rfl, rfl⟩)
  refine ⟨g3, ?_, ti_fr a2 (fun k => f3 _ _ (by decide)), ti_fr b2 (fun k => f3 _ _ (by decide)), ti_fr c1 (fun k => (f3 _ _ (by decide)).trans (f2 _ _ (by omega))), fun i hi => by rw [f3 _ _ (by decide), f3 _ _ (by decide)]; exact v2 i hi, fun r c a b => by rw [m3 r c a b, cut_in a b], fun p j a => (f3 p j (by omega)).trans (f12 p j a)⟩
  rw [B_X11_matchPlots_0]
  simp only [e1, Option.bind_some, Option.toList_some, Option.toList_none, List.cons_append, List.nil_append, B_X11_matchPlots_7]
  have e2' : q_sem (d + 6) mX11_matchPlots 9 [.ref 0, .int (nI s), .int 0, .retAddr 0, .retAddr 0, .retAddr 0] [] (q_K o g1) = _ := e2
  rw [e2']
  exact e3
/-- the Model's list of the set -/
theorem m_takesL (hN : N 2 ≤ 24) {s : Nat} (hs : s < 2 ^ 24) (hR : q_cnt (fun i => s.testBit i) (N 2) ≤ 9) (d : Nat) : ∀ t p (g : Nat → Nat → Int32), p + t = N 2 → g 100 2 = nI (N 2) → g 98 45 = nI (q_cnt (fun i => s.testBit i) p) → (∀ i, i < q_cnt (fun i => s.testBit i) p → g 138 i = nI (q_pos (fun i => s.testBit i) (N 2) i)) → ∃ g2, q_sem d mX12_takes 7 [.ref 98, .int (nI s), .int (nI p)] [] (q_K o g) = some (none, q_K o g2) ∧ g2 98 45 = nI (q_cnt (fun i => s.testBit i) (N 2)) ∧ (∀ i, i < q_cnt (fun i => s.testBit i) (N 2) → g2 138 i = nI (q_pos (fun i => s.testBit i) (N 2) i)) ∧ ∀ p j, p ≠ 138 → ¬ (p = 98 ∧ j = 45) → g2 p j = g p j := by
  intro t
  induction t with
  | zero =>
    intro p g hp h1 h2 hv
    obtain rfl : p = N 2 := by omega
    refine ⟨g, ?_, h2, hv, fun _ _ _ _ => rfl⟩
    rw [B_X12_takes_7, h1, if_pos (nI_le (Nat.le_refl _) (by omega))]
  | succ t ih =>
    intro p g hp h1 h2 hv
    have c1 : ¬ nI (N 2) ≤ nI p := nI_ge (by omega) (by omega)
    have hcs := cnt_s (fun i => s.testBit i) p
    rw [B_X12_takes_7, h1, if_neg c1, bit24 hs (show p < 32 by omega), nI_1]
    cases e : s.testBit p
    · rw [e, if_neg (by decide)] at hcs
      rw [if_neg (by decide)]
      exact ih (p + 1) g (by omega) h1 (by rw [hcs]; exact h2) (fun i hi => hv i (by rw [hcs] at hi; exact hi))
    · rw [e, if_pos rfl] at hcs
      have hm := cnt_mono (fun i => s.testBit i) (show p + 1 ≤ N 2 by omega)
      have hpo := pos_of (f := fun i => s.testBit i) (n := N 2) (q := p) (by omega) e
      rw [if_pos (by decide), h2, q_rgN (show q_cnt (fun i => s.testBit i) p < 9 by omega) (by decide), q_upN (show 98 ≠ 138 by decide), h2, nI_1]
      obtain ⟨g2, e2, k2, v2, f2⟩ := ih (p + 1) (q_up (q_up g 138 (q_cnt (fun i => s.testBit i) p) (nI p)) 98 45 (nI (q_cnt (fun i => s.testBit i) p + 1))) (by omega) (by rw [q_upN (by decide), q_upN (by decide)]; exact h1) (by rw [q_upE, hcs]) (fun i hi => by
        rw [hcs] at hi
        rw [q_upN (by decide)]
        by_cases q : i = q_cnt (fun i => s.testBit i) p
        · subst q; rw [q_upE, hpo]
        · rw [q_upJ q]; exact hv i (by omega))
      exact ⟨g2, e2, k2, v2, fun p j a b => by rw [f2 p j a b, q_up_ne (by omega), q_upN a]⟩
theorem m_takes (hm : repM g S N) {s : Nat} (hs : s < 2 ^ 24) (hR : q_cnt (fun i => s.testBit i) (N 2) ≤ 9) (d : Nat) : ∃ g2, q_sem d mX12_takes 0 [.ref 98, .int (nI s), .retAddr 0] [] (q_K o g) = some (none, q_K o g2) ∧ g2 98 45 = nI (q_cnt (fun i => s.testBit i) (N 2)) ∧ (∀ i, i < q_cnt (fun i => s.testBit i) (N 2) → g2 138 i = nI (q_pos (fun i => s.testBit i) (N 2) i)) ∧ ∀ p j, p ≠ 138 → ¬ (p = 98 ∧ j = 45) → g2 p j = g p j := by
  have e2 : g 100 2 = nI (N 2) := hm.2.2.2.1 2 (by decide)
  obtain ⟨g2, e3, k2, v2, f2⟩ := m_takesL (o := o) (N := N) (m_c2 hm) hs hR d (N 2) 0 (q_up g 98 45 0) (by omega) (by rw [q_upN (by decide)]; exact e2) (by rw [q_upE]; rfl) (fun i hi => by unfold q_cnt at hi; omega)
  refine ⟨g2, ?_, k2, v2, fun p j a b => by rw [f2 p j a b, q_up_ne (by omega)]⟩
  rw [B_X12_takes_0]
  exact e3
end MPR
/-! the Model's search for tracks -/
/-- the best so far, as one number -/
def q_bk (g : Nat → Nat → Int32) (K : Nat) : Prop := ∃ f l, g 98 46 = nI f ∧ g 98 47 = nI l ∧ f ≤ 99 ∧ l ≤ 1000000000 ∧ ((l < 100000 ∧ K = 100000 * f + l) ∨ (f = 99 ∧ K = 9900000))
def q_val (R : Nat) (P : Nat → Nat) (c : Nat) : Int32 := if c < R then nI (P c) else -1
def q_mQ (cost : Nat → Nat → Option Nat) (L : Int32) (C k row used c j : Nat) : Nat := if j = row then c else q_mP cost L C k (row + 1) (q_nx C used c) j
def q_trs (g S : Nat → Nat → Int32) (N : Nat → Nat) (R : Nat) (P : Nat → Nat) : Prop := repM g S N ∧ g 98 45 = nI R ∧ ∀ i, i < R → g 138 i = nI (P i)
theorem trs_fr {g g2 S : Nat → Nat → Int32} {N : Nat → Nat} {R : Nat} {P : Nat → Nat} (h : q_trs g S N R P) (hg : ∀ p j, p ≠ 139 → p ≠ 140 → ¬ (p = 98 ∧ (j = 46 ∨ j = 47)) → g2 p j = g p j) : q_trs g2 S N R P := ⟨m_fr h.1 (fun p a b j => hg _ _ (by omega) (by omega) (by omega)), (hg _ _ (by decide) (by decide) (by omega)).trans h.2.1, fun i hi => (hg _ _ (by decide) (by decide) (by omega)).trans (h.2.2 i hi)⟩
theorem bk_fr {g g2 : Nat → Nat → Int32} {K : Nat} (h : q_bk g K) (h1 : g2 98 46 = g 98 46) (h2 : g2 98 47 = g 98 47) : q_bk g2 K := by
  obtain ⟨f, l, a, b, c⟩ := h
  exact ⟨f, l, h1.trans a, h2.trans b, c⟩
section TRK
variable {o : q_H} {S : Nat → Nat → Int32} {N : Nat → Nat} {R : Nat} {P : Nat → Nat}
theorem m_copyL (hR : R ≤ 9) (d : Nat) (x1 x2 x3 x4 : Int32) : ∀ t i (g : Nat → Nat → Int32), i + t = R → g 98 45 = nI R → ∃ g2, q_sem d mX12_tracks 48 [.ref 98, .int x1, .int x2, .int x3, .int x4, .int (nI i)] [] (q_K o g) = some (none, q_K o g2) ∧ (∀ j, i ≤ j → j < R → g2 140 j = g 139 j) ∧ ∀ p j, ¬ (p = 140 ∧ i ≤ j ∧ j < R) → g2 p j = g p j := by
  intro t
  induction t with
  | zero =>
    intro i g hi h
    refine ⟨g, ?_, fun j a b => by omega, fun _ _ _ => rfl⟩
    rw [B_X12_tracks_48, h, if_pos (nI_le (by omega) (by omega))]
  | succ t ih =>
    intro i g hi h
    obtain ⟨g2, e2, h2, f2⟩ := ih (i + 1) (q_up g 140 i (g 139 i)) (by omega) (by rw [q_upN (by decide)]; exact h)
    refine ⟨g2, ?_, fun j a b => ?_, fun p j a => by rw [f2 p j (by omega), q_up_ne (by omega)]⟩
    · rw [B_X12_tracks_48, h, if_neg (nI_ge (by omega) (by omega)), q_rgN (show i < 9 by omega) (by decide), q_rgN (show i < 9 by omega) (by decide), nI_1]
      exact e2
    · by_cases q : j = i
      · rw [q, f2 _ _ (by omega), q_upE]
      · rw [h2 j (by omega) b, q_upN (by decide)]
theorem m_tracks (hf : q_wf S N) (hR : R ≤ 9) (hP : ∀ i, i < R → P i < N 2) (d : Nat) : ∀ k row used n sum K (g : Nat → Nat → Int32), row + k = R → used < 512 → q_c24 used + n = row → sum ≤ row * 15 → q_trs g S N R P → q_bk g K → ∃ g2, q_sem (d + k + 4) mX12_tracks 0 [.ref 98, .int (nI row), .int (nI used), .int (nI n), .int (nI sum), .retAddr 0] [] (q_K o g) = some (none, q_K o g2) ∧ q_bk g2 (if 100000 * n + sum + q_V (q_cut R R (q_fol S P)) 9 R k row used < K then 100000 * n + sum + q_V (q_cut R R (q_fol S P)) 9 R k row used else K) ∧ (100000 * n + sum + q_V (q_cut R R (q_fol S P)) 9 R k row used < K → ∀ j, j < R → g2 140 j = if j < row then g 139 j else q_val R P (q_mP (q_cut R R (q_fol S P)) 9 R k row used j)) ∧ (¬ 100000 * n + sum + q_V (q_cut R R (q_fol S P)) 9 R k row used < K → ∀ j, g2 140 j = g 140 j) ∧ (∀ j, j < row → g2 139 j = g 139 j) ∧ ∀ p j, p ≠ 139 → p ≠ 140 → ¬ (p = 98 ∧ (j = 46 ∨ j = 47)) → g2 p j = g p j := by
  have hW : ∀ r c w, q_cut R R (q_fol S P) r c = some w → w ≤ 15 := fun r c w h => by
    unfold q_cut at h
    split at h
    · next hc => exact fol_le hf hP hc.1 hc.2 h
    · simp at h
  generalize hcost : q_cut R R (q_fol S P) = cost at *
  intro k
  induction k with
  | zero =>
    intro row used n sum K g hk hu hc hs ht hb
    obtain rfl : row = R := by omega
    obtain ⟨f, l, h46, h47, hf9, hl9, hK⟩ := hb
    have hV0 : q_V cost 9 row 0 row used = 0 := rfl
    rw [hV0, Nat.add_zero]
    have stay : ¬ 100000 * n + sum < K → ∀ A : Option (Option Value × q_H), A = some (none, q_K o g) → ∃ g2, A = some (none, q_K o g2) ∧ q_bk g2 (if 100000 * n + sum < K then 100000 * n + sum else K) ∧ (100000 * n + sum < K → ∀ j, j < row → g2 140 j = if j < row then g 139 j else q_val row P (q_mP cost 9 row 0 row used j)) ∧ (¬ 100000 * n + sum < K → ∀ j, g2 140 j = g 140 j) ∧ (∀ j, j < row → g2 139 j = g 139 j) ∧ ∀ p j, p ≠ 139 → p ≠ 140 → ¬ (p = 98 ∧ (j = 46 ∨ j = 47)) → g2 p j = g p j := fun hno A hA => ⟨g, hA, by rw [if_neg hno]; exact ⟨f, l, h46, h47, hf9, hl9, hK⟩, fun z => absurd z hno, fun _ _ => rfl, fun _ _ => rfl, fun _ _ _ _ _ => rfl⟩
    rw [B_X12_tracks_0, h46, ht.2.1, h47]
    by_cases c1 : n ≤ f
    · rw [if_pos (nI_le c1 (by omega)), if_pos rfl]
      have take : 100000 * n + sum < K → ∃ g2, q_sem (d + 0 + 4) mX12_tracks 48 [.ref 98, .int (nI row), .int (nI used), .int (nI n), .int (nI sum), .int 0] [] (q_K o (q_up (q_up g 98 46 (nI n)) 98 47 (nI sum))) = some (none, q_K o g2) ∧ q_bk g2 (if 100000 * n + sum < K then 100000 * n + sum else K) ∧ (100000 * n + sum < K → ∀ j, j < row → g2 140 j = if j < row then g 139 j else q_val row P (q_mP cost 9 row 0 row used j)) ∧ (¬ 100000 * n + sum < K → ∀ j, g2 140 j = g 140 j) ∧ (∀ j, j < row → g2 139 j = g 139 j) ∧ ∀ p j, p ≠ 139 → p ≠ 140 → ¬ (p = 98 ∧ (j = 46 ∨ j = 47)) → g2 p j = g p j := by
        intro hyes
        obtain ⟨g2, e2, h2, f2⟩ := m_copyL (o := o) hR (d + 0 + 4) (nI row) (nI used) (nI n) (nI sum) row 0 (q_up (q_up g 98 46 (nI n)) 98 47 (nI sum)) (by omega) (by rw [q_upJ (by decide), q_upJ (by decide)]; exact ht.2.1)
        refine ⟨g2, e2, ?_, fun _ j hj => ?_, fun z => absurd hyes z, fun j hj => ?_, fun p j a b c => ?_⟩
        · rw [if_pos hyes]
          exact ⟨n, sum, by rw [f2 _ _ (by omega), q_upJ (by decide), q_upE], by rw [f2 _ _ (by omega), q_upE], by omega, by omega, Or.inl ⟨by omega, rfl⟩⟩
        · rw [h2 j (Nat.zero_le _) hj, if_pos hj, q_upN (by decide), q_upN (by decide)]
        · rw [f2 _ _ (by omega), q_upN (by decide), q_upN (by decide)]
        · rw [f2 _ _ (by omega), q_up_ne (by omega), q_up_ne (by omega)]
      by_cases c2 : n < f
      · rw [if_pos (nI_lt c2 (by omega))]
        exact take (by omega)
      · rw [if_neg (nI_nlt (by omega) (by omega))]
        by_cases c3 : l ≤ sum
        · rw [if_pos (nI_le c3 (by omega))]
          exact stay (by omega) _ rfl
        · rw [if_neg (nI_ge (by omega) (by omega))]
          exact take (by omega)
    · rw [if_neg (nI_ge (by omega) (by omega))]
      exact stay (by omega) _ rfl
  | succ k ih =>
    intro row used n sum K g hk hu hc hs ht hb
    obtain ⟨f, l, h46, h47, hf9, hl9, hK⟩ := id hb
    rw [B_X12_tracks_0, h46, ht.2.1]
    by_cases c1 : n ≤ f
    rotate_left
    · have hno : ¬ 100000 * n + sum + q_V cost 9 R (k + 1) row used < K := by omega
      rw [if_neg (nI_ge (by omega) (by omega))]
      exact ⟨g, rfl, by rw [if_neg hno]; exact hb, fun z => absurd z hno, fun _ _ => rfl, fun _ _ => rfl, fun _ _ _ _ _ => rfl⟩
    rw [if_pos (nI_le c1 (by omega)), if_neg (fun z => by have := (nI_eq (by omega) (by omega)).mp z; omega)]
    have hmP : ∀ j, q_mP cost 9 R (k + 1) row used j = q_mQ cost 9 R k row used (q_cho cost 9 R k row used) j := fun j => rfl
    simp only [hmP, q_V_s]
    unfold q_cho
    have loop : ∀ t i K (g : Nat → Nat → Int32), i + t = R → q_trs g S N R P → q_bk g K → ∃ g2, q_sem (d + (k + 1) + 4) mX12_tracks 81 [.ref 98, .int (nI row), .int (nI used), .int (nI n), .int (nI sum), .int (nI i)] [] (q_K o g) = some (none, q_K o g2) ∧ q_bk g2 (if 100000 * n + sum + q_mM (q_of cost 9 R k row used) (100000 + q_V cost 9 R k (row + 1) used) t i < K then 100000 * n + sum + q_mM (q_of cost 9 R k row used) (100000 + q_V cost 9 R k (row + 1) used) t i else K) ∧ (100000 * n + sum + q_mM (q_of cost 9 R k row used) (100000 + q_V cost 9 R k (row + 1) used) t i < K → ∀ j, j < R → g2 140 j = if j < row then g 139 j else q_val R P (q_mQ cost 9 R k row used (q_mH (q_of cost 9 R k row used) (100000 + q_V cost 9 R k (row + 1) used) t i) j)) ∧ (¬ 100000 * n + sum + q_mM (q_of cost 9 R k row used) (100000 + q_V cost 9 R k (row + 1) used) t i < K → ∀ j, g2 140 j = g 140 j) ∧ (∀ j, j < row → g2 139 j = g 139 j) ∧ ∀ p j, p ≠ 139 → p ≠ 140 → ¬ (p = 98 ∧ (j = 46 ∨ j = 47)) → g2 p j = g p j := by
      intro t
      induction t with
      | zero =>
        intro i K g hi ht hb
        obtain rfl : i = R := by omega
        obtain ⟨g2, e2, b2, y2, n2, l2, f2⟩ := ih (row + 1) used (n + 1) sum K (q_up g 139 row (-1)) (by omega) hu (by omega) (by omega) (trs_fr ht (fun p j a b c => q_upN a)) (bk_fr hb (q_upN (by decide)) (q_upN (by decide)))
        have ea : 100000 * (n + 1) + sum + q_V cost 9 i k (row + 1) used = 100000 * n + sum + (100000 + q_V cost 9 i k (row + 1) used) := by omega
        rw [ea] at b2 y2 n2
        have hm0 : q_mM (q_of cost 9 i k row used) (100000 + q_V cost 9 i k (row + 1) used) 0 i = 100000 + q_V cost 9 i k (row + 1) used := rfl
        have hh0 : q_mH (q_of cost 9 i k row used) (100000 + q_V cost 9 i k (row + 1) used) 0 i = i := rfl
        rw [hm0, hh0]
        refine ⟨g2, ?_, b2, fun z j hj => ?_, fun z j => by rw [n2 z j, q_upN (by decide)], fun j hj => by rw [l2 j (by omega), q_upJ (by omega)], fun p j a b c => by rw [f2 p j a b c, q_upN a]⟩
        · rw [B_X12_tracks_81, ht.2.1, if_pos (nI_le (Nat.le_refl _) (by omega)), q_rgN (show row < 9 by omega) (by decide), nI_1, nI_1]
          have e2' : q_sem (d + (k + 1) + 3) mX12_tracks 0 [.ref 98, .int (nI (row + 1)), .int (nI used), .int (nI (n + 1)), .int (nI sum), .retAddr 0] [] (q_K o (q_up g 139 row (-1))) = some (none, q_K o g2) := e2
          rw [e2']
          simp only [Option.bind_some, Option.toList_some, Option.toList_none, List.cons_append, List.nil_append, B_X12_tracks_201]
        · rw [y2 z j hj]
          unfold q_mQ
          by_cases q1 : j < row
          · rw [if_pos q1, if_pos (show j < row + 1 by omega), q_upJ (by omega)]
          · rw [if_neg q1]
            by_cases q2 : j = row
            · subst q2
              rw [if_pos (Nat.lt_succ_self _), q_upE, if_pos rfl]
              unfold q_val; rw [if_neg (Nat.lt_irrefl _)]
            · rw [if_neg (by omega), if_neg q2, show q_nx i used i = used from if_neg (Nat.lt_irrefl _)]
      | succ t iht =>
        intro i K g hi ht hb
        have c2 : ¬ nI R ≤ nI i := nI_ge (by omega) (by omega)
        have skip : q_of cost 9 R k row used i = none → ∀ A, q_sem (d + (k + 1) + 4) mX12_tracks 81 [.ref 98, .int (nI row), .int (nI used), .int (nI n), .int (nI sum), .int (nI (i + 1))] [] (q_K o g) = A → ∃ g2, A = some (none, q_K o g2) ∧ q_bk g2 (if 100000 * n + sum + q_mM (q_of cost 9 R k row used) (100000 + q_V cost 9 R k (row + 1) used) (t + 1) i < K then 100000 * n + sum + q_mM (q_of cost 9 R k row used) (100000 + q_V cost 9 R k (row + 1) used) (t + 1) i else K) ∧ (100000 * n + sum + q_mM (q_of cost 9 R k row used) (100000 + q_V cost 9 R k (row + 1) used) (t + 1) i < K → ∀ j, j < R → g2 140 j = if j < row then g 139 j else q_val R P (q_mQ cost 9 R k row used (q_mH (q_of cost 9 R k row used) (100000 + q_V cost 9 R k (row + 1) used) (t + 1) i) j)) ∧ (¬ 100000 * n + sum + q_mM (q_of cost 9 R k row used) (100000 + q_V cost 9 R k (row + 1) used) (t + 1) i < K → ∀ j, g2 140 j = g 140 j) ∧ (∀ j, j < row → g2 139 j = g 139 j) ∧ ∀ p j, p ≠ 139 → p ≠ 140 → ¬ (p = 98 ∧ (j = 46 ∨ j = 47)) → g2 p j = g p j := by
          intro hn A hA
          rw [mM_n hn, mH_n hn, ← hA]
          exact iht (i + 1) K g (by omega) ht hb
        rw [B_X12_tracks_81, ht.2.1, if_neg c2, f_bit9 used hu i (by omega), nI_1]
        cases e1 : used.testBit i
        rotate_left
        · rw [if_neg (by decide)]
          exact skip (by unfold q_of q_opt; rw [if_neg (fun z => by rw [e1] at z; exact absurd z.1 (by decide))]; rfl) _ rfl
        rw [if_pos (by decide), q_rgN (show i < 9 by omega) (by decide), q_rgN (show row < 9 by omega) (by decide), ht.2.2 i (by omega), ht.2.2 row (by omega)]
        have hPi := hP i (by omega)
        have hPr := hP row (by omega)
        have hm2 := m_c2 ht.1
        rw [show d + (k + 1) + 3 = (d + (k + 1)) + 3 from rfl, m_mayFollow ht.1 hf (d + (k + 1)) hPi hPr]
        simp only [Option.bind_some, Option.toList_some, Option.toList_none, List.cons_append, List.nil_append]
        rw [B_X12_tracks_116, nI_1]
        have hcst : cost row i = if q_mf S (P i) (P row) then some (q_ap (q_cl2 (S 6 (P i))) (q_cl2 (S 6 (P row)))) else none := by
          rw [← hcost, cut_in (by omega) (by omega)]; rfl
        by_cases e2 : q_mf S (P i) (P row)
        rotate_left
        · rw [decide_eq_false e2, bI_f, if_pos rfl]
          exact skip (by unfold q_of q_opt; rw [hcst, if_neg e2]; split <;> rfl) _ rfl
        rw [if_pos e2] at hcst
        have hww := hW _ _ _ hcst
        have hL9 : nI (q_c24 used) < 9 := nI_lt (b := 9) (by omega) (by decide)
        have hof : q_of cost 9 R k row used i = some (q_ap (q_cl2 (S 6 (P i))) (q_cl2 (S 6 (P row))) + q_V cost 9 R k (row + 1) (used ||| 2 ^ i)) := by
          unfold q_of q_opt; rw [if_pos ⟨e1, hL9⟩, hcst]; rfl
        rw [mM_s hof, mH_s hof, decide_eq_true e2, bI_t, if_neg (by decide)]
        have fg : ∀ p j, p ≠ 139 → q_up g 139 row (g 138 i) p j = g p j := fun p j a => q_upN a
        have hwi := hf.2.2.1 _ hPi
        have hwr := hf.2.2.1 _ hPr
        generalize hw : q_ap (q_cl2 (S 6 (P i))) (q_cl2 (S 6 (P row))) = w at *
        obtain ⟨g1, r1, b1, y1, n1, l1, f1⟩ := ih (row + 1) (used ||| 2 ^ i) n (sum + w) K (q_up g 139 row (nI (P i))) (by omega) (or_lt512 hu (by omega)) (by rw [q_c24_or used i (by omega) e1]; omega) (by omega) (trs_fr ht (fun p j a b c => q_upN a)) (bk_fr hb (q_upN (by decide)) (q_upN (by decide)))
        have ht1 : q_trs g1 S N R P := trs_fr (trs_fr ht (fun p j a b c => q_upN (i := row) (v := nI (P i)) a)) f1
        obtain ⟨g2, r2, b2, y2, n2, l2, f2⟩ := iht (i + 1) _ g1 (by omega) ht1 b1
        have hap : ∀ h : Nat → Nat → Int32, q_sem (d + (k + 1) + 3) mX12_apart 0 [.int (S 6 (P i)), .int (S 6 (P row))] [] (q_K o h) = some (some (.int (nI w)), q_K o h) := fun h => by
          have := n_apart (o := o) (g := h) (d + (k + 1) + 1) hwi.1 hwr.1
          rw [hw] at this
          rw [hwi.2, hwr.2]; exact this
        have run : q_sem (d + (k + 1) + 4) mX12_tracks 116 [.ref 98, .int (nI row), .int (nI used), .int (nI n), .int (nI sum), .int (nI i)] [.int 1] (q_K o g) = some (none, q_K o g2) := by
          have r1' : q_sem (d + (k + 1) + 3) mX12_tracks 0 [.ref 98, .int (nI (row + 1)), .int (nI (used ||| 2 ^ i)), .int (nI n), .int (nI (sum + w)), .retAddr 0] [] (q_K o (q_up g 139 row (nI (P i)))) = some (none, q_K o g1) := r1
          rw [B_X12_tracks_116, if_neg (by decide)]
          simp only [q_rgN (show i < 9 by omega) (show 9 < 2 ^ 31 by decide), q_rgN (show row < 9 by omega) (show 9 < 2 ^ 31 by decide), fg _ _ (show 138 ≠ 139 by decide), fg _ _ (show 106 ≠ 139 by decide), ht.2.2 i (show i < R by omega), ht.2.2 row (show row < R by omega), q_upN (show 138 ≠ 139 by decide), q_upN (show 106 ≠ 139 by decide), q_rgN (show P i < 24 by omega) (show 24 < 2 ^ 31 by decide), q_rgN (show P row < 24 by omega) (show 24 < 2 ^ 31 by decide), nI_clamp (show P i < 2 ^ 31 by omega), m_f6 ht.1 hPi, m_f6 ht.1 hPr, hap, Option.bind_some, Option.toList_some, Option.toList_none, List.cons_append, List.nil_append, B_X12_tracks_171, nI_add, f_one i (show i < 24 by omega), nI_or (show used < 2 ^ 32 by omega) (Nat.pow_lt_pow_right (by decide) (show i < 32 by omega)), nI_1, r1', B_X12_tracks_175]
          exact r2
        refine ⟨g2, ?_, ?_, ?_, ?_, fun j hj => by rw [l2 j hj, l1 j (by omega), q_upJ (by omega)], fun p j a b c => by rw [f2 p j a b c, f1 p j a b c, q_upN a]⟩
        · have run2 := run
          rw [B_X12_tracks_116, if_neg (by decide)] at run2
          exact run2
        all_goals
          have hacc : 100000 * n + (sum + w) + q_V cost 9 R k (row + 1) (used ||| 2 ^ i) = 100000 * n + sum + (w + q_V cost 9 R k (row + 1) (used ||| 2 ^ i)) := by omega
          rw [hacc] at b1 y1 n1 b2 y2 n2
          generalize w + q_V cost 9 R k (row + 1) (used ||| 2 ^ i) = v at *
          generalize hmm : q_mM (q_of cost 9 R k row used) (100000 + q_V cost 9 R k (row + 1) used) t (i + 1) = m at *
          generalize 100000 * n + sum = A at *
        · have e : (if A + m < (if A + v < K then A + v else K) then A + m else (if A + v < K then A + v else K)) = (if A + min v m < K then A + min v m else K) := by
            by_cases q1 : A + v < K
            · rw [if_pos q1]
              by_cases q2 : A + m < A + v
              · rw [if_pos q2, if_pos (by omega)]; omega
              · rw [if_neg q2, if_pos (by omega)]; omega
            · rw [if_neg q1]
              by_cases q2 : A + m < K
              · rw [if_pos q2, if_pos (by omega)]; omega
              · rw [if_neg q2, if_neg (by omega)]
          rw [← e]; exact b2
        · intro z j hj
          by_cases c : v ≤ m
          · have q1 : A + v < K := by omega
            rw [if_pos q1] at y2 n2
            rw [if_pos c, n2 (by omega) j, y1 q1 j hj]
            unfold q_mQ
            by_cases q2 : j < row
            · rw [if_pos q2, if_pos (show j < row + 1 by omega), q_upJ (by omega)]
            · rw [if_neg q2]
              by_cases q3 : j = row
              · subst q3
                rw [if_pos (Nat.lt_succ_self _), q_upE, if_pos rfl]
                unfold q_val; rw [if_pos (show i < R by omega)]
              · rw [if_neg (by omega), if_neg q3, show q_nx R used i = used ||| 2 ^ i from if_pos (by omega)]
          · have q1 : A + m < (if A + v < K then A + v else K) := by split <;> omega
            rw [if_neg c, y2 q1 j hj]
            by_cases q2 : j < row
            · rw [if_pos q2, if_pos q2, l1 j (by omega), q_upJ (by omega)]
            · rw [if_neg q2, if_neg q2]
        · intro z j
          have q1 : ¬ A + v < K := by omega
          rw [if_neg q1] at n2
          rw [n2 (by omega) j, n1 q1 j, q_upN (by decide)]
    exact loop R 0 K g (by omega) ht hb
end TRK
