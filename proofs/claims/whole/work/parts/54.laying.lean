/-! laying -/
theorem R_scr {n : Nat} {g g2 : Nat → Nat → Int32} (hR : q_R n g) (ht : q_tis g2) (hg : ∀ p k, ¬ (72 ≤ p ∧ p < 94) → ¬ (138 ≤ p ∧ p ≠ 149) → ¬ (p = 98 ∧ 39 ≤ k ∧ k ≠ 68) → g2 p k = g p k) : q_R n g2 := by
  obtain ⟨⟨S, N, h1, h2, h3⟩, h4, h5, h6, h7, h8, h9⟩ := hR
  exact ⟨⟨S, N, repC_fr h1 (fun p j a b => hg _ _ (by omega) (by omega) (by omega)), m_fr h2 (fun p a b j => hg _ _ (by omega) (by omega) (by omega)), h3⟩, fnd_fr h4 (fun k => hg _ _ (by omega) (by omega) (by omega)) (fun k => hg _ _ (by omega) (by omega) (by omega)), shs_fr h5 (fun p j z => hg _ _ (by omega) (by omega) (by omega)), trc_fr h6 (fun p j a => hg _ _ (by omega) (by omega) (by omega)), img_fr h7 (fun p j a => hg _ _ (by omega) (by omega) (by omega)), gss_fr h8 (fun p j a => hg _ _ (by omega) (by omega) (by omega)), ht⟩
theorem tis_one {g g2 : Nat → Nat → Int32} {t M W R : Nat} (hq : (t, M, W) ∈ q_scr) (h : q_tis g) (h2 : q_ti g2 t M W R) (hg : ∀ p k, p ≠ t → p ≠ t + 1 → p ≠ 91 → g2 p k = g p k) : q_tis g2 := by
  intro q hq2
  by_cases e : q.1 = t
  · have : q = (t, M, W) := by
      simp only [q_scr, List.mem_cons, List.not_mem_nil, or_false] at hq hq2
      rcases hq2 with rfl | rfl | rfl | rfl | rfl | rfl | rfl | rfl | rfl <;> simp only [Prod.mk.injEq] at hq e ⊢ <;> omega
    subst this
    exact ⟨R, h2⟩
  · obtain ⟨R0, h0⟩ := h q hq2
    refine ⟨R0, ti_fr h0 (fun k => hg _ _ e ?_ ?_)⟩ <;> simp only [q_scr, List.mem_cons, List.not_mem_nil, or_false] at hq hq2 <;>
    rcases hq2 with rfl | rfl | rfl | rfl | rfl | rfl | rfl | rfl | rfl <;> simp only [Prod.mk.injEq] at hq ⊢ <;> omega
theorem q_tb92 : q_tb 92 8 1 := ⟨⟨by decide, rfl⟩, rfl, rfl, rfl, rfl, ⟨by decide, rfl, rfl⟩, by decide, by decide, by decide⟩
def q_sV (g : Nat → Nat → Int32) (s n : Nat) (M : Nat → Int32) : Prop := q_ti g 70 4 26 4 ∧ s < 4 ∧ n ≤ 24 ∧ g 71 (s * 26 + 1) = nI n ∧ ∀ i, i < 24 → g 71 (s * 26 + (2 + i)) = M i
def q_sM (g : Nat → Nat → Int32) (s n : Nat) (M : Nat → Int32) : Prop := s < 4 ∧ n ≤ 24 ∧ g 136 s = nI n ∧ ∀ i, i < 24 → g 137 (24 * s + i) = M i
theorem sV_fr {g g2 : Nat → Nat → Int32} {s n : Nat} {M : Nat → Int32} (h : q_sV g s n M) (hg : ∀ p k, p = 70 ∨ p = 71 → g2 p k = g p k) : q_sV g2 s n M := ⟨ti_fr h.1 (fun k => hg _ _ (by omega)), h.2.1, h.2.2.1, (hg _ _ (by omega)).trans h.2.2.2.1, fun i hi => (hg _ _ (by omega)).trans (h.2.2.2.2 i hi)⟩
theorem sM_fr {g g2 : Nat → Nat → Int32} {s n : Nat} {M : Nat → Int32} (h : q_sM g s n M) (hg : ∀ p k, p = 136 ∨ p = 137 → g2 p k = g p k) : q_sM g2 s n M := ⟨h.1, h.2.1, (hg _ _ (by omega)).trans h.2.2.1, fun i hi => (hg _ _ (by omega)).trans (h.2.2.2 i hi)⟩
def q_P (M C : Nat → Int32) (m c : Nat) : Bool := decide (nI (q_d2 (16 * q_cl2 (M (3 * m + 1)) + q_cl2 (M (3 * m))) (q_cl2 (C c))) ≤ M (3 * m + 2) * M (3 * m + 2))
def q_okm (M : Nat → Int32) (m : Nat) : Bool := q_in (M (3 * m)) 0 15 && (q_in (M (3 * m + 1)) 0 15 && q_in (M (3 * m + 2)) 1 15)
theorem q_in15 {v : Int32} (h : q_in v 0 15 = true) : ∃ c, c < 16 ∧ v = nI c := by
  obtain ⟨i, _, h2, rfl⟩ := q_in_t (a := 0) (b := 15) h (by decide) (by decide)
  exact ⟨i, by omega, rfl⟩
theorem q_okm_t {M : Nat → Int32} {m : Nat} (h : q_okm M m = true) : ∃ x y, x < 16 ∧ y < 16 ∧ M (3 * m) = nI x ∧ M (3 * m + 1) = nI y := by
  unfold q_okm at h
  rw [Bool.and_eq_true, Bool.and_eq_true] at h
  obtain ⟨x, hx, ex⟩ := q_in15 h.1
  obtain ⟨y, hy, ey⟩ := q_in15 h.2.1
  exact ⟨x, y, hx, hy, ex, ey⟩
theorem q_B_s (f : Nat → Bool) (n : Nat) : q_B f n ||| 2 ^ n = q_B f n + 2 ^ n := by
  have := Nat.two_pow_add_eq_or_of_lt (q_B_lt f n) 1
  rw [Nat.mul_one] at this
  rw [Nat.add_comm, this, Nat.or_comm]
theorem q_B_lt32 (f : Nat → Bool) {n : Nat} (h : n ≤ 24) : q_B f n < 2 ^ 24 := Nat.lt_of_lt_of_le (q_B_lt f n) (Nat.pow_le_pow_right (by decide) h)
def q_any (P : Nat → Nat → Bool) (s : Nat) : Nat → Nat → Bool
  | 0, _ => false
  | n + 1, c => q_any P s n c || (s.testBit n && P n c)
def q_wst (W : Nat → Nat) (s a : Nat) : Nat → Nat
  | 0 => a
  | j + 1 => if s.testBit j then min (q_wst W s a j) (W (q_clr s j)) else q_wst W s a j
def q_ch (V : Nat → Nat) (k : Int32) : Nat → Int32 × Int32
  | 0 => (-1, 0)
  | s + 1 => if nI (q_cnt (fun i => s.testBit i) 8) = k ∧ ¬ nI (V s) ≤ (q_ch V k s).1 then (nI (V s), nI s) else q_ch V k s
theorem q_wst_s (W : Nat → Nat) (s a j : Nat) : q_wst W s a (j + 1) = if s.testBit j then min (q_wst W s a j) (W (q_clr s j)) else q_wst W s a j := rfl
theorem q_ch_s (V : Nat → Nat) (k : Int32) (s : Nat) : q_ch V k (s + 1) = if nI (q_cnt (fun i => s.testBit i) 8) = k ∧ ¬ nI (V s) ≤ (q_ch V k s).1 then (nI (V s), nI s) else q_ch V k s := rfl
theorem q_wst_le {W : Nat → Nat} {s a : Nat} : ∀ n, q_wst W s a n ≤ a
  | 0 => Nat.le_refl _
  | n + 1 => by unfold q_wst; split; exact Nat.le_trans (Nat.min_le_left _ _) (q_wst_le n); exact q_wst_le n
theorem nI_min {x y : Nat} (hx : x < 2 ^ 31) (hy : y < 2 ^ 31) : (if nI x < nI y then nI x else nI y) = nI (min y x) := by
  by_cases h : x < y
  · rw [if_pos (nI_lt h hy), Nat.min_eq_right (by omega)]
  · rw [if_neg (nI_nlt (by omega) hx), Nat.min_eq_left (by omega)]
theorem q_wst_eq {W : Nat → Nat} (hW : ∀ t, W t ≤ 24) {s : Nat} {a : Nat} (ha : 24 ≤ a) : ∀ n, q_wst W s 24 n = q_wst W s a n ∨ (q_wst W s 24 n = 24 ∧ q_wst W s a n = a ∧ ∀ i, i < n → s.testBit i = false)
  | 0 => Or.inr ⟨rfl, rfl, fun i hi => by omega⟩
  | n + 1 => by
    unfold q_wst
    have hw := hW (q_clr s n)
    cases e : s.testBit n
    · simp only [Bool.false_eq_true, ↓reduceIte]
      rcases q_wst_eq hW ha (s := s) n with h | ⟨h1, h2, h3⟩
      · exact Or.inl h
      · refine Or.inr ⟨h1, h2, fun i hi => ?_⟩
        by_cases q : i = n
        · rw [q, e]
        · exact h3 i (by omega)
    · simp only [↓reduceIte]
      rcases q_wst_eq hW ha (s := s) n with h | ⟨h1, h2, h3⟩
      · rw [h]; exact Or.inl rfl
      · rw [h1, h2]; left; omega
theorem q_cnt_0 {f : Nat → Bool} : ∀ n, (∀ i, i < n → f i = false) → q_cnt f n = 0
  | 0, _ => rfl
  | n + 1, h => by unfold q_cnt; rw [q_cnt_0 n (fun i hi => h i (by omega)), h n (by omega)]; rfl
theorem q_ch_eq {W : Nat → Nat} (hW : ∀ t, W t ≤ 24) {n : Nat} (hn : n ≤ 8) {k : Int32} (hk : k ≠ 0) {a : Nat} (ha : 24 ≤ a) : ∀ s, s ≤ 2 ^ n → q_ch (fun s => q_wst W s 24 n) k s = q_ch (fun s => q_wst W s a n) k s
  | 0, _ => rfl
  | s + 1, hs => by
    unfold q_ch
    rw [q_ch_eq hW hn hk ha s (by omega)]
    by_cases h : nI (q_cnt (fun i => s.testBit i) 8) = k
    · have e : q_wst W s 24 n = q_wst W s a n := by
        rcases q_wst_eq hW ha (s := s) n with h1 | ⟨_, _, h3⟩
        · exact h1
        · refine absurd ?_ hk
          rw [← h, q_cnt_0 8 (fun i _ => ?_)]
          · rfl
          · by_cases q : i < n
            · exact h3 i q
            · exact Nat.testBit_lt_two_pow (Nat.lt_of_lt_of_le (show s < 2 ^ n by omega) (Nat.pow_le_pow_right (by decide) (by omega)))
      rw [e]
    · rw [if_neg (fun z => h z.1), if_neg (fun z => h z.1)]
theorem q_any_ge {P : Nat → Nat → Bool} {t N c : Nat} (h : ∀ j, N ≤ j → t.testBit j = false) : ∀ k, q_any P t (N + k) c = q_any P t N c
  | 0 => rfl
  | k + 1 => by
    show (q_any P t (N + k) c || (t.testBit (N + k) && P (N + k) c)) = _
    rw [h _ (by omega), q_any_ge h k]
    simp
theorem q_d2_comm (a b : Nat) : q_d2 a b = q_d2 b a := by
  have : ∀ x y, q_df x y = q_df y x := by
    intro x y; unfold q_df; split <;> split <;> omega
  unfold q_d2
  rw [this (a % 16), this (a / 16)]
section LAY
variable {o : q_H} {g : Nat → Nat → Int32} {s n nc N : Nat} {M C : Nat → Int32}
theorem z_sizeS (h : q_sV g s n M) (d : Nat) : q_sem (d + 2) mX6_size 0 [.ref 69, .int (nI s)] [] (q_K o g) = some (some (.int (nI n)), q_K o g) := by rw [x_size h.1 h.2.1, h.2.2.2.1]
theorem z_getS (h : q_sV g s n M) {i : Nat} (hi : i < n) (d : Nat) : q_sem (d + 3) mX6_get 0 [.ref 69, .int (nI s), .int (nI i)] [] (q_K o g) = some (some (.int (M i)), q_K o g) := by rw [x_get h.1 h.2.1 h.2.2.1 h.2.2.2.1 hi, h.2.2.2.2 i (by have := h.2.2.1; omega)]
theorem z_seenL (h : q_sV g s nc C) (hC : ∀ i, i < nc → q_in (C i) 0 255 = true) {a : Nat} (ha : a < 256) (r : Int32) (d : Nat) : ∀ k i, i + k = nc → q_sem (d + 4) mX0_seen 6 [.ref 69, .int (nI s), .int (nI a), .int r, .int (nI (q_B (fun c => decide (nI (q_d2 a (q_cl2 (C c))) ≤ r * r)) i)), .int (nI i)] [] (q_K o g) = some (some (.int (nI (q_B (fun c => decide (nI (q_d2 a (q_cl2 (C c))) ≤ r * r)) nc))), q_K o g) := by
  intro k
  have hn := h.2.2.1
  induction k with
  | zero =>
    intro i hi
    have c1 : nI nc ≤ nI i := nI_le (by omega) (by omega)
    rw [B_X0_seen_6]
    simp only [z_sizeS h, Option.bind_some, Option.toList_some, Option.toList_none, List.cons_append, List.nil_append, B_X0_seen_13, c1, ↓reduceIte]
    rw [show i = nc by omega]
  | succ k ih =>
    intro i hi
    have c1 : ¬ nI nc ≤ nI i := nI_ge (by omega) (by omega)
    obtain ⟨c, hc, ec⟩ := q_inc_t (hC i (by omega))
    have ecl : q_cl2 (C i) = c := by rw [ec]; exact nI_clamp (by omega)
    have hb := q_B_lt32 (fun c => decide (nI (q_d2 a (q_cl2 (C c))) ≤ r * r)) (show i ≤ 24 by omega)
    have hp : 2 ^ i < 2 ^ 32 := Nat.pow_lt_pow_right (by decide) (by omega)
    have ih0 := ih (i + 1) (by omega)
    rw [B_X0_seen_6]
    simp only [z_sizeS h, Option.bind_some, Option.toList_some, Option.toList_none, List.cons_append, List.nil_append, B_X0_seen_13, c1, ↓reduceIte, z_getS h (show i < nc by omega)]
    rw [ec]
    simp only [Option.bind_some, Option.toList_some, Option.toList_none, List.cons_append, List.nil_append, B_X0_seen_24, s_reaches _ ha hc, bI_d, B_X0_seen_28, nI_1, f_one i (by omega)]
    cases e : decide (nI (q_d2 a c) ≤ r * r)
    · have : q_B (fun c => decide (nI (q_d2 a (q_cl2 (C c))) ≤ r * r)) (i + 1) = q_B (fun c => decide (nI (q_d2 a (q_cl2 (C c))) ≤ r * r)) i := by
        show _ + (if decide (nI (q_d2 a (q_cl2 (C i))) ≤ r * r) = true then 2 ^ i else 0) = _
        rw [ecl, e]; rfl
      rw [this] at ih0
      rw [bI_f, if_pos rfl]
      exact ih0
    · have : q_B (fun c => decide (nI (q_d2 a (q_cl2 (C c))) ≤ r * r)) (i + 1) = q_B (fun c => decide (nI (q_d2 a (q_cl2 (C c))) ≤ r * r)) i + 2 ^ i := by
        show _ + (if decide (nI (q_d2 a (q_cl2 (C i))) ≤ r * r) = true then 2 ^ i else 0) = _
        rw [ecl, e]; rfl
      rw [this] at ih0
      rw [bI_t, if_neg (by decide), nI_or (by omega) hp, q_B_s]
      exact ih0
theorem z_seen (h : q_sV g s nc C) (hC : ∀ i, i < nc → q_in (C i) 0 255 = true) {a : Nat} (ha : a < 256) (r : Int32) (d : Nat) : q_sem (d + 4) mX0_seen 0 [.ref 69, .int (nI s), .int (nI a), .int r, .retAddr 0, .retAddr 0] [] (q_K o g) = some (some (.int (nI (q_B (fun c => decide (nI (q_d2 a (q_cl2 (C c))) ≤ r * r)) nc))), q_K o g) := by
  rw [B_X0_seen_0]; exact z_seenL h hC ha r d nc 0 (by omega)
theorem z_togL {P : Nat → Nat → Bool} {N : Nat} (ht : q_ti g 92 8 1 N) (hP : ∀ m, m < N → g 93 m = nI (q_B (P m) nc)) (hnc : nc ≤ 24) {s : Nat} (hs : s < 256) (d : Nat) : ∀ k j, j + k = N → q_sem (d + 2) mX0_together 4 [.ref 91, .int (nI s), .int (nI (q_B (fun c => q_any P s j c) nc)), .int (nI j)] [] (q_K o g) = some (some (.int (nI (q_B (fun c => q_any P s N c) nc))), q_K o g) := by
  intro k
  have hN := ht.2.2.2
  induction k with
  | zero =>
    intro j hj
    have c1 : nI N ≤ nI j := nI_le (by omega) (by omega)
    rw [B_X0_together_4, s_size d q_tb92, ht.2.2.1]
    simp only [Option.bind_some, Option.toList_some, Option.toList_none, List.cons_append, List.nil_append, B_X0_together_12, c1, ↓reduceIte]
    rw [show j = N by omega]
  | succ k ih =>
    intro j hj
    have c1 : ¬ nI N ≤ nI j := nI_ge (by omega) (by omega)
    have ih0 := ih (j + 1) (by omega)
    have hb := q_B_lt32 (fun c => q_any P s j c) hnc
    have hb2 := q_B_lt32 (P j) hnc
    rw [B_X0_together_4, s_size d q_tb92, ht.2.2.1]
    simp only [Option.bind_some, Option.toList_some, Option.toList_none, List.cons_append, List.nil_append, B_X0_together_12, c1, ↓reduceIte, f_bit s hs j (by omega), nI_1]
    cases e : s.testBit j
    · have : (fun c => q_any P s (j + 1) c) = fun c => q_any P s j c := by funext c; simp [q_any, e]
      rw [this] at ih0
      rw [if_pos (show nI (if false = true then 1 else 0) = 0 by decide), show (0 : Int32) = nI 0 from rfl, nI_or (by omega) (by decide), Nat.or_zero]
      exact ih0
    · have : (fun c => q_any P s (j + 1) c) = fun c => q_any P s j c || P j c := by funext c; simp [q_any, e]
      rw [this] at ih0
      have hg := s_get (o := o) d q_tb92 ht (nI j) (nI 0)
      rw [q_gt_in (by omega) (by decide) (by omega) (by decide), Nat.mul_one, show g (92 + 1) (j + 0) = _ from hP j (by omega)] at hg
      rw [if_neg (show ¬ nI (if true = true then 1 else 0) = 0 by decide), show (0 : Int32) = nI 0 from rfl, hg]
      simp only [Option.bind_some, Option.toList_some, Option.toList_none, List.cons_append, List.nil_append, B_X0_together_33, nI_1, nI_or (show q_B (fun c => q_any P s j c) nc < 2 ^ 32 by omega) (show q_B (P j) nc < 2 ^ 32 by omega), q_B_or]
      exact ih0
theorem z_tog {P : Nat → Nat → Bool} {N : Nat} (ht : q_ti g 92 8 1 N) (hP : ∀ m, m < N → g 93 m = nI (q_B (P m) nc)) (hnc : nc ≤ 24) {s : Nat} (hs : s < 256) (d : Nat) : q_sem (d + 2) mX0_together 0 [.ref 91, .int (nI s), .retAddr 0, .retAddr 0] [] (q_K o g) = some (some (.int (nI (q_B (fun c => q_any P s N c) nc))), q_K o g) := by
  rw [B_X0_together_0]
  have h0 : ∀ n, q_B (fun _ => false) n = 0 := by
    intro n
    induction n with
    | zero => rfl
    | succ n ih => unfold q_B; rw [ih]; rfl
  have := z_togL (o := o) ht hP hnc hs d N 0 (by omega)
  rw [show (fun c => q_any P s 0 c) = fun _ => false from rfl, h0] at this
  exact this
theorem z_wstL {P : Nat → Nat → Bool} {N : Nat} (ht : q_ti g 92 8 1 N) (hP : ∀ m, m < N → g 93 m = nI (q_B (P m) nc)) (hnc : nc ≤ 24) {s : Nat} (hs : s < 256) (d : Nat) : ∀ k j, j + k = N → q_sem (d + 3) mX0_worst 5 [.ref 91, .int (nI s), .int (nI (q_wst (fun t => q_cnt (fun c => q_any P t N c) nc) s 24 j)), .int (nI j)] [] (q_K o g) = some (some (.int (nI (q_wst (fun t => q_cnt (fun c => q_any P t N c) nc) s 24 N))), q_K o g) := by
  intro k
  have hN := ht.2.2.2
  induction k with
  | zero =>
    intro j hj
    have c1 : nI N ≤ nI j := nI_le (by omega) (by omega)
    rw [B_X0_worst_5, s_size (d + 1) q_tb92, ht.2.2.1]
    simp only [Option.bind_some, Option.toList_some, Option.toList_none, List.cons_append, List.nil_append, B_X0_worst_13, c1, ↓reduceIte]
    rw [show j = N by omega]
  | succ k ih =>
    intro j hj
    have c1 : ¬ nI N ≤ nI j := nI_ge (by omega) (by omega)
    have ih0 := ih (j + 1) (by omega)
    rw [q_wst_s] at ih0
    have hcl := f_clr s hs j (by omega)
    have hb := q_B_lt32 (fun c => q_any P (q_clr s j) N c) hnc
    rw [B_X0_worst_5, s_size (d + 1) q_tb92, ht.2.2.1]
    simp only [Option.bind_some, Option.toList_some, Option.toList_none, List.cons_append, List.nil_append, B_X0_worst_13, c1, ↓reduceIte, f_bit s hs j (by omega), nI_1, hcl.1, z_tog ht hP hnc (show q_clr s j < 256 by omega), B_X0_worst_36, z_bitCount _ hb, q_B_cnt hnc, B_X0_worst_39]
    cases e : s.testBit j
    · rw [e, if_neg (by decide)] at ih0
      rw [if_pos (show nI (if false = true then 1 else 0) = 0 by decide)]
      exact ih0
    · rw [e, if_pos rfl] at ih0
      have h1 := q_wst_le (W := fun t => q_cnt (fun c => q_any P t N c) nc) (s := s) (a := 24) j
      have h2 := q_cnt_le (fun c => q_any P (q_clr s j) N c) nc
      rw [if_neg (show ¬ nI (if true = true then 1 else 0) = 0 by decide), nI_min (by omega) (by omega)]
      exact ih0
theorem z_wst {P : Nat → Nat → Bool} {N : Nat} (ht : q_ti g 92 8 1 N) (hP : ∀ m, m < N → g 93 m = nI (q_B (P m) nc)) (hnc : nc ≤ 24) {s : Nat} (hs : s < 256) (d : Nat) : q_sem (d + 3) mX0_worst 0 [.ref 91, .int (nI s), .retAddr 0, .retAddr 0] [] (q_K o g) = some (some (.int (nI (q_wst (fun t => q_cnt (fun c => q_any P t N c) nc) s 24 N))), q_K o g) := by
  rw [B_X0_worst_0]
  exact z_wstL ht hP hnc hs d N 0 (by omega)
theorem z_chL {P : Nat → Nat → Bool} {N : Nat} (hnc : nc ≤ 24) (hN : N ≤ 8) (x1 : Int32) (d : Nat) : ∀ k s, s + k = 2 ^ N → ∀ g : Nat → Nat → Int32, q_ti g 92 8 1 N → (∀ m, m < N → g 93 m = nI (q_B (P m) nc)) → g 91 1 = (q_ch (fun s => q_wst (fun t => q_cnt (fun c => q_any P t N c) nc) s 24 N) x1 s).1 → g 91 2 = (q_ch (fun s => q_wst (fun t => q_cnt (fun c => q_any P t N c) nc) s 24 N) x1 s).2 → ∃ g2, q_sem (d + 4) mX0_choose 12 [.ref 91, .int x1, .int (nI s)] [] (q_K o g) = some (none, q_K o g2) ∧ g2 91 1 = (q_ch (fun s => q_wst (fun t => q_cnt (fun c => q_any P t N c) nc) s 24 N) x1 (2 ^ N)).1 ∧ g2 91 2 = (q_ch (fun s => q_wst (fun t => q_cnt (fun c => q_any P t N c) nc) s 24 N) x1 (2 ^ N)).2 ∧ ∀ p j, p ≠ 91 → g2 p j = g p j := by
  generalize hV : (fun s => q_wst (fun t => q_cnt (fun c => q_any P t N c) nc) s 24 N) = V
  have hVs : ∀ s, V s = q_wst (fun t => q_cnt (fun c => q_any P t N c) nc) s 24 N := fun s => by rw [← hV]
  have hp : (1 : Int32) <<< (nI N &&& 31) = nI (2 ^ N) := f_one N (by omega)
  have h256 : 2 ^ N ≤ 2 ^ 8 := Nat.pow_le_pow_right (by decide) hN
  intro k
  induction k with
  | zero =>
    intro s hs g ht hP h1 h2
    have c1 : nI (2 ^ N) ≤ nI s := nI_le (by omega) (by omega)
    refine ⟨g, ?_, by rw [h1, show s = 2 ^ N by omega], by rw [h2, show s = 2 ^ N by omega], fun _ _ _ => rfl⟩
    rw [B_X0_choose_12, s_size (d + 2) q_tb92, ht.2.2.1]
    simp only [Option.bind_some, Option.toList_some, Option.toList_none, List.cons_append, List.nil_append, B_X0_choose_21, hp, c1, ↓reduceIte]
  | succ k ih =>
    intro s hs g ht hP h1 h2
    have c1 : ¬ nI (2 ^ N) ≤ nI s := nI_ge (by omega) (by omega)
    have hs8 : s < 256 := by omega
    have hw := fun d => z_wst (o := o) ht hP hnc hs8 d
    rw [← hVs] at hw
    by_cases e1 : nI (q_cnt (fun i => s.testBit i) 8) = x1
    · by_cases e2 : nI (V s) ≤ (q_ch V x1 s).1
      · obtain ⟨g2, e3, h3, h4, f3⟩ := ih (s + 1) (by omega) g ht hP (by rw [h1, q_ch_s, if_neg (fun z => z.2 e2)]) (by rw [h2, q_ch_s, if_neg (fun z => z.2 e2)])
        refine ⟨g2, ?_, h3, h4, f3⟩
        rw [B_X0_choose_12, s_size (d + 2) q_tb92, ht.2.2.1]
        simp only [Option.bind_some, Option.toList_some, Option.toList_none, List.cons_append, List.nil_append, B_X0_choose_21, hp, c1, ↓reduceIte, z_bitCount8 _ hs8, B_X0_choose_29, e1, hw, B_X0_choose_38, h1, e2, nI_1]
        exact e3
      · obtain ⟨g2, e3, h3, h4, f3⟩ := ih (s + 1) (by omega) (q_up (q_up g 91 1 (nI (V s))) 91 2 (nI s)) (ti_fr ht (fun k => by rw [q_upN (by decide), q_upN (by decide)])) (fun m hm => by rw [q_upN (by decide), q_upN (by decide)]; exact hP m hm) (by rw [q_upJ (by decide), q_upE, q_ch_s, if_pos ⟨e1, e2⟩]) (by rw [q_upE, q_ch_s, if_pos ⟨e1, e2⟩])
        refine ⟨g2, ?_, h3, h4, fun p j h => by rw [f3 p j h, q_upN h, q_upN h]⟩
        rw [B_X0_choose_12, s_size (d + 2) q_tb92, ht.2.2.1]
        simp only [Option.bind_some, Option.toList_some, Option.toList_none, List.cons_append, List.nil_append, B_X0_choose_21, hp, c1, ↓reduceIte, z_bitCount8 _ hs8, B_X0_choose_29, e1, hw, B_X0_choose_38, h1, e2, B_X0_choose_51, nI_1]
        exact e3
    · obtain ⟨g2, e3, h3, h4, f3⟩ := ih (s + 1) (by omega) g ht hP (by rw [h1, q_ch_s, if_neg (fun z => e1 z.1)]) (by rw [h2, q_ch_s, if_neg (fun z => e1 z.1)])
      refine ⟨g2, ?_, h3, h4, f3⟩
      rw [B_X0_choose_12, s_size (d + 2) q_tb92, ht.2.2.1]
      simp only [Option.bind_some, Option.toList_some, Option.toList_none, List.cons_append, List.nil_append, B_X0_choose_21, hp, c1, ↓reduceIte, z_bitCount8 _ hs8, B_X0_choose_29, e1, nI_1]
      exact e3
end LAY
