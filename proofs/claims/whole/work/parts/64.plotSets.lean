/-! the plots of a set -/
theorem cnt_mono (f : Nat → Bool) {a b : Nat} (h : a ≤ b) : q_cnt f a ≤ q_cnt f b := by
  obtain ⟨m, rfl⟩ := Nat.le.dest h
  rw [q_cnt_add]; omega
theorem cnt_s (f : Nat → Bool) (n : Nat) : q_cnt f (n + 1) = q_cnt f n + if f n then 1 else 0 := rfl
def q_pos (f : Nat → Bool) (n i : Nat) : Nat := q_fst (fun q => f q && decide (q_cnt f q = i)) n 0
theorem pos_ex (f : Nat → Bool) : ∀ n i, i < q_cnt f n → ∃ q, q < n ∧ f q = true ∧ q_cnt f q = i
  | 0, i, h => by unfold q_cnt at h; omega
  | n + 1, i, h => by
    rw [cnt_s] at h
    by_cases c : i < q_cnt f n
    · obtain ⟨q, a, b, e⟩ := pos_ex f n i c
      exact ⟨q, by omega, b, e⟩
    · cases e : f n
      · rw [e, if_neg (by decide)] at h; omega
      · rw [e, if_pos rfl] at h
        exact ⟨n, Nat.lt_succ_self _, e, by omega⟩
theorem pos_spec {f : Nat → Bool} {n i : Nat} (h : i < q_cnt f n) : q_pos f n i < n ∧ f (q_pos f n i) = true ∧ q_cnt f (q_pos f n i) = i := by
  obtain ⟨q, a, b, e⟩ := pos_ex f n i h
  have h1 := q_fst_ex (fun q => f q && decide (q_cnt f q = i)) n 0 q (Nat.zero_le _) (by omega) (by simp [b, e])
  have h2 := q_fst_t _ n 0 h1
  rw [Nat.zero_add] at h1
  rw [Bool.and_eq_true] at h2
  exact ⟨h1, h2.1, of_decide_eq_true h2.2⟩
theorem pos_of {f : Nat → Bool} {n q : Nat} (hq : q < n) (hf : f q = true) : q_pos f n (q_cnt f q) = q := by
  have hlt : q_cnt f q < q_cnt f n := by
    have := cnt_mono f (show q + 1 ≤ n by omega)
    rw [cnt_s, hf, if_pos rfl] at this
    omega
  obtain ⟨a, b, c⟩ := pos_spec hlt
  rcases Nat.lt_trichotomy (q_pos f n (q_cnt f q)) q with h | h | h
  · have := cnt_mono f (show q_pos f n (q_cnt f q) + 1 ≤ q by omega)
    rw [cnt_s, b, if_pos rfl] at this
    omega
  · exact h
  · have := cnt_mono f (show q + 1 ≤ q_pos f n (q_cnt f q) by omega)
    rw [cnt_s, hf, if_pos rfl] at this
    omega
theorem c24_n {s n : Nat} (hs : s < 2 ^ n) (hn : n ≤ 24) : q_c24 s = q_cnt (fun i => s.testBit i) n := by
  obtain ⟨m, hm⟩ := Nat.le.dest hn
  unfold q_c24
  rw [← hm, q_cnt_add, q_cnt_0 m (fun i _ => Nat.testBit_lt_two_pow (Nat.lt_of_lt_of_le hs (Nat.pow_le_pow_right (by decide) (by omega)))), Nat.add_zero]
def q_fol (S : Nat → Nat → Int32) (P : Nat → Nat) (r c : Nat) : Option Nat := if q_mf S (P c) (P r) then some (q_ap (q_cl2 (S 6 (P c))) (q_cl2 (S 6 (P r)))) else none
theorem df_lt {x y : Nat} (hx : x < 16) (hy : y < 16) : q_df x y < 16 := by unfold q_df; split <;> omega
theorem ap_lt {a b : Nat} (ha : a < 256) (hb : b < 256) : q_ap a b ≤ 15 := by
  unfold q_ap
  have h1 := df_lt (show a % 16 < 16 by omega) (show b % 16 < 16 by omega)
  have h2 := df_lt (show a / 16 < 16 by omega) (show b / 16 < 16 by omega)
  omega
theorem fol_le {S : Nat → Nat → Int32} {N : Nat → Nat} (hf : q_wf S N) {P : Nat → Nat} {R : Nat} (hP : ∀ i, i < R → P i < N 2) {r c w : Nat} (hr : r < R) (hc : c < R) (h : q_fol S P r c = some w) : w ≤ 15 := by
  unfold q_fol at h
  split at h
  · rw [← Option.some.inj h]
    exact ap_lt (hf.2.2.1 _ (hP c hc)).1 (hf.2.2.1 _ (hP r hr)).1
  · simp at h
/-- cut to the rows and columns that are there -/
def q_cut (R C : Nat) (f : Nat → Nat → Option Nat) (r c : Nat) : Option Nat := if r < R ∧ c < C then f r c else none
theorem cut_in {R C : Nat} {f : Nat → Nat → Option Nat} {r c : Nat} (hr : r < R) (hc : c < C) : q_cut R C f r c = f r c := if_pos ⟨hr, hc⟩
section MPL
variable {o : q_H} {g S : Nat → Nat → Int32} {N : Nat → Nat}
theorem z_isIn {s p : Nat} (hs : s < 2 ^ 24) (hp : p < 32) (d : Nat) : q_sem (d + 2) mX11_isIn 0 [.int (nI s), .int (nI p)] [] (q_K o g) = some (some (.int (bI (s.testBit p))), q_K o g) := by
  have h1 : q_in (nI p) 0 31 = true := by
    have : ∀ p, p < 32 → q_in (nI p) 0 31 = true := by decide +kernel
    exact this p hp
  rw [B_X11_isIn_0, z_within, h1]
  simp only [Option.bind_some, Option.toList_some, Option.toList_none, List.cons_append, List.nil_append, B_X11_isIn_7, bI_t, i10, ↓reduceIte, ubit24 hs hp]
  cases s.testBit p <;> rfl
theorem z_isInO {x y : Int32} (h1 : q_in y 0 31 = false) (d : Nat) : q_sem (d + 2) mX11_isIn 0 [.int x, .int y] [] (q_K o g) = some (some (.int 0), q_K o g) := by
  rw [B_X11_isIn_0, z_within, h1]
  simp only [Option.bind_some, Option.toList_some, Option.toList_none, List.cons_append, List.nil_append, B_X11_isIn_7, bI_f, i00, ↓reduceIte]
theorem z_mbegin {R0 R1 R2 : Nat} (h0 : q_ti g 73 9 1 R0) (h1 : q_ti g 75 9 1 R1) (h2 : q_ti g 77 9 9 R2) (d : Nat) : ∃ g2, q_sem (d + 3) mX1_begin 0 [.ref 72, .retAddr 0, .retAddr 0] [] (q_K o g) = some (none, q_K o g2) ∧ q_ti g2 73 9 1 0 ∧ q_ti g2 75 9 1 0 ∧ q_ti g2 77 9 9 9 ∧ (∀ r c, r < 9 → c < 9 → g2 78 (r * 9 + c) = -1) ∧ ∀ p j, ¬ (73 ≤ p ∧ p < 79) → g2 p j = g p j := by
  have inner : ∀ r, r < 9 → ∀ t c (g : Nat → Nat → Int32), c + t = 9 → q_ti g 77 9 9 (r + 1) → (∀ x, x < c → g 78 (r * 9 + x) = -1) → ∃ g2, q_sem (d + 3) mX1_begin 40 [.ref 72, .int (nI r), .int (nI c)] [] (q_K o g) = q_sem (d + 3) mX1_begin 23 [.ref 72, .int (nI (r + 1)), .int 9] [] (q_K o g2) ∧ (∀ x, x < 9 → g2 78 (r * 9 + x) = -1) ∧ ∀ p j, ¬ (p = 78 ∧ r * 9 ≤ j ∧ j < r * 9 + 9) → g2 p j = g p j := by
    intro r hr t
    induction t with
    | zero =>
      intro c g hc ht hv
      obtain rfl : c = 9 := by omega
      exact ⟨g, by rw [B_X1_begin_40, if_pos (by decide), nI_1]; rfl, hv, fun _ _ _ => rfl⟩
    | succ t ih =>
      intro c g hc ht hv
      have c1 : ¬ (9 : Int32) ≤ nI c := nI_ge (b := 9) (by omega) (by decide)
      obtain ⟨g2, e2, v2, f2⟩ := ih (c + 1) (q_up g 78 (r * 9 + c) (-1)) (by omega) (ti_fr ht (fun k => q_upN (by decide))) (fun x hx => by
        by_cases q : x = c
        · rw [q, q_upE]
        · rw [q_upJ (by omega)]; exact hv x (by omega))
      refine ⟨g2, ?_, v2, fun p j a => by rw [f2 p j a, q_up_ne (by omega)]⟩
      rw [B_X1_begin_40, if_neg c1, z_wrT q_tb77 ht (show r < r + 1 by omega) (show c < 9 by omega)]
      simp only [Option.bind_some, Option.toList_some, Option.toList_none, List.cons_append, List.nil_append, B_X1_begin_56, nI_1]
      exact e2
  have outer : ∀ t r (g : Nat → Nat → Int32) (v : Value), r + t = 9 → q_ti g 77 9 9 r → (∀ x y, x < r → y < 9 → g 78 (x * 9 + y) = -1) → (v = .retAddr 0 ∨ ∃ z, v = .int z) → ∃ g2, q_sem (d + 3) mX1_begin 23 [.ref 72, .int (nI r), v] [] (q_K o g) = some (none, q_K o g2) ∧ q_ti g2 77 9 9 9 ∧ (∀ r c, r < 9 → c < 9 → g2 78 (r * 9 + c) = -1) ∧ ∀ p j, p ≠ 77 → p ≠ 78 → g2 p j = g p j := by
    intro t
    induction t with
    | zero =>
      intro r g v hr ht hv hx
      obtain rfl : r = 9 := by omega
      refine ⟨g, ?_, ht, hv, fun _ _ _ _ => rfl⟩
      rcases hx with rfl | ⟨z, rfl⟩
      · rw [B_X1_begin_23, if_pos (by decide)]
      · rw [B_X1_begin_23a, if_pos (by decide)]
    | succ t ih =>
      intro r g v hr ht hv hx
      have c1 : ¬ (9 : Int32) ≤ nI r := nI_ge (b := 9) (by omega) (by decide)
      obtain ⟨g1, y, e1, t1, _, f1⟩ := z_addT (o := o) q_tb77 ht (by omega) (-1) d
      obtain ⟨g2, e2, v2, f2⟩ := inner r (by omega) 9 0 g1 (by omega) t1 (fun x hx => by omega)
      obtain ⟨g3, e3, t3, v3, f3⟩ := ih (r + 1) g2 (.int 9) (by omega) (ti_fr t1 (fun k => f2 _ _ (by omega))) (fun x y hx hy => by
        by_cases q : x = r
        · rw [q]; exact v2 y hy
        · rw [f2 _ _ (by omega), f1 _ _ (by omega) (by omega)]; exact hv x y (by omega) hy) (Or.inr ⟨_, rfl⟩)
      have e4 := e2.trans e3
      refine ⟨g3, ?_, t3, v3, fun p j a b => by rw [f3 p j a b, f2 _ _ (by omega), f1 _ _ (by omega) (by omega)]⟩
      rcases hx with rfl | ⟨z, rfl⟩
      · rw [B_X1_begin_23, if_neg c1, e1]
        simp only [Option.bind_some, Option.toList_some, Option.toList_none, List.cons_append, List.nil_append, B_X1_begin_37]
        exact e4
      · rw [B_X1_begin_23a, if_neg c1, e1]
        simp only [Option.bind_some, Option.toList_some, Option.toList_none, List.cons_append, List.nil_append, B_X1_begin_37a]
        exact e4
  have fu : ∀ p j, p ≠ 73 → p ≠ 75 → p ≠ 77 → q_up (q_up (q_up g 73 3 0) 75 3 0) 77 3 0 p j = g p j := fun p j a b c => by rw [q_upN c, q_upN b, q_upN a]
  obtain ⟨g2, e2, t2, v2, f2⟩ := outer 9 0 (q_up (q_up (q_up g 73 3 0) 75 3 0) 77 3 0) (.retAddr 0) (by omega) ⟨by rw [q_upJ (by decide), q_upN (by decide), q_upN (by decide)]; exact h2.1, by rw [q_upJ (by decide), q_upN (by decide), q_upN (by decide)]; exact h2.2.1, by rw [q_upE]; rfl, by omega⟩ (fun x y a => by omega) (Or.inl rfl)
  refine ⟨g2, ?_, ⟨?_, ?_, ?_, by omega⟩, ⟨?_, ?_, ?_, by omega⟩, t2, v2, fun p j a => by rw [f2 p j (by omega) (by omega), fu p j (by omega) (by omega) (by omega)]⟩
  · simp only [B_X1_begin_0, s_clear _ q_tb73, Option.bind_some, Option.toList_some, Option.toList_none, List.cons_append, List.nil_append, B_X1_begin_7, s_clear _ q_tb75, B_X1_begin_14, s_clear _ q_tb77, B_X1_begin_21]
    exact e2
  · rw [f2 _ _ (by decide) (by decide), q_upN (by decide), q_upN (by decide), q_upJ (by decide)]; exact h0.1
  · rw [f2 _ _ (by decide) (by decide), q_upN (by decide), q_upN (by decide), q_upJ (by decide)]; exact h0.2.1
  · rw [f2 _ _ (by decide) (by decide), q_upN (by decide), q_upN (by decide), q_upE]; rfl
  · rw [f2 _ _ (by decide) (by decide), q_upN (by decide), q_upJ (by decide), q_upN (by decide)]; exact h1.1
  · rw [f2 _ _ (by decide) (by decide), q_upN (by decide), q_upJ (by decide), q_upN (by decide)]; exact h1.2.1
  · rw [f2 _ _ (by decide) (by decide), q_upN (by decide), q_upE]; rfl
/-- rows and columns of plots -/
theorem z_mpA (hr : repC 1 g S N) (hN : N 2 ≤ 24) {s : Nat} (hs : s < 2 ^ 24) (hR : q_cnt (fun i => s.testBit i) (N 2) ≤ 9) (d : Nat) : ∀ t p (g : Nat → Nat → Int32), p + t = N 2 → repC 1 g S N → q_ti g 73 9 1 (q_cnt (fun i => s.testBit i) p) → q_ti g 75 9 1 (q_cnt (fun i => s.testBit i) p) → (∀ i, i < q_cnt (fun i => s.testBit i) p → g 74 i = nI (q_pos (fun i => s.testBit i) (N 2) i) ∧ g 76 i = nI (q_pos (fun i => s.testBit i) (N 2) i)) → ∃ g2, q_sem (d + 5) mX11_matchPlots 9 [.ref 0, .int (nI s), .int (nI p), .retAddr 0, .retAddr 0, .retAddr 0] [] (q_K o g) = q_sem (d + 5) mX11_matchPlots 63 [.ref 0, .int (nI s), .int 0, .retAddr 0, .retAddr 0, .retAddr 0] [] (q_K o g2) ∧ q_ti g2 73 9 1 (q_cnt (fun i => s.testBit i) (N 2)) ∧ q_ti g2 75 9 1 (q_cnt (fun i => s.testBit i) (N 2)) ∧ (∀ i, i < q_cnt (fun i => s.testBit i) (N 2) → g2 74 i = nI (q_pos (fun i => s.testBit i) (N 2) i) ∧ g2 76 i = nI (q_pos (fun i => s.testBit i) (N 2) i)) ∧ ∀ p j, ¬ (73 ≤ p ∧ p < 77) → g2 p j = g p j := by
  intro t
  induction t with
  | zero =>
    intro p g hp hr h1 h2 hv
    obtain rfl : p = N 2 := by omega
    have c1 : nI (N 2) ≤ nI (N 2) := nI_le (Nat.le_refl _) (by omega)
    refine ⟨g, ?_, h1, h2, hv, fun _ _ _ => rfl⟩
    rw [B_X11_matchPlots_9, r_size_pl hr]
    simp only [Option.bind_some, Option.toList_some, Option.toList_none, List.cons_append, List.nil_append, B_X11_matchPlots_20, c1, ↓reduceIte]
  | succ t ih =>
    intro p g hp hr h1 h2 hv
    have c1 : ¬ nI (N 2) ≤ nI p := nI_ge (by omega) (by omega)
    rw [B_X11_matchPlots_9, r_size_pl hr]
    simp only [Option.bind_some, Option.toList_some, Option.toList_none, List.cons_append, List.nil_append, B_X11_matchPlots_20, c1, ↓reduceIte, z_isIn hs (show p < 32 by omega), B_X11_matchPlots_28, nI_1]
    have hcs := cnt_s (fun i => s.testBit i) p
    cases e : s.testBit p
    · rw [bI_f, if_pos rfl]
      rw [e, if_neg (by decide)] at hcs
      exact ih (p + 1) g (by omega) hr (by rw [hcs]; exact h1) (by rw [hcs]; exact h2) (fun i hi => hv i (by rw [hcs] at hi; exact hi))
    · rw [bI_t, if_neg (by decide)]
      rw [e, if_pos rfl] at hcs
      have hm := cnt_mono (fun i => s.testBit i) (show p + 1 ≤ N 2 by omega)
      have hpo := pos_of (f := fun i => s.testBit i) (n := N 2) (q := p) (by omega) e
      obtain ⟨g1, y1, e1, t1, v1, f1⟩ := z_addT (o := o) q_tb73 h1 (by omega) (nI p) (d + 2)
      obtain ⟨g2, y2, e2, t2, v2, f2⟩ := z_addT (o := o) (g := g1) q_tb75 (ti_fr h2 (fun k => f1 _ _ (by omega) (by omega))) (by omega) (nI p) (d + 2)
      rw [Nat.mul_one] at v1 v2
      have f12 : ∀ p j, ¬ (73 ≤ p ∧ p < 77) → g2 p j = g p j := fun p j a => by rw [f2 _ _ (by omega) (by omega), f1 _ _ (by omega) (by omega)]
      obtain ⟨g3, e3, t3, u3, v3, f3⟩ := ih (p + 1) g2 (by omega) (repC_fr hr (fun p k a b => f12 _ _ (by omega))) (by rw [hcs]; exact ti_fr t1 (fun k => f2 _ _ (by omega) (by omega))) (by rw [hcs]; exact t2) (fun i hi => by
        rw [hcs] at hi
        by_cases q : i = q_cnt (fun i => s.testBit i) p
        · subst q
          rw [hpo]
          exact ⟨(f2 _ _ (by omega) (by omega)).trans v1, v2⟩
        · have := hv i (by omega)
          exact ⟨by rw [f2 _ _ (by omega) (by omega), f1 _ _ (by omega) (by omega)]; exact this.1, by rw [f2 _ _ (by omega) (by omega), f1 _ _ (by omega) (by omega)]; exact this.2⟩)
      refine ⟨g3, ?_, t3, u3, v3, fun p j a => (f3 p j a).trans (f12 p j a)⟩
      rw [e1]
      simp only [Option.bind_some, Option.toList_some, Option.toList_none, List.cons_append, List.nil_append, B_X11_matchPlots_42, e2, B_X11_matchPlots_54, nI_1]
      exact e3
theorem z_mpI (hf : q_wf S N) (hN : N 2 ≤ 24) {s R r : Nat} {P : Nat → Nat} (hR : R ≤ 9) (hr9 : r < R) (hP : ∀ i, i < R → P i < N 2) (d : Nat) : ∀ t c (g : Nat → Nat → Int32) (v4 v5 : Value), c + t = R → repC 1 g S N → q_ti g 73 9 1 R → q_ti g 75 9 1 R → q_ti g 77 9 9 9 → (∀ i, i < R → g 74 i = nI (P i) ∧ g 76 i = nI (P i)) → (∀ x, x < R → g 78 (r * 9 + x) = if x < c then q_cvo (q_fol S P r x) else -1) → ((v4 = .retAddr 0 ∧ v5 = .retAddr 0) ∨ ∃ a b, v4 = .int a ∧ v5 = .int b) → ∃ g2 w4 w5, ((w4 = .retAddr 0 ∧ w5 = .retAddr 0) ∨ ∃ a b, w4 = Value.int a ∧ w5 = Value.int b) ∧ q_sem (d + 6) mX11_matchPlots 79 [.ref 0, .int (nI s), .int (nI r), .int (nI c), v4, v5] [] (q_K o g) = q_sem (d + 6) mX11_matchPlots 63 [.ref 0, .int (nI s), .int (nI (r + 1)), .int (nI R), w4, w5] [] (q_K o g2) ∧ (∀ x, x < R → g2 78 (r * 9 + x) = q_cvo (q_fol S P r x)) ∧ ∀ p j, ¬ (p = 78 ∧ r * 9 ≤ j ∧ j < r * 9 + 9) → g2 p j = g p j := by
  intro t
  induction t with
  | zero =>
    intro c g v4 v5 hc hr h1 h2 h3 hv hm hx
    obtain rfl : c = R := by omega
    have c1 : nI c ≤ nI c := nI_le (Nat.le_refl _) (by omega)
    refine ⟨g, v4, v5, hx, ?_, fun x hx => by rw [hm x hx, if_pos hx], fun _ _ _ => rfl⟩
    rcases hx with ⟨rfl, rfl⟩ | ⟨a, b, rfl, rfl⟩
    · rw [B_X11_matchPlots_79, s_size _ q_tb75, h2.2.2.1]
      simp only [Option.bind_some, Option.toList_some, Option.toList_none, List.cons_append, List.nil_append, B_X11_matchPlots_90, c1, ↓reduceIte, nI_1]
    · rw [B_X11_matchPlots_79a, s_size _ q_tb75, h2.2.2.1]
      simp only [Option.bind_some, Option.toList_some, Option.toList_none, List.cons_append, List.nil_append, B_X11_matchPlots_90a, c1, ↓reduceIte, nI_1]
  | succ t ih =>
    intro c g v4 v5 hc hr h1 h2 h3 hv hm hx
    have c1 : ¬ nI R ≤ nI c := nI_ge (by omega) (by omega)
    have hPr := hP r hr9
    have hPc := hP c (by omega)
    have go : ∀ A : Option (Option Value × q_H), (A = q_sem (d + 6) mX11_matchPlots 132 [.ref 0, .int (nI s), .int (nI r), .int (nI c), .int (nI (P r)), .int (nI (P c))] [.int (bI (decide (q_mf S (P c) (P r))))] (q_K o g)) → ∃ g2 w4 w5, ((w4 = .retAddr 0 ∧ w5 = .retAddr 0) ∨ ∃ a b, w4 = Value.int a ∧ w5 = Value.int b) ∧ A = q_sem (d + 6) mX11_matchPlots 63 [.ref 0, .int (nI s), .int (nI (r + 1)), .int (nI R), w4, w5] [] (q_K o g2) ∧ (∀ x, x < R → g2 78 (r * 9 + x) = q_cvo (q_fol S P r x)) ∧ ∀ p j, ¬ (p = 78 ∧ r * 9 ≤ j ∧ j < r * 9 + 9) → g2 p j = g p j := by
      intro A hA
      rw [hA, B_X11_matchPlots_132, nI_1]
      by_cases e : q_mf S (P c) (P r)
      · have ef : q_fol S P r c = some (q_ap (q_cl2 (S 6 (P c))) (q_cl2 (S 6 (P r)))) := if_pos e
        rw [decide_eq_true e, bI_t, if_neg (by decide), c_plotsApart hr hf (d + 3) hPc hPr]
        simp only [Option.bind_some, Option.toList_some, Option.toList_none, List.cons_append, List.nil_append, B_X11_matchPlots_152, B_X1_allow_0, z_wrT q_tb77 h3 (show r < 9 by omega) (show c < 9 by omega), B_X1_allow_10, B_X11_matchPlots_155, nI_1]
        obtain ⟨g2, w4, w5, hw, e2, m2, f2⟩ := ih (c + 1) (q_up g 78 (r * 9 + c) (nI (q_ap (q_cl2 (S 6 (P c))) (q_cl2 (S 6 (P r)))))) (.int (nI (P r))) (.int (nI (P c))) (by omega) (repC_fr hr (fun p k a b => q_upN (by omega))) (ti_fr h1 (fun k => q_upN (by decide))) (ti_fr h2 (fun k => q_upN (by decide))) (ti_fr h3 (fun k => q_upN (by decide))) (fun i hi => by rw [q_upN (by decide), q_upN (by decide)]; exact hv i hi) (fun x hx => by
          by_cases q : x = c
          · subst q; rw [q_upE, if_pos (Nat.lt_succ_self _), ef]; rfl
          · rw [q_upJ (by omega), hm x hx]
            by_cases q2 : x < c
            · rw [if_pos q2, if_pos (by omega)]
            · rw [if_neg q2, if_neg (by omega)]) (Or.inr ⟨_, _, rfl, rfl⟩)
        exact ⟨g2, w4, w5, hw, e2, m2, fun p j a => by rw [f2 p j a, q_up_ne (by omega)]⟩
      · have ef : q_fol S P r c = none := if_neg e
        rw [decide_eq_false e, bI_f, if_pos rfl]
        obtain ⟨g2, w4, w5, hw, e2, m2, f2⟩ := ih (c + 1) g (.int (nI (P r))) (.int (nI (P c))) (by omega) hr h1 h2 h3 hv (fun x hx => by
          rw [hm x hx]
          by_cases q : x = c
          · subst q; rw [if_neg (Nat.lt_irrefl _), if_pos (Nat.lt_succ_self _), ef]; rfl
          · by_cases q2 : x < c
            · rw [if_pos q2, if_pos (by omega)]
            · rw [if_neg q2, if_neg (by omega)]) (Or.inr ⟨_, _, rfl, rfl⟩)
        exact ⟨g2, w4, w5, hw, e2, m2, f2⟩
    have v1 := (hv r hr9).1
    have v2 := (hv c (by omega)).2
    have hmf := z_mayBeFollowed (o := o) hr hf (d + 2) hPc hPr
    apply go
    rcases hx with ⟨rfl, rfl⟩ | ⟨a, b, rfl, rfl⟩
    · rw [B_X11_matchPlots_79, s_size _ q_tb75, h2.2.2.1]
      simp only [Option.bind_some, Option.toList_some, Option.toList_none, List.cons_append, List.nil_append, B_X11_matchPlots_90, c1, ↓reduceIte, z_get1 q_tb73 h1 hr9, show g (73 + 1) r = _ from v1, B_X11_matchPlots_105, z_get1 q_tb75 h2 (show c < R by omega), show g (75 + 1) c = _ from v2, B_X11_matchPlots_119, hmf]
    · rw [B_X11_matchPlots_79a, s_size _ q_tb75, h2.2.2.1]
      simp only [Option.bind_some, Option.toList_some, Option.toList_none, List.cons_append, List.nil_append, B_X11_matchPlots_90a, c1, ↓reduceIte, z_get1 q_tb73 h1 hr9, show g (73 + 1) r = _ from v1, B_X11_matchPlots_105a, z_get1 q_tb75 h2 (show c < R by omega), show g (75 + 1) c = _ from v2, B_X11_matchPlots_119a, hmf]
end MPL
