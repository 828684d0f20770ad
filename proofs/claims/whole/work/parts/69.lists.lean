/-! sending: the lists and the waits -/
def q_fu (S : Nat → Nat → Int32) (i : Nat) : Bool := q_raB S i
def q_fd (S : Nat → Nat → Int32) (i : Nat) : Bool := decide (3 < S 14 i) && decide (S 20 i = 1)
theorem mm_r {S : Nat → Nat → Int32} {i j : Nat} : q_mm S i j = -1 ∨ ∃ n, 1 ≤ n ∧ n ≤ 60 ∧ q_mm S i j = nI n := by
  have hmt : ∀ m k c h a, 1 ≤ k → k + m ≤ 61 → q_mt (q_cl2 (S 18 j)) (S 17 j) (S 16 j) m k c h a = -1 ∨ ∃ n, 1 ≤ n ∧ n ≤ 60 ∧ q_mt (q_cl2 (S 18 j)) (S 17 j) (S 16 j) m k c h a = nI n := by
    intro m
    induction m with
    | zero => intro k c h a _ _; exact Or.inl rfl
    | succ m ih =>
      intro k c h a h1 hkm
      unfold q_mt
      split
      · exact Or.inl rfl
      · split
        · exact Or.inr ⟨k, h1, by omega, rfl⟩
        · exact ih _ _ _ _ (by omega) (by omega)
  unfold q_mm
  split
  · exact hmt _ _ _ _ _ (by omega) (by omega)
  · exact Or.inl rfl
def q_sco (S : Nat → Nat → Int32) (lim : Int32) (U D : Nat → Nat) (r c : Nat) : Option Nat := if q_in (q_mm S (D c) (U r)) 1 lim = true then some (q_cl2 (S 0 7 + q_mm S (D c) (U r))) else none
section LST
variable {o : q_H} {S : Nat → Nat → Int32} {N : Nat → Nat}
theorem z_listL {T : Nat} (tb : q_tb T 9 1) (hT : T = 73 ∨ T = 75) (x2 x3 : Int32) (f pa ps : Nat → Bool) (hfp : ∀ i, i < N 5 → f i = (pa i && ps i)) (hpa : ∀ g : Nat → Nat → Int32, repC 1 g S N → ∀ i, i < N 5 → ∀ d, q_sem (d + 2) mX10_isA 0 [.ref 1, .int (nI i), .int x2, .retAddr 0, .retAddr 0] [] (q_K o g) = some (some (.int (bI (pa i))), q_K o g)) (hps : ∀ g : Nat → Nat → Int32, repC 1 g S N → ∀ i, i < N 5 → ∀ d, q_sem (d + 2) mX10_stands 0 [.ref 1, .int (nI i), .int x3] [] (q_K o g) = some (some (.int (bI (ps i))), q_K o g)) (d : Nat) : ∀ t i (g : Nat → Nat → Int32), i + t = N 5 → repC 1 g S N → q_ti g T 9 1 (min 6 (q_cnt f i)) → (∀ j, j < min 6 (q_cnt f i) → g (T + 1) j = nI (q_pos f (N 5) j)) → ∃ g2, q_sem (d + 3) mX11_listLeast 3 [.ref 0, .ref T, .int x2, .int x3, .int (nI i)] [] (q_K o g) = some (none, q_K o g2) ∧ q_ti g2 T 9 1 (min 6 (q_cnt f (N 5))) ∧ (∀ j, j < min 6 (q_cnt f (N 5)) → g2 (T + 1) j = nI (q_pos f (N 5) j)) ∧ ∀ p j, p ≠ T → p ≠ T + 1 → g2 p j = g p j := by
  intro t
  induction t with
  | zero =>
    intro i g hi hr ht hv
    obtain rfl : i = N 5 := by omega
    have hN := n_cnt_fl hr
    have c1 : nI (N 5) ≤ nI (N 5) := nI_le (Nat.le_refl _) (by omega)
    refine ⟨g, ?_, ht, hv, fun _ _ _ _ => rfl⟩
    rw [B_X11_listLeast_3 tb.1, r_size_fl hr]
    simp only [Option.bind_some, Option.toList_some, Option.toList_none, List.cons_append, List.nil_append, B_X11_listLeast_15 tb.1, c1, ↓reduceIte]
  | succ t ih =>
    intro i g hi hr ht hv
    have hN := n_cnt_fl hr
    have c1 : ¬ nI (N 5) ≤ nI i := nI_ge (by omega) (by omega)
    have hm := cnt_mono f (show i ≤ N 5 by omega)
    rw [B_X11_listLeast_3 tb.1, r_size_fl hr]
    simp only [Option.bind_some, Option.toList_some, Option.toList_none, List.cons_append, List.nil_append, B_X11_listLeast_15 tb.1, c1, ↓reduceIte, s_size _ tb, ht.2.2.1]
    rw [B_X11_listLeast_22 tb.1]
    by_cases c6 : 6 ≤ q_cnt f i
    · have e1 : min 6 (q_cnt f i) = 6 := Nat.min_eq_left c6
      have e2 : min 6 (q_cnt f (N 5)) = 6 := Nat.min_eq_left (by omega)
      rw [e1] at ht hv ⊢
      rw [e2]
      rw [if_pos (by decide)]
      exact ⟨g, rfl, ht, hv, fun _ _ _ _ => rfl⟩
    · have e1 : min 6 (q_cnt f i) = q_cnt f i := Nat.min_eq_right (by omega)
      rw [e1] at ht hv ⊢
      rw [if_neg (show ¬ (6 : Int32) ≤ nI (q_cnt f i) from nI_ge (b := 6) (by omega) (by omega)), hpa g hr i (by omega)]
      simp only [Option.bind_some, Option.toList_some, Option.toList_none, List.cons_append, List.nil_append, B_X11_listLeast_37 tb.1, hps g hr i (show i < N 5 by omega), B_X11_listLeast_50 tb.1, nI_1]
      have hcs := cnt_s f i
      have hfi := hfp i (by omega)
      have no : f i = false → ∃ g2, q_sem (d + 3) mX11_listLeast 3 [.ref 0, .ref T, .int x2, .int x3, .int (nI (i + 1))] [] (q_K o g) = some (none, q_K o g2) ∧ q_ti g2 T 9 1 (min 6 (q_cnt f (N 5))) ∧ (∀ j, j < min 6 (q_cnt f (N 5)) → g2 (T + 1) j = nI (q_pos f (N 5) j)) ∧ ∀ p j, p ≠ T → p ≠ T + 1 → g2 p j = g p j := fun e => by
        rw [e, if_neg (by decide)] at hcs
        exact ih (i + 1) g (by omega) hr (by rw [hcs, Nat.add_zero, e1]; exact ht) (fun j hj => hv j (by rw [hcs, Nat.add_zero, e1] at hj; exact hj))
      cases p1 : pa i
      · rw [bI_f, if_pos rfl]
        exact no (by rw [hfi, p1]; rfl)
      rw [bI_t, if_neg (by decide)]
      cases p2 : ps i
      · rw [bI_f, if_pos rfl]
        exact no (by rw [hfi, p1, p2]; rfl)
      rw [bI_t, if_neg (by decide)]
      have e : f i = true := by rw [hfi, p1, p2]; rfl
      rw [e, if_pos rfl] at hcs
      have hpo := pos_of (f := f) (n := N 5) (q := i) (by omega) e
      obtain ⟨g1, y, e3, t1, v1, f1⟩ := z_addT (o := o) tb ht (by omega) (nI i) d
      rw [Nat.mul_one] at v1
      have e4 : min 6 (q_cnt f (i + 1)) = q_cnt f i + 1 := by rw [hcs]; exact Nat.min_eq_right (by omega)
      obtain ⟨g2, e5, t2, v2, f2⟩ := ih (i + 1) g1 (by omega) (repC_fr hr (fun p k a b => f1 _ _ (by omega) (by omega))) (by rw [e4]; exact t1) (fun j hj => by
        rw [e4] at hj
        by_cases q : j = q_cnt f i
        · rw [q, v1, hpo]
        · rw [f1 _ _ (by omega) (by omega)]; exact hv j (by omega))
      refine ⟨g2, ?_, t2, v2, fun p j a b => (f2 p j a b).trans (f1 p j (by omega) (by omega))⟩
      rw [e3]
      simp only [Option.bind_some, Option.toList_some, Option.toList_none, List.cons_append, List.nil_append, B_X11_listLeast_59 tb.1, nI_1]
      exact e5
theorem z_mrI (hf : q_wf S N) (ho : q_oR o) {lim : Int32} {R C r : Nat} {U D : Nat → Nat} (hR : R ≤ 9) (hC : C ≤ 9) (hr9 : r < R) (hU : ∀ i, i < R → U i < N 5) (hD : ∀ i, i < C → D i < N 5 ∧ 3 < S 14 (D i)) (d : Nat) : ∀ t c (g : Nat → Nat → Int32) (v4 : Value), c + t = C → repC 1 g S N → q_ti g 73 9 1 R → q_ti g 75 9 1 C → q_ti g 77 9 9 9 → (∀ i, i < R → g 74 i = nI (U i)) → (∀ i, i < C → g 76 i = nI (D i)) → (∀ x, x < C → g 78 (r * 9 + x) = if x < c then q_cvo (q_sco S lim U D r x) else -1) → (v4 = .retAddr 0 ∨ ∃ a, v4 = .int a) → ∃ g2 w4, (w4 = .retAddr 0 ∨ ∃ a, w4 = Value.int a) ∧ q_sem (d + 5) mX11_matchRaids 18 [.ref 0, .int lim, .int (nI r), .int (nI c), v4] [] (q_K o g) = q_sem (d + 5) mX11_matchRaids 2 [.ref 0, .int lim, .int (nI (r + 1)), .int (nI C), w4] [] (q_K o g2) ∧ (∀ x, x < C → g2 78 (r * 9 + x) = q_cvo (q_sco S lim U D r x)) ∧ ∀ p j, ¬ (p = 78 ∧ r * 9 ≤ j ∧ j < r * 9 + 9) → g2 p j = g p j := by
  intro t
  induction t with
  | zero =>
    intro c g v4 hc hr h1 h2 h3 hu hd hm hx
    obtain rfl : c = C := by omega
    have c1 : nI c ≤ nI c := nI_le (Nat.le_refl _) (by omega)
    refine ⟨g, v4, hx, ?_, fun x hx => by rw [hm x hx, if_pos hx], fun _ _ _ => rfl⟩
    rcases hx with rfl | ⟨a, rfl⟩
    · rw [B_X11_matchRaids_18, s_size _ q_tb75, h2.2.2.1]
      simp only [Option.bind_some, Option.toList_some, Option.toList_none, List.cons_append, List.nil_append, B_X11_matchRaids_29, c1, ↓reduceIte, nI_1]
    · rw [B_X11_matchRaids_18a, s_size _ q_tb75, h2.2.2.1]
      simp only [Option.bind_some, Option.toList_some, Option.toList_none, List.cons_append, List.nil_append, B_X11_matchRaids_29a, c1, ↓reduceIte, nI_1]
  | succ t ih =>
    intro c g v4 hc hr h1 h2 h3 hu hd hm hx
    have hN := n_cnt_fl hr
    have c1 : ¬ nI C ≤ nI c := nI_ge (by omega) (by omega)
    obtain ⟨hDc, hDk⟩ := hD c (by omega)
    have hUr := hU r hr9
    obtain ⟨_, ⟨fu, hfu, ef⟩, _⟩ := (hf.2.2.2.2.2.1 _ hDc).2.2.2.2 hDk
    have efc : q_cl2 (S 21 (D c)) = fu := by rw [ef]; exact nI_clamp (by omega)
    have hmm := c_minutesToMeet (o := o) hr hf ho d hDc hUr ⟨by rw [efc]; exact ef, by rw [efc]; exact hfu⟩
    have go : ∀ A : Option (Option Value × q_H), (A = q_sem (d + 5) mX11_matchRaids 72 [.ref 0, .int lim, .int (nI r), .int (nI c), .int (q_mm S (D c) (U r))] [.int (bI (q_in (q_mm S (D c) (U r)) 1 lim))] (q_K o g)) → ∃ g2 w4, (w4 = .retAddr 0 ∨ ∃ a, w4 = Value.int a) ∧ A = q_sem (d + 5) mX11_matchRaids 2 [.ref 0, .int lim, .int (nI (r + 1)), .int (nI C), w4] [] (q_K o g2) ∧ (∀ x, x < C → g2 78 (r * 9 + x) = q_cvo (q_sco S lim U D r x)) ∧ ∀ p j, ¬ (p = 78 ∧ r * 9 ≤ j ∧ j < r * 9 + 9) → g2 p j = g p j := by
      intro A hA
      rw [hA, B_X11_matchRaids_72, nI_1, hr.2.2.2.1]
      cases e : q_in (q_mm S (D c) (U r)) 1 lim
      · have ec : q_sco S lim U D r c = none := by unfold q_sco; rw [e]; rfl
        rw [bI_f, if_pos rfl]
        exact ih (c + 1) g _ (by omega) hr h1 h2 h3 hu hd (fun x hx => by
          rw [hm x hx]
          by_cases q : x = c
          · subst q; rw [if_neg (Nat.lt_irrefl _), if_pos (Nat.lt_succ_self _), ec]; rfl
          · by_cases q2 : x < c
            · rw [if_pos q2, if_pos (by omega)]
            · rw [if_neg q2, if_neg (by omega)]) (Or.inr ⟨_, rfl⟩)
      · obtain ⟨tt, htt, ett⟩ := hf.2.2.2.2.2.2
        have ec : q_sco S lim U D r c = some (q_cl2 (S 0 7 + q_mm S (D c) (U r))) := by unfold q_sco; rw [e]; rfl
        have ev : S 0 7 + q_mm S (D c) (U r) = nI (q_cl2 (S 0 7 + q_mm S (D c) (U r))) := by
          rcases mm_r (S := S) (i := D c) (j := U r) with h | ⟨n, n1, n2, h⟩
          · rw [h] at e
            have : q_in (-1) 1 lim = false := by
              unfold q_in
              exact decide_eq_false (fun z => absurd z.1 (by decide))
            rw [this] at e; exact absurd e (by decide)
          · rw [ett, h, nI_add, show q_cl2 (nI (tt + n)) = tt + n from nI_clamp (by omega)]
        rw [bI_t, if_neg (by decide)]
        simp only [B_X1_allow_0, z_wrT q_tb77 h3 (show r < 9 by omega) (show c < 9 by omega), Option.bind_some, Option.toList_some, Option.toList_none, List.cons_append, List.nil_append, B_X1_allow_10, B_X11_matchRaids_94, nI_1]
        obtain ⟨g2, w4, hw, e2, m2, f2⟩ := ih (c + 1) (q_up g 78 (r * 9 + c) (S 0 7 + q_mm S (D c) (U r))) (.int (q_mm S (D c) (U r))) (by omega) (repC_fr hr (fun p k a b => q_upN (by omega))) (ti_fr h1 (fun k => q_upN (by decide))) (ti_fr h2 (fun k => q_upN (by decide))) (ti_fr h3 (fun k => q_upN (by decide))) (fun i hi => by rw [q_upN (by decide)]; exact hu i hi) (fun i hi => by rw [q_upN (by decide)]; exact hd i hi) (fun x hx => by
          by_cases q : x = c
          · subst q; rw [q_upE, if_pos (Nat.lt_succ_self _), ec]; exact ev
          · rw [q_upJ (by omega), hm x hx]
            by_cases q2 : x < c
            · rw [if_pos q2, if_pos (by omega)]
            · rw [if_neg q2, if_neg (by omega)]) (Or.inr ⟨_, rfl⟩)
        exact ⟨g2, w4, hw, e2, m2, fun p j a => by rw [f2 p j a, q_up_ne (by omega)]⟩
    have v1 := hu r hr9
    have v2 := hd c (by omega)
    apply go
    rcases hx with rfl | ⟨a, rfl⟩
    · rw [B_X11_matchRaids_18, s_size _ q_tb75, h2.2.2.1]
      simp only [Option.bind_some, Option.toList_some, Option.toList_none, List.cons_append, List.nil_append, B_X11_matchRaids_29, c1, ↓reduceIte, z_get1 q_tb75 h2 (show c < C by omega), show g (75 + 1) c = _ from v2, B_X11_matchRaids_48, z_get1 q_tb73 h1 hr9, show g (73 + 1) r = _ from v1, B_X11_matchRaids_60, hmm, B_X11_matchRaids_63, z_within]
    · rw [B_X11_matchRaids_18a, s_size _ q_tb75, h2.2.2.1]
      simp only [Option.bind_some, Option.toList_some, Option.toList_none, List.cons_append, List.nil_append, B_X11_matchRaids_29a, c1, ↓reduceIte, z_get1 q_tb75 h2 (show c < C by omega), show g (75 + 1) c = _ from v2, B_X11_matchRaids_48a, z_get1 q_tb73 h1 hr9, show g (73 + 1) r = _ from v1, B_X11_matchRaids_60a, hmm, B_X11_matchRaids_63a, z_within]
theorem z_mrO (hf : q_wf S N) (ho : q_oR o) {lim : Int32} {R C : Nat} {U D : Nat → Nat} (hR : R ≤ 9) (hC : C ≤ 9) (hU : ∀ i, i < R → U i < N 5) (hD : ∀ i, i < C → D i < N 5 ∧ 3 < S 14 (D i)) (d : Nat) : ∀ t r (g : Nat → Nat → Int32) (v3 v4 : Value), r + t = R → repC 1 g S N → q_ti g 73 9 1 R → q_ti g 75 9 1 C → q_ti g 77 9 9 9 → (∀ i, i < R → g 74 i = nI (U i)) → (∀ i, i < C → g 76 i = nI (D i)) → (∀ y x, y < R → x < C → g 78 (y * 9 + x) = if y < r then q_cvo (q_sco S lim U D y x) else -1) → ((v3 = .retAddr 0 ∧ v4 = .retAddr 0) ∨ ∃ z, v3 = .int z ∧ (v4 = .retAddr 0 ∨ ∃ a, v4 = .int a)) → ∃ g2, q_sem (d + 5) mX11_matchRaids 2 [.ref 0, .int lim, .int (nI r), v3, v4] [] (q_K o g) = some (none, q_K o g2) ∧ (∀ y x, y < R → x < C → g2 78 (y * 9 + x) = q_cvo (q_sco S lim U D y x)) ∧ ∀ p j, p ≠ 78 → g2 p j = g p j := by
  intro t
  induction t with
  | zero =>
    intro r g v3 v4 hr0 hr h1 h2 h3 hu hd hm hx
    obtain rfl : r = R := by omega
    have c1 : nI r ≤ nI r := nI_le (Nat.le_refl _) (by omega)
    refine ⟨g, ?_, fun y x a b => by rw [hm y x a b, if_pos a], fun _ _ _ => rfl⟩
    rcases hx with ⟨rfl, rfl⟩ | ⟨z, rfl, rfl | ⟨a, rfl⟩⟩
    · rw [B_X11_matchRaids_2, s_size _ q_tb73, h1.2.2.1]
      simp only [Option.bind_some, Option.toList_some, Option.toList_none, List.cons_append, List.nil_append, B_X11_matchRaids_13, c1, ↓reduceIte]
    · rw [B_X11_matchRaids_2a, s_size _ q_tb73, h1.2.2.1]
      simp only [Option.bind_some, Option.toList_some, Option.toList_none, List.cons_append, List.nil_append, B_X11_matchRaids_13a, c1, ↓reduceIte]
    · rw [B_X11_matchRaids_2b, s_size _ q_tb73, h1.2.2.1]
      simp only [Option.bind_some, Option.toList_some, Option.toList_none, List.cons_append, List.nil_append, B_X11_matchRaids_13b, c1, ↓reduceIte]
  | succ t ih =>
    intro r g v3 v4 hr0 hr h1 h2 h3 hu hd hm hx
    have c1 : ¬ nI R ≤ nI r := nI_ge (by omega) (by omega)
    have rest : ∀ v4 : Value, (v4 = .retAddr 0 ∨ ∃ a, v4 = .int a) → ∃ g2, q_sem (d + 5) mX11_matchRaids 18 [.ref 0, .int lim, .int (nI r), .int 0, v4] [] (q_K o g) = some (none, q_K o g2) ∧ (∀ y x, y < R → x < C → g2 78 (y * 9 + x) = q_cvo (q_sco S lim U D y x)) ∧ ∀ p j, p ≠ 78 → g2 p j = g p j := by
      intro v4 hx
      obtain ⟨g1, w4, hw, e1, m1, f1⟩ := z_mrI (o := o) (lim := lim) (r := r) (U := U) (D := D) hf ho hR hC (by omega) hU hD d C 0 g v4 (by omega) hr h1 h2 h3 hu hd (fun x hx => by rw [hm r x (by omega) hx, if_neg (Nat.lt_irrefl _), if_neg (Nat.not_lt_zero _)]) hx
      have f1' : ∀ p j, p ≠ 78 → g1 p j = g p j := fun p j a => f1 p j (by omega)
      obtain ⟨g2, e2, m2, f2⟩ := ih (r + 1) g1 (.int (nI C)) w4 (by omega) (repC_fr hr (fun p k a b => f1' _ _ (by omega))) (ti_fr h1 (fun k => f1' _ _ (by decide))) (ti_fr h2 (fun k => f1' _ _ (by decide))) (ti_fr h3 (fun k => f1' _ _ (by decide))) (fun i hi => by rw [f1' _ _ (by decide)]; exact hu i hi) (fun i hi => by rw [f1' _ _ (by decide)]; exact hd i hi) (fun y x hy hx => by
        by_cases q : y = r
        · subst q; rw [m1 x hx, if_pos (Nat.lt_succ_self _)]
        · rw [f1 _ _ (by omega), hm y x hy hx]
          by_cases q2 : y < r
          · rw [if_pos q2, if_pos (by omega)]
          · rw [if_neg q2, if_neg (by omega)]) (Or.inr ⟨_, rfl, hw⟩)
      have e1' : q_sem (d + 5) mX11_matchRaids 18 [.ref 0, .int lim, .int (nI r), .int 0, v4] [] (q_K o g) = _ := e1
      exact ⟨g2, e1'.trans e2, m2, fun p j a => (f2 p j a).trans (f1' p j a)⟩
    rcases hx with ⟨rfl, rfl⟩ | ⟨z, rfl, rfl | ⟨a, rfl⟩⟩
    · rw [B_X11_matchRaids_2, s_size _ q_tb73, h1.2.2.1]
      simp only [Option.bind_some, Option.toList_some, Option.toList_none, List.cons_append, List.nil_append, B_X11_matchRaids_13, c1, ↓reduceIte]
      exact rest _ (Or.inl rfl)
    · rw [B_X11_matchRaids_2a, s_size _ q_tb73, h1.2.2.1]
      simp only [Option.bind_some, Option.toList_some, Option.toList_none, List.cons_append, List.nil_append, B_X11_matchRaids_13a, c1, ↓reduceIte]
      exact rest _ (Or.inl rfl)
    · rw [B_X11_matchRaids_2b, s_size _ q_tb73, h1.2.2.1]
      simp only [Option.bind_some, Option.toList_some, Option.toList_none, List.cons_append, List.nil_append, B_X11_matchRaids_13b, c1, ↓reduceIte]
      exact rest _ (Or.inr ⟨_, rfl⟩)
end LST
