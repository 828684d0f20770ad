/-! plots by a sheet -/
def q_wtd (S : Nat → Nat → Int32) (N : Nat → Nat) (v : Int32) : Bool := q_se S N (q_cl2 v) || q_he S N (q_cl2 v)
def q_scn (S : Nat → Nat → Int32) (N : Nat → Nat) (it : Nat → Int32) : Nat → Nat → Option Nat
  | _, 0 => some 0
  | i, n + 1 => if it (2 * i) = -1 then q_scn S N it (i + 1) n else if (q_in (it (2 * i)) 0 255 && q_in (it (2 * i + 1)) 1 9) = true then (q_scn S N it (i + 1) n).map (fun c => c + (if q_wtd S N (it (2 * i)) = true then 1 else 0)) else none
def q_pad (it : Nat → Int32) : Nat → Nat → (Nat → Nat → Int32) → (Nat → Nat) → (Nat → Nat → Int32) × (Nat → Nat)
  | _, 0, S, N => (S, N)
  | i, n + 1, S, N => if it (2 * i) = -1 then q_pad it (i + 1) n S N else if q_wtd S N (it (2 * i)) = true then q_pad it (i + 1) n (q_np S (N 2) (it (2 * i)) (it (2 * i + 1))) (q_nu N 2 (N 2 + 1)) else q_pad it (i + 1) n S N
theorem q_wtd_np {S : Nat → Nat → Int32} {N : Nat → Nat} {c m v : Int32} : q_wtd (q_np S (N 2) c m) (q_nu N 2 (N 2 + 1)) v = q_wtd S N v := by
  have e : ∀ f j, f < 6 → q_np S (N 2) c m f j = S f j := fun f j h => q_np_ne (by omega)
  unfold q_wtd q_se q_he q_seB q_heB
  simp only [q_nu_ne (show 0 ≠ 2 by decide), q_nu_ne (show 1 ≠ 2 by decide), e 0 _ (by decide), e 1 _ (by decide), e 2 _ (by decide), e 3 _ (by decide), e 4 _ (by decide), e 5 _ (by decide)]
theorem q_scn_np {S : Nat → Nat → Int32} {N : Nat → Nat} {c m : Int32} {it : Nat → Int32} : ∀ n i, q_scn (q_np S (N 2) c m) (q_nu N 2 (N 2 + 1)) it i n = q_scn S N it i n := by
  intro n
  induction n with
  | zero => intro i; rfl
  | succ n ih =>
    intro i
    unfold q_scn
    rw [ih, q_wtd_np]
section PLS
variable {o : q_H} {g S : Nat → Nat → Int32} {N : Nat → Nat} {s p : Nat} {it : Nat → Int32}
theorem z_isWatchedV (hr : repC 1 g S N) (hf : q_wf S N) {v : Int32} (hv : q_in v 0 255 = true) (d : Nat) : q_sem (d + 3) mX10_isWatched 0 [.ref 1, .int v] [] (q_K o g) = some (some (.int (bI (q_wtd S N v))), q_K o g) := by
  obtain ⟨c, hc, rfl⟩ := q_inc_t hv
  unfold q_wtd
  rw [show q_cl2 (nI c) = c from nI_clamp (by omega)]
  exact z_isWatched hr hf hc d
theorem m_watchV (hm : repM g S N) (hf : q_wf S N) {v : Int32} (hv : q_in v 0 255 = true) (d : Nat) : ∃ w : Int32, q_sem (d + 4) mX12_watch 0 [.ref 98, .int v] [] (q_K o g) = some (some (.int w), q_K o g) ∧ decide (w ≤ 0) = !(q_wtd S N v) := by
  obtain ⟨c, hc, rfl⟩ := q_inc_t hv
  refine ⟨q_wat S N c, m_watch hm hf hc d, ?_⟩
  unfold q_wtd
  rw [show q_cl2 (nI c) = c from nI_clamp (by omega)]
  exact q_wat0'
theorem nI_2 (a : Nat) : nI a + 2 = nI (a + 2) := nI_add a 2
theorem z_plots_l (hr : repC 1 g S N) (hf : q_wf S N) (ht : q_ti g 70 4 26 4) (hs : s < 4) (hp : p ≤ 12) (es : g 71 (s * 26 + 1) = nI (2 * p)) (hit : ∀ k, k < 24 → g 71 (s * 26 + (2 + k)) = it k) (d : Nat) : ∀ n i more x5, i + n = p → (x5 = .retAddr 0 ∨ ∃ v, x5 = .int v) → (q_scn S N it i n = none → q_sem (d + 6) mX11_plots 43 [.ref 0, .int (nI s), .int 0, .int (nI more), .int (nI (2 * i)), x5] [] (q_K o g) = some (some (.int (-1000001)), q_K o (q_fb g 1))) ∧ ∀ c, q_scn S N it i n = some c → ∃ x6, (x6 = .retAddr 0 ∨ ∃ v, x6 = .int v) ∧ q_sem (d + 6) mX11_plots 43 [.ref 0, .int (nI s), .int 0, .int (nI more), .int (nI (2 * i)), x5] [] (q_K o g) = q_sem (d + 6) mX11_plots 43 [.ref 0, .int (nI s), .int 0, .int (nI (more + c)), .int (nI (2 * p)), x6] [] (q_K o g) := by
  intro n
  induction n with
  | zero =>
    intro i more x5 hi hx
    refine ⟨fun h => (by cases h), fun c hc => ⟨x5, hx, ?_⟩⟩
    cases hc
    obtain rfl : i = p := by omega
    rfl
  | succ n ih =>
    intro i more x5 hi hx
    have c1 : ¬ nI (2 * p) ≤ nI (2 * i) := nI_ge (by omega) (by omega)
    have g1 : ∀ d, q_sem (d + 3) mX6_get 0 [.ref 69, .int (nI s), .int (nI (2 * i))] [] (q_K o g) = some (some (.int (it (2 * i))), q_K o g) := fun d => by rw [x_get ht hs (by omega) es (by omega) d, hit _ (by omega)]
    have g2 : ∀ d, q_sem (d + 3) mX6_get 0 [.ref 69, .int (nI s), .int (nI (2 * i + 1))] [] (q_K o g) = some (some (.int (it (2 * i + 1))), q_K o g) := fun d => by rw [x_get ht hs (by omega) es (by omega) d, hit _ (by omega)]
    have e2 : 2 * (i + 1) = 2 * i + 2 := by omega
    have head : q_sem (d + 6) mX11_plots 43 [.ref 0, .int (nI s), .int 0, .int (nI more), .int (nI (2 * i)), x5] [] (q_K o g) = (if it (2 * i) = -1 then q_sem (d + 6) mX11_plots 43 [.ref 0, .int (nI s), .int 0, .int (nI more), .int (nI (2 * (i + 1))), .int (it (2 * i))] [] (q_K o g) else (q_sem (d + 5) mX11_isTold 0 [.int (it (2 * i)), .int (it (2 * i + 1))] [] (q_K o g)).bind (fun r => q_sem (d + 6) mX11_plots 91 [.ref 0, .int (nI s), .int 0, .int (nI more), .int (nI (2 * i)), .int (it (2 * i))] (r.1.toList ++ []) r.2)) := by
      rcases hx with rfl | ⟨v, rfl⟩
      · rw [B_X11_plots_43]
        simp only [x_size ht hs, es, Option.bind_some, Option.toList_some, Option.toList_none, List.cons_append, List.nil_append, B_X11_plots_53, c1, ↓reduceIte, g1, B_X11_plots_66, nI_1, nI_2, g2, B_X11_plots_88, Int32.add_zero, e2]
        by_cases h : it (2 * i) = -1 <;> simp only [h, ↓reduceIte]
      · rw [B_X11_plots_43a]
        simp only [x_size ht hs, es, Option.bind_some, Option.toList_some, Option.toList_none, List.cons_append, List.nil_append, B_X11_plots_53a, c1, ↓reduceIte, g1, B_X11_plots_66a, nI_1, nI_2, g2, B_X11_plots_88, Int32.add_zero, e2]
        by_cases h : it (2 * i) = -1 <;> simp only [h, ↓reduceIte]
    rw [head]
    unfold q_scn
    by_cases h1 : it (2 * i) = -1
    · rw [if_pos h1, if_pos h1]
      exact ih (i + 1) more _ (by omega) (Or.inr ⟨_, rfl⟩)
    · rw [if_neg h1, if_neg h1]
      cases h2 : q_in (it (2 * i)) 0 255 && q_in (it (2 * i + 1)) 1 9
      · rw [if_neg (by decide)]
        refine ⟨fun _ => ?_, fun c hc => (by cases hc)⟩
        simp only [z_isTold, h2, z_within, z_isCell, z_fin1, z_fin2, z_fin3, z_fin4, z_fin5, Option.bind_some, Option.toList_some, Option.toList_none, List.cons_append, List.nil_append, bI_t, bI_f, i10, i00, i11, i01, ↓reduceIte, Bool.false_eq_true, B_X11_plots_8, B_X11_plots_27, B_X11_plots_18, B_X11_plots_37, B_X11_plots_53, B_X11_plots_142, B_X11_plots_66, B_X11_plots_160, B_X11_plots_154, B_X11_plots_116, B_X11_plots_88, B_X11_plots_53a, B_X11_plots_91, B_X11_plots_142a, B_X11_plots_66a, B_X11_plots_99, B_X11_plots_160a, B_X11_plots_154a]
      · rw [if_pos rfl]
        have h3 : q_in (it (2 * i)) 0 255 = true := by rw [Bool.and_eq_true] at h2; exact h2.1
        have hb : ∀ b : Bool, q_wtd S N (it (2 * i)) = b → (q_sem (d + 5) mX11_isTold 0 [.int (it (2 * i)), .int (it (2 * i + 1))] [] (q_K o g)).bind (fun r => q_sem (d + 6) mX11_plots 91 [.ref 0, .int (nI s), .int 0, .int (nI more), .int (nI (2 * i)), .int (it (2 * i))] (r.1.toList ++ []) r.2) = q_sem (d + 6) mX11_plots 43 [.ref 0, .int (nI s), .int 0, .int (nI (more + (if b = true then 1 else 0))), .int (nI (2 * (i + 1))), .int (it (2 * i))] [] (q_K o g) := by
          intro b hb
          simp only [z_isTold, h2, z_within, z_isCell, z_fin1, z_fin2, z_fin3, z_fin4, z_fin5, Option.bind_some, Option.toList_some, Option.toList_none, List.cons_append, List.nil_append, bI_t, bI_f, i10, i00, i11, i01, ↓reduceIte, Bool.false_eq_true, B_X11_plots_91, h1, z_isWatchedV hr hf h3, hb, B_X11_plots_116]
          cases b <;> simp only [z_within, z_isCell, z_fin1, z_fin2, z_fin3, z_fin4, z_fin5, Option.bind_some, Option.toList_some, Option.toList_none, List.cons_append, List.nil_append, bI_t, bI_f, i10, i00, i11, i01, ↓reduceIte, Bool.false_eq_true, nI_1, nI_2, Int32.add_zero, Nat.add_zero, e2]
        rw [hb _ rfl]
        obtain ⟨ih1, ih2⟩ := ih (i + 1) (more + (if q_wtd S N (it (2 * i)) = true then 1 else 0)) (.int (it (2 * i))) (by omega) (Or.inr ⟨_, rfl⟩)
        cases h4 : q_scn S N it (i + 1) n with
        | none => exact ⟨fun _ => ih1 h4, fun c hc => (by cases hc)⟩
        | some c0 =>
          refine ⟨fun h => (by cases h), fun c hc => ?_⟩
          cases hc
          obtain ⟨x6, hx6, e6⟩ := ih2 c0 h4
          refine ⟨x6, hx6, e6.trans ?_⟩
          rw [show more + (if q_wtd S N (it (2 * i)) = true then 1 else 0) + c0 = more + (c0 + (if q_wtd S N (it (2 * i)) = true then 1 else 0)) by omega]
theorem m_plots_l (hm : repM g S N) (hf : q_wf S N) (hs : s < 4) (hp : p ≤ 12) (es : g 136 s = nI (2 * p)) (hit : ∀ k, k < 24 → g 137 (24 * s + k) = it k) (d : Nat) : ∀ n i more, i + n = p → (q_scn S N it i n = none → q_sem (d + 6) mX12_plots 55 [.ref 98, .int (nI s), .int (nI more), .int (nI (24 * s + 2 * i))] [] (q_K o g) = some (some (.int (-1000001)), q_K o (q_fm g 1))) ∧ ∀ c, q_scn S N it i n = some c → q_sem (d + 6) mX12_plots 55 [.ref 98, .int (nI s), .int (nI more), .int (nI (24 * s + 2 * i))] [] (q_K o g) = q_sem (d + 6) mX12_plots 55 [.ref 98, .int (nI s), .int (nI (more + c)), .int (nI (24 * s + 2 * p))] [] (q_K o g) := by
  intro n
  induction n with
  | zero =>
    intro i more hi
    refine ⟨fun h => (by cases h), fun c hc => ?_⟩
    cases hc
    obtain rfl : i = p := by omega
    rfl
  | succ n ih =>
    intro i more hi
    have c1 : ¬ (24 : Int32) * nI s + nI (2 * p) ≤ nI (24 * s + 2 * i) := by
      rw [show (24 : Int32) = nI 24 from rfl, pk_mul, nI_add]
      exact nI_ge (by omega) (by omega)
    have e2 : nI (24 * s + 2 * i) + 2 = nI (24 * s + 2 * (i + 1)) := by rw [nI_2]; congr 1
    have hi0 := hit (2 * i) (by omega)
    have hi1 : g 137 (24 * s + 2 * i + 1) = it (2 * i + 1) := hit (2 * i + 1) (by omega)
    rw [B_X12_plots_55]
    unfold q_scn
    simp only [q_rgN hs (show 4 < 2 ^ 31 by decide), es, c1, ↓reduceIte, q_rgN (show 24 * s + 2 * i < 96 by omega) (show 96 < 2 ^ 31 by decide), hi0, e2]
    by_cases h1 : it (2 * i) = -1
    · rw [if_pos h1, if_pos h1]
      exact ih (i + 1) more (by omega)
    · rw [if_neg h1, if_neg h1]
      simp only [y_isCell, Option.bind_some, Option.toList_some, Option.toList_none, List.cons_append, List.nil_append, B_X12_plots_89]
      cases h3 : q_in (it (2 * i)) 0 255
      · rw [Bool.false_and, if_neg (by decide)]
        refine ⟨fun _ => ?_, fun c hc => (by cases hc)⟩
        simp only [y_in, y_isCell, y_fin1, y_fin2, y_fin3, y_fin4, y_fin5, Option.bind_some, Option.toList_some, Option.toList_none, List.cons_append, List.nil_append, bI_t, bI_f, i10, i00, i11, i01, ↓reduceIte, Bool.false_eq_true, B_X12_plots_115]
      · rw [Bool.true_and]
        simp only [y_in, y_isCell, y_fin1, y_fin2, y_fin3, y_fin4, y_fin5, Option.bind_some, Option.toList_some, Option.toList_none, List.cons_append, List.nil_append, bI_t, bI_f, i10, i00, i11, i01, ↓reduceIte, Bool.false_eq_true, nI_1, q_rgN (show 24 * s + 2 * i + 1 < 96 by omega) (show 96 < 2 ^ 31 by decide), hi1, B_X12_plots_106]
        cases h4 : q_in (it (2 * i + 1)) 1 9
        · rw [if_neg (by decide)]
          refine ⟨fun _ => ?_, fun c hc => (by cases hc)⟩
          simp only [y_in, y_isCell, y_fin1, y_fin2, y_fin3, y_fin4, y_fin5, Option.bind_some, Option.toList_some, Option.toList_none, List.cons_append, List.nil_append, bI_t, bI_f, i10, i00, i11, i01, ↓reduceIte, Bool.false_eq_true, B_X12_plots_115]
        · rw [if_pos rfl]
          obtain ⟨w, ew, hw⟩ := m_watchV (o := o) hm hf h3 (d + 1)
          simp only [y_in, y_isCell, y_fin1, y_fin2, y_fin3, y_fin4, y_fin5, Option.bind_some, Option.toList_some, Option.toList_none, List.cons_append, List.nil_append, bI_t, bI_f, i10, i00, i11, i01, ↓reduceIte, Bool.false_eq_true, q_rgN (show 24 * s + 2 * i < 96 by omega) (show 96 < 2 ^ 31 by decide), hi0, ew, B_X12_plots_127, e2]
          obtain ⟨ih1, ih2⟩ := ih (i + 1) (more + (if q_wtd S N (it (2 * i)) = true then 1 else 0)) (by omega)
          have hb : (if w ≤ 0 then q_sem (d + 6) mX12_plots 55 [.ref 98, .int (nI s), .int (nI more + 0), .int (nI (24 * s + 2 * (i + 1)))] [] (q_K o g) else q_sem (d + 6) mX12_plots 55 [.ref 98, .int (nI s), .int (nI more + 1), .int (nI (24 * s + 2 * (i + 1)))] [] (q_K o g)) = q_sem (d + 6) mX12_plots 55 [.ref 98, .int (nI s), .int (nI (more + (if q_wtd S N (it (2 * i)) = true then 1 else 0))), .int (nI (24 * s + 2 * (i + 1)))] [] (q_K o g) := by
            cases hq : q_wtd S N (it (2 * i))
            · rw [hq] at hw
              rw [if_pos (of_decide_eq_true hw), Int32.add_zero]
              rfl
            · rw [hq] at hw
              rw [if_neg (of_decide_eq_false hw), nI_1]
              rfl
          rw [hb]
          cases h5 : q_scn S N it (i + 1) n with
          | none => exact ⟨fun _ => ih1 h5, fun c hc => (by cases hc)⟩
          | some c0 =>
            refine ⟨fun h => (by cases h), fun c hc => ?_⟩
            cases hc
            refine (ih2 c0 h5).trans ?_
            rw [show more + (if q_wtd S N (it (2 * i)) = true then 1 else 0) + c0 = more + (c0 + (if q_wtd S N (it (2 * i)) = true then 1 else 0)) by omega]
theorem z_pad_l (hs : s < 4) (hp : p ≤ 12) (d : Nat) : ∀ n i g S N x3 c, i + n = p → (x3 = .retAddr 0 ∨ ∃ v, x3 = .int v) → repC 1 g S N → q_ok S N → q_ti g 70 4 26 4 → g 71 (s * 26 + 1) = nI (2 * p) → (∀ k, k < 24 → g 71 (s * 26 + (2 + k)) = it k) → q_scn S N it i n = some c → N 2 + c ≤ 24 → ∃ g2, q_sem (d + 6) mX11_addPlots 2 [.ref 0, .int (nI s), .int (nI (2 * i)), x3] [] (q_K o g) = some (none, q_K o g2) ∧ repC 1 g2 (q_pad it i n S N).1 (q_pad it i n S N).2 ∧ q_ok (q_pad it i n S N).1 (q_pad it i n S N).2 ∧ q_fr 1 g g2 := by
  intro n
  induction n with
  | zero =>
    intro i g S N x3 c hi hx hr hk ht es hit _ _
    have c1 : nI (2 * p) ≤ nI (2 * i) := nI_le (by omega) (by omega)
    refine ⟨g, ?_, hr, hk, q_fr_rf⟩
    rcases hx with rfl | ⟨v, rfl⟩
    · rw [B_X11_addPlots_2]
      simp only [x_size ht hs, es, Option.bind_some, Option.toList_some, Option.toList_none, List.cons_append, List.nil_append, B_X11_addPlots_11, c1, ↓reduceIte]
    · rw [B_X11_addPlots_2a]
      simp only [x_size ht hs, es, Option.bind_some, Option.toList_some, Option.toList_none, List.cons_append, List.nil_append, B_X11_addPlots_11a, c1, ↓reduceIte]
  | succ n ih =>
    intro i g S N x3 c hi hx hr hk ht es hit hsc hN
    have c1 : ¬ nI (2 * p) ≤ nI (2 * i) := nI_ge (by omega) (by omega)
    have g1 : ∀ d, q_sem (d + 3) mX6_get 0 [.ref 69, .int (nI s), .int (nI (2 * i))] [] (q_K o g) = some (some (.int (it (2 * i))), q_K o g) := fun d => by rw [x_get ht hs (by omega) es (by omega) d, hit _ (by omega)]
    have g2 : ∀ d, q_sem (d + 3) mX6_get 0 [.ref 69, .int (nI s), .int (nI (2 * i + 1))] [] (q_K o g) = some (some (.int (it (2 * i + 1))), q_K o g) := fun d => by rw [x_get ht hs (by omega) es (by omega) d, hit _ (by omega)]
    have e2 : 2 * (i + 1) = 2 * i + 2 := by omega
    have head : q_sem (d + 6) mX11_addPlots 2 [.ref 0, .int (nI s), .int (nI (2 * i)), x3] [] (q_K o g) = (if it (2 * i) = -1 then q_sem (d + 6) mX11_addPlots 2 [.ref 0, .int (nI s), .int (nI (2 * (i + 1))), .int (it (2 * i))] [] (q_K o g) else (q_sem (d + 5) mX10_isWatched 0 [.ref 1, .int (it (2 * i))] [] (q_K o g)).bind (fun r => q_sem (d + 6) mX11_addPlots 37 [.ref 0, .int (nI s), .int (nI (2 * i)), .int (it (2 * i))] (r.1.toList ++ []) r.2)) := by
      rcases hx with rfl | ⟨v, rfl⟩
      · rw [B_X11_addPlots_2]
        simp only [x_size ht hs, es, Option.bind_some, Option.toList_some, Option.toList_none, List.cons_append, List.nil_append, B_X11_addPlots_11, c1, ↓reduceIte, g1, B_X11_addPlots_23, nI_2, e2]
      · rw [B_X11_addPlots_2a]
        simp only [x_size ht hs, es, Option.bind_some, Option.toList_some, Option.toList_none, List.cons_append, List.nil_append, B_X11_addPlots_11a, c1, ↓reduceIte, g1, B_X11_addPlots_23a, nI_2, e2]
    rw [head]
    unfold q_scn at hsc
    unfold q_pad
    by_cases h1 : it (2 * i) = -1
    · rw [if_pos h1] at hsc
      rw [if_pos h1, if_pos h1]
      exact ih (i + 1) g S N _ c (by omega) (Or.inr ⟨_, rfl⟩) hr hk ht es hit hsc hN
    · rw [if_neg h1] at hsc
      rw [if_neg h1, if_neg h1]
      cases h2 : q_in (it (2 * i)) 0 255 && q_in (it (2 * i + 1)) 1 9
      · rw [h2, if_neg (by decide)] at hsc; cases hsc
      · rw [h2, if_pos rfl] at hsc
        have h3 : q_in (it (2 * i)) 0 255 = true := by rw [Bool.and_eq_true] at h2; exact h2.1
        cases h4 : q_scn S N it (i + 1) n with
        | none => rw [h4] at hsc; cases hsc
        | some c0 =>
          rw [h4] at hsc
          have hc : c0 + (if q_wtd S N (it (2 * i)) = true then 1 else 0) = c := Option.some.inj hsc
          simp only [z_isWatchedV hr hk.1 h3, Option.bind_some, Option.toList_some, Option.toList_none, List.cons_append, List.nil_append, B_X11_addPlots_37, bI_0]
          cases h5 : q_wtd S N (it (2 * i))
          · rw [if_pos rfl, if_neg (by decide), nI_2, ← e2]
            exact ih (i + 1) g S N _ c0 (by omega) (Or.inr ⟨_, rfl⟩) hr hk ht es hit h4 (by omega)
          · rw [h5, if_pos rfl] at hc
            obtain ⟨v, hv, ev⟩ := q_inc_t h3
            obtain ⟨g3, e3, hr3, hf3⟩ := z_addPlot (o := o) hr (show N 2 < 24 by omega) (d + 2) (it (2 * i)) (it (2 * i + 1))
            have hk3 : q_ok (q_np S (N 2) (it (2 * i)) (it (2 * i + 1))) (q_nu N 2 (N 2 + 1)) := by rw [ev]; exact ok_np hk hv _
            obtain ⟨g4, e4, hr4, hk4, hf4⟩ := ih (i + 1) g3 _ _ (.int (it (2 * i))) c0 (by omega) (Or.inr ⟨_, rfl⟩) hr3 hk3 (ti_fr ht (fun k => hf3 _ _ (by omega))) ((hf3 _ _ (by omega)).trans es) (fun k hk => (hf3 _ _ (by omega)).trans (hit k hk)) ((q_scn_np n (i + 1)).trans h4) (by rw [q_nu_eq]; omega)
            refine ⟨g4, ?_, hr4, hk4, q_fr_tr hf3 hf4⟩
            rw [if_neg (by decide)]
            simp only [nI_1, g2, Option.bind_some, Option.toList_some, Option.toList_none, List.cons_append, List.nil_append, B_X11_addPlots_56, e3, B_X11_addPlots_59, nI_2, ← e2, e4]
theorem m_pad_l (hs : s < 4) (hp : p ≤ 12) (d : Nat) (x2 : Int32) : ∀ n i g S N c, i + n = p → repM g S N → q_wf S N → g 136 s = nI (2 * p) → (∀ k, k < 24 → g 137 (24 * s + k) = it k) → q_scn S N it i n = some c → N 2 + c ≤ 24 → q_ok S N → ∃ g2, q_sem (d + 6) mX12_plots 168 [.ref 98, .int (nI s), .int x2, .int (nI (24 * s + 2 * i))] [] (q_K o g) = some (some (.int x2), q_K o g2) ∧ repM g2 (q_pad it i n S N).1 (q_pad it i n S N).2 ∧ q_fM g g2 := by
  intro n
  induction n with
  | zero =>
    intro i g S N c hi hm hf es hit _ _ _
    have c1 : (24 : Int32) * nI s + nI (2 * p) ≤ nI (24 * s + 2 * i) := by
      rw [show (24 : Int32) = nI 24 from rfl, pk_mul, nI_add]
      exact nI_le (by omega) (by omega)
    refine ⟨g, ?_, hm, fM_rf⟩
    rw [B_X12_plots_168, q_rgN hs (by decide), es, if_pos c1]
  | succ n ih =>
    intro i g S N c hi hm hf es hit hsc hN hk
    have c1 : ¬ (24 : Int32) * nI s + nI (2 * p) ≤ nI (24 * s + 2 * i) := by
      rw [show (24 : Int32) = nI 24 from rfl, pk_mul, nI_add]
      exact nI_ge (by omega) (by omega)
    have e2 : nI (24 * s + 2 * i) + 2 = nI (24 * s + 2 * (i + 1)) := by rw [nI_2]; congr 1
    have hi0 := hit (2 * i) (by omega)
    have hi1 : g 137 (24 * s + 2 * i + 1) = it (2 * i + 1) := hit (2 * i + 1) (by omega)
    rw [B_X12_plots_168]
    unfold q_scn at hsc
    unfold q_pad
    simp only [q_rgN hs (show 4 < 2 ^ 31 by decide), es, c1, ↓reduceIte, q_rgN (show 24 * s + 2 * i < 96 by omega) (show 96 < 2 ^ 31 by decide), hi0, e2]
    by_cases h1 : it (2 * i) = -1
    · rw [if_pos h1] at hsc
      rw [if_pos h1, if_pos h1]
      exact ih (i + 1) g S N c (by omega) hm hf es hit hsc hN hk
    · rw [if_neg h1] at hsc
      rw [if_neg h1, if_neg h1]
      cases h2 : q_in (it (2 * i)) 0 255 && q_in (it (2 * i + 1)) 1 9
      · rw [h2, if_neg (by decide)] at hsc; cases hsc
      · rw [h2, if_pos rfl] at hsc
        have h3 : q_in (it (2 * i)) 0 255 = true := by rw [Bool.and_eq_true] at h2; exact h2.1
        cases h4 : q_scn S N it (i + 1) n with
        | none => rw [h4] at hsc; cases hsc
        | some c0 =>
          rw [h4] at hsc
          have hc : c0 + (if q_wtd S N (it (2 * i)) = true then 1 else 0) = c := Option.some.inj hsc
          obtain ⟨w, ew, hw⟩ := m_watchV (o := o) hm hf h3 (d + 1)
          simp only [ew, Option.bind_some, Option.toList_some, Option.toList_none, List.cons_append, List.nil_append, B_X12_plots_203, e2]
          cases h5 : q_wtd S N (it (2 * i))
          · rw [h5] at hw
            rw [if_pos (of_decide_eq_true hw), if_neg (by decide)]
            exact ih (i + 1) g S N c0 (by omega) hm hf es hit h4 (by omega) hk
          · rw [h5] at hw
            rw [h5, if_pos rfl] at hc
            obtain ⟨v, hv, ev⟩ := q_inc_t h3
            obtain ⟨g3, e3, hm3, hf3⟩ := m_makes (o := o) hm (show N 2 < 24 by omega) (d + 5) (it (2 * i)) (it (2 * i + 1))
            have hk3 : q_ok (q_np S (N 2) (it (2 * i)) (it (2 * i + 1))) (q_nu N 2 (N 2 + 1)) := by rw [ev]; exact ok_np hk hv _
            obtain ⟨g4, e4, hm4, hf4⟩ := ih (i + 1) g3 _ _ c0 (by omega) hm3 hk3.1 ((hf3 _ _ (by omega)).trans es) (fun k hk => (hf3 _ _ (by omega)).trans (hit k hk)) ((q_scn_np n (i + 1)).trans h4) (by rw [q_nu_eq]; omega) hk3
            refine ⟨g4, ?_, hm4, fM_tr hf3 hf4⟩
            rw [if_neg (of_decide_eq_false hw)]
            simp only [nI_1, q_rgN (show 24 * s + 2 * i < 96 by omega) (show 96 < 2 ^ 31 by decide), q_rgN (show 24 * s + 2 * i + 1 < 96 by omega) (show 96 < 2 ^ 31 by decide), hi0, hi1, e3, Option.bind_some, Option.toList_some, Option.toList_none, List.cons_append, List.nil_append, B_X12_plots_224, e2, e4]
end PLS
theorem q_scn_le {S : Nat → Nat → Int32} {N : Nat → Nat} {it : Nat → Int32} : ∀ n i c, q_scn S N it i n = some c → c ≤ n := by
  intro n
  induction n with
  | zero => intro i c h; cases h; exact Nat.le_refl _
  | succ n ih =>
    intro i c h
    unfold q_scn at h
    split at h
    · have := ih _ _ h; omega
    · split at h
      · cases h4 : q_scn S N it (i + 1) n with
        | none => rw [h4] at h; cases h
        | some c0 =>
          rw [h4] at h
          have hc : c0 + (if q_wtd S N (it (2 * i)) = true then 1 else 0) = c := Option.some.inj h
          have := ih _ _ h4
          split at hc <;> omega
      · cases h
theorem law_plots {o : q_H} {n : Nat} {g : Nat → Nat → Int32} (hR : q_R n g) (ho : q_oR o) (d : Nat) (x1 : Int32) : ∃ v g1 g2, q_sem (d + 30) mX11_plots 0 [.ref 0, .int x1, .retAddr 0, .retAddr 0, .retAddr 0, .retAddr 0] [] (q_K o g) = some (some (.int v), q_K o g1) ∧ q_sem (d + 30) mX12_plots 0 [.ref 98, .int x1, .retAddr 0, .retAddr 0] [] (q_K o g1) = some (some (.int v), q_K o g2) ∧ q_R n g2 := by
  obtain ⟨⟨S, N, hr, hm, hk⟩, ha⟩ := id hR
  have hs0 := ha.2.1
  have hN2 := n_cnt_pl hr
  cases c1 : q_hs x1 4
  · exact ⟨-1000001, q_fb g 1, q_fm (q_fb g 1) 1, by simp only [B_X11_plots_0, B_X11_plots_8, B_X11_plots_27, B_X11_plots_18, B_X11_plots_37, B_X11_plots_53, B_X11_plots_142, B_X11_plots_66, B_X11_plots_160, B_X11_plots_154, B_X11_plots_116, B_X11_plots_88, B_X11_plots_53a, B_X11_plots_91, B_X11_plots_142a, B_X11_plots_66a, B_X11_plots_99, B_X11_plots_160a, B_X11_plots_154a, z_within, z_isCell, z_fin1, z_fin2, z_fin3, z_fin4, z_fin5, Option.bind_some, Option.toList_some, Option.toList_none, List.cons_append, List.nil_append, bI_t, bI_f, i10, i00, i11, i01, ↓reduceIte, Bool.false_eq_true, x_wantN hs0.1 c1, c1], (by have hm := repM_fb (k := 1) hm; simp only [B_X12_plots_0, B_X12_plots_4, B_X12_plots_13, B_X12_plots_29, B_X12_plots_47, B_X12_plots_162, B_X12_plots_89, B_X12_plots_203, B_X12_plots_115, B_X12_plots_106, B_X12_plots_224, B_X12_plots_127, y_in, y_isCell, y_fin1, y_fin2, y_fin3, y_fin4, y_fin5, Option.bind_some, Option.toList_some, Option.toList_none, List.cons_append, List.nil_append, bI_t, bI_f, i10, i00, i11, i01, ↓reduceIte, Bool.false_eq_true, y_isSheet, c1]), R_fin hR (by decide)⟩
  obtain ⟨s, hs, rfl⟩ := q_hs_t c1 (by decide)
  obtain ⟨a1, a2, a3, ⟨nn, hnn, en⟩, a5, a6⟩ := hs0.2 s hs
  by_cases b0 : g 135 s = 0
  · exact ⟨-1000002, q_fb g 2, q_fm (q_fb g 2) 2, by simp only [B_X11_plots_0, B_X11_plots_8, B_X11_plots_27, B_X11_plots_18, B_X11_plots_37, B_X11_plots_53, B_X11_plots_142, B_X11_plots_66, B_X11_plots_160, B_X11_plots_154, B_X11_plots_116, B_X11_plots_88, B_X11_plots_53a, B_X11_plots_91, B_X11_plots_142a, B_X11_plots_66a, B_X11_plots_99, B_X11_plots_160a, B_X11_plots_154a, z_within, z_isCell, z_fin1, z_fin2, z_fin3, z_fin4, z_fin5, Option.bind_some, Option.toList_some, Option.toList_none, List.cons_append, List.nil_append, bI_t, bI_f, i10, i00, i11, i01, ↓reduceIte, Bool.false_eq_true, x_want hs0.1 hs, a1, (by decide : ¬ (2 : Int32) = 0), c1, b0], (by have hm := repM_fb (k := 2) hm; simp only [B_X12_plots_0, B_X12_plots_4, B_X12_plots_13, B_X12_plots_29, B_X12_plots_47, B_X12_plots_162, B_X12_plots_89, B_X12_plots_203, B_X12_plots_115, B_X12_plots_106, B_X12_plots_224, B_X12_plots_127, y_in, y_isCell, y_fin1, y_fin2, y_fin3, y_fin4, y_fin5, Option.bind_some, Option.toList_some, Option.toList_none, List.cons_append, List.nil_append, bI_t, bI_f, i10, i00, i11, i01, ↓reduceIte, Bool.false_eq_true, y_isSheet, q_fb_ne (show 135 ≠ 97 by decide), q_rgN hs (show 4 < 2 ^ 31 by decide), c1, b0]), R_fin hR (by decide)⟩
  have es : g 71 (s * 26 + 1) = nI nn := a2.trans en
  have e2 : nI nn - nI nn / 2 * 2 = nI (nn % 2) := pk_rem (d := 2) (by omega) (by decide) (by decide)
  by_cases b1 : nn % 2 = 0
  rotate_left
  · have b2 : nn % 2 = 1 := by omega
    exact ⟨-1000005, q_fb g 5, q_fm (q_fb g 5) 5, by simp only [B_X11_plots_0, B_X11_plots_8, B_X11_plots_27, B_X11_plots_18, B_X11_plots_37, B_X11_plots_53, B_X11_plots_142, B_X11_plots_66, B_X11_plots_160, B_X11_plots_154, B_X11_plots_116, B_X11_plots_88, B_X11_plots_53a, B_X11_plots_91, B_X11_plots_142a, B_X11_plots_66a, B_X11_plots_99, B_X11_plots_160a, B_X11_plots_154a, z_within, z_isCell, z_fin1, z_fin2, z_fin3, z_fin4, z_fin5, Option.bind_some, Option.toList_some, Option.toList_none, List.cons_append, List.nil_append, bI_t, bI_f, i10, i00, i11, i01, ↓reduceIte, Bool.false_eq_true, x_want hs0.1 hs, a1, x_size hs0.1 hs, es, e2, b2, (by decide : ¬ nI 1 = 0), c1, b0], (by have hm := repM_fb (k := 5) hm; simp only [B_X12_plots_0, B_X12_plots_4, B_X12_plots_13, B_X12_plots_29, B_X12_plots_47, B_X12_plots_162, B_X12_plots_89, B_X12_plots_203, B_X12_plots_115, B_X12_plots_106, B_X12_plots_224, B_X12_plots_127, y_in, y_isCell, y_fin1, y_fin2, y_fin3, y_fin4, y_fin5, Option.bind_some, Option.toList_some, Option.toList_none, List.cons_append, List.nil_append, bI_t, bI_f, i10, i00, i11, i01, ↓reduceIte, Bool.false_eq_true, y_isSheet, q_fb_ne (show 135 ≠ 97 by decide), q_fb_ne (show 136 ≠ 97 by decide), q_rgN hs (show 4 < 2 ^ 31 by decide), en, e2, b2, (by decide : ¬ nI 1 = 0), c1, b0]), R_fin hR (by decide)⟩
  obtain ⟨p, rfl⟩ : ∃ p, nn = 2 * p := ⟨nn / 2, by omega⟩
  have hp : p ≤ 12 := by omega
  have h24 : (24 : Int32) * nI s = nI (24 * s + 2 * 0) := by rw [show (24 : Int32) = nI 24 from rfl, pk_mul]; rfl
  have zp : q_sem (d + 30) mX11_plots 0 [.ref 0, .int (nI s), .retAddr 0, .retAddr 0, .retAddr 0, .retAddr 0] [] (q_K o g) = q_sem (d + 30) mX11_plots 43 [.ref 0, .int (nI s), .int 0, .int (nI 0), .int (nI (2 * 0)), .retAddr 0] [] (q_K o g) := by
    simp only [B_X11_plots_0, B_X11_plots_8, B_X11_plots_27, z_within, z_isCell, z_fin1, z_fin2, z_fin3, z_fin4, z_fin5, Option.bind_some, Option.toList_some, Option.toList_none, List.cons_append, List.nil_append, bI_t, bI_f, i10, i00, i11, i01, ↓reduceIte, Bool.false_eq_true, x_want hs0.1 hs, a1, b0, x_size hs0.1 hs, es, e2, b1, nI_0, Nat.mul_zero]
  have mp : ∀ g1 : Nat → Nat → Int32, g1 135 s = g 135 s → g1 136 s = g 136 s → q_sem (d + 30) mX12_plots 0 [.ref 98, .int (nI s), .retAddr 0, .retAddr 0] [] (q_K o g1) = q_sem (d + 30) mX12_plots 55 [.ref 98, .int (nI s), .int (nI 0), .int (nI (24 * s + 2 * 0))] [] (q_K o g1) := by
    intro g1 h1 h2
    simp only [B_X12_plots_0, B_X12_plots_4, y_in, y_isCell, y_fin1, y_fin2, y_fin3, y_fin4, y_fin5, Option.bind_some, Option.toList_some, Option.toList_none, List.cons_append, List.nil_append, bI_t, bI_f, i10, i00, i11, i01, ↓reduceIte, Bool.false_eq_true, y_isSheet, c1, q_rgN hs (show 4 < 2 ^ 31 by decide), h1, h2, b0, en, e2, b1, nI_0, h24, Nat.mul_zero, Nat.add_zero]
  obtain ⟨l1, l2⟩ := z_plots_l (o := o) hr hk.1 hs0.1 hs hp es a5 (d + 24) p 0 0 (.retAddr 0) (by omega) (Or.inl rfl)
  cases hsc : q_scn S N (fun k => g 137 (24 * s + k)) 0 p with
  | none =>
    have hm1 : repM (q_fb g 1) S N := repM_fb hm
    obtain ⟨k1, _⟩ := m_plots_l (o := o) (it := fun k => g 137 (24 * s + k)) hm1 hk.1 hs hp ((q_fb_ne (by decide)).trans en) (fun k _ => q_fb_ne (by decide)) (d + 24) p 0 0 (by omega)
    exact ⟨-1000001, q_fb g 1, q_fm (q_fb g 1) 1, zp.trans (l1 hsc), (mp _ (q_fb_ne (by decide)) (q_fb_ne (by decide))).trans (k1 hsc), R_fin hR (by decide)⟩
  | some c =>
    have hc12 := q_scn_le _ _ _ hsc
    obtain ⟨x6, hx6, l3⟩ := l2 c hsc
    rw [Nat.zero_add] at l3
    by_cases c4 : N 2 + c ≤ 24
    · obtain ⟨g1, e1, hr1, hk1, hf1⟩ := z_pad_l (o := o) (it := fun k => g 137 (24 * s + k)) hs hp (d + 23) p 0 g S N (.retAddr 0) c (by omega) (Or.inl rfl) hr hk hs0.1 es a5 hsc c4
      have hm1 := repM_fr1 hm hf1
      have k5 : ∀ k, g1 135 k = g 135 k := fun k => hf1 _ _ (by omega)
      have k6 : ∀ k, g1 136 k = g 136 k := fun k => hf1 _ _ (by omega)
      have k7 : ∀ k, g1 137 k = g 137 k := fun k => hf1 _ _ (by omega)
      obtain ⟨_, k2⟩ := m_plots_l (o := o) (it := fun k => g 137 (24 * s + k)) hm1 hk.1 hs hp ((k6 s).trans en) (fun k _ => k7 _) (d + 24) p 0 0 (by omega)
      obtain ⟨g2, e2', hm2, hf2⟩ := m_pad_l (o := o) (it := fun k => g 137 (24 * s + k)) hs hp (d + 24) (nI c) p 0 g1 S N c (by omega) hm1 hk.1 ((k6 s).trans en) (fun k _ => k7 _) hsc c4 hk
      have c6 : nI (N 2 + c) ≤ 24 := (by decide : (24 : Int32) = nI 24) ▸ nI_le c4 (by decide)
      have c7 : nI (2 * p) ≤ nI (2 * p) := nI_le (Nat.le_refl _) (by omega)
      refine ⟨nI c, g1, g2, ?_, ?_, R_st ha hr1 hf1 hm2 hf2 hk1⟩
      · rw [zp, l3]
        rw [Nat.mul_zero, nI_0] at e1
        rcases hx6 with rfl | ⟨v, rfl⟩
        · rw [B_X11_plots_43]
          simp only [x_size hs0.1 hs, es, Option.bind_some, Option.toList_some, Option.toList_none, List.cons_append, List.nil_append, B_X11_plots_53, c7, ↓reduceIte, r_size_pl hr, B_X11_plots_142, nI_add, c6, B_X11_addPlots_0, e1, B_X11_plots_160]
        · rw [B_X11_plots_43a]
          simp only [x_size hs0.1 hs, es, Option.bind_some, Option.toList_some, Option.toList_none, List.cons_append, List.nil_append, B_X11_plots_53a, c7, ↓reduceIte, r_size_pl hr, B_X11_plots_142a, nI_add, c6, B_X11_addPlots_0, e1, B_X11_plots_160a]
      · have c8 : nI (24 * s + 2 * p) ≤ nI (24 * s + 2 * p) := nI_le (Nat.le_refl _) (by omega)
        have e24 : (24 : Int32) * nI s + nI (2 * p) = nI (24 * s + 2 * p) := by rw [show (24 : Int32) = nI 24 from rfl, pk_mul, nI_add]
        rw [mp g1 (k5 s) (k6 s), k2 c hsc, Nat.zero_add, B_X12_plots_55]
        simp only [q_rgN hs (show 4 < 2 ^ 31 by decide), k6, en, e24, c8, ↓reduceIte, m_n2 hm1, nI_add, c6]
        rw [h24]
        exact e2'
    · have hm1 : repM (q_fb g 4) S N := repM_fb hm
      obtain ⟨_, k2⟩ := m_plots_l (o := o) (it := fun k => g 137 (24 * s + k)) hm1 hk.1 hs hp ((q_fb_ne (by decide)).trans en) (fun k _ => q_fb_ne (by decide)) (d + 24) p 0 0 (by omega)
      have c6 : ¬ nI (N 2 + c) ≤ 24 := (by decide : (24 : Int32) = nI 24) ▸ nI_ge (by omega) (by omega)
      have c7 : nI (2 * p) ≤ nI (2 * p) := nI_le (Nat.le_refl _) (by omega)
      refine ⟨-1000004, q_fb g 4, q_fm (q_fb g 4) 4, ?_, ?_, R_fin hR (by decide)⟩
      · rw [zp, l3]
        rcases hx6 with rfl | ⟨v, rfl⟩
        · rw [B_X11_plots_43]
          simp only [x_size hs0.1 hs, es, z_within, z_isCell, z_fin1, z_fin2, z_fin3, z_fin4, z_fin5, Option.bind_some, Option.toList_some, Option.toList_none, List.cons_append, List.nil_append, bI_t, bI_f, i10, i00, i11, i01, ↓reduceIte, Bool.false_eq_true, B_X11_plots_53, c7, r_size_pl hr, B_X11_plots_142, nI_add, c6, B_X11_plots_8, B_X11_plots_27, B_X11_plots_18, B_X11_plots_37, B_X11_plots_53, B_X11_plots_142, B_X11_plots_66, B_X11_plots_160, B_X11_plots_154, B_X11_plots_116, B_X11_plots_88, B_X11_plots_53a, B_X11_plots_91, B_X11_plots_142a, B_X11_plots_66a, B_X11_plots_99, B_X11_plots_160a, B_X11_plots_154a]
        · rw [B_X11_plots_43a]
          simp only [x_size hs0.1 hs, es, z_within, z_isCell, z_fin1, z_fin2, z_fin3, z_fin4, z_fin5, Option.bind_some, Option.toList_some, Option.toList_none, List.cons_append, List.nil_append, bI_t, bI_f, i10, i00, i11, i01, ↓reduceIte, Bool.false_eq_true, B_X11_plots_53a, c7, r_size_pl hr, B_X11_plots_142a, nI_add, c6, B_X11_plots_8, B_X11_plots_27, B_X11_plots_18, B_X11_plots_37, B_X11_plots_53, B_X11_plots_142, B_X11_plots_66, B_X11_plots_160, B_X11_plots_154, B_X11_plots_116, B_X11_plots_88, B_X11_plots_53a, B_X11_plots_91, B_X11_plots_142a, B_X11_plots_66a, B_X11_plots_99, B_X11_plots_160a, B_X11_plots_154a]
      · have c8 : nI (24 * s + 2 * p) ≤ nI (24 * s + 2 * p) := nI_le (Nat.le_refl _) (by omega)
        have e24 : (24 : Int32) * nI s + nI (2 * p) = nI (24 * s + 2 * p) := by rw [show (24 : Int32) = nI 24 from rfl, pk_mul, nI_add]
        rw [mp _ (q_fb_ne (by decide)) (q_fb_ne (by decide)), k2 c hsc, Nat.zero_add, B_X12_plots_55]
        simp only [q_rgN hs (show 4 < 2 ^ 31 by decide), q_fb_ne (show 136 ≠ 97 by decide), en, e24, c8, y_in, y_isCell, y_fin1, y_fin2, y_fin3, y_fin4, y_fin5, Option.bind_some, Option.toList_some, Option.toList_none, List.cons_append, List.nil_append, bI_t, bI_f, i10, i00, i11, i01, ↓reduceIte, Bool.false_eq_true, m_n2 hm1, nI_add, c6, B_X12_plots_4, B_X12_plots_13, B_X12_plots_29, B_X12_plots_47, B_X12_plots_162, B_X12_plots_89, B_X12_plots_203, B_X12_plots_115, B_X12_plots_106, B_X12_plots_224, B_X12_plots_127]
