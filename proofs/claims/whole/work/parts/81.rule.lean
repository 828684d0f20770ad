/-! rule -/
theorem K_inj {o : q_H} {g g2 : Nat → Nat → Int32} (h : q_K o g = q_K o g2) {p k : Nat} (hp : p < 151) (hr : q_ref p k = none) : g p k = g2 p k := by
  have h1 := congrArg (fun z : q_H => z.2.2 p k) h
  simp only [q_K, hp, if_true, hr] at h1
  exact Value.int.inj h1
theorem nrN_nu (N : Nat → Nat) : q_nrN (q_nu N 8 0) = q_nrN N := by
  funext j
  by_cases h8 : j = 8
  · subst h8; rw [nrN_8, nrN_8]
  · by_cases h6 : j = 6
    · subst h6; rw [nrN_6, nrN_6, q_nu_ne (by decide)]
    · rw [nrN_ne _ h6 h8, nrN_ne _ h6 h8, q_nu_ne h8]
theorem repM_cl {h h2 S : Nat → Nat → Int32} {N : Nat → Nat} (hm : repM h S N) (hf : ∀ p j, 100 ≤ p → p < 133 → ¬ (p = 100 ∧ j = 8) → ¬ ((p = 129 ∨ p = 130) ∧ 50 * N 6 ≤ j) → h2 p j = h p j) (h8 : h2 100 8 = 0) : repM h2 S (q_nu N 8 0) := by
  refine ⟨?_, ?_, ?_, ?_, ?_, ?_, ?_, ?_⟩
  · intro q hq
    obtain ⟨f1, f2, f3, f4, f5⟩ := f_mps q hq
    obtain ⟨m1, m2⟩ := hm.1 q hq
    by_cases c8 : q.2.2.1 = 8
    · rw [c8, q_nu_eq]
      exact ⟨Nat.zero_le _, fun i hi => by omega⟩
    · rw [q_nu_ne c8]
      refine ⟨m1, fun i hi => ?_⟩
      have h129 : ¬ (q.2.1 = 129 ∨ q.2.1 = 130) := by
        by_cases c6 : q.2.2.1 = 6
        · rcases f1 c6 with rfl | rfl | rfl <;> decide
        · have := f3 c6; omega
      rw [hf _ _ (by omega) f5 (by omega) (fun z => h129 z.1)]
      exact m2 i hi
  · intro i hi h3
    rw [q_nu_ne (by decide)] at hi
    rw [hf _ _ (by decide) (by decide) (by omega) (by omega)]
    exact hm.2.1 i hi h3
  · intro r hr i hi hlt
    rw [q_nu_ne (by decide)] at hr
    rw [hf 129 _ (by decide) (by decide) (by omega) (by omega), hf 130 _ (by decide) (by decide) (by omega) (by omega)]
    exact hm.2.2.1 r hr i hi hlt
  · intro j hj
    by_cases c : j = 8
    · subst c; rw [q_nu_eq]; exact h8
    · rw [q_nu_ne c, hf _ _ (by decide) (by decide) (by omega) (by omega)]; exact hm.2.2.2.1 j hj
  · rw [hf _ _ (by decide) (by decide) (by omega) (by omega)]; exact hm.2.2.2.2.1
  · rw [hf _ _ (by decide) (by decide) (by omega) (by omega)]; exact hm.2.2.2.2.2.1
  · rw [hf _ _ (by decide) (by decide) (by omega) (by omega)]; exact hm.2.2.2.2.2.2.1
  · intro i hi
    rw [q_nu_eq] at hi; omega
theorem bI_inj {a b : Bool} (h : bI a = bI b) : a = b := by
  cases a <;> cases b <;> first | rfl | exact absurd h (by decide)
theorem cs_eq {a b : List Int32} {f : Nat → Int32} (hl : nI a.length = nI b.length) (ha : a.length ≤ 50) (hb : b.length ≤ 50) (h1 : ∀ j (hj : j < a.length), f j = a[j]) (h2 : ∀ j (hj : j < b.length), f j = b[j]) : a = b := by
  have hll := (nI_eq (by omega) (by omega)).mp hl
  apply List.ext_getElem hll
  intro i x y
  rw [← h1 i x, ← h2 i y]
theorem law_rule {o : q_H} {n : Nat} {g : Nat → Nat → Int32} (hR : q_R n g) (ho : q_oR o) (d : Nat) (x1 : Int32) (x2 : Int32) : ∃ v g1 g2, q_sem (d + 100) mX11_rule 0 [.ref 0, .int x1, .int x2, .retAddr 0] [] (q_K o g) = some (some (.int v), q_K o g1) ∧ q_sem (d + 100) mX12_rule 0 [.ref 98, .int x1, .int x2, .retAddr 0, .retAddr 0] [] (q_K o g1) = some (some (.int v), q_K o g2) ∧ q_R n g2 := by
  obtain ⟨⟨S, N, hr, hm, hk⟩, ha⟩ := id hR
  cases c1 : q_in x1 0 2
  · exact ⟨-1000001, q_fb g 1, q_fm (q_fb g 1) 1, by simp only [B_X11_rule_0, B_X11_rule_6, B_X11_rule_25, B_X11_rule_17, B_X11_rule_39, B_X11_rule_56, B_X11_rule_47, B_X11_rule_70, B_X11_rule_102, B_X11_rule_90, z_within, z_isCell, z_fin1, z_fin2, z_fin3, z_fin4, z_fin5, Option.bind_some, Option.toList_some, Option.toList_none, List.cons_append, List.nil_append, bI_t, bI_f, i10, i00, i11, i01, ↓reduceIte, Bool.false_eq_true, c1], (by simp only [B_X12_rule_0, B_X12_rule_6, B_X12_rule_26, B_X12_rule_17, B_X12_rule_45, B_X12_rule_75, y_in, y_isCell, y_fin1, y_fin2, y_fin3, y_fin4, y_fin5, Option.bind_some, Option.toList_some, Option.toList_none, List.cons_append, List.nil_append, bI_t, bI_f, i10, i00, i11, i01, ↓reduceIte, Bool.false_eq_true, c1]), R_fin hR (by decide)⟩
  cases c2 : q_in x2 0 1000
  · exact ⟨-1000001, q_fb g 1, q_fm (q_fb g 1) 1, by simp only [B_X11_rule_0, B_X11_rule_6, B_X11_rule_25, B_X11_rule_17, B_X11_rule_39, B_X11_rule_56, B_X11_rule_47, B_X11_rule_70, B_X11_rule_102, B_X11_rule_90, z_within, z_isCell, z_fin1, z_fin2, z_fin3, z_fin4, z_fin5, Option.bind_some, Option.toList_some, Option.toList_none, List.cons_append, List.nil_append, bI_t, bI_f, i10, i00, i11, i01, ↓reduceIte, Bool.false_eq_true, c1, c2], (by simp only [B_X12_rule_0, B_X12_rule_6, B_X12_rule_26, B_X12_rule_17, B_X12_rule_45, B_X12_rule_75, y_in, y_isCell, y_fin1, y_fin2, y_fin3, y_fin4, y_fin5, Option.bind_some, Option.toList_some, Option.toList_none, List.cons_append, List.nil_append, bI_t, bI_f, i10, i00, i11, i01, ↓reduceIte, Bool.false_eq_true, c1, c2]), R_fin hR (by decide)⟩
  have e6 : ∀ h : Nat → Nat → Int32, repM h S N → h 100 6 = nI (N 6) := fun h hh => hh.2.2.2.1 6 (by decide)
  have hN12 := n_cnt_ru hr
  by_cases c3 : N 6 = 12
  · have e6' := e6 _ (repM_fb (k := 4) hm)
    rw [c3] at e6'
    exact ⟨-1000004, q_fb g 4, q_fm (q_fb g 4) 4, by simp only [B_X11_rule_0, B_X11_rule_6, B_X11_rule_25, B_X11_rule_17, B_X11_rule_39, B_X11_rule_56, B_X11_rule_47, B_X11_rule_70, B_X11_rule_102, B_X11_rule_90, z_within, z_isCell, z_fin1, z_fin2, z_fin3, z_fin4, z_fin5, Option.bind_some, Option.toList_some, Option.toList_none, List.cons_append, List.nil_append, bI_t, bI_f, i10, i00, i11, i01, ↓reduceIte, Bool.false_eq_true, c1, c2, r_full_ru hr, c3, (by decide : ¬ (1 : Int32) = 0)], (by simp only [B_X12_rule_0, B_X12_rule_6, B_X12_rule_26, B_X12_rule_17, B_X12_rule_45, B_X12_rule_75, y_in, y_isCell, y_fin1, y_fin2, y_fin3, y_fin4, y_fin5, Option.bind_some, Option.toList_some, Option.toList_none, List.cons_append, List.nil_append, bI_t, bI_f, i10, i00, i11, i01, ↓reduceIte, Bool.false_eq_true, c1, c2, e6', (by decide : nI 12 = 12)]), R_fin hR (by decide)⟩
  have hN : N 6 < 12 := by omega
  obtain ⟨u, _, hu, rfl⟩ := q_in_t (a := 0) (b := 2) c1 (by decide) (by decide)
  have hu3 : u < 3 := by omega
  obtain ⟨ht19, hv19⟩ := hr.2.1 (18, 50, 1, 1, 8, 31) (by decide)
  have hn50 : N 8 ≤ 50 := ht19.2.2.2
  have hT : q_tap (S 31) (N 8) := ⟨hn50, fun i hi => ⟨q_cl2 (S 31 i), (hm.2.2.2.2.2.2.2 i hi).1, (hm.2.2.2.2.2.2.2 i hi).2⟩⟩
  have sim := sim_text (o := o) hT hN hu3 ho (d + 36) (d + 40)
  -- the class's start
  have fG : ∀ p j, p ≠ 67 → q_up (q_up (q_up g 67 3 (nI u)) 67 2 0) 67 4 0 p j = g p j := fun p j a => by rw [q_upN a, q_upN a, q_upN a]
  have hc0 : q_tc2 (q_up (q_up (q_up g 67 3 (nI u)) 67 2 0) 67 4 0) u (S 31) (N 8) 0 0 := ⟨ti_fr ht19 (fun k => fG _ _ (by decide)), fun i hi => by
    rw [fG _ _ (by decide)]
    have := hv19 0 i (by decide) hi
    rw [Nat.mul_one, Nat.add_zero, Nat.add_zero] at this
    exact this, by rw [q_upJ (by decide), q_upJ (by decide), q_upE], by rw [q_upE]; rfl, by rw [q_upJ (by decide), q_upE]; rfl⟩
  -- the Model's start, from any state that keeps its places
  have hm0 : ∀ h : Nat → Nat → Int32, repM h S N → q_tm2 (q_up (q_up (q_up (q_up (q_up h 98 48 0) 98 49 0) 98 50 0) 98 51 (nI u)) 98 52 0) (N 6) u (S 31) (N 8) 0 0 0 false := by
    intro h hh
    have fM : ∀ p j, p ≠ 98 → q_up (q_up (q_up (q_up (q_up h 98 48 0) 98 49 0) 98 50 0) 98 51 (nI u)) 98 52 0 p j = h p j := fun p j a => by rw [q_upN a, q_upN a, q_upN a, q_upN a, q_upN a]
    refine ⟨by rw [fM _ _ (by decide)]; exact hh.2.2.2.1 8 (by decide), fun i hi => by rw [fM _ _ (by decide)]; exact m_f31 hh hi, by rw [fM _ _ (by decide)]; exact e6 h hh, ?_, ?_, ?_, ?_, ?_⟩
    · rw [q_upJ (by decide), q_upE]
    · rw [q_upJ (by decide), q_upJ (by decide), q_upJ (by decide), q_upJ (by decide), q_upE]; rfl
    · rw [q_upE]; rfl
    · rw [q_upJ (by decide), q_upJ (by decide), q_upJ (by decide), q_upE]; rfl
    · rw [q_upJ (by decide), q_upJ (by decide), q_upE]; rfl
  obtain ⟨ok, gC2, _, p2, cs, e1, _, ho1, _⟩ := sim _ _ 0 0 hc0 (hm0 g hm) (Nat.zero_le _) (Nat.le_refl _)
  obtain ⟨_, a2, a3, _, a5, _, _, _, a9, _⟩ := ho1
  have e1' : q_sem (d + 98) mX8_level 0 [.ref 67, .int 0, .int 0, .retAddr 0, .retAddr 0, .retAddr 0] [] (q_K o (q_up (q_up (q_up g 67 3 (nI u)) 67 2 0) 67 4 0)) = some (some (.int (bI ok)), q_K o gC2) := e1
  have fC : ∀ p j, p ≠ 67 → p ≠ 68 → gC2 p j = g p j := fun p j a b => (a3 p j (by omega) (by omega)).trans (fG p j a)
  have hrC : repC 1 gC2 S N := repC_fr hr (fun p k a b => fC _ _ (by omega) (by omega))
  have hmC : repM gC2 S N := m_fr hm (fun p a b j => fC _ _ (by omega) (by omega))
  have t19 : q_ti gC2 19 50 1 (N 8) := ti_fr ht19 (fun k => fC _ _ (by decide) (by decide))
  have fu : ∀ p j, p ≠ 19 → q_up gC2 19 3 0 p j = gC2 p j := fun p j a => q_upN a
  have t19' : q_ti (q_up gC2 19 3 0) 19 50 1 0 := ⟨by rw [q_upJ (by decide)]; exact t19.1, by rw [q_upJ (by decide)]; exact t19.2.1, by rw [q_upE]; rfl, by omega⟩
  obtain ⟨gK, eK, hrK, fK⟩ := r_clear_ta (o := o) hrC (d + 98)
  have eK' : q_sem (d + 99) mX7_clear 0 [.ref 19] [] (q_K o gC2) = some (none, q_K o (q_up gC2 19 3 0)) := s_clear (d + 98) q_tb19
  -- the second look: the same on the class's side, the Model from the class's end
  have again : ∀ h : Nat → Nat → Int32, repM h S N → ∃ gM2 l2, q_sem (d + 99) mX12_readT 0 [.ref 98] [] (q_K o (q_up (q_up (q_up (q_up (q_up h 98 48 0) 98 49 0) 98 50 0) 98 51 (nI u)) 98 52 0)) = some (none, q_K o gM2) ∧ q_fm2 (q_up (q_up (q_up (q_up (q_up h 98 48 0) 98 49 0) 98 50 0) 98 51 (nI u)) 98 52 0) gM2 (N 6) 0 ∧ gM2 98 48 = nI p2 ∧ gM2 98 50 = bI (!ok) ∧ gM2 98 52 = nI l2 ∧ (ok = true → l2 = cs.length ∧ cs.length ≤ 50 ∧ gC2 67 2 = nI cs.length ∧ (∀ j (hj : j < cs.length), gC2 68 j = cs[j]) ∧ (∀ j (hj : j < cs.length), q_cdM (gM2 129 (50 * N 6 + j)) (gM2 130 (50 * N 6 + j)) cs[j]) ∧ q_rk cs) := by
    intro h hh
    obtain ⟨ok', gC2', gM2, p2', cs', x1, x2, x3, x4⟩ := sim _ _ 0 0 hc0 (hm0 h hh) (Nat.zero_le _) (Nat.le_refl _)
    obtain ⟨_, b2, _, b4, b5, b6, _, b8, b9, b10⟩ := x3
    have hEq := e1.symm.trans x1
    have hpair := Option.some.inj hEq
    have hok : ok = ok' := bI_inj (Value.int.inj (Option.some.inj (congrArg Prod.fst hpair)))
    have hK : q_K o gC2 = q_K o gC2' := congrArg Prod.snd hpair
    subst hok
    have hp : p2 = p2' := by
      have := K_inj hK (p := 67) (k := 4) (by decide) (by decide)
      rw [a5, b5] at this
      exact (nI_eq (by omega) (by omega)).mp this
    subst hp
    cases ok
    · obtain ⟨l2, y1, _, _⟩ := b10 rfl
      exact ⟨gM2, l2, x2, b4, b6, b8, y1, fun z => absurd z (by decide)⟩
    · obtain ⟨y1, y2, y3, y4, y5⟩ := b9 rfl
      obtain ⟨z1, z2, z3, z4, z5⟩ := a9 rfl
      have hcs : cs = cs' := by
        refine cs_eq (f := gC2 68) ?_ (by omega) (by omega) (fun j hj => ?_) (fun j hj => ?_)
        · have := K_inj hK (p := 67) (k := 2) (by decide) (by decide)
          rw [z2, y2, Nat.zero_add, Nat.zero_add] at this
          exact this
        · have := (z4 j hj).1; rw [Nat.zero_add] at this; exact this
        · have := (y4 j hj).1; rw [Nat.zero_add] at this
          exact (K_inj hK (p := 68) (k := j) (by decide) rfl).trans this
      subst hcs
      refine ⟨gM2, cs.length, x2, b4, b6, b8, by rw [y3, Nat.zero_add], fun _ => ⟨rfl, by omega, by rw [z2, Nat.zero_add], fun j hj => by have := (z4 j hj).1; rw [Nat.zero_add] at this; exact this, fun j hj => by have := (y4 j hj).2; rw [Nat.zero_add] at this; exact this, y5, fun nm => ?_⟩⟩
      obtain ⟨v, hv⟩ := (x4 rfl).2 nm []
      exact ⟨v, hv⟩
  have hread : q_sem (d + 99) mX8_read 0 [.ref 67, .int (nI u)] [] (q_K o g) = some (some (.int (bI (ok && decide (p2 = N 8)))), q_K o gC2) := by
    rw [B_X8_read_0, e1']
    simp only [Option.bind_some, Option.toList_some, Option.toList_none, List.cons_append, List.nil_append]
    rw [B_X8_read_21]
    cases ok
    · rw [if_pos (show bI false = 0 from rfl)]; rfl
    · rw [if_neg (show ¬ bI true = 0 by decide), s_size _ q_tb19, t19.2.2.1]
      simp only [Option.bind_some, Option.toList_some, Option.toList_none, List.cons_append, List.nil_append, B_X8_read_35, a5]
      by_cases q : p2 = N 8
      · rw [if_pos (by rw [q]), decide_eq_true q]; rfl
      · rw [if_neg (fun z => q ((nI_eq (by omega) (by omega)).mp z)), decide_eq_false q]; rfl
  have fK' : ∀ p j, ¬ (1 ≤ p ∧ p < 23) → gK p j = gC2 p j := fun p j a => fK p j (by omega)
  have hmK : repM gK S N := m_fr hmC (fun p a b j => fK' _ _ (by omega))
  have hpl : gK 67 4 = nI p2 := (fK' _ _ (by decide)).trans a5
  have hdep : ∀ p k, q_dep p k → gK p k = g p k := fun p k z => by
    unfold q_dep at z
    rw [fK' _ _ (by omega), fC _ _ (by omega) (by omega)]
  have c3' : ¬ (N 6 = 12) := c3
  have cls : ∀ A, (A = if bI (ok && decide (p2 = N 8)) = 0 then some (some (.int (-10 - nI p2)), q_K o gK) else (q_sem (d + 99) mX5_make 0 [.ref 16, .int (nI u), .int x2, .ref 67, .retAddr 0, .retAddr 0] [] (q_K o gK)).bind (fun r => q_sem (d + 100) mX11_rule 90 [.ref 0, .int (nI u), .int x2, .int (bI (ok && decide (p2 = N 8)))] (r.1.toList ++ []) r.2)) → q_sem (d + 100) mX11_rule 0 [.ref 0, .int (nI u), .int x2, .retAddr 0] [] (q_K o g) = A := by
    intro A hA
    rw [hA]
    simp only [B_X11_rule_0, B_X11_rule_6, B_X11_rule_17, B_X11_rule_39, B_X11_rule_56, B_X11_rule_70, z_within, z_isCell, z_fin1, z_fin2, z_fin3, z_fin4, z_fin5, Option.bind_some, Option.toList_some, Option.toList_none, List.cons_append, List.nil_append, bI_t, bI_f, i10, i00, i11, i01, ↓reduceIte, Bool.false_eq_true, c1, c2, r_full_ru hr, c3', hread, eK, B_X8_place_0, hpl, B_X11_rule_102]
  have mdl : ∀ h gM2 : Nat → Nat → Int32, repM h S N → q_sem (d + 99) mX12_readT 0 [.ref 98] [] (q_K o (q_up (q_up (q_up (q_up (q_up h 98 48 0) 98 49 0) 98 50 0) 98 51 (nI u)) 98 52 0)) = some (none, q_K o gM2) → ∀ A, q_sem (d + 100) mX12_rule 75 [.ref 98, .int (nI u), .int x2, .retAddr 0, .retAddr 0] [] (q_K o gM2) = A → q_sem (d + 100) mX12_rule 0 [.ref 98, .int (nI u), .int x2, .retAddr 0, .retAddr 0] [] (q_K o h) = A := by
    intro h gM2 hh hrd A hA
    have h12 : ¬ h 100 6 = 12 := by
      rw [e6 h hh]
      exact fun z => c3 ((nI_eq (b := 12) (by omega) (by decide)).mp z)
    simp only [B_X12_rule_0, B_X12_rule_6, B_X12_rule_17, y_in, y_isCell, y_fin1, y_fin2, y_fin3, y_fin4, y_fin5, Option.bind_some, Option.toList_some, Option.toList_none, List.cons_append, List.nil_append, bI_t, bI_f, i10, i00, i11, i01, ↓reduceIte, Bool.false_eq_true, c1, c2, h12, hrd]
    exact hA
  cases hgood : (ok && decide (p2 = N 8))
  · -- no text
    rw [hgood] at cls
    obtain ⟨gM2, l2, x1', x2', x3', x4', _, _⟩ := again gK hmK
    have fM : ∀ p j, ¬ (p = 98 ∧ 48 ≤ j ∧ j < 53) → ¬ ((p = 129 ∨ p = 130) ∧ 50 * N 6 ≤ j) → gM2 p j = gK p j := fun p j a b => by
      rw [x2' p j (by omega) (by omega), q_up_ne (by omega), q_up_ne (by omega), q_up_ne (by omega), q_up_ne (by omega), q_up_ne (by omega)]
    have e8 : gM2 100 8 = nI (N 8) := by rw [fM _ _ (by omega) (by omega)]; exact hmK.2.2.2.1 8 (by decide)
    refine ⟨-10 - nI p2, gK, q_up gM2 100 8 0, cls _ (by rw [if_pos (show bI false = 0 from rfl)]), mdl gK gM2 hmK x1' _ ?_, R_mk (S := S) (N := q_nu N 8 0) (repC_fr hrK (fun p k a b => by rw [q_upN (by omega), fM _ _ (by omega) (by omega)])) (repM_cl hmK (fun p j a b c e => by rw [q_up_ne c, fM _ _ (by omega) e]) q_upE) (ok_N hk (fun j hj => q_nu_ne (by omega))) ha (fun p k z => by
      have := hdep p k z
      unfold q_dep at z
      rw [q_up_ne (by omega), fM _ _ (by omega) (by omega)]; exact this)⟩
    rw [B_X12_rule_75, x4', e8, x3', q_upN (show 98 ≠ 100 by decide), x3']
    cases ok
    · rw [if_neg (show ¬ bI (!false) = 0 by decide)]
    · have hp : ¬ p2 = N 8 := by
        intro z
        rw [decide_eq_true z] at hgood
        exact absurd hgood (by decide)
      rw [if_pos (show bI (!true) = 0 from rfl), if_neg (fun z => hp ((nI_eq (by omega) (by omega)).mp z))]
  · -- a text
    rw [hgood] at cls
    rw [Bool.and_eq_true] at hgood
    obtain ⟨rfl, hp⟩ := hgood
    have hp2 := of_decide_eq_true hp
    obtain ⟨_, _, _, _, _, _, _, hy⟩ := again gK hmK
    obtain ⟨_, hl50, hl2, hcd, _, hrk⟩ := hy rfl
    have hN6 : q_nu N 8 0 6 = N 6 := q_nu_ne (by decide)
    have tK : q_ti gK 19 50 1 0 := by
      have := (hrK.2.1 (18, 50, 1, 1, 8, 31) (by decide)).1
      have e : q_nu N 8 0 8 = 0 := q_nu_eq
      have h2 : q_ti gK 19 50 1 (q_nu N 8 0 8) := this
      rw [e] at h2; exact h2
    obtain ⟨g5, e5, hr5, f5⟩ := z_make (o := o) (N := q_nu N 8 0) (cs := cs) hrK (by rw [hN6]; exact hN) hl50 tK ((fK' _ _ (by decide)).trans hl2) (fun j hj => (fK' _ _ (by decide)).trans (hcd j hj)) (nI u) x2 (d + 96)
    rw [hN6, nrN_nu] at hr5
    rw [hN6] at e5
    have hm5 : repM g5 S N := m_fr hmK (fun p a b j => f5 _ _ (by omega) (by omega))
    obtain ⟨gM2, l2, x1', x2', x3', x4', x5', hy2⟩ := again g5 hm5
    obtain ⟨rfl, _, _, _, hcdm, _⟩ := hy2 rfl
    have fM : ∀ p j, ¬ (p = 98 ∧ 48 ≤ j ∧ j < 53) → ¬ ((p = 129 ∨ p = 130) ∧ 50 * N 6 ≤ j) → gM2 p j = g5 p j := fun p j a b => by
      rw [x2' p j (by omega) (by omega), q_up_ne (by omega), q_up_ne (by omega), q_up_ne (by omega), q_up_ne (by omega), q_up_ne (by omega)]
    have e8 : gM2 100 8 = nI (N 8) := by rw [fM _ _ (by omega) (by omega)]; exact hm5.2.2.2.1 8 (by decide)
    have e6' : gM2 100 6 = nI (N 6) := by rw [fM _ _ (by omega) (by omega)]; exact e6 g5 hm5
    have fin : ∀ p j, ¬ (p = 100 ∧ (j = 6 ∨ j = 8)) → ¬ ((p = 126 ∨ p = 127 ∨ p = 128) ∧ j = N 6) → q_up (q_up (q_up (q_up (q_up gM2 100 8 0) 126 (N 6) (nI u)) 127 (N 6) x2) 128 (N 6) (nI cs.length)) 100 6 (nI (N 6 + 1)) p j = gM2 p j := fun p j a b => by
      rw [q_up_ne (by omega), q_up_ne (by omega), q_up_ne (by omega), q_up_ne (by omega), q_up_ne (by omega)]
    refine ⟨nI (N 6), g5, q_up (q_up (q_up (q_up (q_up gM2 100 8 0) 126 (N 6) (nI u)) 127 (N 6) x2) 128 (N 6) (nI cs.length)) 100 6 (nI (N 6 + 1)), cls _ ?_, mdl g5 gM2 hm5 x1' _ ?_, R_mk (S := q_nru S (N 6) (nI u) x2 cs) (N := q_nrN N) (repC_fr hr5 (fun p k a b => by rw [fin _ _ (by omega) (by omega), fM _ _ (by omega) (by omega)])) (repM_nr hm5 hN hl50 (fun p j a b c e f => by rw [fin _ _ c e, fM _ _ (by omega) f]) q_upE ?_ ?_ ?_ ?_ ?_) (ok_nr hk hl50 hrk) ha (fun p k z => ?_)⟩
    · rw [if_neg (show ¬ bI true = 0 by decide), e5]
      simp only [Option.bind_some, Option.toList_some, Option.toList_none, List.cons_append, List.nil_append, B_X11_rule_6, B_X11_rule_25, B_X11_rule_17, B_X11_rule_39, B_X11_rule_56, B_X11_rule_47, B_X11_rule_70, B_X11_rule_102, B_X11_rule_90]
    · rw [B_X12_rule_75, x4', e8, x3', hp2, if_pos (show bI (!true) = 0 from rfl), if_pos rfl]
      have e6'' : q_up gM2 100 8 0 100 6 = nI (N 6) := (q_upJ (by decide)).trans e6'
      simp only [e6'', q_rgN hN (show 12 < 2 ^ 31 by decide), q_upN (show 100 ≠ 128 by decide), q_upN (show 100 ≠ 127 by decide), q_upN (show 100 ≠ 126 by decide), q_upN (show 98 ≠ 127 by decide), q_upN (show 98 ≠ 126 by decide), q_upN (show 98 ≠ 100 by decide), x5', nI_1]
    · rw [q_upJ (by decide), q_upN (by decide), q_upN (by decide), q_upN (by decide), q_upE]
    · rw [q_upN (by decide), q_upN (by decide), q_upN (by decide), q_upE]
    · rw [q_upN (by decide), q_upN (by decide), q_upE]
    · rw [q_upN (by decide), q_upE]
    · intro i hi
      rw [fin _ _ (by omega) (by omega), fin _ _ (by omega) (by omega)]
      exact hcdm i hi
    · have := hdep p k z
      unfold q_dep at z
      rw [fin _ _ (by omega) (by omega), fM _ _ (by omega) (by omega), f5 _ _ (by omega) (by omega)]; exact this
