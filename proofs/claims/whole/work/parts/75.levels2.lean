section LVS
variable {o : q_H} {u r n op : Nat} {T : Nat → Int32}
/-- a piece and what follows it -/
theorem lvl_sim (hT : q_tap T n) (hr : r < 12) {lv : Int32} (hlv : lv < 5) (h2 : ¬ lv = 2) (sg : Int32 → Option Int32) (hj : ∀ c d g, q_sem d mX8_joins 0 [.int c, .int lv] [] (q_K o g) = some (some (.int (bI (sg c).isSome)), q_K o g)) (hcd : ∀ c i, sg c = some i → q_cdM i 0 (2000 + c) ∧ q_cod (2000 + c) ∧ ¬ 2000 + c < 1000 ∧ ¬ 2000 + c < 2000 ∧ ¬ 2000 + c = 2033) (hm1 : sg (-1) = none) (d e : Nat) (mR head mT : (Nat → Nat → Int32) → Option (Option Value × q_H)) (hsub : q_sim o r u T n op (fun g => q_sem (d + 2) mX8_level 0 [.ref 67, .int (lv + 1), .int (nI op), .retAddr 0, .retAddr 0, .retAddr 0] [] (q_K o g)) mR) (h0 : ∀ g p l bd, q_tm2 g r u T n p l op bd → p ≤ n → (bd = true ∨ sg (q_nb T n p) = none) → head g = some (none, q_K o g)) (h1 : ∀ g p l i, q_tm2 g r u T n p l op false → p ≤ n → sg (q_nb T n p) = some i → ∀ g2 g3, mR (q_up g 98 48 (nI (p + 1))) = some (none, q_K o g2) → q_sem (e + 1) mX12_does 0 [.ref 98, .int i, .int 0, .retAddr 0] [] (q_K o g2) = some (none, q_K o g3) → head g = head g3) (hmT : ∀ g g1, mR g = some (none, q_K o g1) → mT g = head g1) : q_sim o r u T n op (fun g => q_sem (d + 3) mX8_level 0 [.ref 67, .int lv, .int (nI op), .retAddr 0, .retAddr 0, .retAddr 0] [] (q_K o g)) mT := by
  intro gC gM p l hc hm hp hl
  have hn := hT.1
  obtain ⟨ok1, gC1, gM1, p1, cs1, e1, e2, ho1, hk1⟩ := hsub gC gM p l hc hm hp hl
  obtain ⟨a1, a2, a3, a4, a5, a6, a7, a8, a9, a10⟩ := id ho1
  have e1' : q_sem (d + 2) mX8_level 0 [.ref 67, .int (lv + 1), .int (nI op), .retAddr 0, .retAddr 0, .retAddr 0] [] (q_K o gC) = some (some (.int (bI ok1)), q_K o gC1) := e1
  have cls : ∀ A, (A = if bI ok1 = 0 then some (some (.int 0), q_K o gC1) else q_sem (d + 3) mX8_level 39 [.ref 67, .int lv, .int (nI op), .int 50, .int 0, .retAddr 0] [] (q_K o gC1)) → q_sem (d + 3) mX8_level 0 [.ref 67, .int lv, .int (nI op), .retAddr 0, .retAddr 0, .retAddr 0] [] (q_K o gC) = A := by
    intro A hA
    rw [hA, B_X8_level_0, if_pos hlv, e1']
    simp only [Option.bind_some, Option.toList_some, Option.toList_none, List.cons_append, List.nil_append, B_X8_level_19, h2, ↓reduceIte]
  cases ok1
  · obtain ⟨l2, b1, b2, b3⟩ := a10 rfl
    have hm1' : q_tm2 gM1 r u T n p1 l2 op true := tm2_fr hm (fun q j x => a4 _ _ (by omega) (by omega)) a6 b1 a7 a8
    exact ⟨false, gC1, gM1, p1, [], cls _ (by rw [if_pos (show bI false = 0 from rfl)]; rfl), (hmT _ _ e2).trans (h0 _ p1 l2 true hm1' a2 (Or.inl rfl)), ⟨a1, a2, a3, a4, a5, a6, a7, a8, fun z => absurd z (by decide), fun _ => ⟨l2, b1, b2, b3⟩⟩, fun z => absurd z (by decide)⟩
  · obtain ⟨b1, b2⟩ := a9 rfl
    obtain ⟨b3, b4⟩ := hk1 rfl
    have hc1' : q_tc2 gC1 u T n p1 (l + cs1.length) := tc2_fr hc (fun q j x => a3 _ _ (by omega) (by omega)) a5 b2.1
    have hm1' : q_tm2 gM1 r u T n p1 (l + cs1.length) op false := tm2_fr hm (fun q j x => a4 _ _ (by omega) (by omega)) a6 b2.2.1 a7 a8
    obtain ⟨ok3, gC3, gM3, p3, cs3, e5, e6, ho3, hk3⟩ := lvl_loop hT hr lv sg hj hcd hm1 d e mR head hsub h0 h1 (n - p1) p1 (l + cs1.length) 0 gC1 gM1 (.retAddr 0) (by omega) (Nat.zero_le _) hc1' hm1' (by omega) (Or.inl rfl)
    obtain ⟨c1, c2, c3, c4, c5, c6, c7, c8, c9, c10⟩ := ho3
    refine ⟨ok3, gC3, gM3, p3, cs1 ++ cs3, cls _ (by rw [if_neg (show ¬ bI true = 0 by decide)]; exact e5.symm), (hmT _ _ e2).trans e6, ⟨by omega, c2, fc2_tr a3 c3 (by omega), fm2_tr a4 c4 (by omega), c5, c6, c7, c8, fun z => ?_, fun z => ?_⟩, fun z => ⟨by omega, one_rep b4 (hk3 z)⟩⟩
    · obtain ⟨x1, x2⟩ := c9 z
      exact ⟨by rw [List.length_append]; omega, good_app b2 x2 c3 c4 (by omega)⟩
    · obtain ⟨l2, x1, x2, x3⟩ := c10 z
      exact ⟨l2, x1, by omega, by omega⟩
/-- a piece that one more may be likened to -/
theorem lvl_sim2 (hT : q_tap T n) (hr : r < 12) (sg : Int32 → Option Int32) (hj : ∀ c d g, q_sem d mX8_joins 0 [.int c, .int 2] [] (q_K o g) = some (some (.int (bI (sg c).isSome)), q_K o g)) (hcd : ∀ c i, sg c = some i → q_cdM i 0 (2000 + c) ∧ q_cod (2000 + c) ∧ ¬ 2000 + c < 1000 ∧ ¬ 2000 + c < 2000 ∧ ¬ 2000 + c = 2033) (hm1 : sg (-1) = none) (d e : Nat) (mR head mT : (Nat → Nat → Int32) → Option (Option Value × q_H)) (hsub : q_sim o r u T n op (fun g => q_sem (d + 2) mX8_level 0 [.ref 67, .int 3, .int (nI op), .retAddr 0, .retAddr 0, .retAddr 0] [] (q_K o g)) mR) (h0 : ∀ g p l bd, q_tm2 g r u T n p l op bd → p ≤ n → (bd = true ∨ sg (q_nb T n p) = none) → head g = some (none, q_K o g)) (h1 : ∀ g p l i, q_tm2 g r u T n p l op false → p ≤ n → sg (q_nb T n p) = some i → ∀ g2 g3, mR (q_up g 98 48 (nI (p + 1))) = some (none, q_K o g2) → q_sem (e + 1) mX12_does 0 [.ref 98, .int i, .int 0, .retAddr 0] [] (q_K o g2) = some (none, q_K o g3) → head g = some (none, q_K o g3)) (hmT : ∀ g g1, mR g = some (none, q_K o g1) → mT g = head g1) : q_sim o r u T n op (fun g => q_sem (d + 3) mX8_level 0 [.ref 67, .int 2, .int (nI op), .retAddr 0, .retAddr 0, .retAddr 0] [] (q_K o g)) mT := by
  intro gC gM p l hc hm hp hl
  have hn := hT.1
  obtain ⟨ok1, gC1, gM1, p1, cs1, e1, e2, ho1, hk1⟩ := hsub gC gM p l hc hm hp hl
  obtain ⟨a1, a2, a3, a4, a5, a6, a7, a8, a9, a10⟩ := id ho1
  have e1' : q_sem (d + 2) mX8_level 0 [.ref 67, .int 3, .int (nI op), .retAddr 0, .retAddr 0, .retAddr 0] [] (q_K o gC) = some (some (.int (bI ok1)), q_K o gC1) := e1
  have cls : ∀ A, (A = if bI ok1 = 0 then some (some (.int 0), q_K o gC1) else q_sem (d + 3) mX8_level 39 [.ref 67, .int 2, .int (nI op), .int 1, .int 0, .retAddr 0] [] (q_K o gC1)) → q_sem (d + 3) mX8_level 0 [.ref 67, .int 2, .int (nI op), .retAddr 0, .retAddr 0, .retAddr 0] [] (q_K o gC) = A := by
    intro A hA
    rw [hA, B_X8_level_0, if_pos (by decide), show (2 : Int32) + 1 = 3 by decide, e1']
    simp only [Option.bind_some, Option.toList_some, Option.toList_none, List.cons_append, List.nil_append, B_X8_level_19, ↓reduceIte]
  cases ok1
  · obtain ⟨l2, b1, b2, b3⟩ := a10 rfl
    have hm1' : q_tm2 gM1 r u T n p1 l2 op true := tm2_fr hm (fun q j x => a4 _ _ (by omega) (by omega)) a6 b1 a7 a8
    exact ⟨false, gC1, gM1, p1, [], cls _ (by rw [if_pos (show bI false = 0 from rfl)]; rfl), (hmT _ _ e2).trans (h0 _ p1 l2 true hm1' a2 (Or.inl rfl)), ⟨a1, a2, a3, a4, a5, a6, a7, a8, fun z => absurd z (by decide), fun _ => ⟨l2, b1, b2, b3⟩⟩, fun z => absurd z (by decide)⟩
  · obtain ⟨b1, b2⟩ := a9 rfl
    obtain ⟨b3, b4⟩ := hk1 rfl
    have hc1' : q_tc2 gC1 u T n p1 (l + cs1.length) := tc2_fr hc (fun q j x => a3 _ _ (by omega) (by omega)) a5 b2.1
    have hm1' : q_tm2 gM1 r u T n p1 (l + cs1.length) op false := tm2_fr hm (fun q j x => a4 _ _ (by omega) (by omega)) a6 b2.2.1 a7 a8
    rw [if_neg (show ¬ bI true = 0 by decide)] at cls
    cases hs : sg (q_nb T n p1) with
    | none =>
      refine ⟨true, gC1, gM1, p1, cs1, cls _ ?_, (hmT _ _ e2).trans (h0 _ p1 (l + cs1.length) false hm1' a2 (Or.inr hs)), ho1, hk1⟩
      rw [B_X8_level_39, if_neg (by decide), z_next hc1' (by omega)]
      simp only [Option.bind_some, Option.toList_some, Option.toList_none, List.cons_append, List.nil_append, B_X8_level_49, hj, hs, Option.isSome_none, B_X8_level_53, bI_f, ↓reduceIte]
      rfl
    | some is =>
      have hpn : p1 < n := by
        apply Nat.lt_of_not_le
        intro z
        have : q_nb T n p1 = -1 := if_neg (by omega)
        rw [this, hm1] at hs
        exact absurd hs (by simp)
      obtain ⟨k1, k2, k3, k4, k5⟩ := hcd _ _ hs
      have hcu : q_tc2 (q_up gC1 67 4 (nI (p1 + 1))) u T n (p1 + 1) (l + cs1.length) := tc2_fr hc1' (fun q j a => q_up_ne (by omega)) q_upE ((q_upJ (by decide)).trans hc1'.2.2.2.2)
      have hmu : q_tm2 (q_up gM1 98 48 (nI (p1 + 1))) r u T n (p1 + 1) (l + cs1.length) op false := tm2_fr hm1' (fun q j a => q_up_ne (by omega)) q_upE ((q_upJ (by decide)).trans hm1'.2.2.2.2.2.1) ((q_upJ (by decide)).trans hm1'.2.2.2.2.2.2.1) ((q_upJ (by decide)).trans hm1'.2.2.2.2.2.2.2)
      obtain ⟨ok2, gC2, gM2, p2, cs2, e3, e4, ho2, hk2⟩ := hsub _ _ (p1 + 1) (l + cs1.length) hcu hmu (by omega) (by omega)
      obtain ⟨b1', b2', b3', b4', b5', b6', b7', b8', b9', b10'⟩ := ho2
      have fC0 : q_fc2 gC1 gC2 (l + cs1.length) := fun q j x y => (b3' q j x y).trans (q_up_ne (by omega))
      have fM0 : q_fm2 gM1 gM2 r (l + cs1.length) := fun q j x y => (b4' q j x y).trans (q_up_ne (by omega))
      have e3' : q_sem (d + 2) mX8_level 0 [.ref 67, .int 3, .int (nI op), .retAddr 0, .retAddr 0, .retAddr 0] [] (q_K o (q_up gC1 67 4 (nI (p1 + 1)))) = some (some (.int (bI ok2)), q_K o gC2) := e3
      have cls2 : ∀ A, (A = if bI ok2 = 0 then some (some (.int 0), q_K o gC2) else (q_sem (d + 2) mX8_emit 0 [.ref 67, .int (2000 + q_nb T n p1)] [] (q_K o gC2)).bind (fun r => q_sem (d + 3) mX8_level 95 [.ref 67, .int 2, .int (nI op), .int 1, .int 0, .int (q_nb T n p1)] (r.1.toList ++ []) r.2)) → A = q_sem (d + 3) mX8_level 39 [.ref 67, .int 2, .int (nI op), .int 1, .int 0, .retAddr 0] [] (q_K o gC1) := by
        intro A hA
        rw [hA, B_X8_level_39, if_neg (show ¬ (1 : Int32) ≤ 0 by decide), z_next hc1' (by omega)]
        simp only [Option.bind_some, Option.toList_some, Option.toList_none, List.cons_append, List.nil_append, B_X8_level_49, hj, hs, Option.isSome_some, B_X8_level_53, bI_t, (by decide : ¬ (1 : Int32) = 0), ↓reduceIte, z_next hc1' (show p1 ≤ 50 by omega), B_X8_level_60, hc1'.2.2.2.1, nI_1, (by decide : (2 : Int32) + 1 = 3), e3', B_X8_level_80]
      cases ok2
      · obtain ⟨l2, x1, x2, x3⟩ := b10' rfl
        have hm2' : q_tm2 gM2 r u T n p2 l2 op true := tm2_fr hm1' (fun q j x => fM0 _ _ (by omega) (by omega)) b6' x1 b7' b8'
        have hd := m_does (o := o) hm2' hr (show l2 < 50 by omega) is 0 (e + 1)
        refine ⟨false, gC2, _, p2, [], cls _ (cls2 _ (by rw [if_pos (show bI false = 0 from rfl)]; rfl)), (hmT _ _ e2).trans (h1 gM1 p1 _ is hm1' a2 hs _ _ e4 hd), ⟨by omega, b2', fc2_tr a3 fC0 (by omega), fun q j x y => ?_, b5', ?_, ?_, ?_, fun z => absurd z (by decide), fun _ => ⟨l2 + 1, q_upE, by omega, by omega⟩⟩, fun z => absurd z (by decide)⟩
        · rw [q_up_ne (by omega), q_up_ne (by omega), q_up_ne (by omega)]; exact fm2_tr a4 fM0 (by omega) q j x y
        · rw [q_upJ (by decide), q_upN (by decide), q_upN (by decide)]; exact b6'
        · rw [q_upJ (by decide), q_upN (by decide), q_upN (by decide)]; exact b7'
        · rw [q_upJ (by decide), q_upN (by decide), q_upN (by decide)]; exact b8'
      · obtain ⟨x1, x2⟩ := b9' rfl
        obtain ⟨x3, x4⟩ := hk2 rfl
        have hc2' : q_tc2 gC2 u T n p2 (l + cs1.length + cs2.length) := tc2_fr hc1' (fun q j x => fC0 _ _ (by omega) (by omega)) b5' x2.1
        have hm2' : q_tm2 gM2 r u T n p2 (l + cs1.length + cs2.length) op false := tm2_fr hm1' (fun q j x => fM0 _ _ (by omega) (by omega)) b6' x2.2.1 b7' b8'
        have hlen : l + cs1.length + cs2.length < 50 := by omega
        have hd := m_does (o := o) hm2' hr hlen is 0 (e + 1)
        have hem := z_emit (o := o) hc2' hlen (2000 + q_nb T n p1) (d + 2)
        have gd12 := good_app b2 x2 fC0 fM0 (by omega)
        have hl12 : (cs1 ++ cs2).length = cs1.length + cs2.length := List.length_append
        have cls3 := cls _ (cls2 _ rfl)
        rw [if_neg (show ¬ bI true = 0 by decide), hem] at cls3
        have mm := (hmT _ _ e2).trans (h1 gM1 p1 _ is hm1' a2 hs _ _ e4 hd)
        generalize hgC3 : q_up (q_up gC2 68 (l + cs1.length + cs2.length) (2000 + q_nb T n p1)) 67 2 (nI (l + cs1.length + cs2.length + 1)) = gC3 at *
        generalize hgM3 : q_up (q_up (q_up gM2 129 (50 * r + (l + cs1.length + cs2.length)) is) 130 (50 * r + (l + cs1.length + cs2.length)) 0) 98 52 (nI (l + cs1.length + cs2.length + 1)) = gM3 at *
        have fC2 : q_fc2 gC2 gC3 (l + cs1.length + cs2.length) := fun q j x y => by rw [← hgC3, q_up_ne (by omega), q_up_ne (by omega)]
        have fM2 : q_fm2 gM2 gM3 r (l + cs1.length + cs2.length) := fun q j x y => by rw [← hgM3, q_up_ne (by omega), q_up_ne (by omega), q_up_ne (by omega)]
        have gd3 : q_good gC3 gM3 r (l + cs1.length + cs2.length) [2000 + q_nb T n p1] := by
          refine ⟨by rw [← hgC3, q_upE]; rfl, by rw [← hgM3, q_upE]; rfl, fun j hj => ?_, fun c hc => by rw [List.mem_singleton.mp hc]; exact k2⟩
          obtain rfl : j = 0 := by simp at hj; exact hj
          refine ⟨?_, ?_⟩
          · rw [← hgC3, q_upN (by decide), Nat.add_zero, q_upE]; rfl
          · rw [← hgM3, q_upN (by decide), q_upN (by decide), q_upN (show 130 ≠ 98 by decide), Nat.add_zero, q_upE, q_upE]; exact k1
        have gd := good_app gd12 (show q_good gC3 gM3 r (l + (cs1 ++ cs2).length) [2000 + q_nb T n p1] by rw [hl12, ← Nat.add_assoc]; exact gd3) (by rw [hl12, ← Nat.add_assoc]; exact fC2) (by rw [hl12, ← Nat.add_assoc]; exact fM2) (by omega)
        refine ⟨true, gC3, gM3, p2, (cs1 ++ cs2) ++ [2000 + q_nb T n p1], ?_, mm, ⟨by omega, b2', fc2_tr (fc2_tr a3 fC0 (by omega)) fC2 (by omega), fm2_tr (fm2_tr a4 fM0 (by omega)) fM2 (by omega), ?_, ?_, ?_, ?_, fun _ => ⟨by rw [List.length_append, hl12]; show _ + 1 ≤ _; omega, gd⟩, fun z => absurd z (by decide)⟩, fun _ => ⟨by omega, ?_⟩⟩
        · refine cls3.trans ?_
          simp only [Option.bind_some, Option.toList_some, Option.toList_none, List.cons_append, List.nil_append, B_X8_level_95]
          rw [B_X8_level_39a, if_pos (by decide)]
          rfl
        · rw [← hgC3, q_upJ (by decide), q_upN (by decide)]; exact b5'
        · rw [← hgM3, q_upJ (by decide), q_upN (by decide), q_upN (by decide)]; exact b6'
        · rw [← hgM3, q_upJ (by decide), q_upN (by decide), q_upN (by decide)]; exact b7'
        · rw [← hgM3, q_upJ (by decide), q_upN (by decide), q_upN (by decide)]; exact b8'
        · rw [List.append_assoc]
          exact one_rep b4 (one_bin x4 k3 k4 k5)
/-- the innermost level -/
theorem lvl_sim5 (d : Nat) (mR : (Nat → Nat → Int32) → Option (Option Value × q_H)) (hsub : q_sim o r u T n op (fun g => q_sem d mX8_part 0 [.ref 67, .int (nI op), .retAddr 0, .retAddr 0] [] (q_K o g)) mR) : q_sim o r u T n op (fun g => q_sem (d + 1) mX8_level 0 [.ref 67, .int 5, .int (nI op), .retAddr 0, .retAddr 0, .retAddr 0] [] (q_K o g)) mR := by
  intro gC gM p l hc hm hp hl
  obtain ⟨ok, gC2, gM2, p2, cs, e1, e2, h3, h4⟩ := hsub gC gM p l hc hm hp hl
  refine ⟨ok, gC2, gM2, p2, cs, ?_, e2, h3, h4⟩
  have e1' : q_sem d mX8_part 0 [.ref 67, .int (nI op), .retAddr 0, .retAddr 0] [] (q_K o gC) = _ := e1
  show q_sem (d + 1) mX8_level 0 _ [] _ = _
  rw [B_X8_level_0, if_neg (by decide), e1']
  simp only [Option.bind_some, Option.toList_some, Option.toList_none, List.cons_append, List.nil_append, B_X8_level_10, q_rB_b]
end LVS
