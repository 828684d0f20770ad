/-! texts: levels of signs -/
def q_good (gC gM : Nat → Nat → Int32) (r l : Nat) (cs : List Int32) : Prop := gC 67 2 = nI (l + cs.length) ∧ gM 98 52 = nI (l + cs.length) ∧ (∀ j (hj : j < cs.length), gC 68 (l + j) = cs[j] ∧ q_cdM (gM 129 (50 * r + (l + j))) (gM 130 (50 * r + (l + j))) cs[j]) ∧ ∀ c ∈ cs, q_cod c
theorem good_app {gC1 gM1 gC2 gM2 : Nat → Nat → Int32} {r l : Nat} {a b : List Int32} (h : q_good gC1 gM1 r l a) (h2 : q_good gC2 gM2 r (l + a.length) b) (fc : q_fc2 gC1 gC2 (l + a.length)) (fm : q_fm2 gM1 gM2 r (l + a.length)) (hl : l + a.length ≤ 50) : q_good gC2 gM2 r l (a ++ b) := by
  refine ⟨?_, ?_, fun j hj => ?_, fun c hc => ?_⟩
  · rw [h2.1, List.length_append, Nat.add_assoc]
  · rw [h2.2.1, List.length_append, Nat.add_assoc]
  · by_cases q : j < a.length
    · obtain ⟨e1, e2⟩ := h.2.2.1 j q
      rw [List.getElem_append_left q, fc _ _ (by omega) (by omega), fm _ _ (by omega) (by omega), fm _ _ (by omega) (by omega)]
      exact ⟨e1, e2⟩
    · have hj2 : j - a.length < b.length := by rw [List.length_append] at hj; omega
      obtain ⟨e1, e2⟩ := h2.2.2.1 (j - a.length) hj2
      rw [List.getElem_append_right (by omega)]
      rw [show l + a.length + (j - a.length) = l + j by omega] at e1 e2
      exact ⟨e1, e2⟩
  · rcases List.mem_append.mp hc with q | q
    · exact h.2.2.2 c q
    · exact h2.2.2.2 c q
/-- how both sides come out of a piece of the text -/
def q_out (gC gM gC2 gM2 : Nat → Nat → Int32) (r n p l op : Nat) (ok : Bool) (p2 : Nat) (cs : List Int32) : Prop := p ≤ p2 ∧ p2 ≤ n ∧ q_fc2 gC gC2 l ∧ q_fm2 gM gM2 r l ∧ gC2 67 4 = nI p2 ∧ gM2 98 48 = nI p2 ∧ gM2 98 49 = nI op ∧ gM2 98 50 = bI (!ok) ∧ (ok = true → cs.length ≤ p2 - p ∧ q_good gC2 gM2 r l cs) ∧ (ok = false → ∃ l2, gM2 98 52 = nI l2 ∧ l ≤ l2 ∧ l2 - l ≤ p2 - p)
/-- a piece that leaves one number more -/
def q_sim (o : q_H) (r u : Nat) (T : Nat → Int32) (n op : Nat) (cR mR : (Nat → Nat → Int32) → Option (Option Value × q_H)) : Prop := ∀ gC gM p l, q_tc2 gC u T n p l → q_tm2 gM r u T n p l op false → p ≤ n → l ≤ p → ∃ ok gC2 gM2 p2 cs, cR gC = some (some (.int (bI ok)), q_K o gC2) ∧ mR gM = some (none, q_K o gM2) ∧ q_out gC gM gC2 gM2 r n p l op ok p2 cs ∧ (ok = true → p < p2 ∧ q_one cs)
section LVL
variable {o : q_H} {u r n op : Nat} {T : Nat → Int32}
theorem lvl_loop (hT : q_tap T n) (hr : r < 12) (lv : Int32) (sg : Int32 → Option Int32) (hj : ∀ c d g, q_sem d mX8_joins 0 [.int c, .int lv] [] (q_K o g) = some (some (.int (bI (sg c).isSome)), q_K o g)) (hcd : ∀ c i, sg c = some i → q_cdM i 0 (2000 + c) ∧ q_cod (2000 + c) ∧ ¬ 2000 + c < 1000 ∧ ¬ 2000 + c < 2000 ∧ ¬ 2000 + c = 2033) (hm1 : sg (-1) = none) (d e : Nat) (mR head : (Nat → Nat → Int32) → Option (Option Value × q_H)) (hsub : q_sim o r u T n op (fun g => q_sem (d + 2) mX8_level 0 [.ref 67, .int (lv + 1), .int (nI op), .retAddr 0, .retAddr 0, .retAddr 0] [] (q_K o g)) mR) (h0 : ∀ g p l bd, q_tm2 g r u T n p l op bd → p ≤ n → (bd = true ∨ sg (q_nb T n p) = none) → head g = some (none, q_K o g)) (h1 : ∀ g p l i, q_tm2 g r u T n p l op false → p ≤ n → sg (q_nb T n p) = some i → ∀ g2 g3, mR (q_up g 98 48 (nI (p + 1))) = some (none, q_K o g2) → q_sem (e + 1) mX12_does 0 [.ref 98, .int i, .int 0, .retAddr 0] [] (q_K o g2) = some (none, q_K o g3) → head g = head g3) : ∀ t p l i (gC gM : Nat → Nat → Int32) (v5 : Value), p + t = n → i ≤ p → q_tc2 gC u T n p l → q_tm2 gM r u T n p l op false → l ≤ p → (v5 = .retAddr 0 ∨ ∃ z, v5 = .int z) → ∃ ok gC2 gM2 p2 cs, q_sem (d + 3) mX8_level 39 [.ref 67, .int lv, .int (nI op), .int 50, .int (nI i), v5] [] (q_K o gC) = some (some (.int (bI ok)), q_K o gC2) ∧ head gM = some (none, q_K o gM2) ∧ q_out gC gM gC2 gM2 r n p l op ok p2 cs ∧ (ok = true → q_rep cs) := by
  have hn := hT.1
  -- the end of the loop
  have fin : ∀ p l i (gC gM : Nat → Nat → Int32) (v5 : Value), p ≤ n → i ≤ p → q_tc2 gC u T n p l → q_tm2 gM r u T n p l op false → l ≤ p → (v5 = .retAddr 0 ∨ ∃ z, v5 = .int z) → sg (q_nb T n p) = none → ∃ ok gC2 gM2 p2 cs, q_sem (d + 3) mX8_level 39 [.ref 67, .int lv, .int (nI op), .int 50, .int (nI i), v5] [] (q_K o gC) = some (some (.int (bI ok)), q_K o gC2) ∧ head gM = some (none, q_K o gM2) ∧ q_out gC gM gC2 gM2 r n p l op ok p2 cs ∧ (ok = true → q_rep cs) := by
    intro p l i gC gM v5 hp hi hc hm hl hx hs
    refine ⟨true, gC, gM, p, [], ?_, h0 gM p l false hm hp (Or.inr hs), ⟨Nat.le_refl _, hp, fun _ _ _ _ => rfl, fun _ _ _ _ => rfl, hc.2.2.2.1, hm.2.2.2.2.1, hm.2.2.2.2.2.2.1, hm.2.2.2.2.2.2.2, fun _ => ⟨Nat.zero_le _, hc.2.2.2.2, hm.2.2.2.2.2.1, fun j hj => absurd hj (Nat.not_lt_zero _), fun c hc => absurd hc (List.not_mem_nil)⟩, fun z => absurd z (by decide)⟩, fun _ => rep_nil⟩
    rcases hx with rfl | ⟨z, rfl⟩
    · rw [B_X8_level_39]
      by_cases c : (50 : Int32) ≤ nI i
      · rw [if_pos c]; rfl
      · rw [if_neg c, z_next hc (by omega)]
        simp only [Option.bind_some, Option.toList_some, Option.toList_none, List.cons_append, List.nil_append, B_X8_level_49, hj, hs, Option.isSome_none, B_X8_level_53, bI_f, ↓reduceIte]
        rfl
    · rw [B_X8_level_39a]
      by_cases c : (50 : Int32) ≤ nI i
      · rw [if_pos c]; rfl
      · rw [if_neg c, z_next hc (by omega)]
        simp only [Option.bind_some, Option.toList_some, Option.toList_none, List.cons_append, List.nil_append, B_X8_level_49a, hj, hs, Option.isSome_none, B_X8_level_53a, bI_f, ↓reduceIte]
        rfl
  intro t
  induction t using Nat.strongRecOn with
  | ind t ih =>
    intro p l i gC gM v5 hp hi hc hm hl hx
    cases hs : sg (q_nb T n p) with
    | none => exact fin p l i gC gM v5 (by omega) hi hc hm hl hx hs
    | some is =>
      have hpn : p < n := by
        apply Nat.lt_of_not_le
        intro z
        have : q_nb T n p = -1 := if_neg (by omega)
        rw [this, hm1] at hs
        exact absurd hs (by simp)
      obtain ⟨k1, k2, k3, k4, k5⟩ := hcd _ _ hs
      have c50 : ¬ (50 : Int32) ≤ nI i := nI_ge (b := 50) (by omega) (by decide)
      have hcu : q_tc2 (q_up gC 67 4 (nI (p + 1))) u T n (p + 1) l := tc2_fr hc (fun q j a => q_up_ne (by omega)) q_upE ((q_upJ (by decide)).trans hc.2.2.2.2)
      have hmu : q_tm2 (q_up gM 98 48 (nI (p + 1))) r u T n (p + 1) l op false := tm2_fr hm (fun q j a => q_up_ne (by omega)) q_upE ((q_upJ (by decide)).trans hm.2.2.2.2.2.1) ((q_upJ (by decide)).trans hm.2.2.2.2.2.2.1) ((q_upJ (by decide)).trans hm.2.2.2.2.2.2.2)
      obtain ⟨ok1, gC1, gM1, p1, cs1, e1, e2, ho1, hk1⟩ := hsub _ _ (p + 1) l hcu hmu (by omega) (by omega)
      obtain ⟨a1, a2, a3, a4, a5, a6, a7, a8, a9, a10⟩ := ho1
      have fC0 : q_fc2 gC gC1 l := fun q j x y => (a3 q j x y).trans (q_up_ne (by omega))
      have fM0 : q_fm2 gM gM1 r l := fun q j x y => (a4 q j x y).trans (q_up_ne (by omega))
      have e1' : q_sem (d + 2) mX8_level 0 [.ref 67, .int (lv + 1), .int (nI op), .retAddr 0, .retAddr 0, .retAddr 0] [] (q_K o (q_up gC 67 4 (nI (p + 1)))) = some (some (.int (bI ok1)), q_K o gC1) := e1
      -- the class up to the sign's code
      have cls : ∀ A, (A = if bI ok1 = 0 then some (some (.int 0), q_K o gC1) else (q_sem (d + 2) mX8_emit 0 [.ref 67, .int (2000 + q_nb T n p)] [] (q_K o gC1)).bind (fun r => q_sem (d + 3) mX8_level 95 [.ref 67, .int lv, .int (nI op), .int 50, .int (nI i), .int (q_nb T n p)] (r.1.toList ++ []) r.2)) → q_sem (d + 3) mX8_level 39 [.ref 67, .int lv, .int (nI op), .int 50, .int (nI i), v5] [] (q_K o gC) = A := by
        intro A hA
        rw [hA]
        rcases hx with rfl | ⟨z, rfl⟩
        · rw [B_X8_level_39, if_neg c50, z_next hc (by omega)]
          simp only [Option.bind_some, Option.toList_some, Option.toList_none, List.cons_append, List.nil_append, B_X8_level_49, hj, hs, Option.isSome_some, B_X8_level_53, bI_t, (by decide : ¬ (1 : Int32) = 0), ↓reduceIte, z_next hc (show p ≤ 50 by omega), B_X8_level_60, hc.2.2.2.1, nI_1, e1', B_X8_level_80]
        · rw [B_X8_level_39a, if_neg c50, z_next hc (by omega)]
          simp only [Option.bind_some, Option.toList_some, Option.toList_none, List.cons_append, List.nil_append, B_X8_level_49a, hj, hs, Option.isSome_some, B_X8_level_53a, bI_t, (by decide : ¬ (1 : Int32) = 0), ↓reduceIte, z_next hc (show p ≤ 50 by omega), B_X8_level_60a, hc.2.2.2.1, nI_1, e1', B_X8_level_80]
      cases ok1
      · -- the text is at fault there
        obtain ⟨l2, b1, b2, b3⟩ := a10 rfl
        have hm1' : q_tm2 gM1 r u T n p1 l2 op true := tm2_fr hm (fun q j x => fM0 _ _ (by omega) (by omega)) a6 b1 a7 a8
        have hd := m_does (o := o) hm1' hr (show l2 < 50 by omega) is 0 (e + 1)
        have hm2' : q_tm2 (q_up (q_up (q_up gM1 129 (50 * r + l2) is) 130 (50 * r + l2) 0) 98 52 (nI (l2 + 1))) r u T n p1 (l2 + 1) op true := tm2_fr hm1' (fun q j x => by rw [q_up_ne (by omega), q_up_ne (by omega), q_up_ne (by omega)]) (by rw [q_upJ (by decide), q_upN (by decide), q_upN (by decide)]; exact a6) q_upE (by rw [q_upJ (by decide), q_upN (by decide), q_upN (by decide)]; exact a7) (by rw [q_upJ (by decide), q_upN (by decide), q_upN (by decide)]; exact a8)
        refine ⟨false, gC1, _, p1, [], ?_, (h1 gM p l is hm (by omega) hs _ _ e2 hd).trans (h0 _ p1 (l2 + 1) true hm2' a2 (Or.inl rfl)), ⟨by omega, a2, fC0, fun q j x y => ?_, a5, hm2'.2.2.2.2.1, hm2'.2.2.2.2.2.2.1, hm2'.2.2.2.2.2.2.2, fun z => absurd z (by decide), fun _ => ⟨l2 + 1, q_upE, by omega, by omega⟩⟩, fun z => absurd z (by decide)⟩
        · exact cls _ (by rw [if_pos (show bI false = 0 from rfl)]; rfl)
        · rw [q_up_ne (by omega), q_up_ne (by omega), q_up_ne (by omega)]; exact fM0 q j x y
      · obtain ⟨b1, b2⟩ := a9 rfl
        obtain ⟨b3, b4⟩ := hk1 rfl
        have hc1' : q_tc2 gC1 u T n p1 (l + cs1.length) := tc2_fr hc (fun q j x => fC0 _ _ (by omega) (by omega)) a5 b2.1
        have hm1' : q_tm2 gM1 r u T n p1 (l + cs1.length) op false := tm2_fr hm (fun q j x => fM0 _ _ (by omega) (by omega)) a6 b2.2.1 a7 a8
        have hlen : l + cs1.length < 50 := by omega
        have hd := m_does (o := o) hm1' hr hlen is 0 (e + 1)
        have hem := z_emit (o := o) hc1' hlen (2000 + q_nb T n p) (d + 2)
        generalize hgC2 : q_up (q_up gC1 68 (l + cs1.length) (2000 + q_nb T n p)) 67 2 (nI (l + cs1.length + 1)) = gC2 at *
        generalize hgM2 : q_up (q_up (q_up gM1 129 (50 * r + (l + cs1.length)) is) 130 (50 * r + (l + cs1.length)) 0) 98 52 (nI (l + cs1.length + 1)) = gM2 at *
        have fC1 : q_fc2 gC1 gC2 (l + cs1.length) := fun q j x y => by rw [← hgC2, q_up_ne (by omega), q_up_ne (by omega)]
        have fM1 : q_fm2 gM1 gM2 r (l + cs1.length) := fun q j x y => by rw [← hgM2, q_up_ne (by omega), q_up_ne (by omega), q_up_ne (by omega)]
        have gd1 : q_good gC2 gM2 r (l + cs1.length) [2000 + q_nb T n p] := by
          refine ⟨by rw [← hgC2, q_upE]; rfl, by rw [← hgM2, q_upE]; rfl, fun j hj => ?_, fun c hc => by rw [List.mem_singleton.mp hc]; exact k2⟩
          obtain rfl : j = 0 := by simp at hj; exact hj
          refine ⟨?_, ?_⟩
          · rw [← hgC2, q_upN (by decide), Nat.add_zero, q_upE]; rfl
          · rw [← hgM2, q_upN (by decide), q_upN (by decide), q_upN (show 130 ≠ 98 by decide), Nat.add_zero, q_upE, q_upE]; exact k1
        have gd := good_app b2 gd1 fC1 fM1 (by omega)
        have hl2 : (cs1 ++ [2000 + q_nb T n p]).length = cs1.length + 1 := by simp
        have hc2' : q_tc2 gC2 u T n p1 (l + cs1.length + 1) := tc2_fr hc1' (fun q j x => fC1 _ _ (by omega) (by omega)) (by rw [← hgC2, q_upJ (by decide), q_upN (by decide)]; exact a5) (by rw [← hgC2, q_upE])
        have hm2' : q_tm2 gM2 r u T n p1 (l + cs1.length + 1) op false := tm2_fr hm1' (fun q j x => fM1 _ _ (by omega) (by omega)) (by rw [← hgM2, q_upJ (by decide), q_upN (by decide), q_upN (by decide)]; exact a6) (by rw [← hgM2, q_upE]) (by rw [← hgM2, q_upJ (by decide), q_upN (by decide), q_upN (by decide)]; exact a7) (by rw [← hgM2, q_upJ (by decide), q_upN (by decide), q_upN (by decide)]; exact a8)
        obtain ⟨ok3, gC3, gM3, p3, cs3, e5, e6, ho3, hk3⟩ := ih (n - p1) (by omega) p1 (l + cs1.length + 1) (i + 1) gC2 gM2 (.int (q_nb T n p)) (by omega) (by omega) hc2' hm2' (by omega) (Or.inr ⟨_, rfl⟩)
        obtain ⟨c1, c2, c3, c4, c5, c6, c7, c8, c9, c10⟩ := ho3
        refine ⟨ok3, gC3, gM3, p3, (cs1 ++ [2000 + q_nb T n p]) ++ cs3, ?_, (h1 gM p l is hm (by omega) hs _ _ e2 hd).trans e6, ⟨by omega, c2, fc2_tr (fc2_tr fC0 fC1 (by omega)) c3 (by omega), fm2_tr (fm2_tr fM0 fM1 (by omega)) c4 (by omega), c5, c6, c7, c8, fun z => ?_, fun z => ?_⟩, fun z => rep_rep (one_bin b4 k3 k4 k5) (hk3 z)⟩
        · refine cls _ ?_
          rw [if_neg (show ¬ bI true = 0 by decide), hem]
          simp only [Option.bind_some, Option.toList_some, Option.toList_none, List.cons_append, List.nil_append, B_X8_level_95, nI_1]
          exact e5.symm
        · obtain ⟨x1, x2⟩ := c9 z
          refine ⟨by rw [List.length_append, hl2]; omega, good_app gd (by rw [hl2]; exact x2) (by rw [hl2]; exact c3) (by rw [hl2]; exact c4) (by rw [hl2]; omega)⟩
        · obtain ⟨l2, x1, x2, x3⟩ := c10 z
          exact ⟨l2, x1, by omega, by omega⟩
end LVL
