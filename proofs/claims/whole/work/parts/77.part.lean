section PRT
variable {o : q_H} {u r n op : Nat} {T : Nat → Int32}
theorem z_digit (g : Nat → Nat → Int32) (c : Int32) (d : Nat) : q_sem (d + 2) mX8_isDigit 0 [.int c] [] (q_K o g) = some (some (.int (bI (q_in c 48 57))), q_K o g) := by
  rw [B_X8_isDigit_0, z_within]
  simp only [Option.bind_some, Option.toList_some, Option.toList_none, List.cons_append, List.nil_append, B_X8_isDigit_8, q_rB_b]
theorem dig_t {c : Int32} (h : q_in c 48 57 = true) : ∃ b, 48 ≤ b ∧ b ≤ 57 ∧ c = nI b := q_in_t (a := 48) (b := 57) h (by decide) (by decide)
theorem nb_lt {p : Nat} (h : q_nb T n p ≠ -1) : p < n := by
  apply Nat.lt_of_not_le
  intro z
  exact h (if_neg (by omega))
/-- the digits of a number from the second on -/
theorem num_loop (hT : q_tap T n) (hr : r < 12) (d e : Nat) (x1 : Int32) : ∀ t i v p l (gC gM : Nat → Nat → Int32), i + t = 3 → v < 10 ^ i → p ≤ n → l < 50 → q_tc2 gC u T n p l → q_tm2 gM r u T n p l op false → ∃ gC2 gM2 p2 v2, q_sem (d + 3) mX8_number 4 [.ref 67, .int (nI v), .int (nI i)] [] (q_K o gC) = some (some (.int 1), q_K o gC2) ∧ q_sem (e + 3) mX12_readQ 28 [.ref 98, .int x1, .int (nI v), .int (nI i)] [] (q_K o gM) = some (none, q_K o gM2) ∧ v2 < 1000 ∧ p ≤ p2 ∧ p2 ≤ n ∧ q_fc2 gC gC2 l ∧ q_fm2 gM gM2 r l ∧ gC2 67 4 = nI p2 ∧ gM2 98 48 = nI p2 ∧ gM2 98 49 = nI op ∧ gM2 98 50 = 0 ∧ q_good gC2 gM2 r l [nI v2] := by
  have hn := hT.1
  -- the end
  have fin : ∀ v p l (gC gM : Nat → Nat → Int32), v < 1000 → p ≤ n → l < 50 → q_tc2 gC u T n p l → q_tm2 gM r u T n p l op false → ∃ gC2 gM2, q_sem (d + 2) mX8_emit 0 [.ref 67, .int (nI v)] [] (q_K o gC) = some (none, q_K o gC2) ∧ q_sem (e + 2) mX12_does 0 [.ref 98, .int 0, .int (nI v), .retAddr 0] [] (q_K o gM) = some (none, q_K o gM2) ∧ q_fc2 gC gC2 l ∧ q_fm2 gM gM2 r l ∧ gC2 67 4 = nI p ∧ gM2 98 48 = nI p ∧ gM2 98 49 = nI op ∧ gM2 98 50 = 0 ∧ q_good gC2 gM2 r l [nI v] := by
    intro v p l gC gM hv hp hl hc hm
    refine ⟨_, _, z_emit hc hl _ _, m_does hm hr hl _ _ _, fun q j x y => by rw [q_up_ne (by omega), q_up_ne (by omega)], fun q j x y => by rw [q_up_ne (by omega), q_up_ne (by omega), q_up_ne (by omega)], ?_, ?_, ?_, ?_, ?_⟩
    · rw [q_upJ (by decide), q_upN (by decide)]; exact hc.2.2.2.1
    · rw [q_upJ (by decide), q_upN (by decide), q_upN (by decide)]; exact hm.2.2.2.2.1
    · rw [q_upJ (by decide), q_upN (by decide), q_upN (by decide)]; exact hm.2.2.2.2.2.2.1
    · rw [q_upJ (by decide), q_upN (by decide), q_upN (by decide)]; exact hm.2.2.2.2.2.2.2
    · refine ⟨by rw [q_upE]; rfl, by rw [q_upE]; rfl, fun j hj => ?_, fun c hc => by rw [List.mem_singleton.mp hc]; exact Or.inl ⟨v, hv, rfl⟩⟩
      obtain rfl : j = 0 := by simp at hj; exact hj
      refine ⟨?_, ?_⟩
      · rw [q_upN (by decide), Nat.add_zero, q_upE]; rfl
      · rw [q_upN (by decide), q_upN (by decide), q_upN (show 130 ≠ 98 by decide), Nat.add_zero, q_upE, q_upE]
        exact Or.inl ⟨rfl, rfl, v, hv, rfl⟩
  intro t
  induction t with
  | zero =>
    intro i v p l gC gM hi hv hp hl hc hm
    obtain rfl : i = 3 := by omega
    obtain ⟨gC2, gM2, e1, e2, f1, f2, f3, f4, f5, f6, f7⟩ := fin v p l gC gM (by omega) hp hl hc hm
    refine ⟨gC2, gM2, p, v, ?_, ?_, by omega, Nat.le_refl _, hp, f1, f2, f3, f4, f5, f6, f7⟩
    · rw [B_X8_number_4, if_pos (by decide), e1]
      simp only [Option.bind_some, Option.toList_some, Option.toList_none, List.cons_append, List.nil_append, B_X8_number_53]
    · rw [B_X12_readQ_28, if_pos (by decide), e2]
      simp only [Option.bind_some, Option.toList_some, Option.toList_none, List.cons_append, List.nil_append, B_X12_readQ_82]
  | succ t ih =>
    intro i v p l gC gM hi hv hp hl hc hm
    have c3 : ¬ (3 : Int32) ≤ nI i := nI_ge (b := 3) (by omega) (by decide)
    have hv3 : v < 1000 := Nat.lt_of_lt_of_le hv (show 10 ^ i ≤ 10 ^ 3 from Nat.pow_le_pow_right (by decide) (by omega))
    cases hd : q_in (q_nb T n p) 48 57
    · obtain ⟨gC2, gM2, e1, e2, f1, f2, f3, f4, f5, f6, f7⟩ := fin v p l gC gM hv3 hp hl hc hm
      refine ⟨gC2, gM2, p, v, ?_, ?_, hv3, Nat.le_refl _, hp, f1, f2, f3, f4, f5, f6, f7⟩
      · rw [B_X8_number_4, if_neg c3, z_next hc (by omega)]
        simp only [Option.bind_some, Option.toList_some, Option.toList_none, List.cons_append, List.nil_append, B_X8_number_13, z_digit, hd, bI_f, B_X8_number_16, ↓reduceIte, e1, B_X8_number_53]
      · rw [B_X12_readQ_28, if_neg c3, m_byte hm hn (by omega)]
        simp only [Option.bind_some, Option.toList_some, Option.toList_none, List.cons_append, List.nil_append, B_X12_readQ_37, y_in, hd, bI_f, B_X12_readQ_44, ↓reduceIte, e2, B_X12_readQ_82]
    · obtain ⟨b, hb1, hb2, eb⟩ := dig_t hd
      have hd' : q_in (nI b) 48 57 = true := by rw [← eb]; exact hd
      have hpn : p < n := nb_lt (by rw [eb]; intro z; exact absurd (show (0 : Int32) ≤ nI b from nI_pos' (by omega)) (by rw [z]; decide))
      have hi2 : i ≤ 2 := by omega
      have hpow : 10 ^ (i + 1) = 10 * 10 ^ i := by rw [Nat.pow_succ, Nat.mul_comm]
      have hv2 : 10 * v + b - 48 < 10 ^ (i + 1) := by rw [hpow]; omega
      have ev : 10 * nI v + nI b - 48 = nI (10 * v + b - 48) := by
        rw [show (10 : Int32) = nI 10 from rfl, pk_mul, nI_add, show (48 : Int32) = nI 48 from rfl, nI_sub (by omega)]
      have hcu : q_tc2 (q_up gC 67 4 (nI (p + 1))) u T n (p + 1) l := tc2_fr hc (fun q j a => q_up_ne (by omega)) q_upE ((q_upJ (by decide)).trans hc.2.2.2.2)
      have hmu : q_tm2 (q_up gM 98 48 (nI (p + 1))) r u T n (p + 1) l op false := tm2_fr hm (fun q j a => q_up_ne (by omega)) q_upE ((q_upJ (by decide)).trans hm.2.2.2.2.2.1) ((q_upJ (by decide)).trans hm.2.2.2.2.2.2.1) ((q_upJ (by decide)).trans hm.2.2.2.2.2.2.2)
      obtain ⟨gC2, gM2, p2, v2, e1, e2, f0, f1, f2, f3, f4, f5, f6, f7, f8, f9⟩ := ih (i + 1) (10 * v + b - 48) (p + 1) l _ _ (by omega) hv2 (by omega) hl hcu hmu
      refine ⟨gC2, gM2, p2, v2, ?_, ?_, f0, by omega, f2, fun q j x y => (f3 q j x y).trans (q_up_ne (by omega)), fun q j x y => (f4 q j x y).trans (q_up_ne (by omega)), f5, f6, f7, f8, f9⟩
      · rw [B_X8_number_4, if_neg c3, z_next hc (by omega)]
        simp only [Option.bind_some, Option.toList_some, Option.toList_none, List.cons_append, List.nil_append, B_X8_number_13, z_digit, hd, hd', bI_t, B_X8_number_16, (by decide : ¬ (1 : Int32) = 0), ↓reduceIte, z_next hc (show p ≤ 50 by omega), B_X8_number_27, eb, ev, hc.2.2.2.1, nI_1, e1]
      · rw [B_X12_readQ_28, if_neg c3, m_byte hm hn (by omega)]
        simp only [Option.bind_some, Option.toList_some, Option.toList_none, List.cons_append, List.nil_append, B_X12_readQ_37, y_in, hd, hd', bI_t, B_X12_readQ_44, (by decide : ¬ (1 : Int32) = 0), ↓reduceIte, m_byte hm hn (show p ≤ 50 by omega), B_X12_readQ_55, eb, ev, hm.2.2.2.2.1, nI_1, e2]
/-- one part -/
theorem sim_part (hT : q_tap T n) (hr : r < 12) (hu : u < 3) (ho : q_oR o) (hop : op ≤ 5) (d e : Nat) (hL : op < 5 → q_sim o r u T n (op + 1) (fun g => q_sem (d + 4) mX8_level 0 [.ref 67, .int 0, .int (nI (op + 1)), .retAddr 0, .retAddr 0, .retAddr 0] [] (q_K o g)) (fun g => q_sem (e + 3) mX12_readT 0 [.ref 98] [] (q_K o g))) (hP : op < 5 → q_sim o r u T n (op + 1) (fun g => q_sem (d + 4) mX8_part 0 [.ref 67, .int (nI (op + 1)), .retAddr 0, .retAddr 0] [] (q_K o g)) (fun g => q_sem (e + 3) mX12_readQ 0 [.ref 98, .retAddr 0, .retAddr 0, .retAddr 0] [] (q_K o g))) : q_sim o r u T n op (fun g => q_sem (d + 6) mX8_part 0 [.ref 67, .int (nI op), .retAddr 0, .retAddr 0] [] (q_K o g)) (fun g => q_sem (e + 4) mX12_readQ 0 [.ref 98, .retAddr 0, .retAddr 0, .retAddr 0] [] (q_K o g)) := by
  intro gC gM p l hc hm hp hl
  dsimp only
  have hn := hT.1
  -- both at fault here
  have bad : (∃ v, q_sem (d + 6) mX8_part 0 [.ref 67, .int (nI op), .retAddr 0, .retAddr 0] [] (q_K o gC) = some (some (.int v), q_K o gC) ∧ v = 0) → q_sem (e + 4) mX12_readQ 0 [.ref 98, .retAddr 0, .retAddr 0, .retAddr 0] [] (q_K o gM) = some (none, q_K o (q_up gM 98 50 1)) → ∃ ok gC2 gM2 p2 cs, q_sem (d + 6) mX8_part 0 [.ref 67, .int (nI op), .retAddr 0, .retAddr 0] [] (q_K o gC) = some (some (.int (bI ok)), q_K o gC2) ∧ q_sem (e + 4) mX12_readQ 0 [.ref 98, .retAddr 0, .retAddr 0, .retAddr 0] [] (q_K o gM) = some (none, q_K o gM2) ∧ q_out gC gM gC2 gM2 r n p l op ok p2 cs ∧ (ok = true → p < p2 ∧ q_one cs) := by
    rintro ⟨v, h1, rfl⟩ h2
    exact ⟨false, gC, _, p, [], h1, h2, ⟨Nat.le_refl _, hp, fun _ _ _ _ => rfl, fun q j x y => q_up_ne (by omega), hc.2.2.2.1, (q_upJ (by decide)).trans hm.2.2.2.2.1, (q_upJ (by decide)).trans hm.2.2.2.2.2.2.1, q_upE, fun z => absurd z (by decide), fun _ => ⟨l, (q_upJ (by decide)).trans hm.2.2.2.2.2.1, Nat.le_refl _, by omega⟩⟩, fun z => absurd z (by decide)⟩
  have hb0 : gM 98 50 = 0 := hm.2.2.2.2.2.2.2
  by_cases hpn : p < n
  rotate_left
  · have hnb : q_nb T n p = -1 := if_neg hpn
    refine bad ⟨0, ?_, rfl⟩ ?_
    · rw [B_X8_part_0, z_next hc (by omega), hnb]
      simp only [Option.bind_some, Option.toList_some, Option.toList_none, List.cons_append, List.nil_append, B_X8_part_4, z_digit, (by decide : q_in (-1) 48 57 = false), bI_f, B_X8_part_9, ↓reduceIte, z_nameN, B_X8_part_22, (by decide : (-1 : Int32) < 0), (by decide : ¬ (-1 : Int32) = 33), (by decide : ¬ (-1 : Int32) = 40)]
    · rw [B_X12_readQ_0, if_pos hb0, m_byte hm hn (by omega), hnb]
      simp only [Option.bind_some, Option.toList_some, Option.toList_none, List.cons_append, List.nil_append, B_X12_readQ_12, y_in, (by decide : q_in (-1) 48 57 = false), bI_f, B_X12_readQ_21, ↓reduceIte, m_nameN hm hu, B_X12_readQ_90, (by decide : (-1 : Int32) < 0), (by decide : ¬ (-1 : Int32) = 33), (by decide : ¬ (-1 : Int32) = 40)]
  obtain ⟨b, hb, eb⟩ := hT.2 p hpn
  have hnb : q_nb T n p = nI b := (if_pos hpn).trans eb
  have hl50 : l < 50 := by omega
  have hcu : q_tc2 (q_up gC 67 4 (nI (p + 1))) u T n (p + 1) l := tc2_fr hc (fun q j a => q_up_ne (by omega)) q_upE ((q_upJ (by decide)).trans hc.2.2.2.2)
  have hmu : q_tm2 (q_up gM 98 48 (nI (p + 1))) r u T n (p + 1) l op false := tm2_fr hm (fun q j a => q_up_ne (by omega)) q_upE ((q_upJ (by decide)).trans hm.2.2.2.2.2.1) ((q_upJ (by decide)).trans hm.2.2.2.2.2.2.1) ((q_upJ (by decide)).trans hm.2.2.2.2.2.2.2)
  cases hd : q_in (nI b) 48 57
  rotate_left
  · -- a number
    obtain ⟨b2, hb1, hb2, eb2⟩ := dig_t hd
    obtain rfl : b = b2 := (nI_eq (by omega) (by omega)).mp eb2
    have ev : 10 * (0 : Int32) + nI b - 48 = nI (b - 48) := by
      rw [show (10 : Int32) * 0 = nI 0 by decide, nI_add, show (48 : Int32) = nI 48 from rfl, nI_sub (by omega), Nat.zero_add]
    obtain ⟨gC2, gM2, p2, v2, e1, e2, f0, f1, f2, f3, f4, f5, f6, f7, f8, f9⟩ := num_loop (o := o) hT hr (d + 2) (e + 1) (nI b) 2 1 (b - 48) (p + 1) l _ _ (by decide) (by omega) (by omega) hl50 hcu hmu
    refine ⟨true, gC2, gM2, p2, [nI v2], ?_, ?_, ⟨by omega, f2, fun q j x y => (f3 q j x y).trans (q_up_ne (by omega)), fun q j x y => (f4 q j x y).trans (q_up_ne (by omega)), f5, f6, f7, f8, fun _ => ⟨by show 1 ≤ _; omega, f9⟩, fun z => absurd z (by decide)⟩, fun _ => ⟨by omega, one_num (nI_lt (b := 1000) f0 (by decide))⟩⟩
    · rw [B_X8_part_0, z_next hc (by omega), hnb]
      simp only [Option.bind_some, Option.toList_some, Option.toList_none, List.cons_append, List.nil_append, B_X8_part_4, z_digit, hd, bI_t, B_X8_part_9, (by decide : ¬ (1 : Int32) = 0), ↓reduceIte, B_X8_number_0]
      rw [B_X8_number_4, if_neg (by decide), z_next hc (by omega), hnb]
      simp only [Option.bind_some, Option.toList_some, Option.toList_none, List.cons_append, List.nil_append, B_X8_number_13, z_digit, hd, bI_t, B_X8_number_16, (by decide : ¬ (1 : Int32) = 0), ↓reduceIte, z_next hc (show p ≤ 50 by omega), hnb, B_X8_number_27, ev, hc.2.2.2.1, nI_1, (by decide : (0 : Int32) + 1 = nI 1), e1, B_X8_part_16]
      rfl
    · rw [B_X12_readQ_0, if_pos hb0, m_byte hm hn (by omega), hnb]
      simp only [Option.bind_some, Option.toList_some, Option.toList_none, List.cons_append, List.nil_append, B_X12_readQ_12, y_in, hd, bI_t, B_X12_readQ_21, (by decide : ¬ (1 : Int32) = 0), ↓reduceIte]
      rw [B_X12_readQ_28, if_neg (by decide), m_byte hm hn (by omega), hnb]
      simp only [Option.bind_some, Option.toList_some, Option.toList_none, List.cons_append, List.nil_append, B_X12_readQ_37, y_in, hd, bI_t, B_X12_readQ_44, (by decide : ¬ (1 : Int32) = 0), ↓reduceIte, m_byte hm hn (show p ≤ 50 by omega), hnb, B_X12_readQ_55, ev, hm.2.2.2.2.1, nI_1, (by decide : (0 : Int32) + 1 = nI 1), e2]
  have hnam : q_nmo u b = -1 ∨ ∃ k, k < 4 ∧ q_nmo u b = nI k := by
    unfold q_nmo
    have h4 : (if u = 2 then 2 else 4) ≤ 4 := by split <;> omega
    by_cases h : q_nam u b < (if u = 2 then 2 else 4)
    · rw [if_pos h]; exact Or.inr ⟨_, by omega, rfl⟩
    · rw [if_neg h]; exact Or.inl rfl
  -- what comes before, on both sides
  have hC : ∀ A, (A = q_sem (d + 6) mX8_part 22 [.ref 67, .int (nI op), .int (nI b), .retAddr 0] [.int (q_nmo u b)] (q_K o gC)) → q_sem (d + 6) mX8_part 0 [.ref 67, .int (nI op), .retAddr 0, .retAddr 0] [] (q_K o gC) = A := by
    intro A hA
    rw [hA, B_X8_part_0, z_next hc (by omega), hnb]
    simp only [Option.bind_some, Option.toList_some, Option.toList_none, List.cons_append, List.nil_append, B_X8_part_4, z_digit, hd, bI_f, B_X8_part_9, ↓reduceIte, z_nameOf ho hc hu hb]
  have hM : ∀ A, (A = q_sem (e + 4) mX12_readQ 90 [.ref 98, .int (nI b), .retAddr 0, .retAddr 0] [.int (q_nmo u b)] (q_K o gM)) → q_sem (e + 4) mX12_readQ 0 [.ref 98, .retAddr 0, .retAddr 0, .retAddr 0] [] (q_K o gM) = A := by
    intro A hA
    rw [hA, B_X12_readQ_0, if_pos hb0, m_byte hm hn (by omega), hnb]
    simp only [Option.bind_some, Option.toList_some, Option.toList_none, List.cons_append, List.nil_append, B_X12_readQ_12, y_in, hd, bI_f, B_X12_readQ_21, ↓reduceIte, m_nameOf hm hu hb]
  rcases hnam with hnm | ⟨k, hk, hnm⟩
  rotate_left
  · -- a name
    have hcode : (1000 : Int32) + nI k = nI (1000 + k) := nI_add 1000 k
    have hem := z_emit (o := o) hcu hl50 (nI (1000 + k)) (d + 5)
    have hdo := m_does (o := o) hmu hr hl50 1 (nI k) (e + 3)
    refine ⟨true, q_up (q_up (q_up gC 67 4 (nI (p + 1))) 68 l (nI (1000 + k))) 67 2 (nI (l + 1)), q_up (q_up (q_up (q_up gM 98 48 (nI (p + 1))) 129 (50 * r + l) 1) 130 (50 * r + l) (nI k)) 98 52 (nI (l + 1)), p + 1, [nI (1000 + k)], hC _ ?_, hM _ ?_, ⟨by omega, by omega, fun q j x y => ?_, fun q j x y => ?_, ?_, ?_, ?_, ?_, fun _ => ⟨by show 1 ≤ _; omega, ?_⟩, fun z => absurd z (by decide)⟩, fun _ => ⟨by omega, one_name (show ¬ nI (1000 + k) < 1000 from nI_nlt (a := 1000 + k) (b := 1000) (by omega) (by omega)) (nI_lt (b := 2000) (by omega) (by decide))⟩⟩
    rotate_left
    rotate_left
    · rw [q_up_ne (by omega), q_up_ne (by omega), q_up_ne (by omega)]
    · rw [q_up_ne (by omega), q_up_ne (by omega), q_up_ne (by omega), q_up_ne (by omega)]
    · rw [q_upJ (by decide), q_upN (by decide), q_upE]
    · rw [q_upJ (by decide), q_upN (by decide), q_upN (by decide), q_upE]
    · rw [q_upJ (by decide), q_upN (by decide), q_upN (by decide), q_upJ (by decide)]; exact hm.2.2.2.2.2.2.1
    · rw [q_upJ (by decide), q_upN (by decide), q_upN (by decide), q_upJ (by decide)]; exact hb0
    · refine ⟨by rw [q_upE]; rfl, by rw [q_upE]; rfl, fun j hj => ?_, fun c hc => by rw [List.mem_singleton.mp hc]; exact Or.inr (Or.inl ⟨k, hk, rfl⟩)⟩
      obtain rfl : j = 0 := by simp at hj; exact hj
      refine ⟨?_, ?_⟩
      · rw [q_upN (by decide), show l + 0 = l from rfl, q_upE]; rfl
      · rw [q_upN (by decide), q_upN (by decide), q_upN (show 130 ≠ 98 by decide), show l + 0 = l from rfl, q_upE, q_upE]
        exact Or.inr (Or.inl ⟨rfl, k, hk, rfl, rfl⟩)
    · rw [B_X8_part_22, hnm, if_neg (nI_pos (by omega)), hcode, hc.2.2.2.1, nI_1, hem]
      simp only [Option.bind_some, Option.toList_some, Option.toList_none, List.cons_append, List.nil_append, B_X8_part_46]
      rfl
    · rw [B_X12_readQ_90, hnm, if_neg (nI_pos (by omega)), hm.2.2.2.2.1, nI_1, m_nameOf hmu hu hb, hnm]
      simp only [Option.bind_some, Option.toList_some, Option.toList_none, List.cons_append, List.nil_append, B_X12_readQ_110, hdo, B_X12_readQ_113]
  have h49 : gM 98 49 = nI op := hm.2.2.2.2.2.2.1
  by_cases hop5 : op < 5
  rotate_left
  · obtain rfl : op = 5 := by omega
    refine bad ⟨0, hC _ ?_, rfl⟩ (hM _ ?_)
    · rw [B_X8_part_22, hnm, if_pos (by decide)]
      have : ¬ nI 5 < 5 := by decide
      simp only [this, ↓reduceIte]
      split
      · rfl
      · split <;> rfl
    · rw [B_X12_readQ_90, hnm, if_pos (by decide), h49]
      have : (5 : Int32) ≤ nI 5 := by decide
      simp only [this, ↓reduceIte]
      split
      · rfl
      · split <;> rfl
  have co : nI op < 5 := nI_lt (b := 5) hop5 (by decide)
  have co2 : ¬ (5 : Int32) ≤ nI op := nI_ge (b := 5) hop5 (by decide)
  -- one more is open
  have hmo : q_tm2 (q_up (q_up gM 98 49 (nI (op + 1))) 98 48 (nI (p + 1))) r u T n (p + 1) l (op + 1) false := tm2_fr hm (fun q j a => by rw [q_up_ne (by omega), q_up_ne (by omega)]) q_upE (by rw [q_upJ (by decide), q_upJ (by decide)]; exact hm.2.2.2.2.2.1) (by rw [q_upJ (by decide), q_upE]) (by rw [q_upJ (by decide), q_upJ (by decide)]; exact hb0)
  have e48 : q_up gM 98 49 (nI (op + 1)) 98 48 = nI p := (q_upJ (by decide)).trans hm.2.2.2.2.1
  by_cases h33 : nI b = 33
  · -- turned
    obtain ⟨ok1, gC1, gM1, p1, cs1, e1, e2, ho1, hk1⟩ := hP hop5 _ _ (p + 1) l hcu hmo (by omega) (by omega)
    obtain ⟨a1, a2, a3, a4, a5, a6, a7, a8, a9, a10⟩ := ho1
    have fC0 : q_fc2 gC gC1 l := fun q j x y => (a3 q j x y).trans (q_up_ne (by omega))
    have fM0 : q_fm2 gM gM1 r l := fun q j x y => (a4 q j x y).trans (by rw [q_up_ne (by omega), q_up_ne (by omega)])
    have e1' : q_sem (d + 4) mX8_part 0 [.ref 67, .int (nI (op + 1)), .retAddr 0, .retAddr 0] [] (q_K o (q_up gC 67 4 (nI (p + 1)))) = some (some (.int (bI ok1)), q_K o gC1) := e1
    have e2' : q_sem (e + 3) mX12_readQ 0 [.ref 98, .retAddr 0, .retAddr 0, .retAddr 0] [] (q_K o (q_up (q_up gM 98 49 (nI (op + 1))) 98 48 (nI (p + 1)))) = some (none, q_K o gM1) := e2
    have clsB : ∀ A, (A = if bI ok1 = 0 then some (some (.int 0), q_K o gC1) else (q_sem (d + 4) mX8_emit 0 [.ref 67, .int 2033] [] (q_K o gC1)).bind (fun r => q_sem (d + 5) mX8_turned 17 [.ref 67, .int (nI (op + 1))] (r.1.toList ++ []) r.2)) → q_sem (d + 5) mX8_turned 0 [.ref 67, .int (nI (op + 1))] [] (q_K o (q_up gC 67 4 (nI (p + 1)))) = A := by
      intro A hA
      rw [hA, B_X8_turned_0, e1']
      simp only [Option.bind_some, Option.toList_some, Option.toList_none, List.cons_append, List.nil_append, B_X8_turned_5]
    have hpm : nI (op + 1) - 1 = nI op := nI_pred op
    cases ok1
    · obtain ⟨l2, b1, b2, b3⟩ := a10 rfl
      have hm1' : q_tm2 gM1 r u T n p1 l2 (op + 1) true := tm2_fr hmo (fun q j x => a4 _ _ (by omega) (by omega)) a6 b1 a7 a8
      have hdo := m_does (o := o) hm1' hr (show l2 < 50 by omega) 10 0 (e + 3)
      have hcB := clsB _ (by rw [if_pos (show bI false = 0 from rfl)])
      refine ⟨false, gC1, q_up (q_up (q_up (q_up gM1 129 (50 * r + l2) 10) 130 (50 * r + l2) 0) 98 52 (nI (l2 + 1))) 98 49 (nI op), p1, [], hC _ ?_, hM _ ?_, ⟨by omega, a2, fC0, fun q j x y => ?_, a5, ?_, ?_, ?_, fun z => absurd z (by decide), fun _ => ⟨l2 + 1, ?_, by omega, by omega⟩⟩, fun z => absurd z (by decide)⟩
      rotate_left
      rotate_left
      · rw [q_up_ne (by omega), q_up_ne (by omega), q_up_ne (by omega), q_up_ne (by omega)]; exact fM0 q j x y
      · rw [q_upJ (by decide), q_upJ (by decide), q_upN (by decide), q_upN (by decide)]; exact a6
      · rw [q_upE]
      · rw [q_upJ (by decide), q_upJ (by decide), q_upN (by decide), q_upN (by decide)]; exact a8
      · rw [q_upJ (by decide), q_upE]
      · rw [B_X8_part_22, hnm, if_pos (by decide), if_pos h33, if_pos co, if_pos h33, hc.2.2.2.1, nI_1, nI_1, hcB]
        simp only [Option.bind_some, Option.toList_some, Option.toList_none, List.cons_append, List.nil_append, B_X8_part_90]
        rfl
      · rw [B_X12_readQ_90, hnm, if_pos (by decide), if_pos h33, h49, if_neg co2, if_pos h33, nI_1, e48, nI_1, e2']
        simp only [Option.bind_some, Option.toList_some, Option.toList_none, List.cons_append, List.nil_append, B_X12_readQ_166, hdo, B_X12_readQ_173]
        rw [q_upJ (show 49 ≠ 52 by decide), q_upN (show 98 ≠ 130 by decide), q_upN (show 98 ≠ 129 by decide), a7, hpm]
    · obtain ⟨b1, b2⟩ := a9 rfl
      obtain ⟨b3, b4⟩ := hk1 rfl
      have hlen : l + cs1.length < 50 := by omega
      have hc1' : q_tc2 gC1 u T n p1 (l + cs1.length) := tc2_fr hc (fun q j x => fC0 _ _ (by omega) (by omega)) a5 b2.1
      have hm1' : q_tm2 gM1 r u T n p1 (l + cs1.length) (op + 1) false := tm2_fr hmo (fun q j x => a4 _ _ (by omega) (by omega)) a6 b2.2.1 a7 a8
      have hem := z_emit (o := o) hc1' hlen 2033 (d + 4)
      have hdo := m_does (o := o) hm1' hr hlen 10 0 (e + 3)
      have hcB := clsB _ (by rw [if_neg (show ¬ bI true = 0 by decide), hem])
      simp only [Option.bind_some, Option.toList_some, Option.toList_none, List.cons_append, List.nil_append, B_X8_turned_17] at hcB
      have hmd : q_up (q_up (q_up gM1 129 (50 * r + (l + cs1.length)) 10) 130 (50 * r + (l + cs1.length)) 0) 98 52 (nI (l + cs1.length + 1)) 98 49 = nI (op + 1) := by rw [q_upJ (by decide), q_upN (by decide), q_upN (by decide)]; exact a7
      generalize hgC2 : q_up (q_up gC1 68 (l + cs1.length) 2033) 67 2 (nI (l + cs1.length + 1)) = gC2 at *
      generalize hgM2 : q_up (q_up (q_up gM1 129 (50 * r + (l + cs1.length)) 10) 130 (50 * r + (l + cs1.length)) 0) 98 52 (nI (l + cs1.length + 1)) = gM2 at *
      have fC1 : q_fc2 gC1 gC2 (l + cs1.length) := fun q j x y => by rw [← hgC2, q_up_ne (by omega), q_up_ne (by omega)]
      have fM1 : q_fm2 gM1 (q_up gM2 98 49 (nI op)) r (l + cs1.length) := fun q j x y => by rw [q_up_ne (by omega), ← hgM2, q_up_ne (by omega), q_up_ne (by omega), q_up_ne (by omega)]
      have gd1 : q_good gC2 (q_up gM2 98 49 (nI op)) r (l + cs1.length) [2033] := by
        refine ⟨by rw [← hgC2, q_upE]; rfl, by rw [q_upJ (by decide), ← hgM2, q_upE]; rfl, fun j hj => ?_, fun c hc => by rw [List.mem_singleton.mp hc]; exact Or.inr (Or.inr ⟨by decide, by decide⟩)⟩
        obtain rfl : j = 0 := by simp at hj; exact hj
        refine ⟨?_, ?_⟩
        · rw [← hgC2, q_upN (by decide), Nat.add_zero, q_upE]; rfl
        · rw [q_upN (by decide), q_upN (by decide), ← hgM2, q_upN (by decide), q_upN (by decide), q_upN (show 130 ≠ 98 by decide), Nat.add_zero, q_upE, q_upE]
          unfold q_cdM; simp
      refine ⟨true, gC2, q_up gM2 98 49 (nI op), p1, cs1 ++ [2033], hC _ ?_, hM _ ?_, ⟨by omega, a2, fc2_tr fC0 fC1 (by omega), fm2_tr fM0 fM1 (by omega), ?_, ?_, q_upE, ?_, fun _ => ⟨by rw [List.length_append]; show _ + 1 ≤ _; omega, good_app b2 gd1 fC1 fM1 (by omega)⟩, fun z => absurd z (by decide)⟩, fun _ => ⟨by omega, one_not b4⟩⟩
      rotate_left
      rotate_left
      · rw [← hgC2, q_upJ (by decide), q_upN (by decide)]; exact a5
      · rw [q_upJ (by decide), ← hgM2, q_upJ (by decide), q_upN (by decide), q_upN (by decide)]; exact a6
      · rw [q_upJ (by decide), ← hgM2, q_upJ (by decide), q_upN (by decide), q_upN (by decide)]; exact a8
      · rw [B_X8_part_22, hnm, if_pos (by decide), if_pos h33, if_pos co, if_pos h33, hc.2.2.2.1, nI_1, nI_1, hcB]
        simp only [Option.bind_some, Option.toList_some, Option.toList_none, List.cons_append, List.nil_append, B_X8_part_90]
        rfl
      · rw [B_X12_readQ_90, hnm, if_pos (by decide), if_pos h33, h49, if_neg co2, if_pos h33, nI_1, e48, nI_1, e2']
        simp only [Option.bind_some, Option.toList_some, Option.toList_none, List.cons_append, List.nil_append, B_X12_readQ_166, hdo, B_X12_readQ_173, hmd, hpm]
  by_cases h40 : nI b = 40
  rotate_left
  · refine bad ⟨0, hC _ ?_, rfl⟩ (hM _ ?_)
    · rw [B_X8_part_22, hnm, if_pos (by decide), if_neg h33, if_neg h40]
    · rw [B_X12_readQ_90, hnm, if_pos (by decide), if_neg h33, if_neg h40]
  -- bracketed
  obtain ⟨ok1, gC1, gM1, p1, cs1, e1, e2, ho1, hk1⟩ := hL hop5 _ _ (p + 1) l hcu hmo (by omega) (by omega)
  obtain ⟨a1, a2, a3, a4, a5, a6, a7, a8, a9, a10⟩ := ho1
  have fC0 : q_fc2 gC gC1 l := fun q j x y => (a3 q j x y).trans (q_up_ne (by omega))
  have fM0 : q_fm2 gM gM1 r l := fun q j x y => (a4 q j x y).trans (by rw [q_up_ne (by omega), q_up_ne (by omega)])
  have e1' : q_sem (d + 4) mX8_level 0 [.ref 67, .int 0, .int (nI (op + 1)), .retAddr 0, .retAddr 0, .retAddr 0] [] (q_K o (q_up gC 67 4 (nI (p + 1)))) = some (some (.int (bI ok1)), q_K o gC1) := e1
  have e2' : q_sem (e + 3) mX12_readT 0 [.ref 98] [] (q_K o (q_up (q_up gM 98 49 (nI (op + 1))) 98 48 (nI (p + 1)))) = some (none, q_K o gM1) := e2
  have hpm : nI (op + 1) - 1 = nI op := nI_pred op
  cases ok1
  · obtain ⟨l2, b1, b2, b3⟩ := a10 rfl
    have hm1' : q_tm2 gM1 r u T n p1 l2 (op + 1) true := tm2_fr hmo (fun q j x => a4 _ _ (by omega) (by omega)) a6 b1 a7 a8
    refine ⟨false, gC1, q_up (q_up gM1 98 50 1) 98 49 (nI op), p1, [], hC _ ?_, hM _ ?_, ⟨by omega, a2, fC0, fun q j x y => ?_, a5, ?_, ?_, ?_, fun z => absurd z (by decide), fun _ => ⟨l2, ?_, by omega, by omega⟩⟩, fun z => absurd z (by decide)⟩
    rotate_left
    · rw [B_X12_readQ_90, hnm, if_pos (by decide), if_neg h33, if_pos h40, h49, if_neg co2, if_neg h33, nI_1, e48, nI_1, e2']
      simp only [Option.bind_some, Option.toList_some, Option.toList_none, List.cons_append, List.nil_append, B_X12_readQ_180]
      rw [m_may hm1' hn (by omega), if_neg (fun z => absurd z.1 (by decide))]
      simp only [Option.bind_some, Option.toList_some, Option.toList_none, List.cons_append, List.nil_append, B_X12_readQ_187, ↓reduceIte]
      rw [q_upJ (show 49 ≠ 50 by decide), a7, hpm]
    · rw [q_up_ne (by omega), q_up_ne (by omega)]; exact fM0 q j x y
    · rw [q_upJ (by decide), q_upJ (by decide)]; exact a6
    · rw [q_upE]
    · rw [q_upJ (by decide), q_upE]; rfl
    · rw [q_upJ (by decide), q_upJ (by decide)]; exact b1
    · rw [B_X8_part_22, hnm, if_pos (by decide), if_neg h33, if_pos h40, if_pos co, if_neg h33, hc.2.2.2.1, nI_1, nI_1, B_X8_bracketed_0, e1']
      simp only [Option.bind_some, Option.toList_some, Option.toList_none, List.cons_append, List.nil_append, B_X8_bracketed_6, bI_f, ↓reduceIte, B_X8_part_100]
      rfl
  · obtain ⟨b1, b2⟩ := a9 rfl
    obtain ⟨b3, b4⟩ := hk1 rfl
    have hc1' : q_tc2 gC1 u T n p1 (l + cs1.length) := tc2_fr hc (fun q j x => fC0 _ _ (by omega) (by omega)) a5 b2.1
    have hm1' : q_tm2 gM1 r u T n p1 (l + cs1.length) (op + 1) false := tm2_fr hmo (fun q j x => a4 _ _ (by omega) (by omega)) a6 b2.2.1 a7 a8
    by_cases h41 : q_nb T n p1 = 41
    · have hpn1 : p1 < n := nb_lt (by rw [h41]; decide)
      refine ⟨true, q_up gC1 67 4 (nI (p1 + 1)), q_up (q_up (q_up gM1 98 48 (nI (p1 + 1))) 98 50 0) 98 49 (nI op), p1 + 1, cs1, hC _ ?_, hM _ ?_, ⟨by omega, by omega, fun q j x y => ?_, fun q j x y => ?_, q_upE, ?_, ?_, ?_, fun _ => ⟨by omega, ?_⟩, fun z => absurd z (by decide)⟩, fun _ => ⟨by omega, b4⟩⟩
      rotate_left
      · rw [B_X12_readQ_90, hnm, if_pos (by decide), if_neg h33, if_pos h40, h49, if_neg co2, if_neg h33, nI_1, e48, nI_1, e2']
        simp only [Option.bind_some, Option.toList_some, Option.toList_none, List.cons_append, List.nil_append, B_X12_readQ_180]
        rw [m_may hm1' hn (by omega), if_pos ⟨rfl, h41⟩]
        simp only [Option.bind_some, Option.toList_some, Option.toList_none, List.cons_append, List.nil_append, B_X12_readQ_187, (by decide : ¬ (1 : Int32) = 0), ↓reduceIte]
        rw [q_upJ (show 49 ≠ 50 by decide), q_upJ (show 49 ≠ 48 by decide), a7, hpm]
      · rw [q_up_ne (by omega)]; exact fC0 q j x y
      · rw [q_up_ne (by omega), q_up_ne (by omega), q_up_ne (by omega)]; exact fM0 q j x y
      · rw [q_upJ (by decide), q_upJ (by decide), q_upE]
      · rw [q_upE]
      · rw [q_upJ (by decide), q_upE]; rfl
      · refine ⟨(q_upJ (by decide)).trans b2.1, by rw [q_upJ (by decide), q_upJ (by decide), q_upJ (by decide)]; exact b2.2.1, fun j hj => ?_, b2.2.2.2⟩
        have := b2.2.2.1 j hj
        rw [q_upN (by decide), q_upN (by decide), q_upN (by decide), q_upN (by decide), q_upN (by decide), q_upN (by decide), q_upN (by decide)]
        exact this
      · rw [B_X8_part_22, hnm, if_pos (by decide), if_neg h33, if_pos h40, if_pos co, if_neg h33, hc.2.2.2.1, nI_1, nI_1, B_X8_bracketed_0, e1']
        simp only [Option.bind_some, Option.toList_some, Option.toList_none, List.cons_append, List.nil_append, B_X8_bracketed_6, bI_t, (by decide : ¬ (1 : Int32) = 0), ↓reduceIte, z_next hc1' (show p1 ≤ 50 by omega), h41, B_X8_bracketed_13, a5, nI_1, B_X8_part_100]
        rfl
    · refine ⟨false, gC1, q_up (q_up gM1 98 50 1) 98 49 (nI op), p1, [], hC _ ?_, hM _ ?_, ⟨by omega, a2, fC0, fun q j x y => ?_, a5, ?_, ?_, ?_, fun z => absurd z (by decide), fun _ => ⟨l + cs1.length, ?_, by omega, by omega⟩⟩, fun z => absurd z (by decide)⟩
      rotate_left
      · rw [B_X12_readQ_90, hnm, if_pos (by decide), if_neg h33, if_pos h40, h49, if_neg co2, if_neg h33, nI_1, e48, nI_1, e2']
        simp only [Option.bind_some, Option.toList_some, Option.toList_none, List.cons_append, List.nil_append, B_X12_readQ_180]
        rw [m_may hm1' hn (by omega), if_neg (fun z => h41 z.2)]
        simp only [Option.bind_some, Option.toList_some, Option.toList_none, List.cons_append, List.nil_append, B_X12_readQ_187, ↓reduceIte]
        rw [q_upJ (show 49 ≠ 50 by decide), a7, hpm]
      · rw [q_up_ne (by omega), q_up_ne (by omega)]; exact fM0 q j x y
      · rw [q_upJ (by decide), q_upJ (by decide)]; exact a6
      · rw [q_upE]
      · rw [q_upJ (by decide), q_upE]; rfl
      · rw [q_upJ (by decide), q_upJ (by decide)]; exact b2.2.1
      · rw [B_X8_part_22, hnm, if_pos (by decide), if_neg h33, if_pos h40, if_pos co, if_neg h33, hc.2.2.2.1, nI_1, nI_1, B_X8_bracketed_0, e1']
        simp only [Option.bind_some, Option.toList_some, Option.toList_none, List.cons_append, List.nil_append, B_X8_bracketed_6, bI_t, (by decide : ¬ (1 : Int32) = 0), ↓reduceIte, z_next hc1' (show p1 ≤ 50 by omega), h41, B_X8_bracketed_13, B_X8_part_100]
        rfl
end PRT
