/-! the room on both sides: what the calls keep -/
def bI (b : Bool) : Int32 := if b = true then 1 else 0
theorem bI_t : bI true = 1 := rfl
theorem bI_f : bI false = 0 := rfl
theorem bI_d {P : Prop} [Decidable P] : (if P then (1 : Int32) else 0) = bI (decide P) := by
  by_cases h : P
  · rw [if_pos h, decide_eq_true h]; rfl
  · rw [if_neg h, decide_eq_false h]; rfl
theorem i10 : ((1 : Int32) = 0) = False := by simp
theorem i01 : ((0 : Int32) = 1) = False := by simp
theorem i00 : ((0 : Int32) = 0) = True := by simp
theorem i11 : ((1 : Int32) = 1) = True := by simp
theorem bI_0 {b : Bool} : (bI b = 0) = (b = false) := by cases b <;> simp [bI]
def q_in (v a b : Int32) : Bool := decide (a ≤ v ∧ v ≤ b)
/-- a row that is there -/
def q_hs (row : Int32) (R : Nat) : Bool := decide (0 ≤ row ∧ row < nI R)
theorem q_hs_t {row : Int32} {R : Nat} (h : q_hs row R = true) (hR : R < 2 ^ 31) : ∃ i, i < R ∧ row = nI i := q_row_of (of_decide_eq_true h) hR
theorem q_hs_f {row : Int32} {R : Nat} (h : q_hs row R = false) {i : Nat} (hi : i < R) (hR : R < 2 ^ 31) : row ≠ nI i := fun e => by
  subst e
  have : q_hs (nI i) R = true := decide_eq_true (q_inR hi hR)
  rw [h] at this
  cases this
theorem q_in_t {v : Int32} {a b : Nat} (h : q_in v (nI a) (nI b) = true) (hb : b < 2 ^ 31) (ha : a < 2 ^ 31) : ∃ i, a ≤ i ∧ i ≤ b ∧ v = nI i := by
  have h2 : nI a ≤ v ∧ v ≤ nI b := of_decide_eq_true h
  have h0 : ¬ v < 0 := fun z => by
    have h3 : (nI a).toInt ≤ v.toInt := Int32.le_iff_toInt_le.mp h2.1
    have h4 : v.toInt < (0 : Int32).toInt := Int32.lt_iff_toInt_lt.mp z
    rw [nI_toInt ha] at h3
    have : (0 : Int32).toInt = 0 := by decide
    omega
  obtain ⟨i, hi, rfl⟩ := nI_of h0
  exact ⟨i, (nI_leI ha hi).mp h2.1, (nI_leI hi hb).mp h2.2, rfl⟩
theorem q_in1c {x : Int32} (h : q_in x 0 1 = true) : x = 0 ∨ x = 1 := by
  obtain ⟨i, _, hi, rfl⟩ := q_in_t (a := 0) (b := 1) h (by decide) (by decide)
  rcases i with _ | _ | i
  · exact Or.inl rfl
  · exact Or.inr (rfl)
  · omega
theorem q_in2c {x : Int32} (h : q_in x 0 2 = true) : x = 0 ∨ x = 1 ∨ x = 2 := by
  obtain ⟨i, _, hi, rfl⟩ := q_in_t (a := 0) (b := 2) h (by decide) (by decide)
  rcases i with _ | _ | _ | i
  · exact Or.inl rfl
  · exact Or.inr (Or.inl rfl)
  · exact Or.inr (Or.inr (rfl))
  · omega
theorem q_in3c {x : Int32} (h : q_in x 0 3 = true) : x = 0 ∨ x = 1 ∨ x = 2 ∨ x = 3 := by
  obtain ⟨i, _, hi, rfl⟩ := q_in_t (a := 0) (b := 3) h (by decide) (by decide)
  rcases i with _ | _ | _ | _ | i
  · exact Or.inl rfl
  · exact Or.inr (Or.inl rfl)
  · exact Or.inr (Or.inr (Or.inl rfl))
  · exact Or.inr (Or.inr (Or.inr (rfl)))
  · omega
theorem q_in4c {x : Int32} (h : q_in x 0 4 = true) : x = 0 ∨ x = 1 ∨ x = 2 ∨ x = 3 ∨ x = 4 := by
  obtain ⟨i, _, hi, rfl⟩ := q_in_t (a := 0) (b := 4) h (by decide) (by decide)
  rcases i with _ | _ | _ | _ | _ | i
  · exact Or.inl rfl
  · exact Or.inr (Or.inl rfl)
  · exact Or.inr (Or.inr (Or.inl rfl))
  · exact Or.inr (Or.inr (Or.inr (Or.inl rfl)))
  · exact Or.inr (Or.inr (Or.inr (Or.inr (rfl))))
  · omega
theorem q_in5c {x : Int32} (h : q_in x 0 5 = true) : x = 0 ∨ x = 1 ∨ x = 2 ∨ x = 3 ∨ x = 4 ∨ x = 5 := by
  obtain ⟨i, _, hi, rfl⟩ := q_in_t (a := 0) (b := 5) h (by decide) (by decide)
  rcases i with _ | _ | _ | _ | _ | _ | i
  · exact Or.inl rfl
  · exact Or.inr (Or.inl rfl)
  · exact Or.inr (Or.inr (Or.inl rfl))
  · exact Or.inr (Or.inr (Or.inr (Or.inl rfl)))
  · exact Or.inr (Or.inr (Or.inr (Or.inr (Or.inl rfl))))
  · exact Or.inr (Or.inr (Or.inr (Or.inr (Or.inr (rfl)))))
  · omega
theorem q_in11c {x : Int32} (h : q_in x 0 11 = true) : x = 0 ∨ x = 1 ∨ x = 2 ∨ x = 3 ∨ x = 4 ∨ x = 5 ∨ x = 6 ∨ x = 7 ∨ x = 8 ∨ x = 9 ∨ x = 10 ∨ x = 11 := by
  obtain ⟨i, _, hi, rfl⟩ := q_in_t (a := 0) (b := 11) h (by decide) (by decide)
  rcases i with _ | _ | _ | _ | _ | _ | _ | _ | _ | _ | _ | _ | i
  · exact Or.inl rfl
  · exact Or.inr (Or.inl rfl)
  · exact Or.inr (Or.inr (Or.inl rfl))
  · exact Or.inr (Or.inr (Or.inr (Or.inl rfl)))
  · exact Or.inr (Or.inr (Or.inr (Or.inr (Or.inl rfl))))
  · exact Or.inr (Or.inr (Or.inr (Or.inr (Or.inr (Or.inl rfl)))))
  · exact Or.inr (Or.inr (Or.inr (Or.inr (Or.inr (Or.inr (Or.inl rfl))))))
  · exact Or.inr (Or.inr (Or.inr (Or.inr (Or.inr (Or.inr (Or.inr (Or.inl rfl)))))))
  · exact Or.inr (Or.inr (Or.inr (Or.inr (Or.inr (Or.inr (Or.inr (Or.inr (Or.inl rfl))))))))
  · exact Or.inr (Or.inr (Or.inr (Or.inr (Or.inr (Or.inr (Or.inr (Or.inr (Or.inr (Or.inl rfl)))))))))
  · exact Or.inr (Or.inr (Or.inr (Or.inr (Or.inr (Or.inr (Or.inr (Or.inr (Or.inr (Or.inr (Or.inl rfl))))))))))
  · exact Or.inr (Or.inr (Or.inr (Or.inr (Or.inr (Or.inr (Or.inr (Or.inr (Or.inr (Or.inr (Or.inr (rfl)))))))))))
  · omega
theorem q_inc_t {v : Int32} (h : q_in v 0 255 = true) : ∃ c, c < 256 ∧ v = nI c := by
  obtain ⟨i, _, h2, rfl⟩ := q_in_t (a := 0) (b := 255) h (by decide) (by decide)
  exact ⟨i, by omega, rfl⟩
/-- the findings of the class, of the Model -/
def q_fb (g : Nat → Nat → Int32) (k : Nat) : Nat → Nat → Int32 := q_up g 97 k (g 97 k + 1)
def q_fm (g : Nat → Nat → Int32) (k : Nat) : Nat → Nat → Int32 := q_up g 99 k (g 99 k + 1)
def q_fnd (g : Nat → Nat → Int32) : Prop := ∀ k, k < 6 → g 97 k = g 99 k
/-- the sheets -/
def q_sh1 (g : Nat → Nat → Int32) (s : Nat) : Prop := g 71 (s * 26) = g 135 s ∧ g 71 (s * 26 + 1) = g 136 s ∧ (g 135 s = 0 ∨ g 135 s = 8 ∨ g 135 s = 16 ∨ g 135 s = 32) ∧ (∃ n, n ≤ 24 ∧ g 136 s = nI n) ∧ (∀ i, i < 24 → g 71 (s * 26 + (2 + i)) = g 137 (24 * s + i)) ∧ ∀ i, i < 24 → (g 135 s = 8 → (g 137 (24 * s + i)).toInt8.toInt32 = g 137 (24 * s + i)) ∧ (g 135 s = 16 → (g 137 (24 * s + i)).toInt16.toInt32 = g 137 (24 * s + i))
def q_shs (g : Nat → Nat → Int32) : Prop := q_ti g 70 4 26 4 ∧ ∀ s, s < 4 → q_sh1 g s
/-- the trace -/
def q_trc (g : Nat → Nat → Int32) : Prop := ∃ R, q_ti g 95 40 1 R ∧ g 98 68 = nI R ∧ ∀ i, i < R → g 96 i = g 149 i
/-- the rows that the Model's image holds: place, numbers, from where on -/
def q_kpl : List (Nat × Nat) := [(100, 12), (101, 6), (102, 6), (103, 6), (104, 8), (105, 8), (106, 24), (107, 24), (108, 24), (109, 5), (110, 6), (111, 6), (112, 6), (113, 6), (114, 16), (115, 16), (116, 16), (117, 16), (118, 16), (119, 16), (120, 16), (121, 16), (122, 16), (123, 16), (124, 16), (125, 16), (126, 12), (127, 12), (128, 12), (129, 600), (130, 600), (131, 50), (132, 20)]
def q_kpo : Nat → List (Nat × Nat) → List (Nat × Nat × Nat)
  | _, [] => []
  | o, q :: qs => (q.1, q.2, o) :: q_kpo (o + q.2) qs
def q_kpt : List (Nat × Nat × Nat) := q_kpo 0 q_kpl
/-- row a holds picture h -/
def q_iM (g : Nat → Nat → Int32) (a : Nat) (h : Nat → Nat → Int32) : Prop := ∀ q ∈ q_kpt, ∀ k, k < q.2.1 → g a (q.2.2 + k) = h q.1 k
def q_img (n : Nat) (g : Nat → Nat → Int32) : Prop := ∃ k S N, k ≤ n ∧ g 0 10 = nI k ∧ g 98 38 = nI k ∧ g 98 37 = (if k = 0 then 0 else 1) ∧ repC 23 g S N ∧ (k ≠ 0 → q_ok S N ∧ ∃ h, repM h S N ∧ q_iM g 133 h)
def q_gss (g : Nat → Nat → Int32) : Prop := ∃ S N, repC 45 g S N
def q_scr : List (Nat × Nat × Nat) := [(73, 9, 1), (75, 9, 1), (77, 9, 9), (79, 9, 1), (81, 10, 1), (85, 10, 1), (87, 10, 1), (89, 11, 7), (92, 8, 1)]
def q_tis (g : Nat → Nat → Int32) : Prop := ∀ q ∈ q_scr, ∃ R, q_ti g q.1 q.2.1 q.2.2 R
def q_aux (n : Nat) (g : Nat → Nat → Int32) : Prop := q_fnd g ∧ q_shs g ∧ q_trc g ∧ q_img n g ∧ q_gss g ∧ q_tis g
def q_R (n : Nat) (g : Nat → Nat → Int32) : Prop := (∃ S N, repC 1 g S N ∧ repM g S N ∧ q_ok S N) ∧ q_aux n g
/-- the places that q_aux speaks of -/
def q_dep (p k : Nat) : Prop := p = 0 ∨ (23 ≤ p ∧ p < 67) ∨ (69 ≤ p ∧ p < 98) ∨ p = 99 ∨ (p = 98 ∧ (k = 37 ∨ k = 38 ∨ k = 68)) ∨ p = 133 ∨ (135 ≤ p ∧ p < 138) ∨ p = 149
theorem ti_fr {g g2 : Nat → Nat → Int32} {t M W R : Nat} (h : q_ti g t M W R) (hg : ∀ k, g2 t k = g t k) : q_ti g2 t M W R := ⟨(hg 0).trans h.1, (hg 1).trans h.2.1, (hg 3).trans h.2.2.1, h.2.2.2⟩
theorem repC_fr {w : Nat} {g g2 S : Nat → Nat → Int32} {N : Nat → Nat} (hr : repC w g S N) (hg : ∀ p k, w ≤ p → p < w + 22 → g2 p k = g p k) : repC w g2 S N := by
  refine ⟨hr.1, ?_, ?_, ?_, ?_, ?_⟩
  · intro q hq
    have hs := q_tbs_sm q hq
    exact q_tr_fr (hr.2.1 q hq) (fun k => hg _ _ (by omega) (by omega)) (fun k => hg _ _ (by omega) (by omega)) (fun _ _ _ _ _ => rfl)
  · intro r h1 i h2 h3
    rw [hg _ _ (by omega) (by omega)]
    exact hr.2.2.1 r h1 i h2 h3
  · rw [hg _ _ (by omega) (by omega)]; exact hr.2.2.2.1
  · rw [hg _ _ (by omega) (by omega)]; exact hr.2.2.2.2.1
  · rw [hg _ _ (by omega) (by omega)]; exact hr.2.2.2.2.2
section AUX
variable {n : Nat} {g g2 : Nat → Nat → Int32}
theorem fnd_fr (h : q_fnd g) (h97 : ∀ k, g2 97 k = g 97 k) (h99 : ∀ k, g2 99 k = g 99 k) : q_fnd g2 := fun k hk => by rw [h97, h99]; exact h k hk
theorem shs_fr (h : q_shs g) (hg : ∀ p k, p = 70 ∨ p = 71 ∨ (135 ≤ p ∧ p < 138) → g2 p k = g p k) : q_shs g2 := by
  refine ⟨ti_fr h.1 (fun k => hg _ _ (Or.inl rfl)), fun s hs => ?_⟩
  obtain ⟨a, b, c, d, e, f⟩ := h.2 s hs
  have h71 : ∀ k, g2 71 k = g 71 k := fun k => hg _ _ (by omega)
  have h5 : ∀ k, g2 135 k = g 135 k := fun k => hg _ _ (by omega)
  have h6 : ∀ k, g2 136 k = g 136 k := fun k => hg _ _ (by omega)
  have h7 : ∀ k, g2 137 k = g 137 k := fun k => hg _ _ (by omega)
  unfold q_sh1
  simp only [h71, h5, h6, h7]
  exact ⟨a, b, c, d, e, f⟩
theorem trc_fr (h : q_trc g) (hg : ∀ p k, p = 95 ∨ p = 96 ∨ p = 149 ∨ (p = 98 ∧ k = 68) → g2 p k = g p k) : q_trc g2 := by
  obtain ⟨R, a, b, c⟩ := h
  exact ⟨R, ti_fr a (fun k => hg _ _ (Or.inl rfl)), (hg _ _ (by omega)).trans b, fun i hi => by rw [hg _ _ (by omega), hg _ _ (by omega)]; exact c i hi⟩
theorem img_fr (h : q_img n g) (hg : ∀ p k, p = 0 ∨ (23 ≤ p ∧ p < 45) ∨ p = 133 ∨ (p = 98 ∧ (k = 37 ∨ k = 38)) → g2 p k = g p k) : q_img n g2 := by
  obtain ⟨k, S, N, h1, h2, h3, h4, h5, h6⟩ := h
  refine ⟨k, S, N, h1, (hg _ _ (by omega)).trans h2, (hg _ _ (by omega)).trans h3, (hg _ _ (by omega)).trans h4, repC_fr h5 (fun p k a b => hg _ _ (by omega)), fun hk => ?_⟩
  obtain ⟨a, h, b, c⟩ := h6 hk
  exact ⟨a, h, b, fun q hq k hk => by rw [hg _ _ (by omega)]; exact c q hq k hk⟩
theorem img_le {m : Nat} (h : q_img n g) (hm : n ≤ m) : q_img m g := by
  obtain ⟨k, S, N, h1, h2⟩ := h
  exact ⟨k, S, N, Nat.le_trans h1 hm, h2⟩
theorem gss_fr (h : q_gss g) (hg : ∀ p k, 45 ≤ p ∧ p < 67 → g2 p k = g p k) : q_gss g2 := by
  obtain ⟨S, N, h⟩ := h
  exact ⟨S, N, repC_fr h (fun p k a b => hg _ _ (by omega))⟩
theorem q_scr_p : ∀ q ∈ q_scr, 73 ≤ q.1 ∧ q.1 < 93 := by decide
theorem tis_fr (h : q_tis g) (hg : ∀ p k, 73 ≤ p ∧ p < 93 → g2 p k = g p k) : q_tis g2 := fun q hq => by
  obtain ⟨R, hR⟩ := h q hq
  exact ⟨R, ti_fr hR (fun k => hg _ _ (q_scr_p q hq))⟩
theorem aux_fr (h : q_aux n g) (hg : ∀ p k, q_dep p k → g2 p k = g p k) : q_aux n g2 := by
  unfold q_dep at hg
  exact ⟨fnd_fr h.1 (fun k => hg _ _ (by omega)) (fun k => hg _ _ (by omega)), shs_fr h.2.1 (fun p k z => hg _ _ (by omega)), trc_fr h.2.2.1 (fun p k z => hg _ _ (by omega)), img_fr h.2.2.2.1 (fun p k z => hg _ _ (by omega)), gss_fr h.2.2.2.2.1 (fun p k z => hg _ _ (by omega)), tis_fr h.2.2.2.2.2 (fun p k z => hg _ _ (by omega))⟩
theorem R_le {m : Nat} (h : q_R n g) (hm : n ≤ m) : q_R m g := ⟨h.1, h.2.1, h.2.2.1, h.2.2.2.1, img_le h.2.2.2.2.1 hm, h.2.2.2.2.2⟩
theorem R_mk {S N} (h1 : repC 1 g2 S N) (h2 : repM g2 S N) (hk : q_ok S N) (ha : q_aux n g) (hg : ∀ p k, q_dep p k → g2 p k = g p k) : q_R n g2 := ⟨⟨S, N, h1, h2, hk⟩, aux_fr ha hg⟩
/-- what a step of the Model leaves as it was -/
def q_fM (g g2 : Nat → Nat → Int32) : Prop := ∀ p k, p < 98 ∨ p = 99 ∨ (p = 98 ∧ (k = 37 ∨ k = 38 ∨ k = 68)) ∨ (133 ≤ p ∧ p < 138) ∨ p = 149 → g2 p k = g p k
theorem fM_rf : q_fM g g := fun _ _ _ => rfl
theorem fM_tr {g3 : Nat → Nat → Int32} (h : q_fM g g2) (h2 : q_fM g2 g3) : q_fM g g3 := fun p k z => (h2 p k z).trans (h p k z)
theorem fM_up {p k : Nat} {v : Int32} (h : q_fM g g2) (hp : 100 ≤ p ∧ p < 133 ∨ (138 ≤ p ∧ p < 149)) : q_fM g (q_up g2 p k v) := fun q j z => (q_up_ne (by omega)).trans (h q j z)
theorem fM_up98 {k : Nat} {v : Int32} (h : q_fM g g2) (hk : k ≠ 37 ∧ k ≠ 38 ∧ k ≠ 68) : q_fM g (q_up g2 98 k v) := fun q j z => (q_up_ne (by omega)).trans (h q j z)
theorem repC_fM {S N} (h : repC 1 g S N) (hf : q_fM g g2) : repC 1 g2 S N := repC_fr h (fun p k a b => hf _ _ (by omega))
theorem repM_fr1 {S N} (h : repM g S N) (hf : q_fr 1 g g2) : repM g2 S N := m_fr h (fun p a b k => hf _ _ (by omega))
theorem R_st {g3 S2 : Nat → Nat → Int32} {N2 : Nat → Nat} (ha : q_aux n g) (h1 : repC 1 g2 S2 N2) (hf1 : q_fr 1 g g2) (h2 : repM g3 S2 N2) (hf2 : q_fM g2 g3) (hk : q_ok S2 N2) : q_R n g3 :=
  R_mk (repC_fM h1 hf2) h2 hk ha (fun p k z => (hf2 p k (by unfold q_dep at z; omega)).trans (hf1 p k (by unfold q_dep at z; omega)))
theorem R_fin {k : Nat} (hR : q_R n g) (hk : k < 6) : q_R n (q_fm (q_fb g k) k) := by
  obtain ⟨⟨S, N, h1, h2, h3⟩, h4, h5, h6, h7, h8, h9⟩ := hR
  have hg : ∀ p j, p ≠ 97 → p ≠ 99 → q_fm (q_fb g k) k p j = g p j := fun p j a b => by
    unfold q_fm q_fb
    rw [q_up_ne (by omega), q_up_ne (by omega)]
  refine ⟨⟨S, N, repC_fr h1 (fun p j a b => hg _ _ (by omega) (by omega)), m_fr h2 (fun p a b j => hg _ _ (by omega) (by omega)), h3⟩, ?_, shs_fr h5 (fun p j a => hg _ _ (by omega) (by omega)), trc_fr h6 (fun p j a => hg _ _ (by omega) (by omega)), img_fr h7 (fun p j a => hg _ _ (by omega) (by omega)), gss_fr h8 (fun p j a => hg _ _ (by omega) (by omega)), tis_fr h9 (fun p j a => hg _ _ (by omega) (by omega))⟩
  intro j hj
  unfold q_fm q_fb
  by_cases e : j = k
  · subst e
    rw [q_upN (by decide), q_upE, q_upE, q_upN (by decide), h4 j hj]
  · rw [q_upN (by decide), q_upJ e, q_upJ e, q_upN (by decide), h4 j hj]
end AUX
/-! the leaves again, with truth values by name -/
section LEAF
variable {o : q_H} {g S : Nat → Nat → Int32} {N : Nat → Nat}
theorem z_within (d : Nat) (v a b : Int32) : q_sem (d + 1) mX11_within 0 [.int v, .int a, .int b] [] (q_K o g) = some (some (.int (bI (q_in v a b))), q_K o g) := by rw [s_within, bI_d]; rfl
theorem q_in255 (c : Int32) : decide (0 ≤ c ∧ c < 256) = q_in c 0 255 := by
  unfold q_in
  congr 1
  apply propext
  have h1 : (256 : Int32).toInt = 256 := by decide
  have h2 : (255 : Int32).toInt = 255 := by decide
  simp only [Int32.lt_iff_toInt_lt, Int32.le_iff_toInt_le, h1, h2]
  omega
theorem z_isCell (d : Nat) (c : Int32) : q_sem (d + 1) mX3_isCell 0 [.int c] [] (q_K o g) = some (some (.int (bI (q_in c 0 255))), q_K o g) := by rw [s_isCell, bI_d, q_in255]
theorem z_fin1 (d : Nat) : q_sem (d + 2) mX11_finding 0 [.ref 0, .int 1] [] (q_K o g) = some (some (.int (-1000001)), q_K o (q_fb g 1)) := s_finding d (k := 1) (by decide) (by decide)
theorem z_fin2 (d : Nat) : q_sem (d + 2) mX11_finding 0 [.ref 0, .int 2] [] (q_K o g) = some (some (.int (-1000002)), q_K o (q_fb g 2)) := s_finding d (k := 2) (by decide) (by decide)
theorem z_fin3 (d : Nat) : q_sem (d + 2) mX11_finding 0 [.ref 0, .int 3] [] (q_K o g) = some (some (.int (-1000003)), q_K o (q_fb g 3)) := s_finding d (k := 3) (by decide) (by decide)
theorem z_fin4 (d : Nat) : q_sem (d + 2) mX11_finding 0 [.ref 0, .int 4] [] (q_K o g) = some (some (.int (-1000004)), q_K o (q_fb g 4)) := s_finding d (k := 4) (by decide) (by decide)
theorem z_fin5 (d : Nat) : q_sem (d + 2) mX11_finding 0 [.ref 0, .int 5] [] (q_K o g) = some (some (.int (-1000005)), q_K o (q_fb g 5)) := s_finding d (k := 5) (by decide) (by decide)
theorem y_fin1 (d : Nat) : q_sem (d + 1) mX12_finds 0 [.ref 98, .int (-1000001)] [] (q_K o g) = some (some (.int (-1000001)), q_K o (q_fm g 1)) := n_finds d (k := 1) (by decide)
theorem y_fin2 (d : Nat) : q_sem (d + 1) mX12_finds 0 [.ref 98, .int (-1000002)] [] (q_K o g) = some (some (.int (-1000002)), q_K o (q_fm g 2)) := n_finds d (k := 2) (by decide)
theorem y_fin3 (d : Nat) : q_sem (d + 1) mX12_finds 0 [.ref 98, .int (-1000003)] [] (q_K o g) = some (some (.int (-1000003)), q_K o (q_fm g 3)) := n_finds d (k := 3) (by decide)
theorem y_fin4 (d : Nat) : q_sem (d + 1) mX12_finds 0 [.ref 98, .int (-1000004)] [] (q_K o g) = some (some (.int (-1000004)), q_K o (q_fm g 4)) := n_finds d (k := 4) (by decide)
theorem y_fin5 (d : Nat) : q_sem (d + 1) mX12_finds 0 [.ref 98, .int (-1000005)] [] (q_K o g) = some (some (.int (-1000005)), q_K o (q_fm g 5)) := n_finds d (k := 5) (by decide)
theorem y_in (d : Nat) (v a b : Int32) : q_sem (d + 1) mX12_in 0 [.int v, .int a, .int b] [] (q_K o g) = some (some (.int (bI (q_in v a b))), q_K o g) := by rw [n_in, bI_d]; rfl
theorem y_isCell (d : Nat) (c : Int32) : q_sem (d + 2) mX12_isCell 0 [.int c] [] (q_K o g) = some (some (.int (bI (q_in c 0 255))), q_K o g) := by rw [n_isCell, bI_d]; rfl
theorem q_hs_wi (n : Int32) {R : Nat} (hR : R < 2 ^ 31) : decide (q_wi n 0 (nI R - 1)) = q_hs n R := by
  unfold q_hs
  congr 1
  apply propext
  have e0 : (0 : Int32).toInt = 0 := by decide
  have e1 : (nI R - 1).toInt = (R : Int) - 1 := by
    cases R with
    | zero => decide
    | succ r => rw [nI_pred, nI_toInt (by omega)]; omega
  simp only [q_wi, Int32.lt_iff_toInt_lt, Int32.le_iff_toInt_le, e1, nI_toInt hR]
  omega
theorem y_isOf (hm : repM g S N) {w : Nat} (hw : w ∈ q_nms) (d : Nat) (n : Int32) : q_sem (d + 2) mX12_isOf 0 [.ref 98, .int (nI w), .int n] [] (q_K o g) = some (some (.int (bI (q_hs n (N w)))), q_K o g) := by
  have hN : N w < 2 ^ 31 := by
    have h1 : ∀ w ∈ q_nms, ∃ q ∈ q_mps, q.2.2.1 = w := by decide
    obtain ⟨q, hq, e⟩ := h1 w hw
    have := (hm.1 q hq).1
    have := (q_mps_f q hq).2.2.2.2.2.2.2.2.2.1
    rw [e] at *
    omega
  rw [n_isOf d (q_nms_1 w hw).2.2.2, hm.2.2.2.1 w hw, bI_d, q_hs_wi n hN]
theorem y_isOf0 (hm : repM g S N) (d : Nat) (n : Int32) : q_sem (d + 2) mX12_isOf 0 [.ref 98, .int 0, .int n] [] (q_K o g) = some (some (.int (bI (q_hs n (N 0)))), q_K o g) := y_isOf hm (w := 0) (by decide) d n
theorem z_has_ma (hr : repC 1 g S N) (d : Nat) (row : Int32) : q_sem (d + 1) mX7_has 0 [.ref 2, .int row] [] (q_K o g) = some (some (.int (bI (q_hs row (N 0)))), q_K o g) := by rw [r_has_ma hr, bI_d]; rfl
theorem z_has_po (hr : repC 1 g S N) (d : Nat) (row : Int32) : q_sem (d + 1) mX7_has 0 [.ref 4, .int row] [] (q_K o g) = some (some (.int (bI (q_hs row (N 1)))), q_K o g) := by rw [r_has_po hr, bI_d]; rfl
theorem y_isOf2 (hm : repM g S N) (d : Nat) (n : Int32) : q_sem (d + 2) mX12_isOf 0 [.ref 98, .int 2, .int n] [] (q_K o g) = some (some (.int (bI (q_hs n (N 2)))), q_K o g) := y_isOf hm (w := 2) (by decide) d n
theorem z_has_pl (hr : repC 1 g S N) (d : Nat) (row : Int32) : q_sem (d + 1) mX7_has 0 [.ref 6, .int row] [] (q_K o g) = some (some (.int (bI (q_hs row (N 2)))), q_K o g) := by rw [r_has_pl hr, bI_d]; rfl
theorem y_isOf3 (hm : repM g S N) (d : Nat) (n : Int32) : q_sem (d + 2) mX12_isOf 0 [.ref 98, .int 3, .int n] [] (q_K o g) = some (some (.int (bI (q_hs n (N 3)))), q_K o g) := y_isOf hm (w := 3) (by decide) d n
theorem z_has_fi (hr : repC 1 g S N) (d : Nat) (row : Int32) : q_sem (d + 1) mX7_has 0 [.ref 8, .int row] [] (q_K o g) = some (some (.int (bI (q_hs row (N 3)))), q_K o g) := by rw [r_has_fi hr, bI_d]; rfl
theorem y_isOf4 (hm : repM g S N) (d : Nat) (n : Int32) : q_sem (d + 2) mX12_isOf 0 [.ref 98, .int 4, .int n] [] (q_K o g) = some (some (.int (bI (q_hs n (N 4)))), q_K o g) := y_isOf hm (w := 4) (by decide) d n
theorem z_has_to (hr : repC 1 g S N) (d : Nat) (row : Int32) : q_sem (d + 1) mX7_has 0 [.ref 10, .int row] [] (q_K o g) = some (some (.int (bI (q_hs row (N 4)))), q_K o g) := by rw [r_has_to hr, bI_d]; rfl
theorem y_isOf5 (hm : repM g S N) (d : Nat) (n : Int32) : q_sem (d + 2) mX12_isOf 0 [.ref 98, .int 5, .int n] [] (q_K o g) = some (some (.int (bI (q_hs n (N 5)))), q_K o g) := y_isOf hm (w := 5) (by decide) d n
theorem z_has_fl (hr : repC 1 g S N) (d : Nat) (row : Int32) : q_sem (d + 1) mX7_has 0 [.ref 12, .int row] [] (q_K o g) = some (some (.int (bI (q_hs row (N 5)))), q_K o g) := by rw [r_has_fl hr, bI_d]; rfl
theorem y_isOf6 (hm : repM g S N) (d : Nat) (n : Int32) : q_sem (d + 2) mX12_isOf 0 [.ref 98, .int 6, .int n] [] (q_K o g) = some (some (.int (bI (q_hs n (N 6)))), q_K o g) := y_isOf hm (w := 6) (by decide) d n
theorem z_has_ru (hr : repC 1 g S N) (d : Nat) (row : Int32) : q_sem (d + 1) mX7_has 0 [.ref 17, .int row] [] (q_K o g) = some (some (.int (bI (q_hs row (N 6)))), q_K o g) := by rw [r_has_ru hr, bI_d]; rfl
theorem z_has_ta (hr : repC 1 g S N) (d : Nat) (row : Int32) : q_sem (d + 1) mX7_has 0 [.ref 19, .int row] [] (q_K o g) = some (some (.int (bI (q_hs row (N 8)))), q_K o g) := by rw [r_has_ta hr, bI_d]; rfl
theorem z_has_wa (hr : repC 1 g S N) (d : Nat) (row : Int32) : q_sem (d + 1) mX7_has 0 [.ref 14, .int row] [] (q_K o g) = some (some (.int (bI (q_hs row (N 11)))), q_K o g) := by rw [r_has_wa hr, bI_d]; rfl
end LEAF
