/-! voices -/
section VMA
variable (k i : Nat) (m : Int32)
def v_PG (x : Int32) : Int32 × List Int32 := (x + nI i, [10])
def v_FG (x : Int32) : Int32 × List Int32 := ((v_PG i (x - 1)).1, 50 :: (v_PG i (x - 1)).2)
def v_Go (x : Int32) : Int32 × List Int32 := if k = 2 then ((v_PG i x).1 * m, 30 :: (v_PG i x).2) else if 3 < k then v_FG i x else v_PG i x
def v_PJ (x : Int32) : Int32 × List Int32 := ((v_Go k i m x).1 * 2, 11 :: (v_Go k i m x).2)
def v_Jo (x : Int32) : Int32 × List Int32 := if k = 1 ∨ k = 2 then ((v_PJ k i m x).1 + m, 20 :: (v_PJ k i m x).2) else if k = 5 then ((v_PJ k i m x).1 - (v_FG i x).1, 60 :: ((v_PJ k i m x).2 ++ (v_FG i x).2)) else v_PJ k i m x
def v_PB (x : Int32) : Int32 × List Int32 := ((v_Jo k i m x).1 - m, 12 :: (v_Jo k i m x).2)
def v_FB (x : Int32) : Int32 × List Int32 := ((v_Go k i m x).1 ^^^ (v_PB k i m x).1, 40 :: ((v_Go k i m x).2 ++ (v_PB k i m x).2))
def v_Bu (x : Int32) : Int32 × List Int32 := if k = 2 then ((v_PB k i m (x + 1)).1, 31 :: (v_PB k i m (x + 1)).2) else if k = 5 then ((v_FB k i m x).1 * 3, 61 :: (v_FB k i m x).2) else if 2 < k then v_FB k i m x else v_PB k i m x
def v_PT (x : Int32) : Int32 × List Int32 := ((v_Bu k i m x).1 + (v_Go k i m 1).1, 13 :: ((v_Bu k i m x).2 ++ (v_Go k i m 1).2))
def v_Te (x : Int32) : Int32 × List Int32 := if k = 1 ∨ k = 2 then (0 - (v_PT k i m x).1, 21 :: (v_PT k i m x).2) else if 3 < k then ((v_PT k i m x).1 + (v_Bu k i m (nI i)).1, 51 :: ((v_PT k i m x).2 ++ (v_Bu k i m (nI i)).2)) else v_PT k i m x
end VMA
/-- the trace so far, on each side -/
def q_tc (g : Nat → Nat → Int32) (T : List Int32) : Prop := q_ti g 95 40 1 (min 40 T.length) ∧ ∀ i, i < min 40 T.length → g 96 i = T.getD i 0
def q_tm (g : Nat → Nat → Int32) (T : List Int32) : Prop := g 98 68 = nI (min 40 T.length) ∧ ∀ i, i < min 40 T.length → g 149 i = T.getD i 0
def q_f95 (g g2 : Nat → Nat → Int32) : Prop := ∀ p j, p ≠ 95 → p ≠ 96 → g2 p j = g p j
def q_f149 (g g2 : Nat → Nat → Int32) : Prop := ∀ p j, p ≠ 149 → ¬ (p = 98 ∧ j = 68) → g2 p j = g p j
def q_vk (g : Nat → Nat → Int32) (k i : Nat) (m : Int32) : Prop := g 94 1 = nI k ∧ g 94 2 = nI i ∧ g 94 3 = m
def q_mk (g : Nat → Nat → Int32) (k i : Nat) (m : Int32) : Prop := g 98 69 = nI i ∧ g 114 i = nI k ∧ g 119 i = m
theorem vk_fr {g g2 : Nat → Nat → Int32} {k i : Nat} {m : Int32} (h : q_vk g k i m) (hf : q_f95 g g2) : q_vk g2 k i m := ⟨(hf _ _ (by decide) (by decide)).trans h.1, (hf _ _ (by decide) (by decide)).trans h.2.1, (hf _ _ (by decide) (by decide)).trans h.2.2⟩
theorem mk_fr {g g2 : Nat → Nat → Int32} {k i : Nat} {m : Int32} (h : q_mk g k i m) (hf : q_f149 g g2) : q_mk g2 k i m := ⟨(hf _ _ (by decide) (by decide)).trans h.1, (hf _ _ (by decide) (by omega)).trans h.2.1, (hf _ _ (by decide) (by omega)).trans h.2.2⟩
theorem f95_tr {g g2 g3 : Nat → Nat → Int32} (h : q_f95 g g2) (h2 : q_f95 g2 g3) : q_f95 g g3 := fun p j a b => (h2 p j a b).trans (h p j a b)
theorem f149_tr {g g2 g3 : Nat → Nat → Int32} (h : q_f149 g g2) (h2 : q_f149 g2 g3) : q_f149 g g3 := fun p j a b => (h2 p j a b).trans (h p j a b)
/-- the run answers v.1 and leaves v.2 in the trace -/
def q_vs (o : q_H) (k i : Nat) (m : Int32) (run : (Nat → Nat → Int32) → Option (Option Value × q_H)) (v : Int32 × List Int32) : Prop := ∀ g T, q_vk g k i m → q_tc g T → ∃ g2, run g = some (some (.int v.1), q_K o g2) ∧ q_tc g2 (T ++ v.2) ∧ q_f95 g g2
def q_vm (o : q_H) (k i : Nat) (m : Int32) (run : (Nat → Nat → Int32) → Option (Option Value × q_H)) (v : Int32 × List Int32) : Prop := ∀ g T, q_mk g k i m → q_tm g T → ∃ g2, run g = some (some (.int v.1), q_K o g2) ∧ q_tm g2 (T ++ v.2) ∧ q_f149 g g2
theorem q_tb95 : q_tb 95 40 1 := ⟨⟨by decide, rfl⟩, rfl, rfl, rfl, rfl, ⟨by decide, rfl, rfl⟩, by decide, by decide, by decide⟩
theorem q_getD_app {T : List Int32} {b : Int32} {i : Nat} : (T ++ [b]).getD i 0 = if i = T.length then b else T.getD i 0 := by
  by_cases h : i = T.length
  · subst h; rw [if_pos rfl]; simp
  · rw [if_neg h]
    rcases Nat.lt_or_ge i T.length with h2 | h2
    · simp [List.getD, List.getElem?_append_left h2]
    · have a1 : (T ++ [b])[i]? = none := List.getElem?_eq_none (by simp; omega)
      have a2 : T[i]? = none := List.getElem?_eq_none h2
      simp [List.getD, a1, a2]
section VCL
variable {o : q_H} {k i : Nat} {m : Int32} {v w : Int32 × List Int32} {x : Int32} {dep first act D : Nat}
theorem z_began {g : Nat → Nat → Int32} {T : List Int32} (ht : q_tc g T) (b : Int32) (d : Nat) : ∃ g2 y, q_sem (d + 2) mX7_add 0 [.ref 95, .int b, .retAddr 0] [] (q_K o g) = some (some (.int y), q_K o g2) ∧ q_tc g2 (T ++ [b]) ∧ q_f95 g g2 := by
  have hl : (T ++ [b]).length = T.length + 1 := by simp
  rcases Nat.lt_or_ge T.length 40 with h | h
  · have e1 : min 40 T.length = T.length := Nat.min_eq_right (by omega)
    have e2 : min 40 (T ++ [b]).length = T.length + 1 := by rw [hl]; exact Nat.min_eq_right (by omega)
    have hti := ht.1
    rw [e1] at hti
    refine ⟨_, _, s_add d q_tb95 hti h b, ⟨?_, ?_⟩, ?_⟩
    · rw [e2]
      unfold q_ad
      refine ⟨?_, ?_, ?_, by omega⟩
      · dsimp only; rw [if_neg (by omega), if_neg (by omega)]; exact hti.1
      · dsimp only; rw [if_neg (by omega), if_neg (by omega)]; exact hti.2.1
      · dsimp only; rw [if_pos ⟨rfl, rfl⟩]
    · intro j hj
      rw [e2] at hj
      rw [q_getD_app]
      unfold q_ad
      by_cases e : j = T.length
      · rw [if_neg (by omega), if_pos ⟨rfl, by omega, by omega⟩, if_pos (by omega), if_pos e]
      · rw [if_neg (by omega), if_neg (by omega), if_neg e]
        exact ht.2 j (by omega)
    · intro p j h1 h2
      unfold q_ad
      rw [if_neg (by omega), if_neg (by omega)]
  · have e1 : min 40 T.length = 40 := Nat.min_eq_left h
    have e2 : min 40 (T ++ [b]).length = 40 := by rw [hl]; exact Nat.min_eq_left (by omega)
    have hti := ht.1
    rw [e1] at hti
    refine ⟨g, _, s_addFull d q_tb95 hti b, ⟨by rw [e2]; exact hti, ?_⟩, fun _ _ _ _ => rfl⟩
    intro j hj
    rw [e2] at hj
    rw [q_getD_app, if_neg (by omega)]
    exact ht.2 j (by omega)
theorem m_ran {g : Nat → Nat → Int32} {T : List Int32} (ht : q_tm g T) (b : Int32) (d : Nat) : ∃ g2, q_sem d mX12_ran 0 [.ref 98, .int b] [] (q_K o g) = some (none, q_K o g2) ∧ q_tm g2 (T ++ [b]) ∧ q_f149 g g2 := by
  have hl : (T ++ [b]).length = T.length + 1 := by simp
  rw [B_X12_ran_0, ht.1]
  rcases Nat.lt_or_ge T.length 40 with h | h
  · have e1 : min 40 T.length = T.length := Nat.min_eq_right (by omega)
    have e2 : min 40 (T ++ [b]).length = T.length + 1 := by rw [hl]; exact Nat.min_eq_right (by omega)
    have c1 : ¬ (40 : Int32) ≤ nI T.length := (by decide : (40 : Int32) = nI 40) ▸ nI_ge h (by decide)
    have h1 := ht.1
    rw [e1] at h1 ⊢
    rw [if_neg c1, q_rgN h (by decide), q_upN (by decide), h1, nI_1]
    refine ⟨_, rfl, ⟨by rw [e2, q_upE], ?_⟩, fun p j a c => by rw [q_up_ne c, q_upN a]⟩
    intro j hj
    rw [e2] at hj
    rw [q_getD_app, q_upN (by decide)]
    by_cases e : j = T.length
    · rw [if_pos e, e, q_upE]
    · rw [if_neg e, q_upJ e]; exact ht.2 j (by omega)
  · have e1 : min 40 T.length = 40 := Nat.min_eq_left h
    have e2 : min 40 (T ++ [b]).length = 40 := by rw [hl]; exact Nat.min_eq_left (by omega)
    have c1 : (40 : Int32) ≤ nI 40 := by decide
    rw [e1, if_pos c1]
    refine ⟨g, rfl, ⟨?_, ?_⟩, fun _ _ _ _ => rfl⟩
    · rw [e2, ht.1, e1]
    · intro j hj
      rw [e2] at hj
      rw [q_getD_app, if_neg (by omega)]
      exact ht.2 j (by omega)
/-- the body of a kind for an act -/
def q_bdf (act : Nat) : Nat → Int32 → Int32
  | 0, _ => 0
  | n + 1, kd => if kd < 0 then 0 else if q_way 4 (4 * q_cl2 kd + act) = 0 then q_bdf act n (q_ab kd) else q_way 4 (4 * q_cl2 kd + act)
theorem z_bdf (ho : q_oR o) {g : Nat → Nat → Int32} (ha : act < 4) (x0 : Int32) (d : Nat) : ∀ n j kd x4, j + n = 24 → (kd = -1 ∨ ∃ k, k < 6 ∧ kd = nI k) → (x4 = .retAddr 0 ∨ ∃ v, x4 = .int v) → q_sem (d + 1) mX9_bodyFrom 4 [.int x0, .int (nI act), .int kd, .int (nI j), x4] [] (q_K o g) = some (some (.int (q_bdf act n kd)), q_K o g) := by
  intro n
  induction n with
  | zero =>
    intro j kd x4 hj _ hx
    have c1 : (24 : Int32) ≤ nI j := (by decide : (24 : Int32) = nI 24) ▸ nI_le (by omega) (by omega)
    rcases hx with rfl | ⟨v, rfl⟩
    · rw [B_X9_bodyFrom_4 ho, if_pos c1]; rfl
    · rw [B_X9_bodyFrom_4a ho, if_pos c1]; rfl
  | succ n ih =>
    intro j kd x4 hj hkd hx
    have c1 : ¬ (24 : Int32) ≤ nI j := (by decide : (24 : Int32) = nI 24) ▸ nI_ge (by omega) (by omega)
    unfold q_bdf
    rcases hkd with rfl | ⟨k, hk, rfl⟩
    · rw [if_pos (show (-1 : Int32) < 0 by decide)]
      rcases hx with rfl | ⟨v, rfl⟩
      · rw [B_X9_bodyFrom_4 ho, if_neg c1, if_pos (by decide)]
      · rw [B_X9_bodyFrom_4a ho, if_neg c1, if_pos (by decide)]
    · have c2 : ¬ nI k < 0 := nI_pos (by omega)
      have e4 : (4 : Int32) * nI k + nI act = nI (4 * k + act) := by rw [show (4 : Int32) = nI 4 from rfl, pk_mul, nI_add]
      have c3 : ¬ nI (4 * k + act) < 0 := nI_pos (by omega)
      have c4 : ¬ (24 : Int32) ≤ nI (4 * k + act) := (by decide : (24 : Int32) = nI 24) ▸ nI_ge (by omega) (by omega)
      have hab : q_ab (nI k) = -1 ∨ ∃ k2, k2 < 6 ∧ q_ab (nI k) = nI k2 := by
        have : ∀ k, k < 6 → q_ab (nI k) = -1 ∨ q_ab (nI k) = nI 0 ∨ q_ab (nI k) = nI 1 ∨ q_ab (nI k) = nI 3 ∨ q_ab (nI k) = nI 4 := by decide +kernel
        rcases this k hk with h | h | h | h | h
        · exact Or.inl h
        · exact Or.inr ⟨0, by decide, h⟩
        · exact Or.inr ⟨1, by decide, h⟩
        · exact Or.inr ⟨3, by decide, h⟩
        · exact Or.inr ⟨4, by decide, h⟩
      rw [if_neg c2, show q_cl2 (nI k) = k from nI_clamp (by omega)]
      have ih0 := ih (j + 1) (q_ab (nI k)) (.int (nI (4 * k + act))) (by omega) hab (Or.inr ⟨_, rfl⟩)
      have body : ∀ A, (A = if q_way 4 (4 * k + act) = 0 then (q_sem d mX10_above 0 [.int (nI k)] [] (q_K o g)).bind (fun r => q_sem (d + 1) mX9_bodyFrom 57 [.int x0, .int (nI act), .int (nI k), .int (nI j), .int (nI (4 * k + act))] (r.1.toList ++ []) r.2) else some (some (.int (q_way 4 (4 * k + act))), q_K o g)) → A = some (some (.int (if q_way 4 (4 * k + act) = 0 then q_bdf act n (q_ab (nI k)) else q_way 4 (4 * k + act))), q_K o g) := by
        intro A hA
        rw [hA]
        by_cases hz : q_way 4 (4 * k + act) = 0
        · rw [if_pos hz, if_pos hz, c_above ho]
          simp only [Option.bind_some, Option.toList_some, Option.toList_none, List.cons_append, List.nil_append, B_X9_bodyFrom_57, nI_1]
          exact ih0
        · rw [if_neg hz, if_neg hz]
      apply body
      rcases hx with rfl | ⟨v, rfl⟩
      · rw [B_X9_bodyFrom_4 ho, if_neg c1, if_neg c2, e4, if_neg c3, if_neg c4, q_rgN (show 4 * k + act < 24 by omega) (by decide), q_rgN (show 4 * k + act < 24 by omega) (by decide)]
      · rw [B_X9_bodyFrom_4a ho, if_neg c1, if_neg c2, e4, if_neg c3, if_neg c4, q_rgN (show 4 * k + act < 24 by omega) (by decide), q_rgN (show 4 * k + act < 24 by omega) (by decide)]
theorem z_bodyFrom (ho : q_oR o) {g : Nat → Nat → Int32} (hf : first < 6) (ha : act < 4) {b : Int32} (hb : q_bdf act 24 (nI first) = b) (d : Nat) : q_sem (d + 1) mX9_bodyFrom 0 [.int (nI first), .int (nI act), .retAddr 0, .retAddr 0, .retAddr 0] [] (q_K o g) = some (some (.int b), q_K o g) := by
  rw [B_X9_bodyFrom_0, ← hb]
  exact z_bdf ho ha (nI first) d 24 0 (nI first) (.retAddr 0) (by omega) (Or.inr ⟨first, hf, rfl⟩) (Or.inl rfl)
noncomputable abbrev q_rf (o : q_H) (D first act : Nat) (x : Int32) (dep : Nat) : (Nat → Nat → Int32) → Option (Option Value × q_H) := fun g => q_sem D mX9_from 0 [.ref 94, .int (nI first), .int (nI act), .int x, .int (nI dep), .retAddr 0] [] (q_K o g)
noncomputable abbrev q_ro (o : q_H) (D act : Nat) (x : Int32) (dep : Nat) : (Nat → Nat → Int32) → Option (Option Value × q_H) := fun g => q_sem D mX9_own 0 [.ref 94, .int (nI act), .int x, .int (nI dep)] [] (q_K o g)
noncomputable abbrev q_re (o : q_H) (D : Nat) (b x : Int32) (dep : Nat) : (Nat → Nat → Int32) → Option (Option Value × q_H) := fun g => q_sem D mX9_enemyBody 0 [.ref 94, .int b, .int x, .int (nI dep)] [] (q_K o g)
noncomputable abbrev q_rfr (o : q_H) (D : Nat) (b x : Int32) (dep : Nat) : (Nat → Nat → Int32) → Option (Option Value × q_H) := fun g => q_sem D mX9_friendBody 0 [.ref 94, .int b, .int x, .int (nI dep)] [] (q_K o g)
theorem v_own {d : Nat} (hdep : dep < 100) (h : q_vs o k i m (q_rf o d k act x (dep + 1)) v) : q_vs o k i m (q_ro o (d + 1) act x dep) v := by
  intro g T hk ht
  obtain ⟨g2, e2, ht2, hf2⟩ := h g T hk ht
  refine ⟨g2, ?_, ht2, hf2⟩
  show q_sem (d + 1) mX9_own 0 _ [] (q_K o g) = _
  simp only [B_X9_own_0, B_X9_own_13, hk.1, nI_1]
  rw [show q_sem d mX9_from 0 [.ref 94, .int (nI k), .int (nI act), .int x, .int (nI (dep + 1)), .retAddr 0] [] (q_K o g) = _ from e2]
  simp only [Option.bind_some, Option.toList_some, Option.toList_none, List.cons_append, List.nil_append, B_X9_own_0, B_X9_own_13]
theorem v_from {d : Nat} (ho : q_oR o) (hf : first < 6) (ha : act < 4) {b : Int32} (hb : q_bdf act 24 (nI first) = b) (hb0 : b ≠ 0) (hdep : dep ≤ 40) (h : q_vs o k i m (if 40 ≤ b then q_rfr o (d + 2) b x dep else q_re o (d + 2) b x dep) v) : q_vs o k i m (q_rf o (d + 3) first act x dep) (v.1, b :: v.2) := by
  intro g T hk ht
  have c1 : ¬ (40 : Int32) < nI dep := (by decide : (40 : Int32) = nI 40) ▸ nI_nlt hdep (by decide)
  obtain ⟨g1, y, e1, ht1, hf1⟩ := z_began (o := o) ht b d
  obtain ⟨g2, e2, ht2, hf2⟩ := h g1 _ (vk_fr hk hf1) ht1
  refine ⟨g2, ?_, by rw [List.append_assoc] at ht2; exact ht2, f95_tr hf1 hf2⟩
  show q_sem (d + 3) mX9_from 0 _ [] (q_K o g) = _
  simp only [B_X9_from_0, z_bodyFrom ho hf ha hb, Option.bind_some, Option.toList_some, Option.toList_none, List.cons_append, List.nil_append, B_X9_from_5, c1, hb0, ↓reduceIte, e1, B_X9_from_30]
  by_cases h40 : 40 ≤ b
  · rw [if_pos h40] at e2 ⊢
    rw [show q_sem (d + 2) mX9_friendBody 0 [.ref 94, .int b, .int x, .int (nI dep)] [] (q_K o g1) = _ from e2]
    simp only [Option.bind_some, Option.toList_some, Option.toList_none, List.cons_append, List.nil_append, B_X9_from_5, B_X9_from_30, B_X9_from_59, B_X9_from_47]
  · rw [if_neg h40] at e2 ⊢
    rw [show q_sem (d + 2) mX9_enemyBody 0 [.ref 94, .int b, .int x, .int (nI dep)] [] (q_K o g1) = _ from e2]
    simp only [Option.bind_some, Option.toList_some, Option.toList_none, List.cons_append, List.nil_append, B_X9_from_5, B_X9_from_30, B_X9_from_59, B_X9_from_47]
theorem v_e10 {d : Nat} : q_vs o k i m (q_re o (d + 1) 10 x dep) (x + nI i, []) := by
  intro g T hk ht
  refine ⟨g, ?_, by rw [List.append_nil]; exact ht, fun _ _ _ _ => rfl⟩
  show q_sem (d + 1) mX9_enemyBody 0 _ [] (q_K o g) = _
  rw [B_X9_enemyBody_0, if_pos rfl, hk.2.1]
theorem v_e11 {d : Nat} (h : q_vs o k i m (q_ro o d 0 (x) dep) v) : q_vs o k i m (q_re o (d + 1) 11 x dep) (v.1 * 2, v.2) := by
  intro g T hk ht
  obtain ⟨g2, e2, ht2, hf2⟩ := h g T hk ht
  have hk2 := vk_fr hk hf2
  refine ⟨g2, ?_, ht2, hf2⟩
  show q_sem (d + 1) mX9_enemyBody 0 _ [] (q_K o g) = _
  have e3 : q_sem d mX9_own 0 [.ref 94, .int 0, .int (x), .int (nI dep)] [] (q_K o g) = some (some (.int v.1), q_K o g2) := e2
  simp only [B_X9_enemyBody_0, (by decide : ¬ (11 : Int32) = 10), ↓reduceIte, nI_1, e3, Option.bind_some, Option.toList_some, Option.toList_none, List.cons_append, List.nil_append, B_X9_enemyBody_114, B_X9_enemyBody_124, B_X9_enemyBody_137, B_X9_enemyBody_203, B_X9_enemyBody_156, B_X9_enemyBody_173, B_X9_enemyBody_185, B_X9_enemyBody_144, hk2.2.2]
theorem v_e12 {d : Nat} (h : q_vs o k i m (q_ro o d 1 (x) dep) v) : q_vs o k i m (q_re o (d + 1) 12 x dep) (v.1 - m, v.2) := by
  intro g T hk ht
  obtain ⟨g2, e2, ht2, hf2⟩ := h g T hk ht
  have hk2 := vk_fr hk hf2
  refine ⟨g2, ?_, ht2, hf2⟩
  show q_sem (d + 1) mX9_enemyBody 0 _ [] (q_K o g) = _
  have e3 : q_sem d mX9_own 0 [.ref 94, .int 1, .int (x), .int (nI dep)] [] (q_K o g) = some (some (.int v.1), q_K o g2) := e2
  simp only [B_X9_enemyBody_0, (by decide : ¬ (12 : Int32) = 10), (by decide : ¬ (12 : Int32) = 11), ↓reduceIte, nI_1, e3, Option.bind_some, Option.toList_some, Option.toList_none, List.cons_append, List.nil_append, B_X9_enemyBody_114, B_X9_enemyBody_124, B_X9_enemyBody_137, B_X9_enemyBody_203, B_X9_enemyBody_156, B_X9_enemyBody_173, B_X9_enemyBody_185, B_X9_enemyBody_144, hk2.2.2]
theorem v_e20 {d : Nat} (h : q_vs o k i m (q_rf o d 0 1 (x) (dep + 1)) v) : q_vs o k i m (q_re o (d + 1) 20 x dep) (v.1 + m, v.2) := by
  intro g T hk ht
  obtain ⟨g2, e2, ht2, hf2⟩ := h g T hk ht
  have hk2 := vk_fr hk hf2
  refine ⟨g2, ?_, ht2, hf2⟩
  show q_sem (d + 1) mX9_enemyBody 0 _ [] (q_K o g) = _
  have e3 : q_sem d mX9_from 0 [.ref 94, .int 0, .int 1, .int (x), .int (nI (dep + 1)), .retAddr 0] [] (q_K o g) = some (some (.int v.1), q_K o g2) := e2
  simp only [B_X9_enemyBody_0, (by decide : ¬ (20 : Int32) = 10), (by decide : ¬ (20 : Int32) = 11), (by decide : ¬ (20 : Int32) = 12), (by decide : ¬ (20 : Int32) = 13), (by decide : ¬ (20 : Int32) = 14), (by decide : ¬ (20 : Int32) = 15), (by decide : ¬ (20 : Int32) = 16), (by decide : ¬ (20 : Int32) = 17), (by decide : ¬ (20 : Int32) = 18), (by decide : ¬ (20 : Int32) = 19), ↓reduceIte, nI_1, e3, Option.bind_some, Option.toList_some, Option.toList_none, List.cons_append, List.nil_append, B_X9_enemyBody_114, B_X9_enemyBody_124, B_X9_enemyBody_137, B_X9_enemyBody_203, B_X9_enemyBody_156, B_X9_enemyBody_173, B_X9_enemyBody_185, B_X9_enemyBody_144, hk2.2.2]
theorem v_e21 {d : Nat} (h : q_vs o k i m (q_rf o d 0 3 (x) (dep + 1)) v) : q_vs o k i m (q_re o (d + 1) 21 x dep) (0 - v.1, v.2) := by
  intro g T hk ht
  obtain ⟨g2, e2, ht2, hf2⟩ := h g T hk ht
  have hk2 := vk_fr hk hf2
  refine ⟨g2, ?_, ht2, hf2⟩
  show q_sem (d + 1) mX9_enemyBody 0 _ [] (q_K o g) = _
  have e3 : q_sem d mX9_from 0 [.ref 94, .int 0, .int 3, .int (x), .int (nI (dep + 1)), .retAddr 0] [] (q_K o g) = some (some (.int v.1), q_K o g2) := e2
  simp only [B_X9_enemyBody_0, (by decide : ¬ (21 : Int32) = 10), (by decide : ¬ (21 : Int32) = 11), (by decide : ¬ (21 : Int32) = 12), (by decide : ¬ (21 : Int32) = 13), (by decide : ¬ (21 : Int32) = 14), (by decide : ¬ (21 : Int32) = 15), (by decide : ¬ (21 : Int32) = 16), (by decide : ¬ (21 : Int32) = 17), (by decide : ¬ (21 : Int32) = 18), (by decide : ¬ (21 : Int32) = 19), (by decide : ¬ (21 : Int32) = 20), ↓reduceIte, nI_1, e3, Option.bind_some, Option.toList_some, Option.toList_none, List.cons_append, List.nil_append, B_X9_enemyBody_114, B_X9_enemyBody_124, B_X9_enemyBody_137, B_X9_enemyBody_203, B_X9_enemyBody_156, B_X9_enemyBody_173, B_X9_enemyBody_185, B_X9_enemyBody_144, hk2.2.2]
theorem v_e30 {d : Nat} (h : q_vs o k i m (q_rf o d 1 0 (x) (dep + 1)) v) : q_vs o k i m (q_re o (d + 1) 30 x dep) (v.1 * m, v.2) := by
  intro g T hk ht
  obtain ⟨g2, e2, ht2, hf2⟩ := h g T hk ht
  have hk2 := vk_fr hk hf2
  refine ⟨g2, ?_, ht2, hf2⟩
  show q_sem (d + 1) mX9_enemyBody 0 _ [] (q_K o g) = _
  have e3 : q_sem d mX9_from 0 [.ref 94, .int 1, .int 0, .int (x), .int (nI (dep + 1)), .retAddr 0] [] (q_K o g) = some (some (.int v.1), q_K o g2) := e2
  simp only [B_X9_enemyBody_0, (by decide : ¬ (30 : Int32) = 10), (by decide : ¬ (30 : Int32) = 11), (by decide : ¬ (30 : Int32) = 12), (by decide : ¬ (30 : Int32) = 13), (by decide : ¬ (30 : Int32) = 14), (by decide : ¬ (30 : Int32) = 15), (by decide : ¬ (30 : Int32) = 16), (by decide : ¬ (30 : Int32) = 17), (by decide : ¬ (30 : Int32) = 18), (by decide : ¬ (30 : Int32) = 19), (by decide : ¬ (30 : Int32) = 20), (by decide : ¬ (30 : Int32) = 21), (by decide : ¬ (30 : Int32) = 22), (by decide : ¬ (30 : Int32) = 23), (by decide : ¬ (30 : Int32) = 24), (by decide : ¬ (30 : Int32) = 25), (by decide : ¬ (30 : Int32) = 26), (by decide : ¬ (30 : Int32) = 27), (by decide : ¬ (30 : Int32) = 28), (by decide : ¬ (30 : Int32) = 29), ↓reduceIte, nI_1, e3, Option.bind_some, Option.toList_some, Option.toList_none, List.cons_append, List.nil_append, B_X9_enemyBody_114, B_X9_enemyBody_124, B_X9_enemyBody_137, B_X9_enemyBody_203, B_X9_enemyBody_156, B_X9_enemyBody_173, B_X9_enemyBody_185, B_X9_enemyBody_144, hk2.2.2]
theorem v_e31 {d : Nat} (h : q_vs o k i m (q_rf o d 1 2 (x + 1) (dep + 1)) v) : q_vs o k i m (q_re o (d + 1) 31 x dep) (v.1, v.2) := by
  intro g T hk ht
  obtain ⟨g2, e2, ht2, hf2⟩ := h g T hk ht
  have hk2 := vk_fr hk hf2
  refine ⟨g2, ?_, ht2, hf2⟩
  show q_sem (d + 1) mX9_enemyBody 0 _ [] (q_K o g) = _
  have e3 : q_sem d mX9_from 0 [.ref 94, .int 1, .int 2, .int (x + 1), .int (nI (dep + 1)), .retAddr 0] [] (q_K o g) = some (some (.int v.1), q_K o g2) := e2
  simp only [B_X9_enemyBody_0, (by decide : ¬ (31 : Int32) = 10), (by decide : ¬ (31 : Int32) = 11), (by decide : ¬ (31 : Int32) = 12), (by decide : ¬ (31 : Int32) = 13), (by decide : ¬ (31 : Int32) = 14), (by decide : ¬ (31 : Int32) = 15), (by decide : ¬ (31 : Int32) = 16), (by decide : ¬ (31 : Int32) = 17), (by decide : ¬ (31 : Int32) = 18), (by decide : ¬ (31 : Int32) = 19), (by decide : ¬ (31 : Int32) = 20), (by decide : ¬ (31 : Int32) = 21), (by decide : ¬ (31 : Int32) = 22), (by decide : ¬ (31 : Int32) = 23), (by decide : ¬ (31 : Int32) = 24), (by decide : ¬ (31 : Int32) = 25), (by decide : ¬ (31 : Int32) = 26), (by decide : ¬ (31 : Int32) = 27), (by decide : ¬ (31 : Int32) = 28), (by decide : ¬ (31 : Int32) = 29), (by decide : ¬ (31 : Int32) = 30), ↓reduceIte, nI_1, e3, Option.bind_some, Option.toList_some, Option.toList_none, List.cons_append, List.nil_append, B_X9_enemyBody_114, B_X9_enemyBody_124, B_X9_enemyBody_137, B_X9_enemyBody_203, B_X9_enemyBody_156, B_X9_enemyBody_173, B_X9_enemyBody_185, B_X9_enemyBody_144, hk2.2.2]
theorem v_f50 {d : Nat} (h : q_vs o k i m (q_rf o d 3 0 (x - 1) (dep + 1)) v) : q_vs o k i m (q_rfr o (d + 1) 50 x dep) (v.1, v.2) := by
  intro g T hk ht
  obtain ⟨g2, e2, ht2, hf2⟩ := h g T hk ht
  have hk2 := vk_fr hk hf2
  refine ⟨g2, ?_, ht2, hf2⟩
  show q_sem (d + 1) mX9_friendBody 0 _ [] (q_K o g) = _
  have e3 : q_sem d mX9_from 0 [.ref 94, .int 3, .int 0, .int (x - 1), .int (nI (dep + 1)), .retAddr 0] [] (q_K o g) = some (some (.int v.1), q_K o g2) := e2
  simp only [B_X9_friendBody_0, (by decide : ¬ (50 : Int32) = 40), ↓reduceIte, nI_1, e3, Option.bind_some, Option.toList_some, Option.toList_none, List.cons_append, List.nil_append, B_X9_friendBody_51, B_X9_friendBody_75, B_X9_friendBody_86, B_X9_friendBody_108, B_X9_friendBody_130, B_X9_friendBody_61, B_X9_friendBody_96, B_X9_friendBody_118, hk2.2.2]
theorem v_f61 {d : Nat} (h : q_vs o k i m (q_rf o d 4 2 (x) (dep + 1)) v) : q_vs o k i m (q_rfr o (d + 1) 61 x dep) (v.1 * 3, v.2) := by
  intro g T hk ht
  obtain ⟨g2, e2, ht2, hf2⟩ := h g T hk ht
  have hk2 := vk_fr hk hf2
  refine ⟨g2, ?_, ht2, hf2⟩
  show q_sem (d + 1) mX9_friendBody 0 _ [] (q_K o g) = _
  have e3 : q_sem d mX9_from 0 [.ref 94, .int 4, .int 2, .int (x), .int (nI (dep + 1)), .retAddr 0] [] (q_K o g) = some (some (.int v.1), q_K o g2) := e2
  simp only [B_X9_friendBody_0, (by decide : ¬ (61 : Int32) = 40), (by decide : ¬ (61 : Int32) = 50), (by decide : ¬ (61 : Int32) = 51), (by decide : ¬ (61 : Int32) = 60), ↓reduceIte, nI_1, e3, Option.bind_some, Option.toList_some, Option.toList_none, List.cons_append, List.nil_append, B_X9_friendBody_51, B_X9_friendBody_75, B_X9_friendBody_86, B_X9_friendBody_108, B_X9_friendBody_130, B_X9_friendBody_61, B_X9_friendBody_96, B_X9_friendBody_118, hk2.2.2]
theorem v_e13 {d : Nat} (h : q_vs o k i m (q_ro o d 2 (x) dep) v) (h2 : q_vs o k i m (q_ro o d 0 (1) dep) w) : q_vs o k i m (q_re o (d + 1) 13 x dep) (v.1 + w.1, v.2 ++ w.2) := by
  intro g T hk ht
  obtain ⟨g2, e2, ht2, hf2⟩ := h g T hk ht
  have hk2 := vk_fr hk hf2
  obtain ⟨g3, e3, ht3, hf3⟩ := h2 g2 _ hk2 ht2
  refine ⟨g3, ?_, by rw [List.append_assoc] at ht3; exact ht3, f95_tr hf2 hf3⟩
  show q_sem (d + 1) mX9_enemyBody 0 _ [] (q_K o g) = _
  have e4 : q_sem d mX9_own 0 [.ref 94, .int 2, .int (x), .int (nI dep)] [] (q_K o g) = some (some (.int v.1), q_K o g2) := e2
  have e5 : q_sem d mX9_own 0 [.ref 94, .int 0, .int (1), .int (nI dep)] [] (q_K o g2) = some (some (.int w.1), q_K o g3) := e3
  simp only [B_X9_enemyBody_0, (by decide : ¬ (13 : Int32) = 10), (by decide : ¬ (13 : Int32) = 11), (by decide : ¬ (13 : Int32) = 12), ↓reduceIte, nI_1, e4, Option.bind_some, Option.toList_some, Option.toList_none, List.cons_append, List.nil_append, B_X9_enemyBody_114, B_X9_enemyBody_124, B_X9_enemyBody_137, B_X9_enemyBody_203, B_X9_enemyBody_156, B_X9_enemyBody_173, B_X9_enemyBody_185, B_X9_enemyBody_144, hk2.2.1, e5]
theorem v_f40 {d : Nat} (h : q_vs o k i m (q_ro o d 0 (x) dep) v) (h2 : q_vs o k i m (q_rf o d 0 2 (x) (dep + 1)) w) : q_vs o k i m (q_rfr o (d + 1) 40 x dep) (v.1 ^^^ w.1, v.2 ++ w.2) := by
  intro g T hk ht
  obtain ⟨g2, e2, ht2, hf2⟩ := h g T hk ht
  have hk2 := vk_fr hk hf2
  obtain ⟨g3, e3, ht3, hf3⟩ := h2 g2 _ hk2 ht2
  refine ⟨g3, ?_, by rw [List.append_assoc] at ht3; exact ht3, f95_tr hf2 hf3⟩
  show q_sem (d + 1) mX9_friendBody 0 _ [] (q_K o g) = _
  have e4 : q_sem d mX9_own 0 [.ref 94, .int 0, .int (x), .int (nI dep)] [] (q_K o g) = some (some (.int v.1), q_K o g2) := e2
  have e5 : q_sem d mX9_from 0 [.ref 94, .int 0, .int 2, .int (x), .int (nI (dep + 1)), .retAddr 0] [] (q_K o g2) = some (some (.int w.1), q_K o g3) := e3
  simp only [B_X9_friendBody_0, ↓reduceIte, nI_1, e4, Option.bind_some, Option.toList_some, Option.toList_none, List.cons_append, List.nil_append, B_X9_friendBody_51, B_X9_friendBody_75, B_X9_friendBody_86, B_X9_friendBody_108, B_X9_friendBody_130, B_X9_friendBody_61, B_X9_friendBody_96, B_X9_friendBody_118, hk2.2.1, e5]
theorem v_f51 {d : Nat} (h : q_vs o k i m (q_rf o d 3 3 (x) (dep + 1)) v) (h2 : q_vs o k i m (q_ro o d 2 (nI i) dep) w) : q_vs o k i m (q_rfr o (d + 1) 51 x dep) (v.1 + w.1, v.2 ++ w.2) := by
  intro g T hk ht
  obtain ⟨g2, e2, ht2, hf2⟩ := h g T hk ht
  have hk2 := vk_fr hk hf2
  obtain ⟨g3, e3, ht3, hf3⟩ := h2 g2 _ hk2 ht2
  refine ⟨g3, ?_, by rw [List.append_assoc] at ht3; exact ht3, f95_tr hf2 hf3⟩
  show q_sem (d + 1) mX9_friendBody 0 _ [] (q_K o g) = _
  have e4 : q_sem d mX9_from 0 [.ref 94, .int 3, .int 3, .int (x), .int (nI (dep + 1)), .retAddr 0] [] (q_K o g) = some (some (.int v.1), q_K o g2) := e2
  have e5 : q_sem d mX9_own 0 [.ref 94, .int 2, .int (nI i), .int (nI dep)] [] (q_K o g2) = some (some (.int w.1), q_K o g3) := e3
  simp only [B_X9_friendBody_0, (by decide : ¬ (51 : Int32) = 40), (by decide : ¬ (51 : Int32) = 50), ↓reduceIte, nI_1, e4, Option.bind_some, Option.toList_some, Option.toList_none, List.cons_append, List.nil_append, B_X9_friendBody_51, B_X9_friendBody_75, B_X9_friendBody_86, B_X9_friendBody_108, B_X9_friendBody_130, B_X9_friendBody_61, B_X9_friendBody_96, B_X9_friendBody_118, hk2.2.1, e5]
theorem v_f60 {d : Nat} (h : q_vs o k i m (q_rf o d 4 1 (x) (dep + 1)) v) (h2 : q_vs o k i m (q_rf o d 4 0 (x) (dep + 1)) w) : q_vs o k i m (q_rfr o (d + 1) 60 x dep) (v.1 - w.1, v.2 ++ w.2) := by
  intro g T hk ht
  obtain ⟨g2, e2, ht2, hf2⟩ := h g T hk ht
  have hk2 := vk_fr hk hf2
  obtain ⟨g3, e3, ht3, hf3⟩ := h2 g2 _ hk2 ht2
  refine ⟨g3, ?_, by rw [List.append_assoc] at ht3; exact ht3, f95_tr hf2 hf3⟩
  show q_sem (d + 1) mX9_friendBody 0 _ [] (q_K o g) = _
  have e4 : q_sem d mX9_from 0 [.ref 94, .int 4, .int 1, .int (x), .int (nI (dep + 1)), .retAddr 0] [] (q_K o g) = some (some (.int v.1), q_K o g2) := e2
  have e5 : q_sem d mX9_from 0 [.ref 94, .int 4, .int 0, .int (x), .int (nI (dep + 1)), .retAddr 0] [] (q_K o g2) = some (some (.int w.1), q_K o g3) := e3
  simp only [B_X9_friendBody_0, (by decide : ¬ (60 : Int32) = 40), (by decide : ¬ (60 : Int32) = 50), (by decide : ¬ (60 : Int32) = 51), ↓reduceIte, nI_1, e4, Option.bind_some, Option.toList_some, Option.toList_none, List.cons_append, List.nil_append, B_X9_friendBody_51, B_X9_friendBody_75, B_X9_friendBody_86, B_X9_friendBody_108, B_X9_friendBody_130, B_X9_friendBody_61, B_X9_friendBody_96, B_X9_friendBody_118, hk2.2.1, e5]
theorem v_fr {d : Nat} (ho : q_oR o) (first act : Nat) (hf : first < 6) (ha : act < 4) (b : Int32) (hb : q_bdf act 24 (nI first) = b) (hb0 : b ≠ 0) (h40 : 40 ≤ b) (hdep : dep ≤ 40) (h : q_vs o k i m (q_rfr o (d + 2) b x dep) v) : q_vs o k i m (q_rf o (d + 3) first act x dep) (v.1, b :: v.2) := v_from ho hf ha hb hb0 hdep (by rw [if_pos h40]; exact h)
theorem v_en {d : Nat} (ho : q_oR o) (first act : Nat) (hf : first < 6) (ha : act < 4) (b : Int32) (hb : q_bdf act 24 (nI first) = b) (hb0 : b ≠ 0) (h40 : ¬ 40 ≤ b) (hdep : dep ≤ 40) (h : q_vs o k i m (q_re o (d + 2) b x dep) v) : q_vs o k i m (q_rf o (d + 3) first act x dep) (v.1, b :: v.2) := v_from ho hf ha hb hb0 hdep (by rw [if_neg h40]; exact h)
theorem v_go0 {d : Nat} (ho : q_oR o) (hdep : dep ≤ 40) : q_vs o k i m (q_rf o (d + 3) 0 0 x dep) (v_PG i x) := v_en ho 0 0 (by decide) (by decide) 10 (by decide +kernel) (by decide) (by decide) hdep v_e10
theorem v_go1 {d : Nat} (ho : q_oR o) (hdep : dep ≤ 40) : q_vs o k i m (q_rf o (d + 3) 1 0 x dep) (v_PG i x) := v_en ho 1 0 (by decide) (by decide) 10 (by decide +kernel) (by decide) (by decide) hdep v_e10
theorem v_go3 {d : Nat} (ho : q_oR o) (hdep : dep ≤ 40) : q_vs o k i m (q_rf o (d + 3) 3 0 x dep) (v_PG i x) := v_en ho 3 0 (by decide) (by decide) 10 (by decide +kernel) (by decide) (by decide) hdep v_e10
theorem v_go4 {d : Nat} (ho : q_oR o) (hdep : dep + 1 ≤ 40) : q_vs o k i m (q_rf o (d + 5) 4 0 x dep) (v_FG i x) := v_fr ho 4 0 (by decide) (by decide) 50 (by decide +kernel) (by decide) (by decide) (by omega) (v_f50 (v_go3 ho hdep))
theorem v_go5 {d : Nat} (ho : q_oR o) (hdep : dep + 1 ≤ 40) : q_vs o k i m (q_rf o (d + 5) 5 0 x dep) (v_FG i x) := v_fr ho 5 0 (by decide) (by decide) 50 (by decide +kernel) (by decide) (by decide) (by omega) (v_f50 (v_go3 ho hdep))
theorem v_go2 {d : Nat} (ho : q_oR o) (hdep : dep + 1 ≤ 40) : q_vs o k i m (q_rf o (d + 5) 2 0 x dep) ((v_PG i x).1 * m, 30 :: (v_PG i x).2) := v_en ho 2 0 (by decide) (by decide) 30 (by decide +kernel) (by decide) (by decide) (by omega) (v_e30 (v_go1 ho hdep))
theorem v_ownGo {d : Nat} (ho : q_oR o) (hk : k < 6) (hdep : dep + 2 ≤ 40) : q_vs o k i m (q_ro o (d + 6) 0 x dep) (v_Go k i m x) := by
  refine v_own (by omega) ?_
  unfold v_Go
  rcases k with _ | _ | _ | _ | _ | _ | k
  · exact v_go0 ho (by omega)
  · exact v_go1 ho (by omega)
  · exact v_go2 ho (by omega)
  · exact v_go3 ho (by omega)
  · exact v_go4 ho (by omega)
  · exact v_go5 ho (by omega)
  · omega
theorem v_jo0 {d : Nat} (ho : q_oR o) (hk : k < 6) (hdep : dep + 2 ≤ 40) : q_vs o k i m (q_rf o (d + 8) 0 1 x dep) (v_PJ k i m x) := v_en ho 0 1 (by decide) (by decide) 11 (by decide +kernel) (by decide) (by decide) (by omega) (v_e11 (v_ownGo ho hk hdep))
theorem v_jo3 {d : Nat} (ho : q_oR o) (hk : k < 6) (hdep : dep + 2 ≤ 40) : q_vs o k i m (q_rf o (d + 8) 3 1 x dep) (v_PJ k i m x) := v_en ho 3 1 (by decide) (by decide) 11 (by decide +kernel) (by decide) (by decide) (by omega) (v_e11 (v_ownGo ho hk hdep))
theorem v_jo4 {d : Nat} (ho : q_oR o) (hk : k < 6) (hdep : dep + 2 ≤ 40) : q_vs o k i m (q_rf o (d + 8) 4 1 x dep) (v_PJ k i m x) := v_en ho 4 1 (by decide) (by decide) 11 (by decide +kernel) (by decide) (by decide) (by omega) (v_e11 (v_ownGo ho hk hdep))
theorem v_jo1 {d : Nat} (ho : q_oR o) (hk : k < 6) (hdep : dep + 3 ≤ 40) : q_vs o k i m (q_rf o (d + 10) 1 1 x dep) ((v_PJ k i m x).1 + m, 20 :: (v_PJ k i m x).2) := v_en ho 1 1 (by decide) (by decide) 20 (by decide +kernel) (by decide) (by decide) (by omega) (v_e20 (v_jo0 ho hk (by omega)))
theorem v_jo2 {d : Nat} (ho : q_oR o) (hk : k < 6) (hdep : dep + 3 ≤ 40) : q_vs o k i m (q_rf o (d + 10) 2 1 x dep) ((v_PJ k i m x).1 + m, 20 :: (v_PJ k i m x).2) := v_en ho 2 1 (by decide) (by decide) 20 (by decide +kernel) (by decide) (by decide) (by omega) (v_e20 (v_jo0 ho hk (by omega)))
theorem v_jo5 {d : Nat} (ho : q_oR o) (hk : k < 6) (hdep : dep + 3 ≤ 40) : q_vs o k i m (q_rf o (d + 10) 5 1 x dep) ((v_PJ k i m x).1 - (v_FG i x).1, 60 :: ((v_PJ k i m x).2 ++ (v_FG i x).2)) := v_fr ho 5 1 (by decide) (by decide) 60 (by decide +kernel) (by decide) (by decide) (by omega) (v_f60 (v_jo4 ho hk (by omega)) (v_go4 ho (by omega)))
theorem v_ownJo {d : Nat} (ho : q_oR o) (hk : k < 6) (hdep : dep + 4 ≤ 40) : q_vs o k i m (q_ro o (d + 11) 1 x dep) (v_Jo k i m x) := by
  refine v_own (by omega) ?_
  unfold v_Jo
  rcases k with _ | _ | _ | _ | _ | _ | k
  · exact v_jo0 ho hk (by omega)
  · exact v_jo1 ho hk (by omega)
  · exact v_jo2 ho hk (by omega)
  · exact v_jo3 ho hk (by omega)
  · exact v_jo4 ho hk (by omega)
  · exact v_jo5 ho hk (by omega)
  · omega
theorem v_bu0 {d : Nat} (ho : q_oR o) (hk : k < 6) (hdep : dep + 4 ≤ 40) : q_vs o k i m (q_rf o (d + 13) 0 2 x dep) (v_PB k i m x) := v_en ho 0 2 (by decide) (by decide) 12 (by decide +kernel) (by decide) (by decide) (by omega) (v_e12 (v_ownJo ho hk hdep))
theorem v_bu1 {d : Nat} (ho : q_oR o) (hk : k < 6) (hdep : dep + 4 ≤ 40) : q_vs o k i m (q_rf o (d + 13) 1 2 x dep) (v_PB k i m x) := v_en ho 1 2 (by decide) (by decide) 12 (by decide +kernel) (by decide) (by decide) (by omega) (v_e12 (v_ownJo ho hk hdep))
theorem v_bu2 {d : Nat} (ho : q_oR o) (hk : k < 6) (hdep : dep + 5 ≤ 40) : q_vs o k i m (q_rf o (d + 15) 2 2 x dep) ((v_PB k i m (x + 1)).1, 31 :: (v_PB k i m (x + 1)).2) := v_en ho 2 2 (by decide) (by decide) 31 (by decide +kernel) (by decide) (by decide) (by omega) (v_e31 (v_bu1 ho hk (by omega)))
theorem v_bu3 {d : Nat} (ho : q_oR o) (hk : k < 6) (hdep : dep + 5 ≤ 40) : q_vs o k i m (q_rf o (d + 15) 3 2 x dep) (v_FB k i m x) := v_fr ho 3 2 (by decide) (by decide) 40 (by decide +kernel) (by decide) (by decide) (by omega) (v_f40 (v_ownGo ho hk (by omega)) (v_bu0 ho hk (by omega)))
theorem v_bu4 {d : Nat} (ho : q_oR o) (hk : k < 6) (hdep : dep + 5 ≤ 40) : q_vs o k i m (q_rf o (d + 15) 4 2 x dep) (v_FB k i m x) := v_fr ho 4 2 (by decide) (by decide) 40 (by decide +kernel) (by decide) (by decide) (by omega) (v_f40 (v_ownGo ho hk (by omega)) (v_bu0 ho hk (by omega)))
theorem v_bu5 {d : Nat} (ho : q_oR o) (hk : k < 6) (hdep : dep + 6 ≤ 40) : q_vs o k i m (q_rf o (d + 17) 5 2 x dep) ((v_FB k i m x).1 * 3, 61 :: (v_FB k i m x).2) := v_fr ho 5 2 (by decide) (by decide) 61 (by decide +kernel) (by decide) (by decide) (by omega) (v_f61 (v_bu4 ho hk (by omega)))
theorem v_ownBu {d : Nat} (ho : q_oR o) (hk : k < 6) (hdep : dep + 7 ≤ 40) : q_vs o k i m (q_ro o (d + 18) 2 x dep) (v_Bu k i m x) := by
  refine v_own (by omega) ?_
  unfold v_Bu
  rcases k with _ | _ | _ | _ | _ | _ | k
  · exact v_bu0 ho hk (by omega)
  · exact v_bu1 ho hk (by omega)
  · exact v_bu2 ho hk (by omega)
  · exact v_bu3 ho hk (by omega)
  · exact v_bu4 ho hk (by omega)
  · exact v_bu5 ho hk (by omega)
  · omega
theorem v_te0 {d : Nat} (ho : q_oR o) (hk : k < 6) (hdep : dep + 7 ≤ 40) : q_vs o k i m (q_rf o (d + 20) 0 3 x dep) (v_PT k i m x) := v_en ho 0 3 (by decide) (by decide) 13 (by decide +kernel) (by decide) (by decide) (by omega) (v_e13 (v_ownBu ho hk hdep) (v_ownGo ho hk (by omega)))
theorem v_te3 {d : Nat} (ho : q_oR o) (hk : k < 6) (hdep : dep + 7 ≤ 40) : q_vs o k i m (q_rf o (d + 20) 3 3 x dep) (v_PT k i m x) := v_en ho 3 3 (by decide) (by decide) 13 (by decide +kernel) (by decide) (by decide) (by omega) (v_e13 (v_ownBu ho hk hdep) (v_ownGo ho hk (by omega)))
theorem v_te1 {d : Nat} (ho : q_oR o) (hk : k < 6) (hdep : dep + 8 ≤ 40) : q_vs o k i m (q_rf o (d + 22) 1 3 x dep) (0 - (v_PT k i m x).1, 21 :: (v_PT k i m x).2) := v_en ho 1 3 (by decide) (by decide) 21 (by decide +kernel) (by decide) (by decide) (by omega) (v_e21 (v_te0 ho hk (by omega)))
theorem v_te2 {d : Nat} (ho : q_oR o) (hk : k < 6) (hdep : dep + 8 ≤ 40) : q_vs o k i m (q_rf o (d + 22) 2 3 x dep) (0 - (v_PT k i m x).1, 21 :: (v_PT k i m x).2) := v_en ho 2 3 (by decide) (by decide) 21 (by decide +kernel) (by decide) (by decide) (by omega) (v_e21 (v_te0 ho hk (by omega)))
theorem v_te4 {d : Nat} (ho : q_oR o) (hk : k < 6) (hdep : dep + 8 ≤ 40) : q_vs o k i m (q_rf o (d + 22) 4 3 x dep) ((v_PT k i m x).1 + (v_Bu k i m (nI i)).1, 51 :: ((v_PT k i m x).2 ++ (v_Bu k i m (nI i)).2)) := v_fr ho 4 3 (by decide) (by decide) 51 (by decide +kernel) (by decide) (by decide) (by omega) (v_f51 (v_te3 ho hk (by omega)) (v_ownBu ho hk (by omega)))
theorem v_te5 {d : Nat} (ho : q_oR o) (hk : k < 6) (hdep : dep + 8 ≤ 40) : q_vs o k i m (q_rf o (d + 22) 5 3 x dep) ((v_PT k i m x).1 + (v_Bu k i m (nI i)).1, 51 :: ((v_PT k i m x).2 ++ (v_Bu k i m (nI i)).2)) := v_fr ho 5 3 (by decide) (by decide) 51 (by decide +kernel) (by decide) (by decide) (by omega) (v_f51 (v_te3 ho hk (by omega)) (v_ownBu ho hk (by omega)))
theorem v_ownTe {d : Nat} (ho : q_oR o) (hk : k < 6) (hdep : dep + 9 ≤ 40) : q_vs o k i m (q_ro o (d + 23) 3 x dep) (v_Te k i m x) := by
  refine v_own (by omega) ?_
  unfold v_Te
  rcases k with _ | _ | _ | _ | _ | _ | k
  · exact v_te0 ho hk (by omega)
  · exact v_te1 ho hk (by omega)
  · exact v_te2 ho hk (by omega)
  · exact v_te3 ho hk (by omega)
  · exact v_te4 ho hk (by omega)
  · exact v_te5 ho hk (by omega)
  · omega
theorem w_ran {g : Nat → Nat → Int32} {T : List Int32} (hk : q_mk g k i m) (ht : q_tm g T) (b : Int32) (d : Nat) : ∃ g2, q_sem d mX12_ran 0 [.ref 98, .int b] [] (q_K o g) = some (none, q_K o g2) ∧ q_tm g2 (T ++ [b]) ∧ q_mk g2 k i m ∧ q_f149 g g2 := by
  obtain ⟨g2, e2, ht2, hf2⟩ := m_ran (o := o) ht b d
  exact ⟨g2, e2, ht2, mk_fr hk hf2, hf2⟩
theorem w_PG {d : Nat} : q_vm o k i m (fun g => q_sem (d + 1) mX12_plainGo 0 [.ref 98, .int x] [] (q_K o g)) (v_PG i x) := by
  intro g T hk ht
  obtain ⟨g1, e1, ht1, hk1, hf1⟩ := w_ran (o := o) hk ht 10 d
  refine ⟨g1, ?_, ht1, hf1⟩
  simp only [B_X12_plainGo_0, B_X12_plainGo_6, e1, Option.bind_some, Option.toList_some, Option.toList_none, List.cons_append, List.nil_append, hk1.1, v_PG]
theorem w_FG {d : Nat} : q_vm o k i m (fun g => q_sem (d + 2) mX12_flightGo 0 [.ref 98, .int x] [] (q_K o g)) (v_FG i x) := by
  intro g T hk ht
  obtain ⟨g1, e1, ht1, hk1, hf1⟩ := w_ran (o := o) hk ht 50 (d + 1)
  obtain ⟨g2, e2, ht2, hf2⟩ := w_PG (o := o) (x := x - 1) (d := d) g1 _ hk1 ht1
  refine ⟨g2, ?_, by rw [List.append_assoc] at ht2; exact ht2, f149_tr hf1 hf2⟩
  dsimp only at e2
  simp only [B_X12_flightGo_0, B_X12_flightGo_6, B_X12_flightGo_13, e1, Option.bind_some, Option.toList_some, Option.toList_none, List.cons_append, List.nil_append, e2, v_FG]
theorem w_Go {d : Nat} (hi : i < 16) (hk6 : k < 6) : q_vm o k i m (fun g => q_sem (d + 3) mX12_go 0 [.ref 98, .int x] [] (q_K o g)) (v_Go k i m x) := by
  intro g T hk ht
  have r16 := fun (f : Nat → Option (Option Value × q_H)) => q_rgN (k := f) hi (show 16 < 2 ^ 31 by decide)
  unfold v_Go
  by_cases h2 : k = 2
  · subst h2
    obtain ⟨g1, e1, ht1, hk1, hf1⟩ := w_ran (o := o) hk ht 30 (d + 2)
    obtain ⟨g2, e2, ht2, hf2⟩ := w_PG (o := o) (x := x) (d := d + 1) g1 _ hk1 ht1
    have hk2 := mk_fr hk1 hf2
    rw [if_pos rfl]
    refine ⟨g2, ?_, by rw [List.append_assoc] at ht2; exact ht2, f149_tr hf1 hf2⟩
    dsimp only at e2
    simp only [B_X12_go_0, B_X12_go_19, B_X12_go_61, B_X12_go_53, B_X12_go_24, hk.1, r16, hk.2.1, (by decide : nI 2 = 2), ↓reduceIte, e1, Option.bind_some, Option.toList_some, Option.toList_none, List.cons_append, List.nil_append, e2, hk2.1, hk2.2.2]
  · have n2 : ¬ nI k = 2 := fun z => h2 ((nI_eq (by omega) (by decide)).mp z)
    rw [if_neg h2]
    by_cases h3 : 3 < k
    · have n3 : ¬ nI k ≤ 3 := (by decide : (3 : Int32) = nI 3) ▸ nI_ge h3 (by omega)
      obtain ⟨g2, e2, ht2, hf2⟩ := w_FG (o := o) (x := x) (d := d) g _ hk ht
      rw [if_pos h3]
      refine ⟨g2, ?_, ht2, hf2⟩
      dsimp only at e2
      simp only [B_X12_go_0, B_X12_go_19, B_X12_go_61, B_X12_go_53, B_X12_go_24, hk.1, r16, hk.2.1, n2, n3, ↓reduceIte, e2, Option.bind_some, Option.toList_some, Option.toList_none, List.cons_append, List.nil_append]
    · have n3 : nI k ≤ 3 := (by decide : (3 : Int32) = nI 3) ▸ nI_le (by omega) (by decide)
      obtain ⟨g2, e2, ht2, hf2⟩ := w_PG (o := o) (x := x) (d := d + 1) g _ hk ht
      rw [if_neg h3]
      refine ⟨g2, ?_, ht2, hf2⟩
      dsimp only at e2
      simp only [B_X12_go_0, B_X12_go_19, B_X12_go_61, B_X12_go_53, B_X12_go_24, hk.1, r16, hk.2.1, n2, n3, ↓reduceIte, e2, Option.bind_some, Option.toList_some, Option.toList_none, List.cons_append, List.nil_append]
theorem w_PJ {d : Nat} (hi : i < 16) (hk6 : k < 6) : q_vm o k i m (fun g => q_sem (d + 4) mX12_plainJoin 0 [.ref 98, .int x] [] (q_K o g)) (v_PJ k i m x) := by
  intro g T hk ht
  obtain ⟨g1, e1, ht1, hk1, hf1⟩ := w_ran (o := o) hk ht 11 (d + 3)
  obtain ⟨g2, e2, ht2, hf2⟩ := w_Go (o := o) (x := x) (d := d) hi hk6 g1 _ hk1 ht1
  refine ⟨g2, ?_, by rw [List.append_assoc] at ht2; exact ht2, f149_tr hf1 hf2⟩
  dsimp only at e2
  simp only [B_X12_plainJoin_0, B_X12_plainJoin_6, B_X12_plainJoin_11, e1, Option.bind_some, Option.toList_some, Option.toList_none, List.cons_append, List.nil_append, e2, v_PJ]
theorem w_Jo {d : Nat} (hi : i < 16) (hk6 : k < 6) : q_vm o k i m (fun g => q_sem (d + 5) mX12_join 0 [.ref 98, .int x, .retAddr 0] [] (q_K o g)) (v_Jo k i m x) := by
  intro g T hk ht
  have r16 := fun (f : Nat → Option (Option Value × q_H)) => q_rgN (k := f) hi (show 16 < 2 ^ 31 by decide)
  unfold v_Jo
  by_cases h12 : k = 1 ∨ k = 2
  · obtain ⟨g1, e1, ht1, hk1, hf1⟩ := w_ran (o := o) hk ht 20 (d + 4)
    obtain ⟨g2, e2, ht2, hf2⟩ := w_PJ (o := o) (x := x) (d := d) hi hk6 g1 _ hk1 ht1
    have hk2 := mk_fr hk1 hf2
    rw [if_pos h12]
    refine ⟨g2, ?_, by rw [List.append_assoc] at ht2; exact ht2, f149_tr hf1 hf2⟩
    dsimp only at e2
    rcases h12 with rfl | rfl
    · simp only [B_X12_join_0, B_X12_join_32, B_X12_join_67, B_X12_join_86, B_X12_join_37, B_X12_join_72, B_X12_join_79, hk.1, r16, hk.2.1, (by decide : nI 1 = 1), ↓reduceIte, e1, Option.bind_some, Option.toList_some, Option.toList_none, List.cons_append, List.nil_append, e2, hk2.1, hk2.2.2]
    · simp only [B_X12_join_0, B_X12_join_32, B_X12_join_67, B_X12_join_86, B_X12_join_37, B_X12_join_72, B_X12_join_79, hk.1, r16, hk.2.1, (by decide : nI 2 = 2), (by decide : ¬ (2 : Int32) = 1), ↓reduceIte, e1, Option.bind_some, Option.toList_some, Option.toList_none, List.cons_append, List.nil_append, e2, hk2.1, hk2.2.2]
  · have n1 : ¬ nI k = 1 := fun z => h12 (Or.inl ((nI_eq (by omega) (by decide)).mp z))
    have n2 : ¬ nI k = 2 := fun z => h12 (Or.inr ((nI_eq (by omega) (by decide)).mp z))
    rw [if_neg h12]
    by_cases h5 : k = 5
    · subst h5
      obtain ⟨g1, e1, ht1, hk1, hf1⟩ := w_ran (o := o) hk ht 60 (d + 4)
      obtain ⟨g2, e2, ht2, hf2⟩ := w_PJ (o := o) (x := x) (d := d) hi hk6 g1 _ hk1 ht1
      have hk2 := mk_fr hk1 hf2
      obtain ⟨g3, e3, ht3, hf3⟩ := w_FG (o := o) (x := x) (d := d + 2) g2 _ hk2 ht2
      rw [if_pos rfl]
      refine ⟨g3, ?_, by rw [List.append_assoc, List.append_assoc] at ht3; exact ht3, f149_tr hf1 (f149_tr hf2 hf3)⟩
      dsimp only at e2 e3
      simp only [B_X12_join_0, B_X12_join_32, B_X12_join_67, B_X12_join_86, B_X12_join_37, B_X12_join_72, B_X12_join_79, hk.1, r16, hk.2.1, (by decide : nI 5 = 5), (by decide : ¬ (5 : Int32) = 1), (by decide : ¬ (5 : Int32) = 2), ↓reduceIte, e1, Option.bind_some, Option.toList_some, Option.toList_none, List.cons_append, List.nil_append, e2, e3]
    · have n5 : ¬ nI k = 5 := fun z => h5 ((nI_eq (by omega) (by decide)).mp z)
      obtain ⟨g2, e2, ht2, hf2⟩ := w_PJ (o := o) (x := x) (d := d) hi hk6 g _ hk ht
      rw [if_neg h5]
      refine ⟨g2, ?_, ht2, hf2⟩
      dsimp only at e2
      simp only [B_X12_join_0, B_X12_join_32, B_X12_join_67, B_X12_join_86, B_X12_join_37, B_X12_join_72, B_X12_join_79, hk.1, r16, hk.2.1, n1, n2, n5, ↓reduceIte, Option.bind_some, Option.toList_some, Option.toList_none, List.cons_append, List.nil_append, e2]
theorem w_PB {d : Nat} (hi : i < 16) (hk6 : k < 6) : q_vm o k i m (fun g => q_sem (d + 6) mX12_plainBurn 0 [.ref 98, .int x] [] (q_K o g)) (v_PB k i m x) := by
  intro g T hk ht
  have r16 := fun (f : Nat → Option (Option Value × q_H)) => q_rgN (k := f) hi (show 16 < 2 ^ 31 by decide)
  obtain ⟨g1, e1, ht1, hk1, hf1⟩ := w_ran (o := o) hk ht 12 (d + 5)
  obtain ⟨g2, e2, ht2, hf2⟩ := w_Jo (o := o) (x := x) (d := d) hi hk6 g1 _ hk1 ht1
  have hk2 := mk_fr hk1 hf2
  refine ⟨g2, ?_, by rw [List.append_assoc] at ht2; exact ht2, f149_tr hf1 hf2⟩
  dsimp only at e2
  simp only [B_X12_plainBurn_0, B_X12_plainBurn_6, B_X12_plainBurn_11, e1, Option.bind_some, Option.toList_some, Option.toList_none, List.cons_append, List.nil_append, e2, hk2.1, r16, hk2.2.2, v_PB]
theorem w_FB {d : Nat} (hi : i < 16) (hk6 : k < 6) : q_vm o k i m (fun g => q_sem (d + 7) mX12_friendBurn 0 [.ref 98, .int x, .retAddr 0] [] (q_K o g)) (v_FB k i m x) := by
  intro g T hk ht
  obtain ⟨g1, e1, ht1, hk1, hf1⟩ := w_ran (o := o) hk ht 40 (d + 6)
  obtain ⟨g2, e2, ht2, hf2⟩ := w_Go (o := o) (x := x) (d := d + 3) hi hk6 g1 _ hk1 ht1
  have hk2 := mk_fr hk1 hf2
  obtain ⟨g3, e3, ht3, hf3⟩ := w_PB (o := o) (x := x) (d := d) hi hk6 g2 _ hk2 ht2
  refine ⟨g3, ?_, by rw [List.append_assoc, List.append_assoc] at ht3; exact ht3, f149_tr hf1 (f149_tr hf2 hf3)⟩
  dsimp only at e2 e3
  simp only [B_X12_friendBurn_0, B_X12_friendBurn_6, B_X12_friendBurn_11, B_X12_friendBurn_18, e1, Option.bind_some, Option.toList_some, Option.toList_none, List.cons_append, List.nil_append, e2, e3, v_FB]
theorem w_Bu {d : Nat} (hi : i < 16) (hk6 : k < 6) : q_vm o k i m (fun g => q_sem (d + 8) mX12_burn 0 [.ref 98, .int x] [] (q_K o g)) (v_Bu k i m x) := by
  intro g T hk ht
  have r16 := fun (f : Nat → Option (Option Value × q_H)) => q_rgN (k := f) hi (show 16 < 2 ^ 31 by decide)
  unfold v_Bu
  by_cases h2 : k = 2
  · subst h2
    obtain ⟨g1, e1, ht1, hk1, hf1⟩ := w_ran (o := o) hk ht 31 (d + 7)
    obtain ⟨g2, e2, ht2, hf2⟩ := w_PB (o := o) (x := x + 1) (d := d + 1) hi hk6 g1 _ hk1 ht1
    rw [if_pos rfl]
    refine ⟨g2, ?_, by rw [List.append_assoc] at ht2; exact ht2, f149_tr hf1 hf2⟩
    dsimp only at e2
    simp only [B_X12_burn_0, B_X12_burn_19, B_X12_burn_46, B_X12_burn_80, B_X12_burn_72, B_X12_burn_26, B_X12_burn_51, hk.1, r16, hk.2.1, (by decide : nI 2 = 2), ↓reduceIte, e1, Option.bind_some, Option.toList_some, Option.toList_none, List.cons_append, List.nil_append, e2]
  · have n2 : ¬ nI k = 2 := fun z => h2 ((nI_eq (by omega) (by decide)).mp z)
    rw [if_neg h2]
    by_cases h5 : k = 5
    · subst h5
      obtain ⟨g1, e1, ht1, hk1, hf1⟩ := w_ran (o := o) hk ht 61 (d + 7)
      obtain ⟨g2, e2, ht2, hf2⟩ := w_FB (o := o) (x := x) (d := d) hi hk6 g1 _ hk1 ht1
      rw [if_pos rfl]
      refine ⟨g2, ?_, by rw [List.append_assoc] at ht2; exact ht2, f149_tr hf1 hf2⟩
      dsimp only at e2
      simp only [B_X12_burn_0, B_X12_burn_19, B_X12_burn_46, B_X12_burn_80, B_X12_burn_72, B_X12_burn_26, B_X12_burn_51, hk.1, r16, hk.2.1, (by decide : nI 5 = 5), (by decide : ¬ (5 : Int32) = 2), ↓reduceIte, e1, Option.bind_some, Option.toList_some, Option.toList_none, List.cons_append, List.nil_append, e2]
    · have n5 : ¬ nI k = 5 := fun z => h5 ((nI_eq (by omega) (by decide)).mp z)
      rw [if_neg h5]
      by_cases h3 : 2 < k
      · have n3 : ¬ nI k ≤ 2 := (by decide : (2 : Int32) = nI 2) ▸ nI_ge h3 (by omega)
        obtain ⟨g2, e2, ht2, hf2⟩ := w_FB (o := o) (x := x) (d := d) hi hk6 g _ hk ht
        rw [if_pos h3]
        refine ⟨g2, ?_, ht2, hf2⟩
        dsimp only at e2
        simp only [B_X12_burn_0, B_X12_burn_19, B_X12_burn_46, B_X12_burn_80, B_X12_burn_72, B_X12_burn_26, B_X12_burn_51, hk.1, r16, hk.2.1, n2, n5, n3, ↓reduceIte, e2, Option.bind_some, Option.toList_some, Option.toList_none, List.cons_append, List.nil_append]
      · have n3 : nI k ≤ 2 := (by decide : (2 : Int32) = nI 2) ▸ nI_le (by omega) (by decide)
        obtain ⟨g2, e2, ht2, hf2⟩ := w_PB (o := o) (x := x) (d := d + 1) hi hk6 g _ hk ht
        rw [if_neg h3]
        refine ⟨g2, ?_, ht2, hf2⟩
        dsimp only at e2
        simp only [B_X12_burn_0, B_X12_burn_19, B_X12_burn_46, B_X12_burn_80, B_X12_burn_72, B_X12_burn_26, B_X12_burn_51, hk.1, r16, hk.2.1, n2, n5, n3, ↓reduceIte, e2, Option.bind_some, Option.toList_some, Option.toList_none, List.cons_append, List.nil_append]
theorem w_PT {d : Nat} (hi : i < 16) (hk6 : k < 6) : q_vm o k i m (fun g => q_sem (d + 9) mX12_plainTell 0 [.ref 98, .int x, .retAddr 0] [] (q_K o g)) (v_PT k i m x) := by
  intro g T hk ht
  obtain ⟨g1, e1, ht1, hk1, hf1⟩ := w_ran (o := o) hk ht 13 (d + 8)
  obtain ⟨g2, e2, ht2, hf2⟩ := w_Bu (o := o) (x := x) (d := d) hi hk6 g1 _ hk1 ht1
  have hk2 := mk_fr hk1 hf2
  obtain ⟨g3, e3, ht3, hf3⟩ := w_Go (o := o) (x := 1) (d := d + 5) hi hk6 g2 _ hk2 ht2
  refine ⟨g3, ?_, by rw [List.append_assoc, List.append_assoc] at ht3; exact ht3, f149_tr hf1 (f149_tr hf2 hf3)⟩
  dsimp only at e2 e3
  simp only [B_X12_plainTell_0, B_X12_plainTell_6, B_X12_plainTell_11, B_X12_plainTell_18, e1, Option.bind_some, Option.toList_some, Option.toList_none, List.cons_append, List.nil_append, e2, e3, v_PT]
theorem w_Te {d : Nat} (hi : i < 16) (hk6 : k < 6) : q_vm o k i m (fun g => q_sem (d + 10) mX12_tells 0 [.ref 98, .int x, .retAddr 0] [] (q_K o g)) (v_Te k i m x) := by
  intro g T hk ht
  have r16 := fun (f : Nat → Option (Option Value × q_H)) => q_rgN (k := f) hi (show 16 < 2 ^ 31 by decide)
  unfold v_Te
  by_cases h12 : k = 1 ∨ k = 2
  · obtain ⟨g1, e1, ht1, hk1, hf1⟩ := w_ran (o := o) hk ht 21 (d + 9)
    obtain ⟨g2, e2, ht2, hf2⟩ := w_PT (o := o) (x := x) (d := d) hi hk6 g1 _ hk1 ht1
    rw [if_pos h12]
    refine ⟨g2, ?_, by rw [List.append_assoc] at ht2; exact ht2, f149_tr hf1 hf2⟩
    dsimp only at e2
    rcases h12 with rfl | rfl
    · simp only [B_X12_tells_0, B_X12_tells_32, B_X12_tells_81, B_X12_tells_59, B_X12_tells_38, B_X12_tells_64, B_X12_tells_74, hk.1, r16, hk.2.1, (by decide : nI 1 = 1), ↓reduceIte, e1, Option.bind_some, Option.toList_some, Option.toList_none, List.cons_append, List.nil_append, e2]
    · simp only [B_X12_tells_0, B_X12_tells_32, B_X12_tells_81, B_X12_tells_59, B_X12_tells_38, B_X12_tells_64, B_X12_tells_74, hk.1, r16, hk.2.1, (by decide : nI 2 = 2), (by decide : ¬ (2 : Int32) = 1), ↓reduceIte, e1, Option.bind_some, Option.toList_some, Option.toList_none, List.cons_append, List.nil_append, e2]
  · have n1 : ¬ nI k = 1 := fun z => h12 (Or.inl ((nI_eq (by omega) (by decide)).mp z))
    have n2 : ¬ nI k = 2 := fun z => h12 (Or.inr ((nI_eq (by omega) (by decide)).mp z))
    rw [if_neg h12]
    by_cases h3 : 3 < k
    · have n3 : ¬ nI k ≤ 3 := (by decide : (3 : Int32) = nI 3) ▸ nI_ge h3 (by omega)
      obtain ⟨g1, e1, ht1, hk1, hf1⟩ := w_ran (o := o) hk ht 51 (d + 9)
      obtain ⟨g2, e2, ht2, hf2⟩ := w_PT (o := o) (x := x) (d := d) hi hk6 g1 _ hk1 ht1
      have hk2 := mk_fr hk1 hf2
      obtain ⟨g3, e3, ht3, hf3⟩ := w_Bu (o := o) (x := nI i) (d := d + 1) hi hk6 g2 _ hk2 ht2
      rw [if_pos h3]
      refine ⟨g3, ?_, by rw [List.append_assoc, List.append_assoc] at ht3; exact ht3, f149_tr hf1 (f149_tr hf2 hf3)⟩
      dsimp only at e2 e3
      simp only [B_X12_tells_0, B_X12_tells_32, B_X12_tells_81, B_X12_tells_59, B_X12_tells_38, B_X12_tells_64, B_X12_tells_74, hk.1, r16, hk.2.1, n1, n2, n3, ↓reduceIte, e1, Option.bind_some, Option.toList_some, Option.toList_none, List.cons_append, List.nil_append, e2, hk2.1, e3]
    · have n3 : nI k ≤ 3 := (by decide : (3 : Int32) = nI 3) ▸ nI_le (by omega) (by decide)
      obtain ⟨g2, e2, ht2, hf2⟩ := w_PT (o := o) (x := x) (d := d) hi hk6 g _ hk ht
      rw [if_neg h3]
      refine ⟨g2, ?_, ht2, hf2⟩
      dsimp only at e2
      simp only [B_X12_tells_0, B_X12_tells_32, B_X12_tells_81, B_X12_tells_59, B_X12_tells_38, B_X12_tells_64, B_X12_tells_74, hk.1, r16, hk.2.1, n1, n2, n3, ↓reduceIte, e2, Option.bind_some, Option.toList_some, Option.toList_none, List.cons_append, List.nil_append]
end VCL
theorem law_voice {o : q_H} {n : Nat} {g : Nat → Nat → Int32} (hR : q_R n g) (ho : q_oR o) (d : Nat) (x1 : Int32) (x2 : Int32) (x3 : Int32) : ∃ v g1 g2, q_sem (d + 30) mX11_voice 0 [.ref 0, .int x1, .int x2, .int x3] [] (q_K o g) = some (some (.int v), q_K o g1) ∧ q_sem (d + 30) mX12_voice 0 [.ref 98, .int x1, .int x2, .int x3] [] (q_K o g1) = some (some (.int v), q_K o g2) ∧ q_R n g2 := by
  obtain ⟨⟨S, N, hr, hm, hk⟩, ha⟩ := id hR
  have hN := n_cnt_fl hr
  cases c1 : q_hs x1 (N 5)
  · exact ⟨-1000001, q_fb g 1, q_fm (q_fb g 1) 1, by simp only [B_X11_voice_0, B_X11_voice_11, B_X11_voice_28, B_X11_voice_20, B_X11_voice_45, B_X11_voice_58, B_X11_voice_61, B_X11_voice_70, z_within, z_isCell, z_fin1, z_fin2, z_fin3, z_fin4, z_fin5, Option.bind_some, Option.toList_some, Option.toList_none, List.cons_append, List.nil_append, bI_t, bI_f, i10, i00, i11, i01, ↓reduceIte, Bool.false_eq_true, z_has_fl hr, c1], (by have hm := repM_fb (k := 1) hm; simp only [B_X12_voice_0, B_X12_voice_6, B_X12_voice_24, B_X12_voice_15, B_X12_voice_44, B_X12_voice_57, B_X12_voice_70, B_X12_voice_78, y_in, y_isCell, y_fin1, y_fin2, y_fin3, y_fin4, y_fin5, Option.bind_some, Option.toList_some, Option.toList_none, List.cons_append, List.nil_append, bI_t, bI_f, i10, i00, i11, i01, ↓reduceIte, Bool.false_eq_true, y_isOf5 hm, c1]), R_fin hR (by decide)⟩
  cases c2 : q_in x2 0 3
  · exact ⟨-1000001, q_fb g 1, q_fm (q_fb g 1) 1, by simp only [B_X11_voice_0, B_X11_voice_11, B_X11_voice_28, B_X11_voice_20, B_X11_voice_45, B_X11_voice_58, B_X11_voice_61, B_X11_voice_70, z_within, z_isCell, z_fin1, z_fin2, z_fin3, z_fin4, z_fin5, Option.bind_some, Option.toList_some, Option.toList_none, List.cons_append, List.nil_append, bI_t, bI_f, i10, i00, i11, i01, ↓reduceIte, Bool.false_eq_true, z_has_fl hr, c1, c2], (by have hm := repM_fb (k := 1) hm; simp only [B_X12_voice_0, B_X12_voice_6, B_X12_voice_24, B_X12_voice_15, B_X12_voice_44, B_X12_voice_57, B_X12_voice_70, B_X12_voice_78, y_in, y_isCell, y_fin1, y_fin2, y_fin3, y_fin4, y_fin5, Option.bind_some, Option.toList_some, Option.toList_none, List.cons_append, List.nil_append, bI_t, bI_f, i10, i00, i11, i01, ↓reduceIte, Bool.false_eq_true, y_isOf5 hm, c1, c2]), R_fin hR (by decide)⟩
  obtain ⟨i, hi, rfl⟩ := q_hs_t c1 (by omega)
  obtain ⟨k, hk6, ek⟩ := (hk.1.2.2.2.2.2.1 i hi).2.1
  have hI := q_atI hi (show N 5 < 2 ^ 31 by omega)
  obtain ⟨R, t1, t2, t3⟩ := ha.2.2.1
  -- the start of the class
  generalize hg0 : q_up (q_up (q_up (q_up g 95 3 0) 94 1 (nI k)) 94 2 (nI i)) 94 3 (S 19 i) = g0
  have e0 : ∀ d, q_sem (d + 2) mX9_begin 0 [.ref 94, .int (nI k), .int (nI i), .int (S 19 i)] [] (q_K o g) = some (none, q_K o g0) := fun d => by
    simp only [B_X9_begin_0, B_X9_begin_7, s_clear _ q_tb95, Option.bind_some, Option.toList_some, Option.toList_none, List.cons_append, List.nil_append, hg0]
  have hv0 : q_vk g0 k i (S 19 i) := ⟨by rw [← hg0]; simp [q_up], by rw [← hg0]; simp [q_up], by rw [← hg0]; simp [q_up]⟩
  have f0 : ∀ p j, p ≠ 94 → ¬ (p = 95 ∧ j = 3) → g0 p j = g p j := fun p j h1 h2 => by rw [← hg0, q_upN h1, q_upN h1, q_upN h1, q_up_ne h2]
  have ht0 : q_tc g0 [] := ⟨⟨(f0 _ _ (by decide) (by decide)).trans t1.1, (f0 _ _ (by decide) (by decide)).trans t1.2.1, by rw [← hg0]; simp [q_up]; rfl, by simp⟩, fun j hj => by simp at hj⟩
  have wrap : ∀ (v : Int32 × List Int32) (rm : (Nat → Nat → Int32) → Option (Option Value × q_H)), q_vs o k i (S 19 i) (fun g => q_sem (d + 28) mX9_own 0 [.ref 94, .int x2, .int x3, .int 0] [] (q_K o g)) v → q_vm o k i (S 19 i) rm v → (∀ g1 g2 v, repM g1 S N → rm (q_up (q_up g1 98 69 (nI i)) 98 68 0) = some (some (.int v), q_K o g2) → q_sem (d + 30) mX12_voice 0 [.ref 98, .int (nI i), .int x2, .int x3] [] (q_K o g1) = some (some (.int v), q_K o g2)) → ∃ v g1 g2, q_sem (d + 30) mX11_voice 0 [.ref 0, .int (nI i), .int x2, .int x3] [] (q_K o g) = some (some (.int v), q_K o g1) ∧ q_sem (d + 30) mX12_voice 0 [.ref 98, .int (nI i), .int x2, .int x3] [] (q_K o g1) = some (some (.int v), q_K o g2) ∧ q_R n g2 := by
    intro v rm hs hmv hvo
    obtain ⟨g1, e1, ht1, hf1⟩ := hs g0 [] hv0 ht0
    have f01 : ∀ p j, p ≠ 94 → p ≠ 95 → p ≠ 96 → g1 p j = g p j := fun p j h1 h2 h3 => (hf1 p j h2 h3).trans (f0 p j h1 (by omega))
    have hm1 : repM g1 S N := m_fr hm (fun p a b j => f01 _ _ (by omega) (by omega) (by omega))
    have hk1 : q_mk (q_up (q_up g1 98 69 (nI i)) 98 68 0) k i (S 19 i) := ⟨by rw [q_upJ (by decide), q_upE], by rw [q_upN (by decide), q_upN (by decide)]; exact (m_f14 hm1 hi).trans ek, by rw [q_upN (by decide), q_upN (by decide)]; exact m_f19 hm1 hi⟩
    obtain ⟨g2, e2, ht2, hf2⟩ := hmv _ [] hk1 ⟨by rw [q_upE]; rfl, fun j hj => by simp at hj⟩
    have f12 : ∀ p j, p ≠ 149 → ¬ (p = 98 ∧ (j = 68 ∨ j = 69)) → g2 p j = g1 p j := fun p j h1 h2 => by rw [hf2 p j h1 (by omega), q_up_ne (by omega), q_up_ne (by omega)]
    have fall : ∀ p j, p ≠ 94 → p ≠ 95 → p ≠ 96 → p ≠ 149 → ¬ (p = 98 ∧ (j = 68 ∨ j = 69)) → g2 p j = g p j := fun p j h1 h2 h3 h4 h5 => (f12 p j h4 h5).trans (f01 p j h1 h2 h3)
    refine ⟨v.1, g1, g2, ?_, ?_, ⟨S, N, repC_fr hr (fun p j a b => fall _ _ (by omega) (by omega) (by omega) (by omega) (by omega)), m_fr hm (fun p a b j => fall _ _ (by omega) (by omega) (by omega) (by omega) (by omega)), hk⟩, fnd_fr ha.1 (fun j => fall _ _ (by omega) (by omega) (by omega) (by omega) (by omega)) (fun j => fall _ _ (by omega) (by omega) (by omega) (by omega) (by omega)), shs_fr ha.2.1 (fun p j z => fall _ _ (by omega) (by omega) (by omega) (by omega) (by omega)), ⟨min 40 v.2.length, ?_, ht2.1, fun j hj => ?_⟩, img_fr ha.2.2.2.1 (fun p j z => fall _ _ (by omega) (by omega) (by omega) (by omega) (by omega)), gss_fr ha.2.2.2.2.1 (fun p j z => fall _ _ (by omega) (by omega) (by omega) (by omega) (by omega)), tis_fr ha.2.2.2.2.2 (fun p j z => fall _ _ (by omega) (by omega) (by omega) (by omega) (by omega))⟩
    · have hq : q_sem (d + 28) mX9_own 0 [.ref 94, .int x2, .int x3, .int 0] [] (q_K o g0) = some (some (.int v.1), q_K o g1) := e1
      simp only [B_X11_voice_0, B_X11_voice_11, B_X11_voice_28, B_X11_voice_20, B_X11_voice_45, B_X11_voice_58, B_X11_voice_61, B_X11_voice_70, z_within, z_isCell, z_fin1, z_fin2, z_fin3, z_fin4, z_fin5, Option.bind_some, Option.toList_some, Option.toList_none, List.cons_append, List.nil_append, bI_t, bI_f, i10, i00, i11, i01, ↓reduceIte, Bool.false_eq_true, z_has_fl hr, c1, c2, r_get_fl0 hr, r_get_fl5 hr, hI, ek, e0, B_X9_utter_0, B_X9_utter_7, hq]
    · exact hvo g1 g2 v.1 hm1 e2
    · exact ti_fr ht1.1 (fun j => f12 _ _ (by decide) (by omega))
    · rw [f12 _ _ (by decide) (by omega)]
      rw [show (min 40 v.2.length) = min 40 ([] ++ v.2).length from rfl] at hj
      rw [ht1.2 j hj, ht2.2 j hj]
  have mhead : ∀ g1, repM g1 S N → ∀ A, q_sem (d + 30) mX12_voice 15 [.ref 98, .int (nI i), .int x2, .int x3] [.int 1] (q_K o g1) = A → q_sem (d + 30) mX12_voice 0 [.ref 98, .int (nI i), .int x2, .int x3] [] (q_K o g1) = A := by
    intro g1 hm1 A hA
    simp only [B_X12_voice_0, B_X12_voice_6, y_in, y_isCell, y_fin1, y_fin2, y_fin3, y_fin4, y_fin5, Option.bind_some, Option.toList_some, Option.toList_none, List.cons_append, List.nil_append, bI_t, bI_f, i10, i00, i11, i01, ↓reduceIte, Bool.false_eq_true, y_isOf5 hm1, c1, c2]
    exact hA
  rcases q_in3c c2 with rfl | rfl | rfl | rfl
  · refine wrap _ _ (v_ownGo (o := o) (x := x3) (dep := 0) (d := d + 22) ho hk6 (by decide)) (w_Go (o := o) (x := x3) (d := d + 26) (by omega) hk6) (fun g1 g2 v hm1 hz => mhead g1 hm1 _ ?_)
    have hy : q_sem (d + 29) mX12_go 0 [.ref 98, .int x3] [] (q_K o (q_up (q_up g1 98 69 (nI i)) 98 68 0)) = some (some (.int v), q_K o g2) := hz
    simp only [B_X12_voice_15, (by decide : ¬ (1 : Int32) = 0), ↓reduceIte, hy, Option.bind_some, Option.toList_some, Option.toList_none, List.cons_append, List.nil_append, B_X12_voice_6, B_X12_voice_24, B_X12_voice_15, B_X12_voice_44, B_X12_voice_57, B_X12_voice_70, B_X12_voice_78]
  · refine wrap _ _ (v_ownJo (o := o) (x := x3) (dep := 0) (d := d + 17) ho hk6 (by decide)) (w_Jo (o := o) (x := x3) (d := d + 24) (by omega) hk6) (fun g1 g2 v hm1 hz => mhead g1 hm1 _ ?_)
    have hy : q_sem (d + 29) mX12_join 0 [.ref 98, .int x3, .retAddr 0] [] (q_K o (q_up (q_up g1 98 69 (nI i)) 98 68 0)) = some (some (.int v), q_K o g2) := hz
    simp only [B_X12_voice_15, (by decide : ¬ (1 : Int32) = 0), ↓reduceIte, hy, Option.bind_some, Option.toList_some, Option.toList_none, List.cons_append, List.nil_append, B_X12_voice_6, B_X12_voice_24, B_X12_voice_15, B_X12_voice_44, B_X12_voice_57, B_X12_voice_70, B_X12_voice_78]
  · refine wrap _ _ (v_ownBu (o := o) (x := x3) (dep := 0) (d := d + 10) ho hk6 (by decide)) (w_Bu (o := o) (x := x3) (d := d + 21) (by omega) hk6) (fun g1 g2 v hm1 hz => mhead g1 hm1 _ ?_)
    have hy : q_sem (d + 29) mX12_burn 0 [.ref 98, .int x3] [] (q_K o (q_up (q_up g1 98 69 (nI i)) 98 68 0)) = some (some (.int v), q_K o g2) := hz
    simp only [B_X12_voice_15, (by decide : ¬ (1 : Int32) = 0), (by decide : ¬ (2 : Int32) = 0), (by decide : ¬ (2 : Int32) = 1), ↓reduceIte, hy, Option.bind_some, Option.toList_some, Option.toList_none, List.cons_append, List.nil_append, B_X12_voice_6, B_X12_voice_24, B_X12_voice_15, B_X12_voice_44, B_X12_voice_57, B_X12_voice_70, B_X12_voice_78]
  · refine wrap _ _ (v_ownTe (o := o) (x := x3) (dep := 0) (d := d + 5) ho hk6 (by decide)) (w_Te (o := o) (x := x3) (d := d + 19) (by omega) hk6) (fun g1 g2 v hm1 hz => mhead g1 hm1 _ ?_)
    have hy : q_sem (d + 29) mX12_tells 0 [.ref 98, .int x3, .retAddr 0] [] (q_K o (q_up (q_up g1 98 69 (nI i)) 98 68 0)) = some (some (.int v), q_K o g2) := hz
    simp only [B_X12_voice_15, (by decide : ¬ (1 : Int32) = 0), (by decide : ¬ (3 : Int32) = 0), (by decide : ¬ (3 : Int32) = 1), (by decide : ¬ (3 : Int32) = 2), ↓reduceIte, hy, Option.bind_some, Option.toList_some, Option.toList_none, List.cons_append, List.nil_append, B_X12_voice_6, B_X12_voice_24, B_X12_voice_15, B_X12_voice_44, B_X12_voice_57, B_X12_voice_70, B_X12_voice_78]
