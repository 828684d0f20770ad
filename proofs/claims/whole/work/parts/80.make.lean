section MKE
variable {o : q_H}
/-- the class's new rule -/
theorem z_makeL (hcs : List Int32) (r : Nat) (hr : r < 12) (x1 x2 : Int32) (hlen : hcs.length ≤ 50) (d : Nat) : ∀ t i (g : Nat → Nat → Int32), i + t = hcs.length → q_ti g 17 12 53 (r + 1) → g 67 2 = nI hcs.length → (∀ j (hj : j < hcs.length), g 68 j = hcs[j]) → ∃ g2, q_sem (d + 2) mX5_make 38 [.ref 16, .int x1, .int x2, .ref 67, .int (nI r), .int (nI i)] [] (q_K o g) = some (some (.int (nI r)), q_K o g2) ∧ (∀ j (hj : j < hcs.length), i ≤ j → g2 18 (r * 53 + 3 + j) = hcs[j]) ∧ ∀ p j, ¬ (p = 18 ∧ r * 53 + 3 + i ≤ j ∧ j < r * 53 + 53) → g2 p j = g p j := by
  intro t
  induction t with
  | zero =>
    intro i g hi ht h2 hc
    have c1 : nI hcs.length ≤ nI i := nI_le (by omega) (by omega)
    refine ⟨g, ?_, fun j hj a => by omega, fun _ _ _ => rfl⟩
    rw [show (16 : Nat) = 1 + 15 from rfl, B_X5_make_38 (w := 1) (Or.inl rfl)]
    simp only [B_X8_size_0, h2, Option.bind_some, Option.toList_some, Option.toList_none, List.cons_append, List.nil_append, B_X5_make_44 (w := 1) (Or.inl rfl), c1, ↓reduceIte]
  | succ t ih =>
    intro i g hi ht h2 hc
    have c1 : ¬ nI hcs.length ≤ nI i := nI_ge (by omega) (by omega)
    have e3 : (3 : Int32) + nI i = nI (3 + i) := nI_add 3 i
    obtain ⟨g2, e2, k2, f2⟩ := ih (i + 1) (q_up g 18 (r * 53 + (3 + i)) (g 68 i)) (by omega) (ti_fr ht (fun k => q_upN (by decide))) ((q_upN (by decide)).trans h2) (fun j hj => (q_upN (by decide)).trans (hc j hj))
    refine ⟨g2, ?_, fun j hj a => ?_, fun p j a => by rw [f2 p j (by omega), q_up_ne (by omega)]⟩
    · have hcd : ∀ d, q_sem d mX8_code 0 [.ref 67, .int (nI i)] [] (q_K o g) = some (some (.int (g 68 i)), q_K o g) := fun d => by
        rw [B_X8_code_0, if_neg (nI_pos (by omega)), if_neg (show ¬ (50 : Int32) ≤ nI i from nI_ge (b := 50) (by omega) (by decide)), q_rgN (show i < 50 by omega) (by decide)]
      have hwr := z_wrT (o := o) (g := g) (⟨⟨by decide, rfl⟩, rfl, rfl, rfl, rfl, ⟨by decide, rfl, rfl⟩, by decide, by decide, by decide⟩ : q_tb 17 12 53) ht (show r < r + 1 by omega) (show 3 + i < 53 by omega) (g 68 i) d
      rw [show (16 : Nat) = 1 + 15 from rfl, B_X5_make_38 (w := 1) (Or.inl rfl)]
      simp only [B_X8_size_0, h2, Option.bind_some, Option.toList_some, Option.toList_none, List.cons_append, List.nil_append, B_X5_make_44 (w := 1) (Or.inl rfl), c1, ↓reduceIte, hcd, e3, B_X5_make_63 (w := 1) (Or.inl rfl), show 1 + 16 = 17 from rfl, hwr, B_X5_make_66 (w := 1) (Or.inl rfl), nI_1]
      exact e2
    · by_cases q : j = i
      · subst q
        rw [f2 _ _ (by omega), show r * 53 + 3 + j = r * 53 + (3 + j) by omega, q_upE]; exact hc j hj
      · exact k2 j hj (by omega)
theorem z_make {g S : Nat → Nat → Int32} {N : Nat → Nat} {cs : List Int32} (h : repC 1 g S N) (hN : N 6 < 12) (hlen : cs.length ≤ 50) (h8 : q_ti g 19 50 1 0) (h2 : g 67 2 = nI cs.length) (hc : ∀ j (hj : j < cs.length), g 68 j = cs[j]) (u fr : Int32) (d : Nat) : ∃ g2, q_sem (d + 3) mX5_make 0 [.ref 16, .int u, .int fr, .ref 67, .retAddr 0, .retAddr 0] [] (q_K o g) = some (some (.int (nI (N 6))), q_K o g2) ∧ repC 1 g2 (q_nru S (N 6) u fr cs) (q_nrN N) ∧ ∀ p j, p ≠ 17 → p ≠ 18 → g2 p j = g p j := by
  have tb : q_tb 17 12 53 := ⟨⟨by decide, rfl⟩, rfl, rfl, rfl, rfl, ⟨by decide, rfl, rfl⟩, by decide, by decide, by decide⟩
  have ht : q_ti g 17 12 53 (N 6) := (h.2.1 (16, 12, 53, 3, 6, 26) (by decide)).1
  have e1 := s_add (o := o) (d + 0) tb ht hN u
  generalize hg1 : q_ad g 17 53 (N 6) u = g1 at *
  have f1 : ∀ p j, ¬ (p = 17 ∧ j = 3) → ¬ (p = 18 ∧ N 6 * 53 ≤ j ∧ j < N 6 * 53 + 53) → g1 p j = g p j := fun p j a b => by
    rw [← hg1]; unfold q_ad; rw [if_neg a, if_neg b]
  have t1 : q_ti g1 17 12 53 (N 6 + 1) := by
    rw [← hg1]; unfold q_ad
    refine ⟨?_, ?_, ?_, by omega⟩
    · dsimp only; rw [if_neg (by omega), if_neg (by omega)]; exact ht.1
    · dsimp only; rw [if_neg (by omega), if_neg (by omega)]; exact ht.2.1
    · dsimp only; rw [if_pos ⟨rfl, rfl⟩]
  have v0 : g1 18 (N 6 * 53) = u := by
    rw [← hg1]; unfold q_ad
    rw [if_neg (by omega), if_pos ⟨rfl, by omega, by omega⟩, if_pos rfl]
  have w1 := z_wrT (o := o) tb t1 (show N 6 < N 6 + 1 by omega) (show 1 < 53 by decide) fr (d + 1)
  have t2 : q_ti (q_up g1 18 (N 6 * 53 + 1) fr) 17 12 53 (N 6 + 1) := ti_fr t1 (fun k => q_upN (by decide))
  have w2 := z_wrT (o := o) tb t2 (show N 6 < N 6 + 1 by omega) (show 2 < 53 by decide) (nI cs.length) (d + 1)
  obtain ⟨g2, e2, k2, f2⟩ := z_makeL (o := o) cs (N 6) hN u fr hlen (d + 1) cs.length 0 (q_up (q_up g1 18 (N 6 * 53 + 1) fr) 18 (N 6 * 53 + 2) (nI cs.length)) (by omega) (ti_fr t2 (fun k => q_upN (by decide))) (by rw [q_upN (by decide), q_upN (by decide), f1 _ _ (by omega) (by omega)]; exact h2) (fun j hj => by rw [q_upN (by decide), q_upN (by decide), f1 _ _ (by omega) (by omega)]; exact hc j hj)
  have f3 : ∀ p j, p ≠ 17 → p ≠ 18 → g2 p j = g p j := fun p j a b => by rw [f2 _ _ (by omega), q_upN b, q_upN b, f1 _ _ (by omega) (by omega)]
  refine ⟨g2, ?_, repC_nr h hlen (fun p j a b x y z => f3 p j x y) (ti_fr h8 (fun k => f3 _ _ (by decide) (by decide))) (ti_fr t2 (fun k => by rw [f2 _ _ (by omega), q_upN (by decide)])) (fun r c a b => ?_) ?_ ?_ ?_ (fun i hi => ?_), f3⟩
  · have w1' : q_sem (d + 2) mX7_write 0 [.ref 17, .int (nI (N 6)), .int 1, .int fr] [] (q_K o g1) = _ := w1
    have w2' : q_sem (d + 2) mX7_write 0 [.ref 17, .int (nI (N 6)), .int 2, .int (nI cs.length)] [] (q_K o (q_up g1 18 (N 6 * 53 + 1) fr)) = _ := w2
    have e1' : q_sem (d + 2) mX7_add 0 [.ref 17, .int u, .retAddr 0] [] (q_K o g) = some (some (.int (nI (N 6))), q_K o g1) := e1
    have e2' : q_sem (d + 3) mX5_make 38 [.ref 16, .int u, .int fr, .ref 67, .int (nI (N 6)), .int 0] [] (q_K o (q_up (q_up g1 18 (N 6 * 53 + 1) fr) 18 (N 6 * 53 + 2) (nI cs.length))) = _ := e2
    have hsz : q_up g1 18 (N 6 * 53 + 1) fr 67 2 = nI cs.length := by rw [q_upN (by decide), f1 _ _ (by omega) (by omega)]; exact h2
    rw [show (16 : Nat) = 1 + 15 from rfl, B_X5_make_0 (w := 1) (Or.inl rfl)]
    simp only [show 1 + 16 = 17 from rfl, e1', Option.bind_some, Option.toList_some, Option.toList_none, List.cons_append, List.nil_append, B_X5_make_8 (w := 1) (Or.inl rfl), w1', B_X5_make_21 (w := 1) (Or.inl rfl), B_X8_size_0, hsz, B_X5_make_32 (w := 1) (Or.inl rfl), w2', B_X5_make_35 (w := 1) (Or.inl rfl)]
    exact e2'
  · rw [f2 _ _ (by omega), q_up_ne (by omega), q_up_ne (by omega), f1 _ _ (by omega) (by omega)]
  · rw [f2 _ _ (by omega), q_up_ne (by omega), q_up_ne (by omega)]; exact v0
  · rw [f2 _ _ (by omega), q_up_ne (by omega), q_upE]
  · rw [f2 _ _ (by omega), q_upE]
  · exact k2 i hi (Nat.zero_le _)
end MKE
