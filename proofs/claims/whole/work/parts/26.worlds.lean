/-! a table by fields and rows -/
/-- field f of a row; 0 beyond the rows -/
def q_at (S : Nat → Nat → Int32) (R f : Nat) (row : Int32) : Int32 := if 0 ≤ row ∧ row < nI R then S f row.toNatClampNeg else 0
def q_aw (S : Nat → Nat → Int32) (R f : Nat) (row v : Int32) : Nat → Nat → Int32 := if 0 ≤ row ∧ row < nI R then q_up S f row.toNatClampNeg v else S
def q_an (S : Nat → Nat → Int32) (b C R : Nat) (v : Int32) : Nat → Nat → Int32 := fun f i => if i = R ∧ b ≤ f ∧ f < b + C then (if f = b then v else 0) else S f i
theorem q_inR {i R : Nat} (h : i < R) (hR : R < 2 ^ 31) : 0 ≤ nI i ∧ nI i < nI R := ⟨nI_pos' (by omega), nI_lt h hR⟩
theorem q_at_in {S : Nat → Nat → Int32} {R f i : Nat} (h : i < R) (hR : R < 2 ^ 31) : q_at S R f (nI i) = S f i := by
  unfold q_at
  rw [if_pos (q_inR h hR), nI_clamp (by omega)]
theorem q_at_neg {S : Nat → Nat → Int32} {R f : Nat} {v : Int32} (h : v < 0) : q_at S R f v = 0 := by
  unfold q_at
  rw [if_neg (fun z => by have := z.1; rw [Int32.le_iff_toInt_le] at this; rw [Int32.lt_iff_toInt_lt] at h; omega)]
theorem q_aw_in {S : Nat → Nat → Int32} {R f i : Nat} {v : Int32} (h : i < R) (hR : R < 2 ^ 31) : q_aw S R f (nI i) v = q_up S f i v := by
  unfold q_aw
  rw [if_pos (q_inR h hR), nI_clamp (by omega)]
theorem q_aw_neg {S : Nat → Nat → Int32} {R f : Nat} {v x : Int32} (h : v < 0) : q_aw S R f v x = S := by
  unfold q_aw
  rw [if_neg (fun z => by have := z.1; rw [Int32.le_iff_toInt_le] at this; rw [Int32.lt_iff_toInt_lt] at h; omega)]
theorem q_row_of {row : Int32} {R : Nat} (h : 0 ≤ row ∧ row < nI R) (hR : R < 2 ^ 31) : ∃ i, i < R ∧ row = nI i := by
  obtain ⟨j, hj, rfl⟩ := nI_of (show ¬ row < 0 from fun z => by rw [Int32.le_iff_toInt_le] at h; rw [Int32.lt_iff_toInt_lt] at z; have := h.1; omega)
  exact ⟨j, (nI_ltI hj hR).mp h.2, rfl⟩
/-- t has R rows; its columns 0 .. C - 1 are the fields b .. -/
def q_tr (g : Nat → Nat → Int32) (t M W C R b : Nat) (S : Nat → Nat → Int32) : Prop := q_ti g t M W R ∧ ∀ c r, c < C → r < R → g (t + 1) (r * W + c) = S (b + c) r
section QTR
variable {o : q_H} {g : Nat → Nat → Int32} {t M W C R b : Nat} {S : Nat → Nat → Int32}
theorem t_get (ht : q_tb t M W) (h : q_tr g t M W C R b S) {c : Nat} (hc : c < C) (hC : C ≤ W) (d : Nat) (row : Int32) : q_sem (d + 1) mX7_get 0 [.ref t, .int row, .int (nI c)] [] (q_K o g) = some (some (.int (q_at S R (b + c) row)), q_K o g) := by
  rw [s_get d ht h.1 row (nI c)]
  have hM := ht.2.2.2.2.2.2.1
  have hW := ht.2.2.2.2.2.2.2.2
  have hR := h.1.2.2.2
  have e : q_gt g t W R row (nI c) = q_at S R (b + c) row := by
    by_cases h1 : 0 ≤ row ∧ row < nI R
    · obtain ⟨i, hi, rfl⟩ := q_row_of h1 (by omega)
      rw [q_gt_in hi (by omega) (by omega) hW, q_at_in hi (by omega)]
      exact h.2 c i hc hi
    · unfold q_gt q_at
      rw [if_neg h1, if_neg (fun z => h1 ⟨z.1, z.2.1⟩)]
  rw [e]
theorem t_size (ht : q_tb t M W) (h : q_tr g t M W C R b S) (d : Nat) : q_sem (d + 1) mX7_size 0 [.ref t] [] (q_K o g) = some (some (.int (nI R)), q_K o g) := by
  rw [s_size d ht, h.1.2.2.1]
theorem t_has (ht : q_tb t M W) (h : q_tr g t M W C R b S) (d : Nat) (row : Int32) : q_sem (d + 1) mX7_has 0 [.ref t, .int row] [] (q_K o g) = some (some (.int (if 0 ≤ row ∧ row < nI R then 1 else 0)), q_K o g) := by
  rw [s_has d ht, h.1.2.2.1]
theorem t_full (ht : q_tb t M W) (h : q_tr g t M W C R b S) (d : Nat) : q_sem (d + 1) mX7_isFull 0 [.ref t] [] (q_K o g) = some (some (.int (if R = M then 1 else 0)), q_K o g) := by
  have hM := ht.2.2.2.2.2.2.1
  have hR := h.1.2.2.2
  have e : (nI M ≤ nI R) ↔ R = M := by rw [nI_leI (by omega) (by omega)]; omega
  rw [s_isFull d ht, h.1.2.2.1, h.1.1]
  simp only [e]
/-- but for these two places all is as it was -/
def q_o2 (p0 p1 : Nat) (g g2 : Nat → Nat → Int32) : Prop := ∀ p k, p ≠ p0 → p ≠ p1 → g2 p k = g p k
theorem t_write (ht : q_tb t M W) (h : q_tr g t M W C R b S) {c : Nat} (hc : c < C) (hC : C ≤ W) (d : Nat) (row v : Int32) : ∃ g2, q_sem (d + 1) mX7_write 0 [.ref t, .int row, .int (nI c), .int v] [] (q_K o g) = some (none, q_K o g2) ∧ q_tr g2 t M W C R b (q_aw S R (b + c) row v) ∧ q_o2 t (t + 1) g g2 := by
  have hM := ht.2.2.2.2.2.2.1
  have hW := ht.2.2.2.2.2.2.2.2
  have hR := h.1.2.2.2
  refine ⟨_, s_write d ht h.1 row (nI c) v, ?_, ?_⟩
  · by_cases h1 : 0 ≤ row ∧ row < nI R
    · obtain ⟨i, hi, rfl⟩ := q_row_of h1 (by omega)
      rw [q_pt_in hi (by omega) (by omega) hW, q_aw_in hi (by omega)]
      refine ⟨⟨(q_up_ne (by omega)).trans h.1.1, (q_up_ne (by omega)).trans h.1.2.1, (q_up_ne (by omega)).trans h.1.2.2.1, hR⟩, ?_⟩
      intro c2 r hc2 hr
      by_cases e : c2 = c ∧ r = i
      · obtain ⟨rfl, rfl⟩ := e
        rw [q_up_eq, q_up_eq]
      · rw [q_up_ne (g := S) (by omega), q_up_ne (g := g) ?_]
        · exact h.2 c2 r hc2 hr
        · intro z
          have z2 := z.2
          apply e
          have hW0 : 0 < W := by omega
          have e1 : (r * W + c2) / W = r := by rw [Nat.mul_comm, Nat.mul_add_div hW0, Nat.div_eq_of_lt (by omega)]; omega
          have e2 : (i * W + c) / W = i := by rw [Nat.mul_comm, Nat.mul_add_div hW0, Nat.div_eq_of_lt (by omega)]; omega
          have e3 : r = i := by rw [← e1, ← e2, z2]
          subst e3
          omega
    · have e : q_pt g t W R row (nI c) v = g := by unfold q_pt; rw [if_neg (fun z => h1 ⟨z.1, z.2.1⟩)]
      have e2 : q_aw S R (b + c) row v = S := by unfold q_aw; rw [if_neg h1]
      rw [e, e2]
      exact h
  · intro p k h0 h1
    unfold q_pt
    split
    · exact q_up_ne (fun z => h1 z.1)
    · rfl
theorem t_add (ht : q_tb t M W) (h : q_tr g t M W C R b S) (hR : R < M) (hC : C ≤ W) (hC1 : 1 ≤ C) (d : Nat) (v : Int32) : ∃ g2, q_sem (d + 2) mX7_add 0 [.ref t, .int v, .retAddr 0] [] (q_K o g) = some (some (.int (nI R)), q_K o g2) ∧ q_tr g2 t M W C (R + 1) b (q_an S b C R v) ∧ q_o2 t (t + 1) g g2 ∧ (∀ c, C ≤ c → c < W → g2 (t + 1) (R * W + c) = 0) ∧ ∀ c r, c < W → r < R → g2 (t + 1) (r * W + c) = g (t + 1) (r * W + c) := by
  have hM := ht.2.2.2.2.2.2.1
  have hW := ht.2.2.2.2.2.2.2.2
  have hlow : ∀ c r, c < W → r < R → q_ad g t W R v (t + 1) (r * W + c) = g (t + 1) (r * W + c) := by
    intro c r hc hr
    have := q_mulB hr hc
    unfold q_ad
    rw [if_neg (by omega), if_neg (by omega)]
  refine ⟨_, s_add d ht h.1 hR v, ⟨⟨?_, ?_, ?_, by omega⟩, ?_⟩, ?_, ?_, hlow⟩
  · unfold q_ad; rw [if_neg (by omega), if_neg (by omega)]; exact h.1.1
  · unfold q_ad; rw [if_neg (by omega), if_neg (by omega)]; exact h.1.2.1
  · unfold q_ad; rw [if_pos ⟨rfl, rfl⟩]
  · intro c r hc hr
    by_cases e : r = R
    · subst e
      have e1 : q_ad g t W r v (t + 1) (r * W + c) = if r * W + c = r * W then v else 0 := by
        unfold q_ad
        rw [if_neg (by omega), if_pos ⟨rfl, by omega, by omega⟩]
      have e2 : q_an S b C r v (b + c) r = if b + c = b then v else 0 := by
        unfold q_an
        rw [if_pos ⟨rfl, by omega, by omega⟩]
      rw [e1, e2]
      by_cases e0 : c = 0
      · rw [if_pos (by omega), if_pos (by omega)]
      · rw [if_neg (by omega), if_neg (by omega)]
    · rw [hlow c r (by omega) (by omega), h.2 c r hc (by omega)]
      unfold q_an
      rw [if_neg (by omega)]
  · intro p k h0 h1
    unfold q_ad
    rw [if_neg (by omega), if_neg (by omega)]
  · intro c hc1 hc2
    unfold q_ad
    rw [if_neg (by omega), if_pos ⟨rfl, by omega, by omega⟩, if_neg (by omega)]
theorem t_addF (ht : q_tb t M W) (h : q_tr g t M W C M b S) (d : Nat) (v : Int32) : q_sem (d + 2) mX7_add 0 [.ref t, .int v, .retAddr 0] [] (q_K o g) = some (some (.int (-1)), q_K o g) := s_addFull d ht h.1 v
theorem t_clear (ht : q_tb t M W) (h : q_tr g t M W C R b S) (d : Nat) : ∃ g2, q_sem (d + 1) mX7_clear 0 [.ref t] [] (q_K o g) = some (none, q_K o g2) ∧ q_tr g2 t M W C 0 b S ∧ q_o2 t t g g2 := by
  refine ⟨_, s_clear d ht, ⟨⟨(q_up_ne (by omega)).trans h.1.1, (q_up_ne (by omega)).trans h.1.2.1, q_up_eq, Nat.zero_le _⟩, fun c r hc hr => absurd hr (Nat.not_lt_zero r)⟩, fun p k h0 h1 => q_up_ne (fun z => h0 z.1)⟩
theorem q_tr_fr {g2 : Nat → Nat → Int32} {S2 : Nat → Nat → Int32} (h : q_tr g t M W C R b S) (hg : ∀ k, g2 t k = g t k) (hg1 : ∀ k, g2 (t + 1) k = g (t + 1) k) (hS : ∀ f i, b ≤ f → f < b + C → i < R → S2 f i = S f i) : q_tr g2 t M W C R b S2 :=
  ⟨⟨(hg 0).trans h.1.1, (hg 1).trans h.1.2.1, (hg 3).trans h.1.2.2.1, h.1.2.2.2⟩, fun c r hc hr => (hg1 _).trans ((h.2 c r hc hr).trans (hS _ _ (by omega) (by omega) hr).symm)⟩
end QTR
/-- the tables of a world: place, most rows, width, fields, count, first field -/
def q_tbs : List (Nat × Nat × Nat × Nat × Nat × Nat) := [(1, 6, 3, 3, 0, 1), (3, 8, 2, 2, 1, 4), (5, 24, 3, 3, 2, 6), (7, 5, 1, 1, 3, 9), (9, 6, 4, 4, 4, 10), (11, 16, 12, 12, 5, 14), (13, 20, 1, 1, 11, 32), (16, 12, 53, 3, 6, 26), (18, 50, 1, 1, 8, 31)]
theorem W_tb {w : Nat} (hw : q_W w) : ∀ q ∈ q_tbs, q_tb (w + q.1) q.2.1 q.2.2.1 := by
  rcases hw with rfl | rfl | rfl <;> intro q hq <;> unfold q_tbs at hq <;> simp only [List.mem_cons, List.not_mem_nil, or_false] at hq <;> rcases hq with rfl | rfl | rfl | rfl | rfl | rfl | rfl | rfl | rfl <;> exact ⟨⟨by decide, rfl⟩, rfl, rfl, rfl, rfl, ⟨by decide, rfl, rfl⟩, by decide, by decide, by decide⟩
theorem q_tbs_ne : ∀ q ∈ q_tbs, ∀ z ∈ q_tbs, q = z ∨ (q.1 ≠ z.1 ∧ q.1 ≠ z.1 + 1 ∧ q.1 + 1 ≠ z.1 ∧ (q.2.2.2.2.2 + q.2.2.2.1 ≤ z.2.2.2.2.2 ∨ z.2.2.2.2.2 + z.2.2.2.1 ≤ q.2.2.2.2.2) ∧ q.2.2.2.2.1 ≠ z.2.2.2.2.1) := by decide
theorem q_tbs_sm : ∀ q ∈ q_tbs, 1 ≤ q.1 ∧ q.1 < 21 ∧ 1 ≤ q.2.2.2.1 ∧ q.2.2.2.1 ≤ q.2.2.1 ∧ 1 ≤ q.2.2.2.2.2 ∧ q.2.2.2.2.2 + q.2.2.2.1 ≤ 33 ∧ (q.2.2.2.2.2 + q.2.2.2.1 ≤ 28 ∨ 30 ≤ q.2.2.2.2.2 ∨ q.1 = 16) ∧ q.2.1 ≤ 99 ∧ (q.1 = 16 ∨ q.2.2.2.2.1 ≠ 6) ∧ (q.1 = 16 ∨ (q.1 ≠ 17 ∧ q.1 + 1 ≠ 17)) := by decide
/-- the rules' codes -/
def q_cd (w : Nat) (g S : Nat → Nat → Int32) (N : Nat → Nat) : Prop := ∀ r, r < N 6 → ∀ i, i < 50 → nI i < S 28 r → g (w + 17) (r * 53 + 3 + i) = S 29 (50 * r + i)
/-- what world w holds -/
def repC (w : Nat) (g S : Nat → Nat → Int32) (N : Nat → Nat) : Prop := q_W w ∧ (∀ q ∈ q_tbs, q_tr g (w + q.1) q.2.1 q.2.2.1 q.2.2.2.1 (N q.2.2.2.2.1) q.2.2.2.2.2 S) ∧ q_cd w g S N ∧ g w 8 = S 0 7 ∧ g w 9 = S 0 9 ∧ g w 10 = S 0 10
/-- but for world w all is as it was -/
def q_fr (w : Nat) (g g2 : Nat → Nat → Int32) : Prop := ∀ p k, ¬ (w ≤ p ∧ p < w + 22) → g2 p k = g p k
theorem q_fr_rf {w : Nat} {g : Nat → Nat → Int32} : q_fr w g g := fun _ _ _ => rfl
theorem q_fr_tr {w : Nat} {g g2 g3 : Nat → Nat → Int32} (h : q_fr w g g2) (h2 : q_fr w g2 g3) : q_fr w g g3 := fun p k hp => (h2 p k hp).trans (h p k hp)
theorem q_o2_fr {w a : Nat} {g g2 : Nat → Nat → Int32} (h : q_o2 (w + a) (w + a + 1) g g2) (ha : a < 21) : q_fr w g g2 := fun p k hp => h p k (by omega) (by omega)
def q_nu (N : Nat → Nat) (i n : Nat) : Nat → Nat := fun j => if j = i then n else N j
theorem q_nu_eq {N : Nat → Nat} {i n : Nat} : q_nu N i n i = n := if_pos rfl
theorem q_nu_ne {N : Nat → Nat} {i j n : Nat} (h : j ≠ i) : q_nu N i n j = N j := if_neg h
section QWT
variable {o : q_H} {w : Nat} {g S : Nat → Nat → Int32} {N : Nat → Nat} {q : Nat × Nat × Nat × Nat × Nat × Nat}
theorem w_rep {g2 S2 : Nat → Nat → Int32} {N2 : Nat → Nat} (hq : q ∈ q_tbs) (hr : repC w g S N) (h : q_tr g2 (w + q.1) q.2.1 q.2.2.1 q.2.2.2.1 (N2 q.2.2.2.2.1) q.2.2.2.2.2 S2) (hg : q_o2 (w + q.1) (w + q.1 + 1) g g2) (hS : ∀ f i, (f < q.2.2.2.2.2 ∨ q.2.2.2.2.2 + q.2.2.2.1 ≤ f) → S2 f i = S f i) (hN : ∀ i, i ≠ q.2.2.2.2.1 → N2 i = N i) (hc : q.1 = 16 → q_cd w g2 S2 N2) : repC w g2 S2 N2 := by
  have hs := q_tbs_sm q hq
  refine ⟨hr.1, ?_, ?_, ?_, ?_, ?_⟩
  · intro z hz
    rcases q_tbs_ne q hq z hz with e | e
    · subst e
      exact h
    · rw [hN _ (Ne.symm e.2.2.2.2)]
      refine q_tr_fr (hr.2.1 z hz) (fun k => hg _ _ (by omega) (by omega)) (fun k => hg _ _ (by omega) (by omega)) ?_
      intro f i h1 h2 _
      exact hS f i (by have := e.2.2.2.1; omega)
  · by_cases e : q.1 = 16
    · exact hc e
    · intro r h1 i h2 h3
      have e6 : N2 6 = N 6 := hN 6 (by have := hs.2.2.2.2.2.2.2.2.1; omega)
      have e28 : S2 28 r = S 28 r := hS _ _ (by have := hs.2.2.2.2.2.2.1; omega)
      have e29 : S2 29 (50 * r + i) = S 29 (50 * r + i) := hS _ _ (by have := hs.2.2.2.2.2.2.1; omega)
      rw [e6] at h1
      rw [e28] at h3
      rw [e29, ← hr.2.2.1 r h1 i h2 h3]
      have h17 := hs.2.2.2.2.2.2.2.2.2
      exact hg _ _ (by omega) (by omega)
  · rw [hg _ _ (by omega) (by omega), hr.2.2.2.1, hS _ _ (by omega)]
  · rw [hg _ _ (by omega) (by omega), hr.2.2.2.2.1, hS _ _ (by omega)]
  · rw [hg _ _ (by omega) (by omega), hr.2.2.2.2.2, hS _ _ (by omega)]
theorem w_get (hq : q ∈ q_tbs) (hr : repC w g S N) {c : Nat} (hc : c < q.2.2.2.1) (d : Nat) (row : Int32) : q_sem (d + 1) mX7_get 0 [.ref (w + q.1), .int row, .int (nI c)] [] (q_K o g) = some (some (.int (q_at S (N q.2.2.2.2.1) (q.2.2.2.2.2 + c) row)), q_K o g) :=
  t_get (W_tb hr.1 q hq) (hr.2.1 q hq) hc (q_tbs_sm q hq).2.2.2.1 d row
theorem w_size (hq : q ∈ q_tbs) (hr : repC w g S N) (d : Nat) : q_sem (d + 1) mX7_size 0 [.ref (w + q.1)] [] (q_K o g) = some (some (.int (nI (N q.2.2.2.2.1))), q_K o g) := t_size (W_tb hr.1 q hq) (hr.2.1 q hq) d
theorem w_has (hq : q ∈ q_tbs) (hr : repC w g S N) (d : Nat) (row : Int32) : q_sem (d + 1) mX7_has 0 [.ref (w + q.1), .int row] [] (q_K o g) = some (some (.int (if 0 ≤ row ∧ row < nI (N q.2.2.2.2.1) then 1 else 0)), q_K o g) := t_has (W_tb hr.1 q hq) (hr.2.1 q hq) d row
theorem w_full (hq : q ∈ q_tbs) (hr : repC w g S N) (d : Nat) : q_sem (d + 1) mX7_isFull 0 [.ref (w + q.1)] [] (q_K o g) = some (some (.int (if N q.2.2.2.2.1 = q.2.1 then 1 else 0)), q_K o g) := t_full (W_tb hr.1 q hq) (hr.2.1 q hq) d
theorem q_aw_ne {R f : Nat} {row v : Int32} {f2 i : Nat} (h : f2 ≠ f) : q_aw S R f row v f2 i = S f2 i := by
  unfold q_aw
  split
  · exact q_up_ne (fun z => h z.1)
  · rfl
theorem w_write (hq : q ∈ q_tbs) (hr : repC w g S N) {c : Nat} (hc : c < q.2.2.2.1) (h16 : q.1 ≠ 16) (d : Nat) (row v : Int32) : ∃ g2, q_sem (d + 1) mX7_write 0 [.ref (w + q.1), .int row, .int (nI c), .int v] [] (q_K o g) = some (none, q_K o g2) ∧ repC w g2 (q_aw S (N q.2.2.2.2.1) (q.2.2.2.2.2 + c) row v) N ∧ q_fr w g g2 := by
  obtain ⟨g2, e, h, hf⟩ := t_write (o := o) (W_tb hr.1 q hq) (hr.2.1 q hq) hc (q_tbs_sm q hq).2.2.2.1 d row v
  exact ⟨g2, e, w_rep hq hr h hf (fun f i hfi => q_aw_ne (by omega)) (fun _ _ => rfl) (fun z => absurd z h16), q_o2_fr hf (q_tbs_sm q hq).2.1⟩
theorem q_an_ne {b C R : Nat} {v : Int32} {f i : Nat} (h : ¬ (i = R ∧ b ≤ f ∧ f < b + C)) : q_an S b C R v f i = S f i := if_neg h
theorem w_add (hq : q ∈ q_tbs) (hr : repC w g S N) (hR : N q.2.2.2.2.1 < q.2.1) (h16 : q.1 ≠ 16) (d : Nat) (v : Int32) : ∃ g2, q_sem (d + 2) mX7_add 0 [.ref (w + q.1), .int v, .retAddr 0] [] (q_K o g) = some (some (.int (nI (N q.2.2.2.2.1))), q_K o g2) ∧ repC w g2 (q_an S q.2.2.2.2.2 q.2.2.2.1 (N q.2.2.2.2.1) v) (q_nu N q.2.2.2.2.1 (N q.2.2.2.2.1 + 1)) ∧ q_fr w g g2 := by
  have hs := q_tbs_sm q hq
  obtain ⟨g2, e, h, hf, _⟩ := t_add (o := o) (W_tb hr.1 q hq) (hr.2.1 q hq) hR hs.2.2.2.1 hs.2.2.1 d v
  exact ⟨g2, e, w_rep hq hr (by rw [q_nu_eq]; exact h) hf (fun f i hfi => q_an_ne (by omega)) (fun i hi => q_nu_ne hi) (fun z => absurd z h16), q_o2_fr hf hs.2.1⟩
theorem w_addF (hq : q ∈ q_tbs) (hr : repC w g S N) (hR : N q.2.2.2.2.1 = q.2.1) (d : Nat) (v : Int32) : q_sem (d + 2) mX7_add 0 [.ref (w + q.1), .int v, .retAddr 0] [] (q_K o g) = some (some (.int (-1)), q_K o g) := by
  have h := hr.2.1 q hq
  rw [hR] at h
  exact t_addF (W_tb hr.1 q hq) h d v
theorem w_clear (hq : q ∈ q_tbs) (hr : repC w g S N) (d : Nat) : ∃ g2, q_sem (d + 1) mX7_clear 0 [.ref (w + q.1)] [] (q_K o g) = some (none, q_K o g2) ∧ repC w g2 S (q_nu N q.2.2.2.2.1 0) ∧ q_fr w g g2 := by
  have hs := q_tbs_sm q hq
  obtain ⟨g2, e, h, hf⟩ := t_clear (o := o) (W_tb hr.1 q hq) (hr.2.1 q hq) d
  have hf2 : q_o2 (w + q.1) (w + q.1 + 1) g g2 := fun p k h0 _ => hf p k h0 h0
  refine ⟨g2, e, w_rep hq hr (by rw [q_nu_eq]; exact h) hf2 (fun _ _ _ => rfl) (fun i hi => q_nu_ne hi) ?_, q_o2_fr hf2 hs.2.1⟩
  intro z r h1
  have e6 : q.2.2.2.2.1 = 6 := by
    have : ∀ q ∈ q_tbs, q.1 = 16 → q.2.2.2.2.1 = 6 := by decide
    exact this q hq z
  rw [e6, q_nu_eq] at h1
  omega
theorem w_cnt (hq : q ∈ q_tbs) (hr : repC w g S N) : N q.2.2.2.2.1 ≤ q.2.1 := (hr.2.1 q hq).1.2.2.2
theorem w_get_ma0 (hr : repC w g S N) (d : Nat) (row : Int32) : q_sem (d + 1) mX7_get 0 [.ref (w + 1), .int row, .int 0] [] (q_K o g) = some (some (.int (q_at S (N 0) 1 row)), q_K o g) := w_get (q := (1, 6, 3, 3, 0, 1)) (by decide) hr (c := 0) (by decide) d row
theorem w_write_ma0 (hr : repC w g S N) (d : Nat) (row v : Int32) : ∃ g2, q_sem (d + 1) mX7_write 0 [.ref (w + 1), .int row, .int 0, .int v] [] (q_K o g) = some (none, q_K o g2) ∧ repC w g2 (q_aw S (N 0) 1 row v) N ∧ q_fr w g g2 := w_write (q := (1, 6, 3, 3, 0, 1)) (by decide) hr (c := 0) (by decide) (by decide) d row v
theorem w_get_ma1 (hr : repC w g S N) (d : Nat) (row : Int32) : q_sem (d + 1) mX7_get 0 [.ref (w + 1), .int row, .int 1] [] (q_K o g) = some (some (.int (q_at S (N 0) 2 row)), q_K o g) := w_get (q := (1, 6, 3, 3, 0, 1)) (by decide) hr (c := 1) (by decide) d row
theorem w_write_ma1 (hr : repC w g S N) (d : Nat) (row v : Int32) : ∃ g2, q_sem (d + 1) mX7_write 0 [.ref (w + 1), .int row, .int 1, .int v] [] (q_K o g) = some (none, q_K o g2) ∧ repC w g2 (q_aw S (N 0) 2 row v) N ∧ q_fr w g g2 := w_write (q := (1, 6, 3, 3, 0, 1)) (by decide) hr (c := 1) (by decide) (by decide) d row v
theorem w_get_ma2 (hr : repC w g S N) (d : Nat) (row : Int32) : q_sem (d + 1) mX7_get 0 [.ref (w + 1), .int row, .int 2] [] (q_K o g) = some (some (.int (q_at S (N 0) 3 row)), q_K o g) := w_get (q := (1, 6, 3, 3, 0, 1)) (by decide) hr (c := 2) (by decide) d row
theorem w_write_ma2 (hr : repC w g S N) (d : Nat) (row v : Int32) : ∃ g2, q_sem (d + 1) mX7_write 0 [.ref (w + 1), .int row, .int 2, .int v] [] (q_K o g) = some (none, q_K o g2) ∧ repC w g2 (q_aw S (N 0) 3 row v) N ∧ q_fr w g g2 := w_write (q := (1, 6, 3, 3, 0, 1)) (by decide) hr (c := 2) (by decide) (by decide) d row v
theorem w_size_ma (hr : repC w g S N) (d : Nat) : q_sem (d + 1) mX7_size 0 [.ref (w + 1)] [] (q_K o g) = some (some (.int (nI (N 0))), q_K o g) := w_size (q := (1, 6, 3, 3, 0, 1)) (by decide) hr d
theorem w_has_ma (hr : repC w g S N) (d : Nat) (row : Int32) : q_sem (d + 1) mX7_has 0 [.ref (w + 1), .int row] [] (q_K o g) = some (some (.int (if 0 ≤ row ∧ row < nI (N 0) then 1 else 0)), q_K o g) := w_has (q := (1, 6, 3, 3, 0, 1)) (by decide) hr d row
theorem w_full_ma (hr : repC w g S N) (d : Nat) : q_sem (d + 1) mX7_isFull 0 [.ref (w + 1)] [] (q_K o g) = some (some (.int (if N 0 = 6 then 1 else 0)), q_K o g) := w_full (q := (1, 6, 3, 3, 0, 1)) (by decide) hr d
theorem w_add_ma (hr : repC w g S N) (hR : N 0 < 6) (d : Nat) (v : Int32) : ∃ g2, q_sem (d + 2) mX7_add 0 [.ref (w + 1), .int v, .retAddr 0] [] (q_K o g) = some (some (.int (nI (N 0))), q_K o g2) ∧ repC w g2 (q_an S 1 3 (N 0) v) (q_nu N 0 (N 0 + 1)) ∧ q_fr w g g2 := w_add (q := (1, 6, 3, 3, 0, 1)) (by decide) hr hR (by decide) d v
theorem w_addF_ma (hr : repC w g S N) (hR : N 0 = 6) (d : Nat) (v : Int32) : q_sem (d + 2) mX7_add 0 [.ref (w + 1), .int v, .retAddr 0] [] (q_K o g) = some (some (.int (-1)), q_K o g) := w_addF (q := (1, 6, 3, 3, 0, 1)) (by decide) hr hR d v
theorem w_clear_ma (hr : repC w g S N) (d : Nat) : ∃ g2, q_sem (d + 1) mX7_clear 0 [.ref (w + 1)] [] (q_K o g) = some (none, q_K o g2) ∧ repC w g2 S (q_nu N 0 0) ∧ q_fr w g g2 := w_clear (q := (1, 6, 3, 3, 0, 1)) (by decide) hr d
theorem r_get_ma0 (hr : repC 1 g S N) (d : Nat) (row : Int32) : q_sem (d + 1) mX7_get 0 [.ref 2, .int row, .int 0] [] (q_K o g) = some (some (.int (q_at S (N 0) 1 row)), q_K o g) := w_get (q := (1, 6, 3, 3, 0, 1)) (by decide) hr (c := 0) (by decide) d row
theorem r_write_ma0 (hr : repC 1 g S N) (d : Nat) (row v : Int32) : ∃ g2, q_sem (d + 1) mX7_write 0 [.ref 2, .int row, .int 0, .int v] [] (q_K o g) = some (none, q_K o g2) ∧ repC 1 g2 (q_aw S (N 0) 1 row v) N ∧ q_fr 1 g g2 := w_write (q := (1, 6, 3, 3, 0, 1)) (by decide) hr (c := 0) (by decide) (by decide) d row v
theorem r_get_ma1 (hr : repC 1 g S N) (d : Nat) (row : Int32) : q_sem (d + 1) mX7_get 0 [.ref 2, .int row, .int 1] [] (q_K o g) = some (some (.int (q_at S (N 0) 2 row)), q_K o g) := w_get (q := (1, 6, 3, 3, 0, 1)) (by decide) hr (c := 1) (by decide) d row
theorem r_write_ma1 (hr : repC 1 g S N) (d : Nat) (row v : Int32) : ∃ g2, q_sem (d + 1) mX7_write 0 [.ref 2, .int row, .int 1, .int v] [] (q_K o g) = some (none, q_K o g2) ∧ repC 1 g2 (q_aw S (N 0) 2 row v) N ∧ q_fr 1 g g2 := w_write (q := (1, 6, 3, 3, 0, 1)) (by decide) hr (c := 1) (by decide) (by decide) d row v
theorem r_get_ma2 (hr : repC 1 g S N) (d : Nat) (row : Int32) : q_sem (d + 1) mX7_get 0 [.ref 2, .int row, .int 2] [] (q_K o g) = some (some (.int (q_at S (N 0) 3 row)), q_K o g) := w_get (q := (1, 6, 3, 3, 0, 1)) (by decide) hr (c := 2) (by decide) d row
theorem r_write_ma2 (hr : repC 1 g S N) (d : Nat) (row v : Int32) : ∃ g2, q_sem (d + 1) mX7_write 0 [.ref 2, .int row, .int 2, .int v] [] (q_K o g) = some (none, q_K o g2) ∧ repC 1 g2 (q_aw S (N 0) 3 row v) N ∧ q_fr 1 g g2 := w_write (q := (1, 6, 3, 3, 0, 1)) (by decide) hr (c := 2) (by decide) (by decide) d row v
theorem r_size_ma (hr : repC 1 g S N) (d : Nat) : q_sem (d + 1) mX7_size 0 [.ref 2] [] (q_K o g) = some (some (.int (nI (N 0))), q_K o g) := w_size (q := (1, 6, 3, 3, 0, 1)) (by decide) hr d
theorem r_has_ma (hr : repC 1 g S N) (d : Nat) (row : Int32) : q_sem (d + 1) mX7_has 0 [.ref 2, .int row] [] (q_K o g) = some (some (.int (if 0 ≤ row ∧ row < nI (N 0) then 1 else 0)), q_K o g) := w_has (q := (1, 6, 3, 3, 0, 1)) (by decide) hr d row
theorem r_full_ma (hr : repC 1 g S N) (d : Nat) : q_sem (d + 1) mX7_isFull 0 [.ref 2] [] (q_K o g) = some (some (.int (if N 0 = 6 then 1 else 0)), q_K o g) := w_full (q := (1, 6, 3, 3, 0, 1)) (by decide) hr d
theorem r_add_ma (hr : repC 1 g S N) (hR : N 0 < 6) (d : Nat) (v : Int32) : ∃ g2, q_sem (d + 2) mX7_add 0 [.ref 2, .int v, .retAddr 0] [] (q_K o g) = some (some (.int (nI (N 0))), q_K o g2) ∧ repC 1 g2 (q_an S 1 3 (N 0) v) (q_nu N 0 (N 0 + 1)) ∧ q_fr 1 g g2 := w_add (q := (1, 6, 3, 3, 0, 1)) (by decide) hr hR (by decide) d v
theorem r_addF_ma (hr : repC 1 g S N) (hR : N 0 = 6) (d : Nat) (v : Int32) : q_sem (d + 2) mX7_add 0 [.ref 2, .int v, .retAddr 0] [] (q_K o g) = some (some (.int (-1)), q_K o g) := w_addF (q := (1, 6, 3, 3, 0, 1)) (by decide) hr hR d v
theorem r_clear_ma (hr : repC 1 g S N) (d : Nat) : ∃ g2, q_sem (d + 1) mX7_clear 0 [.ref 2] [] (q_K o g) = some (none, q_K o g2) ∧ repC 1 g2 S (q_nu N 0 0) ∧ q_fr 1 g g2 := w_clear (q := (1, 6, 3, 3, 0, 1)) (by decide) hr d
theorem n_cnt_ma (hr : repC w g S N) : N 0 ≤ 6 := w_cnt (q := (1, 6, 3, 3, 0, 1)) (by decide) hr
theorem w_get_po0 (hr : repC w g S N) (d : Nat) (row : Int32) : q_sem (d + 1) mX7_get 0 [.ref (w + 3), .int row, .int 0] [] (q_K o g) = some (some (.int (q_at S (N 1) 4 row)), q_K o g) := w_get (q := (3, 8, 2, 2, 1, 4)) (by decide) hr (c := 0) (by decide) d row
theorem w_write_po0 (hr : repC w g S N) (d : Nat) (row v : Int32) : ∃ g2, q_sem (d + 1) mX7_write 0 [.ref (w + 3), .int row, .int 0, .int v] [] (q_K o g) = some (none, q_K o g2) ∧ repC w g2 (q_aw S (N 1) 4 row v) N ∧ q_fr w g g2 := w_write (q := (3, 8, 2, 2, 1, 4)) (by decide) hr (c := 0) (by decide) (by decide) d row v
theorem w_get_po1 (hr : repC w g S N) (d : Nat) (row : Int32) : q_sem (d + 1) mX7_get 0 [.ref (w + 3), .int row, .int 1] [] (q_K o g) = some (some (.int (q_at S (N 1) 5 row)), q_K o g) := w_get (q := (3, 8, 2, 2, 1, 4)) (by decide) hr (c := 1) (by decide) d row
theorem w_write_po1 (hr : repC w g S N) (d : Nat) (row v : Int32) : ∃ g2, q_sem (d + 1) mX7_write 0 [.ref (w + 3), .int row, .int 1, .int v] [] (q_K o g) = some (none, q_K o g2) ∧ repC w g2 (q_aw S (N 1) 5 row v) N ∧ q_fr w g g2 := w_write (q := (3, 8, 2, 2, 1, 4)) (by decide) hr (c := 1) (by decide) (by decide) d row v
theorem w_size_po (hr : repC w g S N) (d : Nat) : q_sem (d + 1) mX7_size 0 [.ref (w + 3)] [] (q_K o g) = some (some (.int (nI (N 1))), q_K o g) := w_size (q := (3, 8, 2, 2, 1, 4)) (by decide) hr d
theorem w_has_po (hr : repC w g S N) (d : Nat) (row : Int32) : q_sem (d + 1) mX7_has 0 [.ref (w + 3), .int row] [] (q_K o g) = some (some (.int (if 0 ≤ row ∧ row < nI (N 1) then 1 else 0)), q_K o g) := w_has (q := (3, 8, 2, 2, 1, 4)) (by decide) hr d row
theorem w_full_po (hr : repC w g S N) (d : Nat) : q_sem (d + 1) mX7_isFull 0 [.ref (w + 3)] [] (q_K o g) = some (some (.int (if N 1 = 8 then 1 else 0)), q_K o g) := w_full (q := (3, 8, 2, 2, 1, 4)) (by decide) hr d
theorem w_add_po (hr : repC w g S N) (hR : N 1 < 8) (d : Nat) (v : Int32) : ∃ g2, q_sem (d + 2) mX7_add 0 [.ref (w + 3), .int v, .retAddr 0] [] (q_K o g) = some (some (.int (nI (N 1))), q_K o g2) ∧ repC w g2 (q_an S 4 2 (N 1) v) (q_nu N 1 (N 1 + 1)) ∧ q_fr w g g2 := w_add (q := (3, 8, 2, 2, 1, 4)) (by decide) hr hR (by decide) d v
theorem w_addF_po (hr : repC w g S N) (hR : N 1 = 8) (d : Nat) (v : Int32) : q_sem (d + 2) mX7_add 0 [.ref (w + 3), .int v, .retAddr 0] [] (q_K o g) = some (some (.int (-1)), q_K o g) := w_addF (q := (3, 8, 2, 2, 1, 4)) (by decide) hr hR d v
theorem w_clear_po (hr : repC w g S N) (d : Nat) : ∃ g2, q_sem (d + 1) mX7_clear 0 [.ref (w + 3)] [] (q_K o g) = some (none, q_K o g2) ∧ repC w g2 S (q_nu N 1 0) ∧ q_fr w g g2 := w_clear (q := (3, 8, 2, 2, 1, 4)) (by decide) hr d
theorem r_get_po0 (hr : repC 1 g S N) (d : Nat) (row : Int32) : q_sem (d + 1) mX7_get 0 [.ref 4, .int row, .int 0] [] (q_K o g) = some (some (.int (q_at S (N 1) 4 row)), q_K o g) := w_get (q := (3, 8, 2, 2, 1, 4)) (by decide) hr (c := 0) (by decide) d row
theorem r_write_po0 (hr : repC 1 g S N) (d : Nat) (row v : Int32) : ∃ g2, q_sem (d + 1) mX7_write 0 [.ref 4, .int row, .int 0, .int v] [] (q_K o g) = some (none, q_K o g2) ∧ repC 1 g2 (q_aw S (N 1) 4 row v) N ∧ q_fr 1 g g2 := w_write (q := (3, 8, 2, 2, 1, 4)) (by decide) hr (c := 0) (by decide) (by decide) d row v
theorem r_get_po1 (hr : repC 1 g S N) (d : Nat) (row : Int32) : q_sem (d + 1) mX7_get 0 [.ref 4, .int row, .int 1] [] (q_K o g) = some (some (.int (q_at S (N 1) 5 row)), q_K o g) := w_get (q := (3, 8, 2, 2, 1, 4)) (by decide) hr (c := 1) (by decide) d row
theorem r_write_po1 (hr : repC 1 g S N) (d : Nat) (row v : Int32) : ∃ g2, q_sem (d + 1) mX7_write 0 [.ref 4, .int row, .int 1, .int v] [] (q_K o g) = some (none, q_K o g2) ∧ repC 1 g2 (q_aw S (N 1) 5 row v) N ∧ q_fr 1 g g2 := w_write (q := (3, 8, 2, 2, 1, 4)) (by decide) hr (c := 1) (by decide) (by decide) d row v
theorem r_size_po (hr : repC 1 g S N) (d : Nat) : q_sem (d + 1) mX7_size 0 [.ref 4] [] (q_K o g) = some (some (.int (nI (N 1))), q_K o g) := w_size (q := (3, 8, 2, 2, 1, 4)) (by decide) hr d
theorem r_has_po (hr : repC 1 g S N) (d : Nat) (row : Int32) : q_sem (d + 1) mX7_has 0 [.ref 4, .int row] [] (q_K o g) = some (some (.int (if 0 ≤ row ∧ row < nI (N 1) then 1 else 0)), q_K o g) := w_has (q := (3, 8, 2, 2, 1, 4)) (by decide) hr d row
theorem r_full_po (hr : repC 1 g S N) (d : Nat) : q_sem (d + 1) mX7_isFull 0 [.ref 4] [] (q_K o g) = some (some (.int (if N 1 = 8 then 1 else 0)), q_K o g) := w_full (q := (3, 8, 2, 2, 1, 4)) (by decide) hr d
theorem r_add_po (hr : repC 1 g S N) (hR : N 1 < 8) (d : Nat) (v : Int32) : ∃ g2, q_sem (d + 2) mX7_add 0 [.ref 4, .int v, .retAddr 0] [] (q_K o g) = some (some (.int (nI (N 1))), q_K o g2) ∧ repC 1 g2 (q_an S 4 2 (N 1) v) (q_nu N 1 (N 1 + 1)) ∧ q_fr 1 g g2 := w_add (q := (3, 8, 2, 2, 1, 4)) (by decide) hr hR (by decide) d v
theorem r_addF_po (hr : repC 1 g S N) (hR : N 1 = 8) (d : Nat) (v : Int32) : q_sem (d + 2) mX7_add 0 [.ref 4, .int v, .retAddr 0] [] (q_K o g) = some (some (.int (-1)), q_K o g) := w_addF (q := (3, 8, 2, 2, 1, 4)) (by decide) hr hR d v
theorem r_clear_po (hr : repC 1 g S N) (d : Nat) : ∃ g2, q_sem (d + 1) mX7_clear 0 [.ref 4] [] (q_K o g) = some (none, q_K o g2) ∧ repC 1 g2 S (q_nu N 1 0) ∧ q_fr 1 g g2 := w_clear (q := (3, 8, 2, 2, 1, 4)) (by decide) hr d
theorem n_cnt_po (hr : repC w g S N) : N 1 ≤ 8 := w_cnt (q := (3, 8, 2, 2, 1, 4)) (by decide) hr
theorem w_get_pl0 (hr : repC w g S N) (d : Nat) (row : Int32) : q_sem (d + 1) mX7_get 0 [.ref (w + 5), .int row, .int 0] [] (q_K o g) = some (some (.int (q_at S (N 2) 6 row)), q_K o g) := w_get (q := (5, 24, 3, 3, 2, 6)) (by decide) hr (c := 0) (by decide) d row
theorem w_write_pl0 (hr : repC w g S N) (d : Nat) (row v : Int32) : ∃ g2, q_sem (d + 1) mX7_write 0 [.ref (w + 5), .int row, .int 0, .int v] [] (q_K o g) = some (none, q_K o g2) ∧ repC w g2 (q_aw S (N 2) 6 row v) N ∧ q_fr w g g2 := w_write (q := (5, 24, 3, 3, 2, 6)) (by decide) hr (c := 0) (by decide) (by decide) d row v
theorem w_get_pl1 (hr : repC w g S N) (d : Nat) (row : Int32) : q_sem (d + 1) mX7_get 0 [.ref (w + 5), .int row, .int 1] [] (q_K o g) = some (some (.int (q_at S (N 2) 7 row)), q_K o g) := w_get (q := (5, 24, 3, 3, 2, 6)) (by decide) hr (c := 1) (by decide) d row
theorem w_write_pl1 (hr : repC w g S N) (d : Nat) (row v : Int32) : ∃ g2, q_sem (d + 1) mX7_write 0 [.ref (w + 5), .int row, .int 1, .int v] [] (q_K o g) = some (none, q_K o g2) ∧ repC w g2 (q_aw S (N 2) 7 row v) N ∧ q_fr w g g2 := w_write (q := (5, 24, 3, 3, 2, 6)) (by decide) hr (c := 1) (by decide) (by decide) d row v
theorem w_get_pl2 (hr : repC w g S N) (d : Nat) (row : Int32) : q_sem (d + 1) mX7_get 0 [.ref (w + 5), .int row, .int 2] [] (q_K o g) = some (some (.int (q_at S (N 2) 8 row)), q_K o g) := w_get (q := (5, 24, 3, 3, 2, 6)) (by decide) hr (c := 2) (by decide) d row
theorem w_write_pl2 (hr : repC w g S N) (d : Nat) (row v : Int32) : ∃ g2, q_sem (d + 1) mX7_write 0 [.ref (w + 5), .int row, .int 2, .int v] [] (q_K o g) = some (none, q_K o g2) ∧ repC w g2 (q_aw S (N 2) 8 row v) N ∧ q_fr w g g2 := w_write (q := (5, 24, 3, 3, 2, 6)) (by decide) hr (c := 2) (by decide) (by decide) d row v
theorem w_size_pl (hr : repC w g S N) (d : Nat) : q_sem (d + 1) mX7_size 0 [.ref (w + 5)] [] (q_K o g) = some (some (.int (nI (N 2))), q_K o g) := w_size (q := (5, 24, 3, 3, 2, 6)) (by decide) hr d
theorem w_has_pl (hr : repC w g S N) (d : Nat) (row : Int32) : q_sem (d + 1) mX7_has 0 [.ref (w + 5), .int row] [] (q_K o g) = some (some (.int (if 0 ≤ row ∧ row < nI (N 2) then 1 else 0)), q_K o g) := w_has (q := (5, 24, 3, 3, 2, 6)) (by decide) hr d row
theorem w_full_pl (hr : repC w g S N) (d : Nat) : q_sem (d + 1) mX7_isFull 0 [.ref (w + 5)] [] (q_K o g) = some (some (.int (if N 2 = 24 then 1 else 0)), q_K o g) := w_full (q := (5, 24, 3, 3, 2, 6)) (by decide) hr d
theorem w_add_pl (hr : repC w g S N) (hR : N 2 < 24) (d : Nat) (v : Int32) : ∃ g2, q_sem (d + 2) mX7_add 0 [.ref (w + 5), .int v, .retAddr 0] [] (q_K o g) = some (some (.int (nI (N 2))), q_K o g2) ∧ repC w g2 (q_an S 6 3 (N 2) v) (q_nu N 2 (N 2 + 1)) ∧ q_fr w g g2 := w_add (q := (5, 24, 3, 3, 2, 6)) (by decide) hr hR (by decide) d v
theorem w_addF_pl (hr : repC w g S N) (hR : N 2 = 24) (d : Nat) (v : Int32) : q_sem (d + 2) mX7_add 0 [.ref (w + 5), .int v, .retAddr 0] [] (q_K o g) = some (some (.int (-1)), q_K o g) := w_addF (q := (5, 24, 3, 3, 2, 6)) (by decide) hr hR d v
theorem w_clear_pl (hr : repC w g S N) (d : Nat) : ∃ g2, q_sem (d + 1) mX7_clear 0 [.ref (w + 5)] [] (q_K o g) = some (none, q_K o g2) ∧ repC w g2 S (q_nu N 2 0) ∧ q_fr w g g2 := w_clear (q := (5, 24, 3, 3, 2, 6)) (by decide) hr d
theorem r_get_pl0 (hr : repC 1 g S N) (d : Nat) (row : Int32) : q_sem (d + 1) mX7_get 0 [.ref 6, .int row, .int 0] [] (q_K o g) = some (some (.int (q_at S (N 2) 6 row)), q_K o g) := w_get (q := (5, 24, 3, 3, 2, 6)) (by decide) hr (c := 0) (by decide) d row
theorem r_write_pl0 (hr : repC 1 g S N) (d : Nat) (row v : Int32) : ∃ g2, q_sem (d + 1) mX7_write 0 [.ref 6, .int row, .int 0, .int v] [] (q_K o g) = some (none, q_K o g2) ∧ repC 1 g2 (q_aw S (N 2) 6 row v) N ∧ q_fr 1 g g2 := w_write (q := (5, 24, 3, 3, 2, 6)) (by decide) hr (c := 0) (by decide) (by decide) d row v
theorem r_get_pl1 (hr : repC 1 g S N) (d : Nat) (row : Int32) : q_sem (d + 1) mX7_get 0 [.ref 6, .int row, .int 1] [] (q_K o g) = some (some (.int (q_at S (N 2) 7 row)), q_K o g) := w_get (q := (5, 24, 3, 3, 2, 6)) (by decide) hr (c := 1) (by decide) d row
theorem r_write_pl1 (hr : repC 1 g S N) (d : Nat) (row v : Int32) : ∃ g2, q_sem (d + 1) mX7_write 0 [.ref 6, .int row, .int 1, .int v] [] (q_K o g) = some (none, q_K o g2) ∧ repC 1 g2 (q_aw S (N 2) 7 row v) N ∧ q_fr 1 g g2 := w_write (q := (5, 24, 3, 3, 2, 6)) (by decide) hr (c := 1) (by decide) (by decide) d row v
theorem r_get_pl2 (hr : repC 1 g S N) (d : Nat) (row : Int32) : q_sem (d + 1) mX7_get 0 [.ref 6, .int row, .int 2] [] (q_K o g) = some (some (.int (q_at S (N 2) 8 row)), q_K o g) := w_get (q := (5, 24, 3, 3, 2, 6)) (by decide) hr (c := 2) (by decide) d row
theorem r_write_pl2 (hr : repC 1 g S N) (d : Nat) (row v : Int32) : ∃ g2, q_sem (d + 1) mX7_write 0 [.ref 6, .int row, .int 2, .int v] [] (q_K o g) = some (none, q_K o g2) ∧ repC 1 g2 (q_aw S (N 2) 8 row v) N ∧ q_fr 1 g g2 := w_write (q := (5, 24, 3, 3, 2, 6)) (by decide) hr (c := 2) (by decide) (by decide) d row v
theorem r_size_pl (hr : repC 1 g S N) (d : Nat) : q_sem (d + 1) mX7_size 0 [.ref 6] [] (q_K o g) = some (some (.int (nI (N 2))), q_K o g) := w_size (q := (5, 24, 3, 3, 2, 6)) (by decide) hr d
theorem r_has_pl (hr : repC 1 g S N) (d : Nat) (row : Int32) : q_sem (d + 1) mX7_has 0 [.ref 6, .int row] [] (q_K o g) = some (some (.int (if 0 ≤ row ∧ row < nI (N 2) then 1 else 0)), q_K o g) := w_has (q := (5, 24, 3, 3, 2, 6)) (by decide) hr d row
theorem r_full_pl (hr : repC 1 g S N) (d : Nat) : q_sem (d + 1) mX7_isFull 0 [.ref 6] [] (q_K o g) = some (some (.int (if N 2 = 24 then 1 else 0)), q_K o g) := w_full (q := (5, 24, 3, 3, 2, 6)) (by decide) hr d
theorem r_add_pl (hr : repC 1 g S N) (hR : N 2 < 24) (d : Nat) (v : Int32) : ∃ g2, q_sem (d + 2) mX7_add 0 [.ref 6, .int v, .retAddr 0] [] (q_K o g) = some (some (.int (nI (N 2))), q_K o g2) ∧ repC 1 g2 (q_an S 6 3 (N 2) v) (q_nu N 2 (N 2 + 1)) ∧ q_fr 1 g g2 := w_add (q := (5, 24, 3, 3, 2, 6)) (by decide) hr hR (by decide) d v
theorem r_addF_pl (hr : repC 1 g S N) (hR : N 2 = 24) (d : Nat) (v : Int32) : q_sem (d + 2) mX7_add 0 [.ref 6, .int v, .retAddr 0] [] (q_K o g) = some (some (.int (-1)), q_K o g) := w_addF (q := (5, 24, 3, 3, 2, 6)) (by decide) hr hR d v
theorem r_clear_pl (hr : repC 1 g S N) (d : Nat) : ∃ g2, q_sem (d + 1) mX7_clear 0 [.ref 6] [] (q_K o g) = some (none, q_K o g2) ∧ repC 1 g2 S (q_nu N 2 0) ∧ q_fr 1 g g2 := w_clear (q := (5, 24, 3, 3, 2, 6)) (by decide) hr d
theorem n_cnt_pl (hr : repC w g S N) : N 2 ≤ 24 := w_cnt (q := (5, 24, 3, 3, 2, 6)) (by decide) hr
theorem w_get_fi0 (hr : repC w g S N) (d : Nat) (row : Int32) : q_sem (d + 1) mX7_get 0 [.ref (w + 7), .int row, .int 0] [] (q_K o g) = some (some (.int (q_at S (N 3) 9 row)), q_K o g) := w_get (q := (7, 5, 1, 1, 3, 9)) (by decide) hr (c := 0) (by decide) d row
theorem w_write_fi0 (hr : repC w g S N) (d : Nat) (row v : Int32) : ∃ g2, q_sem (d + 1) mX7_write 0 [.ref (w + 7), .int row, .int 0, .int v] [] (q_K o g) = some (none, q_K o g2) ∧ repC w g2 (q_aw S (N 3) 9 row v) N ∧ q_fr w g g2 := w_write (q := (7, 5, 1, 1, 3, 9)) (by decide) hr (c := 0) (by decide) (by decide) d row v
theorem w_size_fi (hr : repC w g S N) (d : Nat) : q_sem (d + 1) mX7_size 0 [.ref (w + 7)] [] (q_K o g) = some (some (.int (nI (N 3))), q_K o g) := w_size (q := (7, 5, 1, 1, 3, 9)) (by decide) hr d
theorem w_has_fi (hr : repC w g S N) (d : Nat) (row : Int32) : q_sem (d + 1) mX7_has 0 [.ref (w + 7), .int row] [] (q_K o g) = some (some (.int (if 0 ≤ row ∧ row < nI (N 3) then 1 else 0)), q_K o g) := w_has (q := (7, 5, 1, 1, 3, 9)) (by decide) hr d row
theorem w_full_fi (hr : repC w g S N) (d : Nat) : q_sem (d + 1) mX7_isFull 0 [.ref (w + 7)] [] (q_K o g) = some (some (.int (if N 3 = 5 then 1 else 0)), q_K o g) := w_full (q := (7, 5, 1, 1, 3, 9)) (by decide) hr d
theorem w_add_fi (hr : repC w g S N) (hR : N 3 < 5) (d : Nat) (v : Int32) : ∃ g2, q_sem (d + 2) mX7_add 0 [.ref (w + 7), .int v, .retAddr 0] [] (q_K o g) = some (some (.int (nI (N 3))), q_K o g2) ∧ repC w g2 (q_an S 9 1 (N 3) v) (q_nu N 3 (N 3 + 1)) ∧ q_fr w g g2 := w_add (q := (7, 5, 1, 1, 3, 9)) (by decide) hr hR (by decide) d v
theorem w_addF_fi (hr : repC w g S N) (hR : N 3 = 5) (d : Nat) (v : Int32) : q_sem (d + 2) mX7_add 0 [.ref (w + 7), .int v, .retAddr 0] [] (q_K o g) = some (some (.int (-1)), q_K o g) := w_addF (q := (7, 5, 1, 1, 3, 9)) (by decide) hr hR d v
theorem w_clear_fi (hr : repC w g S N) (d : Nat) : ∃ g2, q_sem (d + 1) mX7_clear 0 [.ref (w + 7)] [] (q_K o g) = some (none, q_K o g2) ∧ repC w g2 S (q_nu N 3 0) ∧ q_fr w g g2 := w_clear (q := (7, 5, 1, 1, 3, 9)) (by decide) hr d
theorem r_get_fi0 (hr : repC 1 g S N) (d : Nat) (row : Int32) : q_sem (d + 1) mX7_get 0 [.ref 8, .int row, .int 0] [] (q_K o g) = some (some (.int (q_at S (N 3) 9 row)), q_K o g) := w_get (q := (7, 5, 1, 1, 3, 9)) (by decide) hr (c := 0) (by decide) d row
theorem r_write_fi0 (hr : repC 1 g S N) (d : Nat) (row v : Int32) : ∃ g2, q_sem (d + 1) mX7_write 0 [.ref 8, .int row, .int 0, .int v] [] (q_K o g) = some (none, q_K o g2) ∧ repC 1 g2 (q_aw S (N 3) 9 row v) N ∧ q_fr 1 g g2 := w_write (q := (7, 5, 1, 1, 3, 9)) (by decide) hr (c := 0) (by decide) (by decide) d row v
theorem r_size_fi (hr : repC 1 g S N) (d : Nat) : q_sem (d + 1) mX7_size 0 [.ref 8] [] (q_K o g) = some (some (.int (nI (N 3))), q_K o g) := w_size (q := (7, 5, 1, 1, 3, 9)) (by decide) hr d
theorem r_has_fi (hr : repC 1 g S N) (d : Nat) (row : Int32) : q_sem (d + 1) mX7_has 0 [.ref 8, .int row] [] (q_K o g) = some (some (.int (if 0 ≤ row ∧ row < nI (N 3) then 1 else 0)), q_K o g) := w_has (q := (7, 5, 1, 1, 3, 9)) (by decide) hr d row
theorem r_full_fi (hr : repC 1 g S N) (d : Nat) : q_sem (d + 1) mX7_isFull 0 [.ref 8] [] (q_K o g) = some (some (.int (if N 3 = 5 then 1 else 0)), q_K o g) := w_full (q := (7, 5, 1, 1, 3, 9)) (by decide) hr d
theorem r_add_fi (hr : repC 1 g S N) (hR : N 3 < 5) (d : Nat) (v : Int32) : ∃ g2, q_sem (d + 2) mX7_add 0 [.ref 8, .int v, .retAddr 0] [] (q_K o g) = some (some (.int (nI (N 3))), q_K o g2) ∧ repC 1 g2 (q_an S 9 1 (N 3) v) (q_nu N 3 (N 3 + 1)) ∧ q_fr 1 g g2 := w_add (q := (7, 5, 1, 1, 3, 9)) (by decide) hr hR (by decide) d v
theorem r_addF_fi (hr : repC 1 g S N) (hR : N 3 = 5) (d : Nat) (v : Int32) : q_sem (d + 2) mX7_add 0 [.ref 8, .int v, .retAddr 0] [] (q_K o g) = some (some (.int (-1)), q_K o g) := w_addF (q := (7, 5, 1, 1, 3, 9)) (by decide) hr hR d v
theorem r_clear_fi (hr : repC 1 g S N) (d : Nat) : ∃ g2, q_sem (d + 1) mX7_clear 0 [.ref 8] [] (q_K o g) = some (none, q_K o g2) ∧ repC 1 g2 S (q_nu N 3 0) ∧ q_fr 1 g g2 := w_clear (q := (7, 5, 1, 1, 3, 9)) (by decide) hr d
theorem n_cnt_fi (hr : repC w g S N) : N 3 ≤ 5 := w_cnt (q := (7, 5, 1, 1, 3, 9)) (by decide) hr
theorem w_get_to0 (hr : repC w g S N) (d : Nat) (row : Int32) : q_sem (d + 1) mX7_get 0 [.ref (w + 9), .int row, .int 0] [] (q_K o g) = some (some (.int (q_at S (N 4) 10 row)), q_K o g) := w_get (q := (9, 6, 4, 4, 4, 10)) (by decide) hr (c := 0) (by decide) d row
theorem w_write_to0 (hr : repC w g S N) (d : Nat) (row v : Int32) : ∃ g2, q_sem (d + 1) mX7_write 0 [.ref (w + 9), .int row, .int 0, .int v] [] (q_K o g) = some (none, q_K o g2) ∧ repC w g2 (q_aw S (N 4) 10 row v) N ∧ q_fr w g g2 := w_write (q := (9, 6, 4, 4, 4, 10)) (by decide) hr (c := 0) (by decide) (by decide) d row v
theorem w_get_to1 (hr : repC w g S N) (d : Nat) (row : Int32) : q_sem (d + 1) mX7_get 0 [.ref (w + 9), .int row, .int 1] [] (q_K o g) = some (some (.int (q_at S (N 4) 11 row)), q_K o g) := w_get (q := (9, 6, 4, 4, 4, 10)) (by decide) hr (c := 1) (by decide) d row
theorem w_write_to1 (hr : repC w g S N) (d : Nat) (row v : Int32) : ∃ g2, q_sem (d + 1) mX7_write 0 [.ref (w + 9), .int row, .int 1, .int v] [] (q_K o g) = some (none, q_K o g2) ∧ repC w g2 (q_aw S (N 4) 11 row v) N ∧ q_fr w g g2 := w_write (q := (9, 6, 4, 4, 4, 10)) (by decide) hr (c := 1) (by decide) (by decide) d row v
theorem w_get_to2 (hr : repC w g S N) (d : Nat) (row : Int32) : q_sem (d + 1) mX7_get 0 [.ref (w + 9), .int row, .int 2] [] (q_K o g) = some (some (.int (q_at S (N 4) 12 row)), q_K o g) := w_get (q := (9, 6, 4, 4, 4, 10)) (by decide) hr (c := 2) (by decide) d row
theorem w_write_to2 (hr : repC w g S N) (d : Nat) (row v : Int32) : ∃ g2, q_sem (d + 1) mX7_write 0 [.ref (w + 9), .int row, .int 2, .int v] [] (q_K o g) = some (none, q_K o g2) ∧ repC w g2 (q_aw S (N 4) 12 row v) N ∧ q_fr w g g2 := w_write (q := (9, 6, 4, 4, 4, 10)) (by decide) hr (c := 2) (by decide) (by decide) d row v
theorem w_get_to3 (hr : repC w g S N) (d : Nat) (row : Int32) : q_sem (d + 1) mX7_get 0 [.ref (w + 9), .int row, .int 3] [] (q_K o g) = some (some (.int (q_at S (N 4) 13 row)), q_K o g) := w_get (q := (9, 6, 4, 4, 4, 10)) (by decide) hr (c := 3) (by decide) d row
theorem w_write_to3 (hr : repC w g S N) (d : Nat) (row v : Int32) : ∃ g2, q_sem (d + 1) mX7_write 0 [.ref (w + 9), .int row, .int 3, .int v] [] (q_K o g) = some (none, q_K o g2) ∧ repC w g2 (q_aw S (N 4) 13 row v) N ∧ q_fr w g g2 := w_write (q := (9, 6, 4, 4, 4, 10)) (by decide) hr (c := 3) (by decide) (by decide) d row v
theorem w_size_to (hr : repC w g S N) (d : Nat) : q_sem (d + 1) mX7_size 0 [.ref (w + 9)] [] (q_K o g) = some (some (.int (nI (N 4))), q_K o g) := w_size (q := (9, 6, 4, 4, 4, 10)) (by decide) hr d
theorem w_has_to (hr : repC w g S N) (d : Nat) (row : Int32) : q_sem (d + 1) mX7_has 0 [.ref (w + 9), .int row] [] (q_K o g) = some (some (.int (if 0 ≤ row ∧ row < nI (N 4) then 1 else 0)), q_K o g) := w_has (q := (9, 6, 4, 4, 4, 10)) (by decide) hr d row
theorem w_full_to (hr : repC w g S N) (d : Nat) : q_sem (d + 1) mX7_isFull 0 [.ref (w + 9)] [] (q_K o g) = some (some (.int (if N 4 = 6 then 1 else 0)), q_K o g) := w_full (q := (9, 6, 4, 4, 4, 10)) (by decide) hr d
theorem w_add_to (hr : repC w g S N) (hR : N 4 < 6) (d : Nat) (v : Int32) : ∃ g2, q_sem (d + 2) mX7_add 0 [.ref (w + 9), .int v, .retAddr 0] [] (q_K o g) = some (some (.int (nI (N 4))), q_K o g2) ∧ repC w g2 (q_an S 10 4 (N 4) v) (q_nu N 4 (N 4 + 1)) ∧ q_fr w g g2 := w_add (q := (9, 6, 4, 4, 4, 10)) (by decide) hr hR (by decide) d v
theorem w_addF_to (hr : repC w g S N) (hR : N 4 = 6) (d : Nat) (v : Int32) : q_sem (d + 2) mX7_add 0 [.ref (w + 9), .int v, .retAddr 0] [] (q_K o g) = some (some (.int (-1)), q_K o g) := w_addF (q := (9, 6, 4, 4, 4, 10)) (by decide) hr hR d v
theorem w_clear_to (hr : repC w g S N) (d : Nat) : ∃ g2, q_sem (d + 1) mX7_clear 0 [.ref (w + 9)] [] (q_K o g) = some (none, q_K o g2) ∧ repC w g2 S (q_nu N 4 0) ∧ q_fr w g g2 := w_clear (q := (9, 6, 4, 4, 4, 10)) (by decide) hr d
theorem r_get_to0 (hr : repC 1 g S N) (d : Nat) (row : Int32) : q_sem (d + 1) mX7_get 0 [.ref 10, .int row, .int 0] [] (q_K o g) = some (some (.int (q_at S (N 4) 10 row)), q_K o g) := w_get (q := (9, 6, 4, 4, 4, 10)) (by decide) hr (c := 0) (by decide) d row
theorem r_write_to0 (hr : repC 1 g S N) (d : Nat) (row v : Int32) : ∃ g2, q_sem (d + 1) mX7_write 0 [.ref 10, .int row, .int 0, .int v] [] (q_K o g) = some (none, q_K o g2) ∧ repC 1 g2 (q_aw S (N 4) 10 row v) N ∧ q_fr 1 g g2 := w_write (q := (9, 6, 4, 4, 4, 10)) (by decide) hr (c := 0) (by decide) (by decide) d row v
theorem r_get_to1 (hr : repC 1 g S N) (d : Nat) (row : Int32) : q_sem (d + 1) mX7_get 0 [.ref 10, .int row, .int 1] [] (q_K o g) = some (some (.int (q_at S (N 4) 11 row)), q_K o g) := w_get (q := (9, 6, 4, 4, 4, 10)) (by decide) hr (c := 1) (by decide) d row
theorem r_write_to1 (hr : repC 1 g S N) (d : Nat) (row v : Int32) : ∃ g2, q_sem (d + 1) mX7_write 0 [.ref 10, .int row, .int 1, .int v] [] (q_K o g) = some (none, q_K o g2) ∧ repC 1 g2 (q_aw S (N 4) 11 row v) N ∧ q_fr 1 g g2 := w_write (q := (9, 6, 4, 4, 4, 10)) (by decide) hr (c := 1) (by decide) (by decide) d row v
theorem r_get_to2 (hr : repC 1 g S N) (d : Nat) (row : Int32) : q_sem (d + 1) mX7_get 0 [.ref 10, .int row, .int 2] [] (q_K o g) = some (some (.int (q_at S (N 4) 12 row)), q_K o g) := w_get (q := (9, 6, 4, 4, 4, 10)) (by decide) hr (c := 2) (by decide) d row
theorem r_write_to2 (hr : repC 1 g S N) (d : Nat) (row v : Int32) : ∃ g2, q_sem (d + 1) mX7_write 0 [.ref 10, .int row, .int 2, .int v] [] (q_K o g) = some (none, q_K o g2) ∧ repC 1 g2 (q_aw S (N 4) 12 row v) N ∧ q_fr 1 g g2 := w_write (q := (9, 6, 4, 4, 4, 10)) (by decide) hr (c := 2) (by decide) (by decide) d row v
theorem r_get_to3 (hr : repC 1 g S N) (d : Nat) (row : Int32) : q_sem (d + 1) mX7_get 0 [.ref 10, .int row, .int 3] [] (q_K o g) = some (some (.int (q_at S (N 4) 13 row)), q_K o g) := w_get (q := (9, 6, 4, 4, 4, 10)) (by decide) hr (c := 3) (by decide) d row
theorem r_write_to3 (hr : repC 1 g S N) (d : Nat) (row v : Int32) : ∃ g2, q_sem (d + 1) mX7_write 0 [.ref 10, .int row, .int 3, .int v] [] (q_K o g) = some (none, q_K o g2) ∧ repC 1 g2 (q_aw S (N 4) 13 row v) N ∧ q_fr 1 g g2 := w_write (q := (9, 6, 4, 4, 4, 10)) (by decide) hr (c := 3) (by decide) (by decide) d row v
theorem r_size_to (hr : repC 1 g S N) (d : Nat) : q_sem (d + 1) mX7_size 0 [.ref 10] [] (q_K o g) = some (some (.int (nI (N 4))), q_K o g) := w_size (q := (9, 6, 4, 4, 4, 10)) (by decide) hr d
theorem r_has_to (hr : repC 1 g S N) (d : Nat) (row : Int32) : q_sem (d + 1) mX7_has 0 [.ref 10, .int row] [] (q_K o g) = some (some (.int (if 0 ≤ row ∧ row < nI (N 4) then 1 else 0)), q_K o g) := w_has (q := (9, 6, 4, 4, 4, 10)) (by decide) hr d row
theorem r_full_to (hr : repC 1 g S N) (d : Nat) : q_sem (d + 1) mX7_isFull 0 [.ref 10] [] (q_K o g) = some (some (.int (if N 4 = 6 then 1 else 0)), q_K o g) := w_full (q := (9, 6, 4, 4, 4, 10)) (by decide) hr d
theorem r_add_to (hr : repC 1 g S N) (hR : N 4 < 6) (d : Nat) (v : Int32) : ∃ g2, q_sem (d + 2) mX7_add 0 [.ref 10, .int v, .retAddr 0] [] (q_K o g) = some (some (.int (nI (N 4))), q_K o g2) ∧ repC 1 g2 (q_an S 10 4 (N 4) v) (q_nu N 4 (N 4 + 1)) ∧ q_fr 1 g g2 := w_add (q := (9, 6, 4, 4, 4, 10)) (by decide) hr hR (by decide) d v
theorem r_addF_to (hr : repC 1 g S N) (hR : N 4 = 6) (d : Nat) (v : Int32) : q_sem (d + 2) mX7_add 0 [.ref 10, .int v, .retAddr 0] [] (q_K o g) = some (some (.int (-1)), q_K o g) := w_addF (q := (9, 6, 4, 4, 4, 10)) (by decide) hr hR d v
theorem r_clear_to (hr : repC 1 g S N) (d : Nat) : ∃ g2, q_sem (d + 1) mX7_clear 0 [.ref 10] [] (q_K o g) = some (none, q_K o g2) ∧ repC 1 g2 S (q_nu N 4 0) ∧ q_fr 1 g g2 := w_clear (q := (9, 6, 4, 4, 4, 10)) (by decide) hr d
theorem n_cnt_to (hr : repC w g S N) : N 4 ≤ 6 := w_cnt (q := (9, 6, 4, 4, 4, 10)) (by decide) hr
theorem w_get_fl0 (hr : repC w g S N) (d : Nat) (row : Int32) : q_sem (d + 1) mX7_get 0 [.ref (w + 11), .int row, .int 0] [] (q_K o g) = some (some (.int (q_at S (N 5) 14 row)), q_K o g) := w_get (q := (11, 16, 12, 12, 5, 14)) (by decide) hr (c := 0) (by decide) d row
theorem w_write_fl0 (hr : repC w g S N) (d : Nat) (row v : Int32) : ∃ g2, q_sem (d + 1) mX7_write 0 [.ref (w + 11), .int row, .int 0, .int v] [] (q_K o g) = some (none, q_K o g2) ∧ repC w g2 (q_aw S (N 5) 14 row v) N ∧ q_fr w g g2 := w_write (q := (11, 16, 12, 12, 5, 14)) (by decide) hr (c := 0) (by decide) (by decide) d row v
theorem w_get_fl1 (hr : repC w g S N) (d : Nat) (row : Int32) : q_sem (d + 1) mX7_get 0 [.ref (w + 11), .int row, .int 1] [] (q_K o g) = some (some (.int (q_at S (N 5) 15 row)), q_K o g) := w_get (q := (11, 16, 12, 12, 5, 14)) (by decide) hr (c := 1) (by decide) d row
theorem w_write_fl1 (hr : repC w g S N) (d : Nat) (row v : Int32) : ∃ g2, q_sem (d + 1) mX7_write 0 [.ref (w + 11), .int row, .int 1, .int v] [] (q_K o g) = some (none, q_K o g2) ∧ repC w g2 (q_aw S (N 5) 15 row v) N ∧ q_fr w g g2 := w_write (q := (11, 16, 12, 12, 5, 14)) (by decide) hr (c := 1) (by decide) (by decide) d row v
theorem w_get_fl2 (hr : repC w g S N) (d : Nat) (row : Int32) : q_sem (d + 1) mX7_get 0 [.ref (w + 11), .int row, .int 2] [] (q_K o g) = some (some (.int (q_at S (N 5) 16 row)), q_K o g) := w_get (q := (11, 16, 12, 12, 5, 14)) (by decide) hr (c := 2) (by decide) d row
theorem w_write_fl2 (hr : repC w g S N) (d : Nat) (row v : Int32) : ∃ g2, q_sem (d + 1) mX7_write 0 [.ref (w + 11), .int row, .int 2, .int v] [] (q_K o g) = some (none, q_K o g2) ∧ repC w g2 (q_aw S (N 5) 16 row v) N ∧ q_fr w g g2 := w_write (q := (11, 16, 12, 12, 5, 14)) (by decide) hr (c := 2) (by decide) (by decide) d row v
theorem w_get_fl3 (hr : repC w g S N) (d : Nat) (row : Int32) : q_sem (d + 1) mX7_get 0 [.ref (w + 11), .int row, .int 3] [] (q_K o g) = some (some (.int (q_at S (N 5) 17 row)), q_K o g) := w_get (q := (11, 16, 12, 12, 5, 14)) (by decide) hr (c := 3) (by decide) d row
theorem w_write_fl3 (hr : repC w g S N) (d : Nat) (row v : Int32) : ∃ g2, q_sem (d + 1) mX7_write 0 [.ref (w + 11), .int row, .int 3, .int v] [] (q_K o g) = some (none, q_K o g2) ∧ repC w g2 (q_aw S (N 5) 17 row v) N ∧ q_fr w g g2 := w_write (q := (11, 16, 12, 12, 5, 14)) (by decide) hr (c := 3) (by decide) (by decide) d row v
theorem w_get_fl4 (hr : repC w g S N) (d : Nat) (row : Int32) : q_sem (d + 1) mX7_get 0 [.ref (w + 11), .int row, .int 4] [] (q_K o g) = some (some (.int (q_at S (N 5) 18 row)), q_K o g) := w_get (q := (11, 16, 12, 12, 5, 14)) (by decide) hr (c := 4) (by decide) d row
theorem w_write_fl4 (hr : repC w g S N) (d : Nat) (row v : Int32) : ∃ g2, q_sem (d + 1) mX7_write 0 [.ref (w + 11), .int row, .int 4, .int v] [] (q_K o g) = some (none, q_K o g2) ∧ repC w g2 (q_aw S (N 5) 18 row v) N ∧ q_fr w g g2 := w_write (q := (11, 16, 12, 12, 5, 14)) (by decide) hr (c := 4) (by decide) (by decide) d row v
theorem w_get_fl5 (hr : repC w g S N) (d : Nat) (row : Int32) : q_sem (d + 1) mX7_get 0 [.ref (w + 11), .int row, .int 5] [] (q_K o g) = some (some (.int (q_at S (N 5) 19 row)), q_K o g) := w_get (q := (11, 16, 12, 12, 5, 14)) (by decide) hr (c := 5) (by decide) d row
theorem w_write_fl5 (hr : repC w g S N) (d : Nat) (row v : Int32) : ∃ g2, q_sem (d + 1) mX7_write 0 [.ref (w + 11), .int row, .int 5, .int v] [] (q_K o g) = some (none, q_K o g2) ∧ repC w g2 (q_aw S (N 5) 19 row v) N ∧ q_fr w g g2 := w_write (q := (11, 16, 12, 12, 5, 14)) (by decide) hr (c := 5) (by decide) (by decide) d row v
theorem w_get_fl6 (hr : repC w g S N) (d : Nat) (row : Int32) : q_sem (d + 1) mX7_get 0 [.ref (w + 11), .int row, .int 6] [] (q_K o g) = some (some (.int (q_at S (N 5) 20 row)), q_K o g) := w_get (q := (11, 16, 12, 12, 5, 14)) (by decide) hr (c := 6) (by decide) d row
theorem w_write_fl6 (hr : repC w g S N) (d : Nat) (row v : Int32) : ∃ g2, q_sem (d + 1) mX7_write 0 [.ref (w + 11), .int row, .int 6, .int v] [] (q_K o g) = some (none, q_K o g2) ∧ repC w g2 (q_aw S (N 5) 20 row v) N ∧ q_fr w g g2 := w_write (q := (11, 16, 12, 12, 5, 14)) (by decide) hr (c := 6) (by decide) (by decide) d row v
theorem w_get_fl7 (hr : repC w g S N) (d : Nat) (row : Int32) : q_sem (d + 1) mX7_get 0 [.ref (w + 11), .int row, .int 7] [] (q_K o g) = some (some (.int (q_at S (N 5) 21 row)), q_K o g) := w_get (q := (11, 16, 12, 12, 5, 14)) (by decide) hr (c := 7) (by decide) d row
theorem w_write_fl7 (hr : repC w g S N) (d : Nat) (row v : Int32) : ∃ g2, q_sem (d + 1) mX7_write 0 [.ref (w + 11), .int row, .int 7, .int v] [] (q_K o g) = some (none, q_K o g2) ∧ repC w g2 (q_aw S (N 5) 21 row v) N ∧ q_fr w g g2 := w_write (q := (11, 16, 12, 12, 5, 14)) (by decide) hr (c := 7) (by decide) (by decide) d row v
theorem w_get_fl8 (hr : repC w g S N) (d : Nat) (row : Int32) : q_sem (d + 1) mX7_get 0 [.ref (w + 11), .int row, .int 8] [] (q_K o g) = some (some (.int (q_at S (N 5) 22 row)), q_K o g) := w_get (q := (11, 16, 12, 12, 5, 14)) (by decide) hr (c := 8) (by decide) d row
theorem w_write_fl8 (hr : repC w g S N) (d : Nat) (row v : Int32) : ∃ g2, q_sem (d + 1) mX7_write 0 [.ref (w + 11), .int row, .int 8, .int v] [] (q_K o g) = some (none, q_K o g2) ∧ repC w g2 (q_aw S (N 5) 22 row v) N ∧ q_fr w g g2 := w_write (q := (11, 16, 12, 12, 5, 14)) (by decide) hr (c := 8) (by decide) (by decide) d row v
theorem w_get_fl9 (hr : repC w g S N) (d : Nat) (row : Int32) : q_sem (d + 1) mX7_get 0 [.ref (w + 11), .int row, .int 9] [] (q_K o g) = some (some (.int (q_at S (N 5) 23 row)), q_K o g) := w_get (q := (11, 16, 12, 12, 5, 14)) (by decide) hr (c := 9) (by decide) d row
theorem w_write_fl9 (hr : repC w g S N) (d : Nat) (row v : Int32) : ∃ g2, q_sem (d + 1) mX7_write 0 [.ref (w + 11), .int row, .int 9, .int v] [] (q_K o g) = some (none, q_K o g2) ∧ repC w g2 (q_aw S (N 5) 23 row v) N ∧ q_fr w g g2 := w_write (q := (11, 16, 12, 12, 5, 14)) (by decide) hr (c := 9) (by decide) (by decide) d row v
theorem w_get_fl10 (hr : repC w g S N) (d : Nat) (row : Int32) : q_sem (d + 1) mX7_get 0 [.ref (w + 11), .int row, .int 10] [] (q_K o g) = some (some (.int (q_at S (N 5) 24 row)), q_K o g) := w_get (q := (11, 16, 12, 12, 5, 14)) (by decide) hr (c := 10) (by decide) d row
theorem w_write_fl10 (hr : repC w g S N) (d : Nat) (row v : Int32) : ∃ g2, q_sem (d + 1) mX7_write 0 [.ref (w + 11), .int row, .int 10, .int v] [] (q_K o g) = some (none, q_K o g2) ∧ repC w g2 (q_aw S (N 5) 24 row v) N ∧ q_fr w g g2 := w_write (q := (11, 16, 12, 12, 5, 14)) (by decide) hr (c := 10) (by decide) (by decide) d row v
theorem w_get_fl11 (hr : repC w g S N) (d : Nat) (row : Int32) : q_sem (d + 1) mX7_get 0 [.ref (w + 11), .int row, .int 11] [] (q_K o g) = some (some (.int (q_at S (N 5) 25 row)), q_K o g) := w_get (q := (11, 16, 12, 12, 5, 14)) (by decide) hr (c := 11) (by decide) d row
theorem w_write_fl11 (hr : repC w g S N) (d : Nat) (row v : Int32) : ∃ g2, q_sem (d + 1) mX7_write 0 [.ref (w + 11), .int row, .int 11, .int v] [] (q_K o g) = some (none, q_K o g2) ∧ repC w g2 (q_aw S (N 5) 25 row v) N ∧ q_fr w g g2 := w_write (q := (11, 16, 12, 12, 5, 14)) (by decide) hr (c := 11) (by decide) (by decide) d row v
theorem w_size_fl (hr : repC w g S N) (d : Nat) : q_sem (d + 1) mX7_size 0 [.ref (w + 11)] [] (q_K o g) = some (some (.int (nI (N 5))), q_K o g) := w_size (q := (11, 16, 12, 12, 5, 14)) (by decide) hr d
theorem w_has_fl (hr : repC w g S N) (d : Nat) (row : Int32) : q_sem (d + 1) mX7_has 0 [.ref (w + 11), .int row] [] (q_K o g) = some (some (.int (if 0 ≤ row ∧ row < nI (N 5) then 1 else 0)), q_K o g) := w_has (q := (11, 16, 12, 12, 5, 14)) (by decide) hr d row
theorem w_full_fl (hr : repC w g S N) (d : Nat) : q_sem (d + 1) mX7_isFull 0 [.ref (w + 11)] [] (q_K o g) = some (some (.int (if N 5 = 16 then 1 else 0)), q_K o g) := w_full (q := (11, 16, 12, 12, 5, 14)) (by decide) hr d
theorem w_add_fl (hr : repC w g S N) (hR : N 5 < 16) (d : Nat) (v : Int32) : ∃ g2, q_sem (d + 2) mX7_add 0 [.ref (w + 11), .int v, .retAddr 0] [] (q_K o g) = some (some (.int (nI (N 5))), q_K o g2) ∧ repC w g2 (q_an S 14 12 (N 5) v) (q_nu N 5 (N 5 + 1)) ∧ q_fr w g g2 := w_add (q := (11, 16, 12, 12, 5, 14)) (by decide) hr hR (by decide) d v
theorem w_addF_fl (hr : repC w g S N) (hR : N 5 = 16) (d : Nat) (v : Int32) : q_sem (d + 2) mX7_add 0 [.ref (w + 11), .int v, .retAddr 0] [] (q_K o g) = some (some (.int (-1)), q_K o g) := w_addF (q := (11, 16, 12, 12, 5, 14)) (by decide) hr hR d v
theorem w_clear_fl (hr : repC w g S N) (d : Nat) : ∃ g2, q_sem (d + 1) mX7_clear 0 [.ref (w + 11)] [] (q_K o g) = some (none, q_K o g2) ∧ repC w g2 S (q_nu N 5 0) ∧ q_fr w g g2 := w_clear (q := (11, 16, 12, 12, 5, 14)) (by decide) hr d
theorem r_get_fl0 (hr : repC 1 g S N) (d : Nat) (row : Int32) : q_sem (d + 1) mX7_get 0 [.ref 12, .int row, .int 0] [] (q_K o g) = some (some (.int (q_at S (N 5) 14 row)), q_K o g) := w_get (q := (11, 16, 12, 12, 5, 14)) (by decide) hr (c := 0) (by decide) d row
theorem r_write_fl0 (hr : repC 1 g S N) (d : Nat) (row v : Int32) : ∃ g2, q_sem (d + 1) mX7_write 0 [.ref 12, .int row, .int 0, .int v] [] (q_K o g) = some (none, q_K o g2) ∧ repC 1 g2 (q_aw S (N 5) 14 row v) N ∧ q_fr 1 g g2 := w_write (q := (11, 16, 12, 12, 5, 14)) (by decide) hr (c := 0) (by decide) (by decide) d row v
theorem r_get_fl1 (hr : repC 1 g S N) (d : Nat) (row : Int32) : q_sem (d + 1) mX7_get 0 [.ref 12, .int row, .int 1] [] (q_K o g) = some (some (.int (q_at S (N 5) 15 row)), q_K o g) := w_get (q := (11, 16, 12, 12, 5, 14)) (by decide) hr (c := 1) (by decide) d row
theorem r_write_fl1 (hr : repC 1 g S N) (d : Nat) (row v : Int32) : ∃ g2, q_sem (d + 1) mX7_write 0 [.ref 12, .int row, .int 1, .int v] [] (q_K o g) = some (none, q_K o g2) ∧ repC 1 g2 (q_aw S (N 5) 15 row v) N ∧ q_fr 1 g g2 := w_write (q := (11, 16, 12, 12, 5, 14)) (by decide) hr (c := 1) (by decide) (by decide) d row v
theorem r_get_fl2 (hr : repC 1 g S N) (d : Nat) (row : Int32) : q_sem (d + 1) mX7_get 0 [.ref 12, .int row, .int 2] [] (q_K o g) = some (some (.int (q_at S (N 5) 16 row)), q_K o g) := w_get (q := (11, 16, 12, 12, 5, 14)) (by decide) hr (c := 2) (by decide) d row
theorem r_write_fl2 (hr : repC 1 g S N) (d : Nat) (row v : Int32) : ∃ g2, q_sem (d + 1) mX7_write 0 [.ref 12, .int row, .int 2, .int v] [] (q_K o g) = some (none, q_K o g2) ∧ repC 1 g2 (q_aw S (N 5) 16 row v) N ∧ q_fr 1 g g2 := w_write (q := (11, 16, 12, 12, 5, 14)) (by decide) hr (c := 2) (by decide) (by decide) d row v
theorem r_get_fl3 (hr : repC 1 g S N) (d : Nat) (row : Int32) : q_sem (d + 1) mX7_get 0 [.ref 12, .int row, .int 3] [] (q_K o g) = some (some (.int (q_at S (N 5) 17 row)), q_K o g) := w_get (q := (11, 16, 12, 12, 5, 14)) (by decide) hr (c := 3) (by decide) d row
theorem r_write_fl3 (hr : repC 1 g S N) (d : Nat) (row v : Int32) : ∃ g2, q_sem (d + 1) mX7_write 0 [.ref 12, .int row, .int 3, .int v] [] (q_K o g) = some (none, q_K o g2) ∧ repC 1 g2 (q_aw S (N 5) 17 row v) N ∧ q_fr 1 g g2 := w_write (q := (11, 16, 12, 12, 5, 14)) (by decide) hr (c := 3) (by decide) (by decide) d row v
theorem r_get_fl4 (hr : repC 1 g S N) (d : Nat) (row : Int32) : q_sem (d + 1) mX7_get 0 [.ref 12, .int row, .int 4] [] (q_K o g) = some (some (.int (q_at S (N 5) 18 row)), q_K o g) := w_get (q := (11, 16, 12, 12, 5, 14)) (by decide) hr (c := 4) (by decide) d row
theorem r_write_fl4 (hr : repC 1 g S N) (d : Nat) (row v : Int32) : ∃ g2, q_sem (d + 1) mX7_write 0 [.ref 12, .int row, .int 4, .int v] [] (q_K o g) = some (none, q_K o g2) ∧ repC 1 g2 (q_aw S (N 5) 18 row v) N ∧ q_fr 1 g g2 := w_write (q := (11, 16, 12, 12, 5, 14)) (by decide) hr (c := 4) (by decide) (by decide) d row v
theorem r_get_fl5 (hr : repC 1 g S N) (d : Nat) (row : Int32) : q_sem (d + 1) mX7_get 0 [.ref 12, .int row, .int 5] [] (q_K o g) = some (some (.int (q_at S (N 5) 19 row)), q_K o g) := w_get (q := (11, 16, 12, 12, 5, 14)) (by decide) hr (c := 5) (by decide) d row
theorem r_write_fl5 (hr : repC 1 g S N) (d : Nat) (row v : Int32) : ∃ g2, q_sem (d + 1) mX7_write 0 [.ref 12, .int row, .int 5, .int v] [] (q_K o g) = some (none, q_K o g2) ∧ repC 1 g2 (q_aw S (N 5) 19 row v) N ∧ q_fr 1 g g2 := w_write (q := (11, 16, 12, 12, 5, 14)) (by decide) hr (c := 5) (by decide) (by decide) d row v
theorem r_get_fl6 (hr : repC 1 g S N) (d : Nat) (row : Int32) : q_sem (d + 1) mX7_get 0 [.ref 12, .int row, .int 6] [] (q_K o g) = some (some (.int (q_at S (N 5) 20 row)), q_K o g) := w_get (q := (11, 16, 12, 12, 5, 14)) (by decide) hr (c := 6) (by decide) d row
theorem r_write_fl6 (hr : repC 1 g S N) (d : Nat) (row v : Int32) : ∃ g2, q_sem (d + 1) mX7_write 0 [.ref 12, .int row, .int 6, .int v] [] (q_K o g) = some (none, q_K o g2) ∧ repC 1 g2 (q_aw S (N 5) 20 row v) N ∧ q_fr 1 g g2 := w_write (q := (11, 16, 12, 12, 5, 14)) (by decide) hr (c := 6) (by decide) (by decide) d row v
theorem r_get_fl7 (hr : repC 1 g S N) (d : Nat) (row : Int32) : q_sem (d + 1) mX7_get 0 [.ref 12, .int row, .int 7] [] (q_K o g) = some (some (.int (q_at S (N 5) 21 row)), q_K o g) := w_get (q := (11, 16, 12, 12, 5, 14)) (by decide) hr (c := 7) (by decide) d row
theorem r_write_fl7 (hr : repC 1 g S N) (d : Nat) (row v : Int32) : ∃ g2, q_sem (d + 1) mX7_write 0 [.ref 12, .int row, .int 7, .int v] [] (q_K o g) = some (none, q_K o g2) ∧ repC 1 g2 (q_aw S (N 5) 21 row v) N ∧ q_fr 1 g g2 := w_write (q := (11, 16, 12, 12, 5, 14)) (by decide) hr (c := 7) (by decide) (by decide) d row v
theorem r_get_fl8 (hr : repC 1 g S N) (d : Nat) (row : Int32) : q_sem (d + 1) mX7_get 0 [.ref 12, .int row, .int 8] [] (q_K o g) = some (some (.int (q_at S (N 5) 22 row)), q_K o g) := w_get (q := (11, 16, 12, 12, 5, 14)) (by decide) hr (c := 8) (by decide) d row
theorem r_write_fl8 (hr : repC 1 g S N) (d : Nat) (row v : Int32) : ∃ g2, q_sem (d + 1) mX7_write 0 [.ref 12, .int row, .int 8, .int v] [] (q_K o g) = some (none, q_K o g2) ∧ repC 1 g2 (q_aw S (N 5) 22 row v) N ∧ q_fr 1 g g2 := w_write (q := (11, 16, 12, 12, 5, 14)) (by decide) hr (c := 8) (by decide) (by decide) d row v
theorem r_get_fl9 (hr : repC 1 g S N) (d : Nat) (row : Int32) : q_sem (d + 1) mX7_get 0 [.ref 12, .int row, .int 9] [] (q_K o g) = some (some (.int (q_at S (N 5) 23 row)), q_K o g) := w_get (q := (11, 16, 12, 12, 5, 14)) (by decide) hr (c := 9) (by decide) d row
theorem r_write_fl9 (hr : repC 1 g S N) (d : Nat) (row v : Int32) : ∃ g2, q_sem (d + 1) mX7_write 0 [.ref 12, .int row, .int 9, .int v] [] (q_K o g) = some (none, q_K o g2) ∧ repC 1 g2 (q_aw S (N 5) 23 row v) N ∧ q_fr 1 g g2 := w_write (q := (11, 16, 12, 12, 5, 14)) (by decide) hr (c := 9) (by decide) (by decide) d row v
theorem r_get_fl10 (hr : repC 1 g S N) (d : Nat) (row : Int32) : q_sem (d + 1) mX7_get 0 [.ref 12, .int row, .int 10] [] (q_K o g) = some (some (.int (q_at S (N 5) 24 row)), q_K o g) := w_get (q := (11, 16, 12, 12, 5, 14)) (by decide) hr (c := 10) (by decide) d row
theorem r_write_fl10 (hr : repC 1 g S N) (d : Nat) (row v : Int32) : ∃ g2, q_sem (d + 1) mX7_write 0 [.ref 12, .int row, .int 10, .int v] [] (q_K o g) = some (none, q_K o g2) ∧ repC 1 g2 (q_aw S (N 5) 24 row v) N ∧ q_fr 1 g g2 := w_write (q := (11, 16, 12, 12, 5, 14)) (by decide) hr (c := 10) (by decide) (by decide) d row v
theorem r_get_fl11 (hr : repC 1 g S N) (d : Nat) (row : Int32) : q_sem (d + 1) mX7_get 0 [.ref 12, .int row, .int 11] [] (q_K o g) = some (some (.int (q_at S (N 5) 25 row)), q_K o g) := w_get (q := (11, 16, 12, 12, 5, 14)) (by decide) hr (c := 11) (by decide) d row
theorem r_write_fl11 (hr : repC 1 g S N) (d : Nat) (row v : Int32) : ∃ g2, q_sem (d + 1) mX7_write 0 [.ref 12, .int row, .int 11, .int v] [] (q_K o g) = some (none, q_K o g2) ∧ repC 1 g2 (q_aw S (N 5) 25 row v) N ∧ q_fr 1 g g2 := w_write (q := (11, 16, 12, 12, 5, 14)) (by decide) hr (c := 11) (by decide) (by decide) d row v
theorem r_size_fl (hr : repC 1 g S N) (d : Nat) : q_sem (d + 1) mX7_size 0 [.ref 12] [] (q_K o g) = some (some (.int (nI (N 5))), q_K o g) := w_size (q := (11, 16, 12, 12, 5, 14)) (by decide) hr d
theorem r_has_fl (hr : repC 1 g S N) (d : Nat) (row : Int32) : q_sem (d + 1) mX7_has 0 [.ref 12, .int row] [] (q_K o g) = some (some (.int (if 0 ≤ row ∧ row < nI (N 5) then 1 else 0)), q_K o g) := w_has (q := (11, 16, 12, 12, 5, 14)) (by decide) hr d row
theorem r_full_fl (hr : repC 1 g S N) (d : Nat) : q_sem (d + 1) mX7_isFull 0 [.ref 12] [] (q_K o g) = some (some (.int (if N 5 = 16 then 1 else 0)), q_K o g) := w_full (q := (11, 16, 12, 12, 5, 14)) (by decide) hr d
theorem r_add_fl (hr : repC 1 g S N) (hR : N 5 < 16) (d : Nat) (v : Int32) : ∃ g2, q_sem (d + 2) mX7_add 0 [.ref 12, .int v, .retAddr 0] [] (q_K o g) = some (some (.int (nI (N 5))), q_K o g2) ∧ repC 1 g2 (q_an S 14 12 (N 5) v) (q_nu N 5 (N 5 + 1)) ∧ q_fr 1 g g2 := w_add (q := (11, 16, 12, 12, 5, 14)) (by decide) hr hR (by decide) d v
theorem r_addF_fl (hr : repC 1 g S N) (hR : N 5 = 16) (d : Nat) (v : Int32) : q_sem (d + 2) mX7_add 0 [.ref 12, .int v, .retAddr 0] [] (q_K o g) = some (some (.int (-1)), q_K o g) := w_addF (q := (11, 16, 12, 12, 5, 14)) (by decide) hr hR d v
theorem r_clear_fl (hr : repC 1 g S N) (d : Nat) : ∃ g2, q_sem (d + 1) mX7_clear 0 [.ref 12] [] (q_K o g) = some (none, q_K o g2) ∧ repC 1 g2 S (q_nu N 5 0) ∧ q_fr 1 g g2 := w_clear (q := (11, 16, 12, 12, 5, 14)) (by decide) hr d
theorem n_cnt_fl (hr : repC w g S N) : N 5 ≤ 16 := w_cnt (q := (11, 16, 12, 12, 5, 14)) (by decide) hr
theorem w_get_wa0 (hr : repC w g S N) (d : Nat) (row : Int32) : q_sem (d + 1) mX7_get 0 [.ref (w + 13), .int row, .int 0] [] (q_K o g) = some (some (.int (q_at S (N 11) 32 row)), q_K o g) := w_get (q := (13, 20, 1, 1, 11, 32)) (by decide) hr (c := 0) (by decide) d row
theorem w_write_wa0 (hr : repC w g S N) (d : Nat) (row v : Int32) : ∃ g2, q_sem (d + 1) mX7_write 0 [.ref (w + 13), .int row, .int 0, .int v] [] (q_K o g) = some (none, q_K o g2) ∧ repC w g2 (q_aw S (N 11) 32 row v) N ∧ q_fr w g g2 := w_write (q := (13, 20, 1, 1, 11, 32)) (by decide) hr (c := 0) (by decide) (by decide) d row v
theorem w_size_wa (hr : repC w g S N) (d : Nat) : q_sem (d + 1) mX7_size 0 [.ref (w + 13)] [] (q_K o g) = some (some (.int (nI (N 11))), q_K o g) := w_size (q := (13, 20, 1, 1, 11, 32)) (by decide) hr d
theorem w_has_wa (hr : repC w g S N) (d : Nat) (row : Int32) : q_sem (d + 1) mX7_has 0 [.ref (w + 13), .int row] [] (q_K o g) = some (some (.int (if 0 ≤ row ∧ row < nI (N 11) then 1 else 0)), q_K o g) := w_has (q := (13, 20, 1, 1, 11, 32)) (by decide) hr d row
theorem w_full_wa (hr : repC w g S N) (d : Nat) : q_sem (d + 1) mX7_isFull 0 [.ref (w + 13)] [] (q_K o g) = some (some (.int (if N 11 = 20 then 1 else 0)), q_K o g) := w_full (q := (13, 20, 1, 1, 11, 32)) (by decide) hr d
theorem w_add_wa (hr : repC w g S N) (hR : N 11 < 20) (d : Nat) (v : Int32) : ∃ g2, q_sem (d + 2) mX7_add 0 [.ref (w + 13), .int v, .retAddr 0] [] (q_K o g) = some (some (.int (nI (N 11))), q_K o g2) ∧ repC w g2 (q_an S 32 1 (N 11) v) (q_nu N 11 (N 11 + 1)) ∧ q_fr w g g2 := w_add (q := (13, 20, 1, 1, 11, 32)) (by decide) hr hR (by decide) d v
theorem w_addF_wa (hr : repC w g S N) (hR : N 11 = 20) (d : Nat) (v : Int32) : q_sem (d + 2) mX7_add 0 [.ref (w + 13), .int v, .retAddr 0] [] (q_K o g) = some (some (.int (-1)), q_K o g) := w_addF (q := (13, 20, 1, 1, 11, 32)) (by decide) hr hR d v
theorem w_clear_wa (hr : repC w g S N) (d : Nat) : ∃ g2, q_sem (d + 1) mX7_clear 0 [.ref (w + 13)] [] (q_K o g) = some (none, q_K o g2) ∧ repC w g2 S (q_nu N 11 0) ∧ q_fr w g g2 := w_clear (q := (13, 20, 1, 1, 11, 32)) (by decide) hr d
theorem r_get_wa0 (hr : repC 1 g S N) (d : Nat) (row : Int32) : q_sem (d + 1) mX7_get 0 [.ref 14, .int row, .int 0] [] (q_K o g) = some (some (.int (q_at S (N 11) 32 row)), q_K o g) := w_get (q := (13, 20, 1, 1, 11, 32)) (by decide) hr (c := 0) (by decide) d row
theorem r_write_wa0 (hr : repC 1 g S N) (d : Nat) (row v : Int32) : ∃ g2, q_sem (d + 1) mX7_write 0 [.ref 14, .int row, .int 0, .int v] [] (q_K o g) = some (none, q_K o g2) ∧ repC 1 g2 (q_aw S (N 11) 32 row v) N ∧ q_fr 1 g g2 := w_write (q := (13, 20, 1, 1, 11, 32)) (by decide) hr (c := 0) (by decide) (by decide) d row v
theorem r_size_wa (hr : repC 1 g S N) (d : Nat) : q_sem (d + 1) mX7_size 0 [.ref 14] [] (q_K o g) = some (some (.int (nI (N 11))), q_K o g) := w_size (q := (13, 20, 1, 1, 11, 32)) (by decide) hr d
theorem r_has_wa (hr : repC 1 g S N) (d : Nat) (row : Int32) : q_sem (d + 1) mX7_has 0 [.ref 14, .int row] [] (q_K o g) = some (some (.int (if 0 ≤ row ∧ row < nI (N 11) then 1 else 0)), q_K o g) := w_has (q := (13, 20, 1, 1, 11, 32)) (by decide) hr d row
theorem r_full_wa (hr : repC 1 g S N) (d : Nat) : q_sem (d + 1) mX7_isFull 0 [.ref 14] [] (q_K o g) = some (some (.int (if N 11 = 20 then 1 else 0)), q_K o g) := w_full (q := (13, 20, 1, 1, 11, 32)) (by decide) hr d
theorem r_add_wa (hr : repC 1 g S N) (hR : N 11 < 20) (d : Nat) (v : Int32) : ∃ g2, q_sem (d + 2) mX7_add 0 [.ref 14, .int v, .retAddr 0] [] (q_K o g) = some (some (.int (nI (N 11))), q_K o g2) ∧ repC 1 g2 (q_an S 32 1 (N 11) v) (q_nu N 11 (N 11 + 1)) ∧ q_fr 1 g g2 := w_add (q := (13, 20, 1, 1, 11, 32)) (by decide) hr hR (by decide) d v
theorem r_addF_wa (hr : repC 1 g S N) (hR : N 11 = 20) (d : Nat) (v : Int32) : q_sem (d + 2) mX7_add 0 [.ref 14, .int v, .retAddr 0] [] (q_K o g) = some (some (.int (-1)), q_K o g) := w_addF (q := (13, 20, 1, 1, 11, 32)) (by decide) hr hR d v
theorem r_clear_wa (hr : repC 1 g S N) (d : Nat) : ∃ g2, q_sem (d + 1) mX7_clear 0 [.ref 14] [] (q_K o g) = some (none, q_K o g2) ∧ repC 1 g2 S (q_nu N 11 0) ∧ q_fr 1 g g2 := w_clear (q := (13, 20, 1, 1, 11, 32)) (by decide) hr d
theorem n_cnt_wa (hr : repC w g S N) : N 11 ≤ 20 := w_cnt (q := (13, 20, 1, 1, 11, 32)) (by decide) hr
theorem w_get_ru0 (hr : repC w g S N) (d : Nat) (row : Int32) : q_sem (d + 1) mX7_get 0 [.ref (w + 16), .int row, .int 0] [] (q_K o g) = some (some (.int (q_at S (N 6) 26 row)), q_K o g) := w_get (q := (16, 12, 53, 3, 6, 26)) (by decide) hr (c := 0) (by decide) d row
theorem w_get_ru1 (hr : repC w g S N) (d : Nat) (row : Int32) : q_sem (d + 1) mX7_get 0 [.ref (w + 16), .int row, .int 1] [] (q_K o g) = some (some (.int (q_at S (N 6) 27 row)), q_K o g) := w_get (q := (16, 12, 53, 3, 6, 26)) (by decide) hr (c := 1) (by decide) d row
theorem w_get_ru2 (hr : repC w g S N) (d : Nat) (row : Int32) : q_sem (d + 1) mX7_get 0 [.ref (w + 16), .int row, .int 2] [] (q_K o g) = some (some (.int (q_at S (N 6) 28 row)), q_K o g) := w_get (q := (16, 12, 53, 3, 6, 26)) (by decide) hr (c := 2) (by decide) d row
theorem w_size_ru (hr : repC w g S N) (d : Nat) : q_sem (d + 1) mX7_size 0 [.ref (w + 16)] [] (q_K o g) = some (some (.int (nI (N 6))), q_K o g) := w_size (q := (16, 12, 53, 3, 6, 26)) (by decide) hr d
theorem w_has_ru (hr : repC w g S N) (d : Nat) (row : Int32) : q_sem (d + 1) mX7_has 0 [.ref (w + 16), .int row] [] (q_K o g) = some (some (.int (if 0 ≤ row ∧ row < nI (N 6) then 1 else 0)), q_K o g) := w_has (q := (16, 12, 53, 3, 6, 26)) (by decide) hr d row
theorem w_full_ru (hr : repC w g S N) (d : Nat) : q_sem (d + 1) mX7_isFull 0 [.ref (w + 16)] [] (q_K o g) = some (some (.int (if N 6 = 12 then 1 else 0)), q_K o g) := w_full (q := (16, 12, 53, 3, 6, 26)) (by decide) hr d
theorem w_addF_ru (hr : repC w g S N) (hR : N 6 = 12) (d : Nat) (v : Int32) : q_sem (d + 2) mX7_add 0 [.ref (w + 16), .int v, .retAddr 0] [] (q_K o g) = some (some (.int (-1)), q_K o g) := w_addF (q := (16, 12, 53, 3, 6, 26)) (by decide) hr hR d v
theorem w_clear_ru (hr : repC w g S N) (d : Nat) : ∃ g2, q_sem (d + 1) mX7_clear 0 [.ref (w + 16)] [] (q_K o g) = some (none, q_K o g2) ∧ repC w g2 S (q_nu N 6 0) ∧ q_fr w g g2 := w_clear (q := (16, 12, 53, 3, 6, 26)) (by decide) hr d
theorem r_get_ru0 (hr : repC 1 g S N) (d : Nat) (row : Int32) : q_sem (d + 1) mX7_get 0 [.ref 17, .int row, .int 0] [] (q_K o g) = some (some (.int (q_at S (N 6) 26 row)), q_K o g) := w_get (q := (16, 12, 53, 3, 6, 26)) (by decide) hr (c := 0) (by decide) d row
theorem r_get_ru1 (hr : repC 1 g S N) (d : Nat) (row : Int32) : q_sem (d + 1) mX7_get 0 [.ref 17, .int row, .int 1] [] (q_K o g) = some (some (.int (q_at S (N 6) 27 row)), q_K o g) := w_get (q := (16, 12, 53, 3, 6, 26)) (by decide) hr (c := 1) (by decide) d row
theorem r_get_ru2 (hr : repC 1 g S N) (d : Nat) (row : Int32) : q_sem (d + 1) mX7_get 0 [.ref 17, .int row, .int 2] [] (q_K o g) = some (some (.int (q_at S (N 6) 28 row)), q_K o g) := w_get (q := (16, 12, 53, 3, 6, 26)) (by decide) hr (c := 2) (by decide) d row
theorem r_size_ru (hr : repC 1 g S N) (d : Nat) : q_sem (d + 1) mX7_size 0 [.ref 17] [] (q_K o g) = some (some (.int (nI (N 6))), q_K o g) := w_size (q := (16, 12, 53, 3, 6, 26)) (by decide) hr d
theorem r_has_ru (hr : repC 1 g S N) (d : Nat) (row : Int32) : q_sem (d + 1) mX7_has 0 [.ref 17, .int row] [] (q_K o g) = some (some (.int (if 0 ≤ row ∧ row < nI (N 6) then 1 else 0)), q_K o g) := w_has (q := (16, 12, 53, 3, 6, 26)) (by decide) hr d row
theorem r_full_ru (hr : repC 1 g S N) (d : Nat) : q_sem (d + 1) mX7_isFull 0 [.ref 17] [] (q_K o g) = some (some (.int (if N 6 = 12 then 1 else 0)), q_K o g) := w_full (q := (16, 12, 53, 3, 6, 26)) (by decide) hr d
theorem r_addF_ru (hr : repC 1 g S N) (hR : N 6 = 12) (d : Nat) (v : Int32) : q_sem (d + 2) mX7_add 0 [.ref 17, .int v, .retAddr 0] [] (q_K o g) = some (some (.int (-1)), q_K o g) := w_addF (q := (16, 12, 53, 3, 6, 26)) (by decide) hr hR d v
theorem r_clear_ru (hr : repC 1 g S N) (d : Nat) : ∃ g2, q_sem (d + 1) mX7_clear 0 [.ref 17] [] (q_K o g) = some (none, q_K o g2) ∧ repC 1 g2 S (q_nu N 6 0) ∧ q_fr 1 g g2 := w_clear (q := (16, 12, 53, 3, 6, 26)) (by decide) hr d
theorem n_cnt_ru (hr : repC w g S N) : N 6 ≤ 12 := w_cnt (q := (16, 12, 53, 3, 6, 26)) (by decide) hr
theorem w_get_ta0 (hr : repC w g S N) (d : Nat) (row : Int32) : q_sem (d + 1) mX7_get 0 [.ref (w + 18), .int row, .int 0] [] (q_K o g) = some (some (.int (q_at S (N 8) 31 row)), q_K o g) := w_get (q := (18, 50, 1, 1, 8, 31)) (by decide) hr (c := 0) (by decide) d row
theorem w_write_ta0 (hr : repC w g S N) (d : Nat) (row v : Int32) : ∃ g2, q_sem (d + 1) mX7_write 0 [.ref (w + 18), .int row, .int 0, .int v] [] (q_K o g) = some (none, q_K o g2) ∧ repC w g2 (q_aw S (N 8) 31 row v) N ∧ q_fr w g g2 := w_write (q := (18, 50, 1, 1, 8, 31)) (by decide) hr (c := 0) (by decide) (by decide) d row v
theorem w_size_ta (hr : repC w g S N) (d : Nat) : q_sem (d + 1) mX7_size 0 [.ref (w + 18)] [] (q_K o g) = some (some (.int (nI (N 8))), q_K o g) := w_size (q := (18, 50, 1, 1, 8, 31)) (by decide) hr d
theorem w_has_ta (hr : repC w g S N) (d : Nat) (row : Int32) : q_sem (d + 1) mX7_has 0 [.ref (w + 18), .int row] [] (q_K o g) = some (some (.int (if 0 ≤ row ∧ row < nI (N 8) then 1 else 0)), q_K o g) := w_has (q := (18, 50, 1, 1, 8, 31)) (by decide) hr d row
theorem w_full_ta (hr : repC w g S N) (d : Nat) : q_sem (d + 1) mX7_isFull 0 [.ref (w + 18)] [] (q_K o g) = some (some (.int (if N 8 = 50 then 1 else 0)), q_K o g) := w_full (q := (18, 50, 1, 1, 8, 31)) (by decide) hr d
theorem w_add_ta (hr : repC w g S N) (hR : N 8 < 50) (d : Nat) (v : Int32) : ∃ g2, q_sem (d + 2) mX7_add 0 [.ref (w + 18), .int v, .retAddr 0] [] (q_K o g) = some (some (.int (nI (N 8))), q_K o g2) ∧ repC w g2 (q_an S 31 1 (N 8) v) (q_nu N 8 (N 8 + 1)) ∧ q_fr w g g2 := w_add (q := (18, 50, 1, 1, 8, 31)) (by decide) hr hR (by decide) d v
theorem w_addF_ta (hr : repC w g S N) (hR : N 8 = 50) (d : Nat) (v : Int32) : q_sem (d + 2) mX7_add 0 [.ref (w + 18), .int v, .retAddr 0] [] (q_K o g) = some (some (.int (-1)), q_K o g) := w_addF (q := (18, 50, 1, 1, 8, 31)) (by decide) hr hR d v
theorem w_clear_ta (hr : repC w g S N) (d : Nat) : ∃ g2, q_sem (d + 1) mX7_clear 0 [.ref (w + 18)] [] (q_K o g) = some (none, q_K o g2) ∧ repC w g2 S (q_nu N 8 0) ∧ q_fr w g g2 := w_clear (q := (18, 50, 1, 1, 8, 31)) (by decide) hr d
theorem r_get_ta0 (hr : repC 1 g S N) (d : Nat) (row : Int32) : q_sem (d + 1) mX7_get 0 [.ref 19, .int row, .int 0] [] (q_K o g) = some (some (.int (q_at S (N 8) 31 row)), q_K o g) := w_get (q := (18, 50, 1, 1, 8, 31)) (by decide) hr (c := 0) (by decide) d row
theorem r_write_ta0 (hr : repC 1 g S N) (d : Nat) (row v : Int32) : ∃ g2, q_sem (d + 1) mX7_write 0 [.ref 19, .int row, .int 0, .int v] [] (q_K o g) = some (none, q_K o g2) ∧ repC 1 g2 (q_aw S (N 8) 31 row v) N ∧ q_fr 1 g g2 := w_write (q := (18, 50, 1, 1, 8, 31)) (by decide) hr (c := 0) (by decide) (by decide) d row v
theorem r_size_ta (hr : repC 1 g S N) (d : Nat) : q_sem (d + 1) mX7_size 0 [.ref 19] [] (q_K o g) = some (some (.int (nI (N 8))), q_K o g) := w_size (q := (18, 50, 1, 1, 8, 31)) (by decide) hr d
theorem r_has_ta (hr : repC 1 g S N) (d : Nat) (row : Int32) : q_sem (d + 1) mX7_has 0 [.ref 19, .int row] [] (q_K o g) = some (some (.int (if 0 ≤ row ∧ row < nI (N 8) then 1 else 0)), q_K o g) := w_has (q := (18, 50, 1, 1, 8, 31)) (by decide) hr d row
theorem r_full_ta (hr : repC 1 g S N) (d : Nat) : q_sem (d + 1) mX7_isFull 0 [.ref 19] [] (q_K o g) = some (some (.int (if N 8 = 50 then 1 else 0)), q_K o g) := w_full (q := (18, 50, 1, 1, 8, 31)) (by decide) hr d
theorem r_add_ta (hr : repC 1 g S N) (hR : N 8 < 50) (d : Nat) (v : Int32) : ∃ g2, q_sem (d + 2) mX7_add 0 [.ref 19, .int v, .retAddr 0] [] (q_K o g) = some (some (.int (nI (N 8))), q_K o g2) ∧ repC 1 g2 (q_an S 31 1 (N 8) v) (q_nu N 8 (N 8 + 1)) ∧ q_fr 1 g g2 := w_add (q := (18, 50, 1, 1, 8, 31)) (by decide) hr hR (by decide) d v
theorem r_addF_ta (hr : repC 1 g S N) (hR : N 8 = 50) (d : Nat) (v : Int32) : q_sem (d + 2) mX7_add 0 [.ref 19, .int v, .retAddr 0] [] (q_K o g) = some (some (.int (-1)), q_K o g) := w_addF (q := (18, 50, 1, 1, 8, 31)) (by decide) hr hR d v
theorem r_clear_ta (hr : repC 1 g S N) (d : Nat) : ∃ g2, q_sem (d + 1) mX7_clear 0 [.ref 19] [] (q_K o g) = some (none, q_K o g2) ∧ repC 1 g2 S (q_nu N 8 0) ∧ q_fr 1 g g2 := w_clear (q := (18, 50, 1, 1, 8, 31)) (by decide) hr d
theorem n_cnt_ta (hr : repC w g S N) : N 8 ≤ 50 := w_cnt (q := (18, 50, 1, 1, 8, 31)) (by decide) hr
end QWT
