/-! the Model's search for a sending -/
def q_skk (g : Nat → Nat → Int32) (R K : Nat) : Prop := (∃ m l, g 98 62 = nI m ∧ g 98 63 = nI l ∧ m ≤ R ∧ l < 100000 ∧ K = 100000 * (R - m) + l) ∨ (g 98 62 = -1 ∧ g 98 63 = 0 ∧ K = 100000 * (R + 1))
def q_sds (g : Nat → Nat → Int32) (R C : Nat) (D : Nat → Nat) (cost : Nat → Nat → Option Nat) (L : Int32) : Prop := g 98 60 = nI R ∧ g 98 59 = nI C ∧ g 98 61 = L ∧ (∀ i, i < C → g 142 i = nI (D i)) ∧ ∀ r c, r < R → c < C → ((g 146 (6 * r + c) < 0 ∨ g 98 64 < g 146 (6 * r + c)) ∧ cost r c = none) ∨ ∃ w, w ≤ 1060 ∧ cost r c = some w ∧ g 146 (6 * r + c) = nI w ∧ ¬ g 98 64 < nI w
theorem sds_fr {g g2 : Nat → Nat → Int32} {R C : Nat} {D : Nat → Nat} {cost : Nat → Nat → Option Nat} {L : Int32} (h : q_sds g R C D cost L) (hg : ∀ p j, p ≠ 144 → p ≠ 145 → ¬ (p = 98 ∧ (j = 62 ∨ j = 63)) → g2 p j = g p j) : q_sds g2 R C D cost L := by
  obtain ⟨a, b, c, e, f⟩ := h
  refine ⟨(hg _ _ (by decide) (by decide) (by omega)).trans a, (hg _ _ (by decide) (by decide) (by omega)).trans b, (hg _ _ (by decide) (by decide) (by omega)).trans c, fun i hi => (hg _ _ (by decide) (by decide) (by omega)).trans (e i hi), fun r q hr hq => ?_⟩
  rw [hg 146 _ (by decide) (by decide) (by omega), hg 98 64 (by decide) (by decide) (by omega)]
  exact f r q hr hq
theorem skk_fr {g g2 : Nat → Nat → Int32} {R K : Nat} (h : q_skk g R K) (h1 : g2 98 62 = g 98 62) (h2 : g2 98 63 = g 98 63) : q_skk g2 R K := by
  unfold q_skk at h ⊢
  rw [h1, h2]; exact h
section SND
variable {o : q_H} {R C : Nat} {D : Nat → Nat} {cost : Nat → Nat → Option Nat} {L : Int32}
theorem m_scopy (hR : R ≤ 6) (d : Nat) (x1 x2 x3 x4 : Int32) : ∀ t i (g : Nat → Nat → Int32), i + t = R → g 98 60 = nI R → ∃ g2, q_sem d mX12_sends 47 [.ref 98, .int x1, .int x2, .int x3, .int x4, .int (nI i), .retAddr 0] [] (q_K o g) = some (none, q_K o g2) ∧ (∀ j, i ≤ j → j < R → g2 145 j = g 144 j) ∧ ∀ p j, ¬ (p = 145 ∧ i ≤ j ∧ j < R) → g2 p j = g p j := by
  intro t
  induction t with
  | zero =>
    intro i g hi h
    refine ⟨g, ?_, fun j a b => by omega, fun _ _ _ => rfl⟩
    rw [B_X12_sends_47, h, if_pos (nI_le (by omega) (by omega))]
  | succ t ih =>
    intro i g hi h
    obtain ⟨g2, e2, h2, f2⟩ := ih (i + 1) (q_up g 145 i (g 144 i)) (by omega) (by rw [q_upN (by decide)]; exact h)
    refine ⟨g2, ?_, fun j a b => ?_, fun p j a => by rw [f2 p j (by omega), q_up_ne (by omega)]⟩
    · rw [B_X12_sends_47, h, if_neg (nI_ge (by omega) (by omega)), q_rgN (show i < 6 by omega) (by decide), q_rgN (show i < 6 by omega) (by decide), nI_1]
      exact e2
    · by_cases q : j = i
      · rw [q, f2 _ _ (by omega), q_upE]
      · rw [h2 j (by omega) b, q_upN (by decide)]
theorem m_sends (hR : R ≤ 6) (hC : C ≤ 6) (d : Nat) : ∀ k row used n sum K (g : Nat → Nat → Int32), row + k = R → used < 512 → q_c24 used = n → n ≤ row → sum ≤ row * 1060 → q_sds g R C D cost L → q_skk g R K → ∃ g2, q_sem (d + k + 2) mX12_sends 0 [.ref 98, .int (nI row), .int (nI used), .int (nI n), .int (nI sum), .retAddr 0, .retAddr 0] [] (q_K o g) = some (none, q_K o g2) ∧ q_skk g2 R (if 100000 * (row - n) + sum + q_V cost L C k row used < K then 100000 * (row - n) + sum + q_V cost L C k row used else K) ∧ (100000 * (row - n) + sum + q_V cost L C k row used < K → ∀ j, j < R → g2 145 j = if j < row then g 144 j else q_val C D (q_mP cost L C k row used j)) ∧ (¬ 100000 * (row - n) + sum + q_V cost L C k row used < K → ∀ j, g2 145 j = g 145 j) ∧ (∀ j, j < row → g2 144 j = g 144 j) ∧ ∀ p j, p ≠ 144 → p ≠ 145 → ¬ (p = 98 ∧ (j = 62 ∨ j = 63)) → g2 p j = g p j := by
  intro k
  induction k with
  | zero =>
    intro row used n sum K g hk hu hc hnr hs ht hb
    obtain rfl : row = R := by omega
    have hV0 : q_V cost L C 0 row used = 0 := rfl
    rw [hV0, Nat.add_zero]
    have stay : ¬ 100000 * (row - n) + sum < K → ∀ A : Option (Option Value × q_H), A = some (none, q_K o g) → ∃ g2, A = some (none, q_K o g2) ∧ q_skk g2 row (if 100000 * (row - n) + sum < K then 100000 * (row - n) + sum else K) ∧ (100000 * (row - n) + sum < K → ∀ j, j < row → g2 145 j = if j < row then g 144 j else q_val C D (q_mP cost L C 0 row used j)) ∧ (¬ 100000 * (row - n) + sum < K → ∀ j, g2 145 j = g 145 j) ∧ (∀ j, j < row → g2 144 j = g 144 j) ∧ ∀ p j, p ≠ 144 → p ≠ 145 → ¬ (p = 98 ∧ (j = 62 ∨ j = 63)) → g2 p j = g p j := fun hno A hA => ⟨g, hA, by rw [if_neg hno]; exact hb, fun z => absurd z hno, fun _ _ => rfl, fun _ _ => rfl, fun _ _ _ _ _ => rfl⟩
    have take : 100000 * (row - n) + sum < K → ∃ g2, q_sem (d + 0 + 2) mX12_sends 47 [.ref 98, .int (nI row), .int (nI used), .int (nI n), .int (nI sum), .int 0, .retAddr 0] [] (q_K o (q_up (q_up g 98 62 (nI n)) 98 63 (nI sum))) = some (none, q_K o g2) ∧ q_skk g2 row (if 100000 * (row - n) + sum < K then 100000 * (row - n) + sum else K) ∧ (100000 * (row - n) + sum < K → ∀ j, j < row → g2 145 j = if j < row then g 144 j else q_val C D (q_mP cost L C 0 row used j)) ∧ (¬ 100000 * (row - n) + sum < K → ∀ j, g2 145 j = g 145 j) ∧ (∀ j, j < row → g2 144 j = g 144 j) ∧ ∀ p j, p ≠ 144 → p ≠ 145 → ¬ (p = 98 ∧ (j = 62 ∨ j = 63)) → g2 p j = g p j := by
      intro hyes
      obtain ⟨g2, e2, h2, f2⟩ := m_scopy (o := o) hR (d + 0 + 2) (nI row) (nI used) (nI n) (nI sum) row 0 (q_up (q_up g 98 62 (nI n)) 98 63 (nI sum)) (by omega) (by rw [q_upJ (by decide), q_upJ (by decide)]; exact ht.1)
      refine ⟨g2, e2, ?_, fun _ j hj => ?_, fun z => absurd hyes z, fun j hj => ?_, fun p j a b c => ?_⟩
      · rw [if_pos hyes]
        exact Or.inl ⟨n, sum, by rw [f2 _ _ (by omega), q_upJ (by decide), q_upE], by rw [f2 _ _ (by omega), q_upE], by omega, by omega, rfl⟩
      · rw [h2 j (Nat.zero_le _) hj, if_pos hj, q_upN (by decide), q_upN (by decide)]
      · rw [f2 _ _ (by omega), q_upN (by decide), q_upN (by decide)]
      · rw [f2 _ _ (by omega), q_up_ne (by omega), q_up_ne (by omega)]
    rw [B_X12_sends_0, ht.1, if_pos rfl]
    rcases id hb with ⟨m, l, h62, h63, hm, hl, rfl⟩ | ⟨h62, h63, rfl⟩
    · rw [h62, h63]
      by_cases c2 : m < n
      · rw [if_pos (nI_lt c2 (by omega))]
        exact take (by omega)
      · rw [if_neg (nI_nlt (by omega) (by omega))]
        by_cases c3 : n = m
        · rw [if_pos (by rw [c3])]
          by_cases c4 : l ≤ sum
          · rw [if_pos (nI_le c4 (by omega))]
            exact stay (by omega) _ rfl
          · rw [if_neg (nI_ge (by omega) (by omega))]
            exact take (by omega)
        · rw [if_neg (fun z => c3 ((nI_eq (by omega) (by omega)).mp z))]
          exact stay (by omega) _ rfl
    · rw [h62]
      have c2 : (-1 : Int32) < nI n := by
        rw [Int32.lt_iff_toInt_lt, nI_toInt (by omega)]
        have : (-1 : Int32).toInt = -1 := by decide
        rw [this]; omega
      rw [if_pos c2]
      exact take (by omega)
  | succ k ih =>
    intro row used n sum K g hk hu hc hnr hs ht hb
    rw [B_X12_sends_0, ht.1, if_neg (fun z => by have := (nI_eq (by omega) (by omega)).mp z; omega)]
    have hmP : ∀ j, q_mP cost L C (k + 1) row used j = q_mQ cost L C k row used (q_cho cost L C k row used) j := fun j => rfl
    simp only [hmP, q_V_s]
    unfold q_cho
    have loop : ∀ t i K (g : Nat → Nat → Int32) (v6 : Value), i + t = C → (v6 = .retAddr 0 ∨ ∃ z, v6 = .int z) → q_sds g R C D cost L → q_skk g R K → ∃ g2, q_sem (d + (k + 1) + 2) mX12_sends 80 [.ref 98, .int (nI row), .int (nI used), .int (nI n), .int (nI sum), .int (nI i), v6] [] (q_K o g) = some (none, q_K o g2) ∧ q_skk g2 R (if 100000 * (row - n) + sum + q_mM (q_of cost L C k row used) (100000 + q_V cost L C k (row + 1) used) t i < K then 100000 * (row - n) + sum + q_mM (q_of cost L C k row used) (100000 + q_V cost L C k (row + 1) used) t i else K) ∧ (100000 * (row - n) + sum + q_mM (q_of cost L C k row used) (100000 + q_V cost L C k (row + 1) used) t i < K → ∀ j, j < R → g2 145 j = if j < row then g 144 j else q_val C D (q_mQ cost L C k row used (q_mH (q_of cost L C k row used) (100000 + q_V cost L C k (row + 1) used) t i) j)) ∧ (¬ 100000 * (row - n) + sum + q_mM (q_of cost L C k row used) (100000 + q_V cost L C k (row + 1) used) t i < K → ∀ j, g2 145 j = g 145 j) ∧ (∀ j, j < row → g2 144 j = g 144 j) ∧ ∀ p j, p ≠ 144 → p ≠ 145 → ¬ (p = 98 ∧ (j = 62 ∨ j = 63)) → g2 p j = g p j := by
      intro t
      -- no more of them: the row is left
      have leave : ∀ t i K (g : Nat → Nat → Int32) (v6 : Value), i + t = C → (v6 = .retAddr 0 ∨ ∃ z, v6 = .int z) → q_sds g R C D cost L → q_skk g R K → (nI C ≤ nI i ∨ L ≤ nI n) → ∃ g2, q_sem (d + (k + 1) + 2) mX12_sends 80 [.ref 98, .int (nI row), .int (nI used), .int (nI n), .int (nI sum), .int (nI i), v6] [] (q_K o g) = some (none, q_K o g2) ∧ q_skk g2 R (if 100000 * (row - n) + sum + q_mM (q_of cost L C k row used) (100000 + q_V cost L C k (row + 1) used) t i < K then 100000 * (row - n) + sum + q_mM (q_of cost L C k row used) (100000 + q_V cost L C k (row + 1) used) t i else K) ∧ (100000 * (row - n) + sum + q_mM (q_of cost L C k row used) (100000 + q_V cost L C k (row + 1) used) t i < K → ∀ j, j < R → g2 145 j = if j < row then g 144 j else q_val C D (q_mQ cost L C k row used (q_mH (q_of cost L C k row used) (100000 + q_V cost L C k (row + 1) used) t i) j)) ∧ (¬ 100000 * (row - n) + sum + q_mM (q_of cost L C k row used) (100000 + q_V cost L C k (row + 1) used) t i < K → ∀ j, g2 145 j = g 145 j) ∧ (∀ j, j < row → g2 144 j = g 144 j) ∧ ∀ p j, p ≠ 144 → p ≠ 145 → ¬ (p = 98 ∧ (j = 62 ∨ j = 63)) → g2 p j = g p j := by
        intro t i K g v6 hi hx ht hb hor
        have hs1 : sum ≤ (row + 1) * 1060 := Nat.le_trans hs (Nat.mul_le_mul_right _ (Nat.le_succ _))
        obtain ⟨g2, e2, b2, y2, n2, l2, f2⟩ := ih (row + 1) used n sum K (q_up g 144 row (-1)) (by omega) hu hc (Nat.le_succ_of_le hnr) hs1 (sds_fr ht (fun p j a b c => q_upN a)) (skk_fr hb (q_upN (by decide)) (q_upN (by decide)))
        have ea : 100000 * (row + 1 - n) + sum + q_V cost L C k (row + 1) used = 100000 * (row - n) + sum + (100000 + q_V cost L C k (row + 1) used) := by omega
        rw [ea] at b2 y2 n2
        have hnone : ∀ c, i ≤ c → c < i + t → q_of cost L C k row used c = none := by
          intro c a b
          rcases hor with h | h
          · have := (nI_leI (by omega) (by omega)).mp h
            omega
          · unfold q_of q_opt
            rw [if_neg]; rfl
            rintro ⟨_, z⟩
            rw [hc] at z
            rw [Int32.lt_iff_toInt_lt] at z
            rw [Int32.le_iff_toInt_le] at h
            omega
        obtain ⟨hm0, hh0⟩ := mM_none (base := 100000 + q_V cost L C k (row + 1) used) t i hnone
        rw [hm0, hh0, hi]
        refine ⟨g2, ?_, b2, fun z j hj => ?_, fun z j => by rw [n2 z j, q_upN (by decide)], fun j hj => by rw [l2 j (by omega), q_upJ (by omega)], fun p j a b c => by rw [f2 p j a b c, q_upN a]⟩
        · have e2' : q_sem (d + (k + 1) + 1) mX12_sends 0 [.ref 98, .int (nI (row + 1)), .int (nI used), .int (nI n), .int (nI sum), .retAddr 0, .retAddr 0] [] (q_K o (q_up g 144 row (-1))) = some (none, q_K o g2) := e2
          have r6 : ∀ (f : Nat → Option (Option Value × q_H)), q_rg (nI row) 6 f = f row := fun f => q_rgN (by omega) (by decide)
          rcases hx with rfl | ⟨z, rfl⟩
          · rw [B_X12_sends_80, ht.2.1, ht.2.2.1]
            by_cases c : nI C ≤ nI i
            · rw [if_pos c, r6, nI_1, e2']
              simp only [Option.bind_some, Option.toList_some, Option.toList_none, List.cons_append, List.nil_append, B_X12_sends_192]
            · rw [if_neg c, if_pos (hor.resolve_left c), r6, nI_1, e2']
              simp only [Option.bind_some, Option.toList_some, Option.toList_none, List.cons_append, List.nil_append, B_X12_sends_192]
          · rw [B_X12_sends_80a, ht.2.1, ht.2.2.1]
            by_cases c : nI C ≤ nI i
            · rw [if_pos c, r6, nI_1, e2']
              simp only [Option.bind_some, Option.toList_some, Option.toList_none, List.cons_append, List.nil_append, B_X12_sends_192, B_X12_sends_168, B_X12_sends_192a]
            · rw [if_neg c, if_pos (hor.resolve_left c), r6, nI_1, e2']
              simp only [Option.bind_some, Option.toList_some, Option.toList_none, List.cons_append, List.nil_append, B_X12_sends_192, B_X12_sends_168, B_X12_sends_192a]
        · rw [y2 z j hj]
          unfold q_mQ
          by_cases q1 : j < row
          · rw [if_pos q1, if_pos (show j < row + 1 by omega), q_upJ (by omega)]
          · rw [if_neg q1]
            by_cases q2 : j = row
            · subst q2
              rw [if_pos (Nat.lt_succ_self _), q_upE, if_pos rfl]
              unfold q_val; rw [if_neg (Nat.lt_irrefl _)]
            · rw [if_neg (by omega), if_neg q2, show q_nx C used C = used from if_neg (Nat.lt_irrefl _)]
      induction t with
      | zero =>
        intro i K g v6 hi hx ht hb
        exact leave 0 i K g v6 hi hx ht hb (Or.inl (nI_le (by omega) (by omega)))
      | succ t iht =>
        intro i K g v6 hi hx ht hb
        by_cases hL : L ≤ nI n
        · exact leave (t + 1) i K g v6 hi hx ht hb (Or.inr hL)
        have c2 : ¬ nI C ≤ nI i := nI_ge (by omega) (by omega)
        have hLt : nI (q_c24 used) < L := by
          rw [hc, Int32.lt_iff_toInt_lt]
          rw [Int32.le_iff_toInt_le] at hL
          omega
        have e36 : (6 : Int32) * nI row + nI i = nI (6 * row + i) := by rw [show (6 : Int32) = nI 6 from rfl, pk_mul, nI_add]
        have go : ∀ A : Option (Option Value × q_H), (A = if (if used.testBit i = true then (1 : Int32) else 0) = 0 then (if g 146 (6 * row + i) < 0 then q_sem (d + (k + 1) + 2) mX12_sends 80 [.ref 98, .int (nI row), .int (nI used), .int (nI n), .int (nI sum), .int (nI (i + 1)), .int (g 146 (6 * row + i))] [] (q_K o g) else if g 98 64 < g 146 (6 * row + i) then q_sem (d + (k + 1) + 2) mX12_sends 80 [.ref 98, .int (nI row), .int (nI used), .int (nI n), .int (nI sum), .int (nI (i + 1)), .int (g 146 (6 * row + i))] [] (q_K o g) else (q_sem (d + (k + 1) + 1) mX12_sends 0 [.ref 98, .int (nI (row + 1)), .int (nI (used ||| 2 ^ i)), .int (nI (n + 1)), .int (nI sum + g 146 (6 * row + i)), .retAddr 0, .retAddr 0] [] (q_K o (q_up g 144 row (nI (D i))))).bind (fun r => q_sem (d + (k + 1) + 2) mX12_sends 168 [.ref 98, .int (nI row), .int (nI used), .int (nI n), .int (nI sum), .int (nI i), .int (g 146 (6 * row + i))] (r.1.toList ++ []) r.2)) else q_sem (d + (k + 1) + 2) mX12_sends 80 [.ref 98, .int (nI row), .int (nI used), .int (nI n), .int (nI sum), .int (nI (i + 1)), .int (g 146 (6 * row + i))] [] (q_K o g)) → ∃ g2, A = some (none, q_K o g2) ∧ q_skk g2 R (if 100000 * (row - n) + sum + q_mM (q_of cost L C k row used) (100000 + q_V cost L C k (row + 1) used) (t + 1) i < K then 100000 * (row - n) + sum + q_mM (q_of cost L C k row used) (100000 + q_V cost L C k (row + 1) used) (t + 1) i else K) ∧ (100000 * (row - n) + sum + q_mM (q_of cost L C k row used) (100000 + q_V cost L C k (row + 1) used) (t + 1) i < K → ∀ j, j < R → g2 145 j = if j < row then g 144 j else q_val C D (q_mQ cost L C k row used (q_mH (q_of cost L C k row used) (100000 + q_V cost L C k (row + 1) used) (t + 1) i) j)) ∧ (¬ 100000 * (row - n) + sum + q_mM (q_of cost L C k row used) (100000 + q_V cost L C k (row + 1) used) (t + 1) i < K → ∀ j, g2 145 j = g 145 j) ∧ (∀ j, j < row → g2 144 j = g 144 j) ∧ ∀ p j, p ≠ 144 → p ≠ 145 → ¬ (p = 98 ∧ (j = 62 ∨ j = 63)) → g2 p j = g p j := by
          intro A hA
          have skip : q_of cost L C k row used i = none → ∀ v, A = q_sem (d + (k + 1) + 2) mX12_sends 80 [.ref 98, .int (nI row), .int (nI used), .int (nI n), .int (nI sum), .int (nI (i + 1)), .int v] [] (q_K o g) → ∃ g2, A = some (none, q_K o g2) ∧ q_skk g2 R (if 100000 * (row - n) + sum + q_mM (q_of cost L C k row used) (100000 + q_V cost L C k (row + 1) used) (t + 1) i < K then 100000 * (row - n) + sum + q_mM (q_of cost L C k row used) (100000 + q_V cost L C k (row + 1) used) (t + 1) i else K) ∧ (100000 * (row - n) + sum + q_mM (q_of cost L C k row used) (100000 + q_V cost L C k (row + 1) used) (t + 1) i < K → ∀ j, j < R → g2 145 j = if j < row then g 144 j else q_val C D (q_mQ cost L C k row used (q_mH (q_of cost L C k row used) (100000 + q_V cost L C k (row + 1) used) (t + 1) i) j)) ∧ (¬ 100000 * (row - n) + sum + q_mM (q_of cost L C k row used) (100000 + q_V cost L C k (row + 1) used) (t + 1) i < K → ∀ j, g2 145 j = g 145 j) ∧ (∀ j, j < row → g2 144 j = g 144 j) ∧ ∀ p j, p ≠ 144 → p ≠ 145 → ¬ (p = 98 ∧ (j = 62 ∨ j = 63)) → g2 p j = g p j := by
            intro hn v hv
            rw [mM_n hn, mH_n hn, hv]
            exact iht (i + 1) K g (.int v) (by omega) (Or.inr ⟨_, rfl⟩) ht hb
          cases e1 : used.testBit i
          rotate_left
          · rw [e1, if_neg (by decide)] at hA
            exact skip (by unfold q_of q_opt; rw [if_neg (fun z => by rw [e1] at z; exact absurd z.1 (by decide))]; rfl) _ hA
          rw [e1, if_pos (show (if false = true then (1 : Int32) else 0) = 0 from rfl)] at hA
          rcases ht.2.2.2.2 row i (by omega) (by omega) with ⟨hbad, hcn⟩ | ⟨w, hw, hcst, hv, hla⟩
          · have hn : q_of cost L C k row used i = none := by unfold q_of q_opt; rw [hcn]; split <;> rfl
            rcases hbad with h | h
            · rw [if_pos h] at hA
              exact skip hn _ hA
            · by_cases h0 : g 146 (6 * row + i) < 0
              · rw [if_pos h0] at hA
                exact skip hn _ hA
              · rw [if_neg h0, if_pos h] at hA
                exact skip hn _ hA
          rw [hv, if_neg (nI_pos (by omega)), if_neg hla, nI_add] at hA
          have hof : q_of cost L C k row used i = some (w + q_V cost L C k (row + 1) (used ||| 2 ^ i)) := by
            unfold q_of q_opt; rw [if_pos ⟨e1, hLt⟩, hcst]; rfl
          rw [mM_s hof, mH_s hof]
          obtain ⟨g1, r1, b1, y1, n1, l1, f1⟩ := ih (row + 1) (used ||| 2 ^ i) (n + 1) (sum + w) K (q_up g 144 row (nI (D i))) (by omega) (or_lt512 hu (by omega)) (by rw [q_c24_or used i (by omega) e1, hc]) (by omega) (by omega) (sds_fr ht (fun p j a b c => q_upN a)) (skk_fr hb (q_upN (by decide)) (q_upN (by decide)))
          have ht1 : q_sds g1 R C D cost L := sds_fr (sds_fr ht (fun p j a b c => q_upN (i := row) (v := nI (D i)) a)) f1
          obtain ⟨g2, r2, b2, y2, n2, l2, f2⟩ := iht (i + 1) _ g1 (.int (nI w)) (by omega) (Or.inr ⟨_, rfl⟩) ht1 b1
          refine ⟨g2, ?_, ?_, ?_, ?_, fun j hj => by rw [l2 j hj, l1 j (by omega), q_upJ (by omega)], fun p j a b c => by rw [f2 p j a b c, f1 p j a b c, q_upN a]⟩
          · have r1' : q_sem (d + (k + 1) + 1) mX12_sends 0 [.ref 98, .int (nI (row + 1)), .int (nI (used ||| 2 ^ i)), .int (nI (n + 1)), .int (nI (sum + w)), .retAddr 0, .retAddr 0] [] (q_K o (q_up g 144 row (nI (D i)))) = some (none, q_K o g1) := r1
            rw [hA, r1']
            simp only [Option.bind_some, Option.toList_some, Option.toList_none, List.cons_append, List.nil_append, B_X12_sends_168, nI_1]
            exact r2
          all_goals
            have hacc : 100000 * (row + 1 - (n + 1)) + (sum + w) + q_V cost L C k (row + 1) (used ||| 2 ^ i) = 100000 * (row - n) + sum + (w + q_V cost L C k (row + 1) (used ||| 2 ^ i)) := by omega
            rw [hacc] at b1 y1 n1 b2 y2 n2
            generalize w + q_V cost L C k (row + 1) (used ||| 2 ^ i) = v at *
            generalize hmm : q_mM (q_of cost L C k row used) (100000 + q_V cost L C k (row + 1) used) t (i + 1) = m at *
            generalize 100000 * (row - n) + sum = A at *
          · have e : (if A + m < (if A + v < K then A + v else K) then A + m else (if A + v < K then A + v else K)) = (if A + min v m < K then A + min v m else K) := by
              by_cases q1 : A + v < K
              · rw [if_pos q1]
                by_cases q2 : A + m < A + v
                · rw [if_pos q2, if_pos (by omega)]; omega
                · rw [if_neg q2, if_pos (by omega)]; omega
              · rw [if_neg q1]
                by_cases q2 : A + m < K
                · rw [if_pos q2, if_pos (by omega)]; omega
                · rw [if_neg q2, if_neg (by omega)]
            rw [← e]; exact b2
          · intro z j hj
            by_cases c : v ≤ m
            · have q1 : A + v < K := by omega
              rw [if_pos q1] at y2 n2
              rw [if_pos c, n2 (by omega) j, y1 q1 j hj]
              unfold q_mQ
              by_cases q2 : j < row
              · rw [if_pos q2, if_pos (show j < row + 1 by omega), q_upJ (by omega)]
              · rw [if_neg q2]
                by_cases q3 : j = row
                · subst q3
                  rw [if_pos (Nat.lt_succ_self _), q_upE, if_pos rfl]
                  unfold q_val; rw [if_pos (show i < C by omega)]
                · rw [if_neg (by omega), if_neg q3, show q_nx C used i = used ||| 2 ^ i from if_pos (by omega)]
            · have q1 : A + m < (if A + v < K then A + v else K) := by split <;> omega
              rw [if_neg c, y2 q1 j hj]
              by_cases q2 : j < row
              · rw [if_pos q2, if_pos q2, l1 j (by omega), q_upJ (by omega)]
              · rw [if_neg q2, if_neg q2]
          · intro z j
            have q1 : ¬ A + v < K := by omega
            rw [if_neg q1] at n2
            rw [n2 (by omega) j, n1 q1 j, q_upN (by decide)]
        have hb9 : ((nI used >>> (nI i &&& 31)) &&& 1) = (if used.testBit i = true then (1 : Int32) else 0) := by
          rw [f_bit9 used hu i (by omega)]
          cases used.testBit i <;> rfl
        have hor : nI used ||| ((1 : Int32) <<< (nI i &&& 31)) = nI (used ||| 2 ^ i) := by
          rw [f_one i (by omega), nI_or (by omega) (Nat.pow_lt_pow_right (by decide) (show i < 32 by omega))]
        have hDi := ht.2.2.2.1 i (by omega)
        apply go
        rcases hx with rfl | ⟨z, rfl⟩
        · rw [B_X12_sends_80, ht.2.1, ht.2.2.1, if_neg c2, if_neg hL, e36]
          simp only [q_rgN (show 6 * row + i < 36 by omega) (show 36 < 2 ^ 31 by decide), q_rgN (show row < 6 by omega) (show 6 < 2 ^ 31 by decide), q_rgN (show i < 6 by omega) (show 6 < 2 ^ 31 by decide), hb9, hor, hDi, nI_1]
        · rw [B_X12_sends_80a, ht.2.1, ht.2.2.1, if_neg c2, if_neg hL, e36]
          simp only [q_rgN (show 6 * row + i < 36 by omega) (show 36 < 2 ^ 31 by decide), q_rgN (show row < 6 by omega) (show 6 < 2 ^ 31 by decide), q_rgN (show i < 6 by omega) (show 6 < 2 ^ 31 by decide), hb9, hor, hDi, nI_1]
    exact loop C 0 K g (.retAddr 0) (by omega) (Or.inl rfl) ht hb
end SND
