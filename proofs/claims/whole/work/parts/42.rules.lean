/-! the Model's rules; flyers -/
theorem q_jnM {is c x y : Int32} {of : Int32} (h : q_cdM is of c) (h0 : ¬ is = 0) (h1 : ¬ is = 1) (h10 : ¬ is = 10) : (2000 < c ∧ ¬ c = 2033 ∧ ¬ c < 2000) ∧ (if is = 2 then (if x = 0 then (if y = 0 then (0 : Int32) else 1) else 1) else (if is = 3 then (if x = 0 then 0 else (if y = 0 then 0 else 1)) else (if is = 4 then (if y ≤ x then 0 else 1) else (if is = 5 then (if x = y then 1 else 0) else (if is = 6 then (if x ≤ y then 0 else 1) else (if is = 7 then x + y else (if is = 8 then x - y else x * y))))))) = q_jn (c - 2000) x y := by
  have e : ∀ a : Int32, (¬ x < y) = (y ≤ x) ∧ (¬ y < x) = (x ≤ y) := fun _ => ⟨q_leN, q_leN⟩
  rcases h with ⟨rfl, _⟩ | ⟨rfl, _⟩ | ⟨rfl, rfl⟩ | ⟨rfl, rfl⟩ | ⟨rfl, rfl⟩ | ⟨rfl, rfl⟩ | ⟨rfl, rfl⟩ | ⟨rfl, rfl⟩ | ⟨rfl, rfl⟩ | ⟨rfl, rfl⟩ | ⟨rfl, rfl⟩
  · exact absurd rfl h0
  · exact absurd rfl h1
  · refine ⟨by decide, ?_⟩
    simp only [q_jn, (by decide : (2124 : Int32) - 2000 = 124), (by decide : ¬ (124 : Int32) = 38), (by decide : ¬ (124 : Int32) = 43), (by decide : ¬ (124 : Int32) = 45), (by decide : ¬ (124 : Int32) = 60), (by decide : ¬ (124 : Int32) = 61), (by decide : ¬ (124 : Int32) = 62), ↓reduceIte]
  · refine ⟨by decide, ?_⟩
    simp only [q_jn, (by decide : (2038 : Int32) - 2000 = 38), (by decide : ¬ (3 : Int32) = 2), ↓reduceIte]
  · refine ⟨by decide, ?_⟩
    simp only [q_jn, (by decide : (2060 : Int32) - 2000 = 60), (by decide : ¬ (60 : Int32) = 38), (by decide : ¬ (60 : Int32) = 43), (by decide : ¬ (60 : Int32) = 45), (by decide : ¬ (4 : Int32) = 2), (by decide : ¬ (4 : Int32) = 3), ↓reduceIte, ← q_leN]
    by_cases z : x < y <;> simp [z]
  · refine ⟨by decide, ?_⟩
    simp only [q_jn, (by decide : (2061 : Int32) - 2000 = 61), (by decide : ¬ (61 : Int32) = 38), (by decide : ¬ (61 : Int32) = 43), (by decide : ¬ (61 : Int32) = 45), (by decide : ¬ (61 : Int32) = 60), (by decide : ¬ (5 : Int32) = 2), (by decide : ¬ (5 : Int32) = 3), (by decide : ¬ (5 : Int32) = 4), ↓reduceIte]
  · refine ⟨by decide, ?_⟩
    simp only [q_jn, (by decide : (2062 : Int32) - 2000 = 62), (by decide : ¬ (62 : Int32) = 38), (by decide : ¬ (62 : Int32) = 43), (by decide : ¬ (62 : Int32) = 45), (by decide : ¬ (62 : Int32) = 60), (by decide : ¬ (62 : Int32) = 61), (by decide : ¬ (6 : Int32) = 2), (by decide : ¬ (6 : Int32) = 3), (by decide : ¬ (6 : Int32) = 4), (by decide : ¬ (6 : Int32) = 5), ↓reduceIte, ← q_leN]
    by_cases z : y < x <;> simp [z]
  · refine ⟨by decide, ?_⟩
    simp only [q_jn, (by decide : (2043 : Int32) - 2000 = 43), (by decide : ¬ (43 : Int32) = 38), (by decide : ¬ (7 : Int32) = 2), (by decide : ¬ (7 : Int32) = 3), (by decide : ¬ (7 : Int32) = 4), (by decide : ¬ (7 : Int32) = 5), (by decide : ¬ (7 : Int32) = 6), ↓reduceIte]
  · refine ⟨by decide, ?_⟩
    simp only [q_jn, (by decide : (2045 : Int32) - 2000 = 45), (by decide : ¬ (45 : Int32) = 38), (by decide : ¬ (45 : Int32) = 43), (by decide : ¬ (8 : Int32) = 2), (by decide : ¬ (8 : Int32) = 3), (by decide : ¬ (8 : Int32) = 4), (by decide : ¬ (8 : Int32) = 5), (by decide : ¬ (8 : Int32) = 6), (by decide : ¬ (8 : Int32) = 7), ↓reduceIte]
  · refine ⟨by decide, ?_⟩
    simp only [q_jn, (by decide : (2042 : Int32) - 2000 = 42), (by decide : ¬ (42 : Int32) = 38), (by decide : ¬ (42 : Int32) = 43), (by decide : ¬ (42 : Int32) = 45), (by decide : ¬ (42 : Int32) = 60), (by decide : ¬ (42 : Int32) = 61), (by decide : ¬ (42 : Int32) = 62), (by decide : ¬ (42 : Int32) = 124), (by decide : ¬ (9 : Int32) = 2), (by decide : ¬ (9 : Int32) = 3), (by decide : ¬ (9 : Int32) = 4), (by decide : ¬ (9 : Int32) = 5), (by decide : ¬ (9 : Int32) = 6), (by decide : ¬ (9 : Int32) = 7), (by decide : ¬ (9 : Int32) = 8), ↓reduceIte]
  · exact absurd rfl h10
section MWO
variable {o : q_H} {g S : Nat → Nat → Int32} {N : Nat → Nat}
theorem m_both (d : Nat) (is x y : Int32) : q_sem d mX12_both 0 [.int is, .int x, .int y] [] (q_K o g) = some (some (.int (if is = 2 then (if x = 0 then (if y = 0 then (0 : Int32) else 1) else 1) else (if is = 3 then (if x = 0 then 0 else (if y = 0 then 0 else 1)) else (if is = 4 then (if y ≤ x then 0 else 1) else (if is = 5 then (if x = y then 1 else 0) else (if is = 6 then (if x ≤ y then 0 else 1) else (if is = 7 then x + y else (if is = 8 then x - y else x * y)))))))), q_K o g) := by
  rw [B_X12_both_0]
  repeat' split
  all_goals first | rfl | contradiction | (exfalso; simp_all; done)
theorem nI_m2 (n : Nat) : nI (n + 2) + (-1) - 1 = nI n := by rw [show n + 2 = (n + 1) + 1 from rfl, pk_m1, nI_pred]
/-- one number of a rule is done -/
theorem m_wstep {nm : Nat → Int32} {a b c e : Int32} (hnm : nm = q_nm4 a b c e) {r n i : Nat} (hr12 : r < 12) (hn50 : n ≤ 50) (hn : g 128 r = nI n) (hi : i < n) {code : Int32} (hc : q_cdM (g 129 (50 * r + i)) (g 130 (50 * r + i)) code) {l l2 : List Int32} (hl : l.length ≤ i) (hs : q_sk (g 141) l) (he : q_stk nm code l = some l2) (d : Nat) (x8 x9 : Value) (hx : (x8 = .retAddr 0 ∧ x9 = .retAddr 0) ∨ ∃ v w, x8 = .int v ∧ x9 = .int w) : ∃ g2 v w, q_sem (d + 1) mX12_worth 9 [.ref 98, .int (nI r), .int a, .int b, .int c, .int e, .int (nI l.length), .int (nI (50 * r + i)), x8, x9] [] (q_K o g) = q_sem (d + 1) mX12_worth 9 [.ref 98, .int (nI r), .int a, .int b, .int c, .int e, .int (nI l2.length), .int (nI (50 * r + (i + 1))), .int v, .int w] [] (q_K o g2) ∧ q_sk (g2 141) l2 ∧ ∀ p k, p ≠ 141 → g2 p k = g p k := by
  have c1 : ¬ (50 : Int32) * nI r + nI n ≤ nI (50 * r + i) := by
    rw [show (50 : Int32) = nI 50 from rfl, pk_mul, nI_add]
    exact nI_ge (by omega) (by omega)
  have hl50 : l.length < 50 := by omega
  have hx1 : ∀ A, (∀ v w : Int32, q_sem (d + 1) mX12_worth 9 [.ref 98, .int (nI r), .int a, .int b, .int c, .int e, .int (nI l.length), .int (nI (50 * r + i)), .int v, .int w] [] (q_K o g) = A) → q_sem (d + 1) mX12_worth 9 [.ref 98, .int (nI r), .int a, .int b, .int c, .int e, .int (nI l.length), .int (nI (50 * r + i)), x8, x9] [] (q_K o g) = A := by
    intro A hA
    rcases hx with ⟨rfl, rfl⟩ | ⟨v, w, rfl, rfl⟩
    · rw [← hA 0 0, B_X12_worth_9, B_X12_worth_9a]
    · exact hA v w
  have e1 : nI (50 * r + i) + 1 = nI (50 * r + (i + 1)) := nI_1 _
  by_cases h0 : g 129 (50 * r + i) = 0
  · -- a number
    have hcc : g 130 (50 * r + i) = code ∧ ∃ n, n < 1000 ∧ code = nI n := by
      rcases hc with h | h | h | h | h | h | h | h | h | h | h <;> first | exact ⟨h.2.1, h.2.2⟩ | (exfalso; have := h.1; rw [h0] at this; revert this; decide)
    obtain ⟨hc1, k, hk, rfl⟩ := hcc
    have : q_stk nm (nI k) l = some (nI k :: l) := by unfold q_stk; rw [if_pos ((by decide : (1000 : Int32) = nI 1000) ▸ nI_lt hk (by omega))]
    rw [this] at he
    cases he
    refine ⟨q_up g 141 l.length (nI k), g 129 (50 * r + i), g 130 (50 * r + i), hx1 _ (fun v w => ?_), ⟨q_upE, q_sk_up (Nat.le_refl _) hs⟩, fun p k h => q_upN h⟩
    rw [B_X12_worth_9a, q_rgN hr12 (by decide), hn, if_neg c1, q_rgN (show 50 * r + i < 600 by omega) (by decide), q_rgN (show 50 * r + i < 600 by omega) (by decide), if_pos h0, if_pos h0, q_rgN hl50 (by decide), e1, nI_1, hc1]
    rfl
  by_cases h1 : g 129 (50 * r + i) = 1
  · -- a name
    have hcc : ∃ n, n < 4 ∧ g 130 (50 * r + i) = nI n ∧ code = nI (1000 + n) := by
      rcases hc with h | h | h | h | h | h | h | h | h | h | h <;> first | exact h.2 | (exfalso; have := h.1; rw [h1] at this; revert this; decide)
    obtain ⟨k, hk, hc1, rfl⟩ := hcc
    have ek : nI (1000 + k) - 1000 = nI k := by
      rw [← nI_add, Int32.add_comm, Int32.sub_eq_add_neg, Int32.add_assoc]
      show nI k + 0 = nI k
      rw [Int32.add_zero]
    have : q_stk nm (nI (1000 + k)) l = some (nm k :: l) := by
      unfold q_stk
      rw [if_neg ((by decide : (1000 : Int32) = nI 1000) ▸ nI_nlt (by omega) (by omega)), if_pos ((by decide : (2000 : Int32) = nI 2000) ▸ nI_lt (by omega) (by omega)), ek, show q_cl2 (nI k) = k from nI_clamp (by omega)]
    rw [this] at he
    cases he
    refine ⟨q_up g 141 l.length (nm k), g 129 (50 * r + i), g 130 (50 * r + i), hx1 _ (fun v w => ?_), ⟨q_upE, q_sk_up (Nat.le_refl _) hs⟩, fun p k h => q_upN h⟩
    rw [B_X12_worth_9a, q_rgN hr12 (by decide), hn, if_neg c1, q_rgN (show 50 * r + i < 600 by omega) (by decide), q_rgN (show 50 * r + i < 600 by omega) (by decide), if_neg h0, if_pos h1, if_neg h0, e1, nI_1, hc1, hnm]
    simp only [q_rgN hl50 (by decide)]
    rcases k with _ | _ | _ | _ | k
    · rfl
    · rw [if_neg (by decide), if_pos (by decide)]; rfl
    · rw [if_neg (by decide), if_neg (by decide), if_pos (by decide)]; rfl
    · rw [if_neg (by decide), if_neg (by decide), if_neg (by decide)]; rfl
    · omega
  by_cases h10 : g 129 (50 * r + i) = 10
  · -- not
    have hcc : code = 2033 := by
      rcases hc with h | h | h | h | h | h | h | h | h | h | h <;> first | exact h.2 | (exfalso; have := h.1; rw [h10] at this; revert this; decide)
    subst hcc
    cases l with
    | nil => cases he
    | cons x l =>
      have : q_stk nm 2033 (x :: l) = some ((if x = 0 then 1 else 0) :: l) := rfl
      rw [this] at he
      cases he
      rw [List.length_cons] at hl50 hl
      have e0 : g 141 l.length = x := hs.1
      refine ⟨q_up g 141 l.length (if x = 0 then 1 else 0), g 129 (50 * r + i), g 130 (50 * r + i), hx1 _ (fun v w => ?_), ⟨q_upE, q_sk_up (Nat.le_refl _) hs.2⟩, fun p k h => q_upN h⟩
      rw [B_X12_worth_9a, q_rgN hr12 (by decide), hn, if_neg c1, q_rgN (show 50 * r + i < 600 by omega) (by decide), q_rgN (show 50 * r + i < 600 by omega) (by decide), if_neg h0, if_neg h1, if_pos h10, e1]
      simp only [List.length_cons, nI_pred, q_rgN (show l.length < 50 by omega) (show 50 < 2 ^ 31 by decide), e0]
      by_cases z : x = 0 <;> simp only [z, ↓reduceIte]
  · have hj := fun x y => q_jnM (x := x) (y := y) hc h0 h1 h10
    obtain ⟨j1, j2, j3⟩ := (hj 0 0).1
    have j4 : ¬ code < 1000 := fun z => by
      rw [Int32.lt_iff_toInt_lt] at j1 z
      have t1 : (1000 : Int32).toInt = 1000 := by decide
      have t2 : (2000 : Int32).toInt = 2000 := by decide
      omega
    cases l with
    | nil => unfold q_stk at he; rw [if_neg j4, if_neg j3, if_neg j2] at he; cases he
    | cons y l =>
      cases l with
      | nil => unfold q_stk at he; rw [if_neg j4, if_neg j3, if_neg j2] at he; cases he
      | cons x l =>
        have : q_stk nm code (y :: x :: l) = some (q_jn (code - 2000) x y :: l) := by unfold q_stk; rw [if_neg j4, if_neg j3, if_neg j2]
        rw [this] at he
        cases he
        rw [List.length_cons, List.length_cons] at hl50 hl
        have e0 : g 141 (l.length + 1) = y := hs.1
        have e2 : g 141 l.length = x := hs.2.1
        refine ⟨q_up g 141 l.length (q_jn (code - 2000) x y), g 129 (50 * r + i), g 130 (50 * r + i), hx1 _ (fun v w => ?_), ⟨q_upE, q_sk_up (Nat.le_refl _) hs.2.2⟩, fun p k h => q_upN h⟩
        rw [B_X12_worth_9a, q_rgN hr12 (by decide), hn, if_neg c1, q_rgN (show 50 * r + i < 600 by omega) (by decide), q_rgN (show 50 * r + i < 600 by omega) (by decide), if_neg h0, if_neg h1, if_neg h10]
        simp only [List.length_cons, show l.length + 1 + 1 = l.length + 2 from rfl, show nI (l.length + 2) + (-1) = nI (l.length + 1) from pk_m1 _, nI_pred, q_rgN (show l.length < 50 by omega) (show 50 < 2 ^ 31 by decide), q_rgN (show l.length + 1 < 50 by omega) (show 50 < 2 ^ 31 by decide), e0, e2, m_both, (hj x y).2, Option.bind_some, Option.toList_some, Option.toList_none, List.cons_append, List.nil_append, B_X12_worth_177, e1]
theorem m_worth_l {nm : Nat → Int32} {a b c e v : Int32} (hnm : nm = q_nm4 a b c e) {r n : Nat} (hr12 : r < 12) (hn50 : n ≤ 50) (d : Nat) : ∀ (cs : List Int32) (i : Nat) (l : List Int32) (g : Nat → Nat → Int32) (x8 x9 : Value), ((x8 = .retAddr 0 ∧ x9 = .retAddr 0) ∨ ∃ v w, x8 = .int v ∧ x9 = .int w) → g 128 r = nI n → i + cs.length = n → (∀ j (hj : j < cs.length), q_cdM (g 129 (50 * r + (i + j))) (g 130 (50 * r + (i + j))) cs[j]) → l.length ≤ i → q_sk (g 141) l → q_evl nm cs l = some [v] → ∃ g2, q_sem (d + 1) mX12_worth 9 [.ref 98, .int (nI r), .int a, .int b, .int c, .int e, .int (nI l.length), .int (nI (50 * r + i)), x8, x9] [] (q_K o g) = some (some (.int v), q_K o g2) ∧ ∀ p k, p ≠ 141 → g2 p k = g p k := by
  intro cs
  induction cs with
  | nil =>
    intro i l g x8 x9 hx hn hi _ hl hs he
    cases he
    rw [List.length_nil] at hi
    have c1 : (50 : Int32) * nI r + nI n ≤ nI (50 * r + i) := by
      rw [show (50 : Int32) = nI 50 from rfl, pk_mul, nI_add]
      exact nI_le (by omega) (by omega)
    have e0 : g 141 0 = v := hs.1
    refine ⟨g, ?_, fun _ _ _ => rfl⟩
    rcases hx with ⟨rfl, rfl⟩ | ⟨p, q, rfl, rfl⟩
    · rw [B_X12_worth_9, q_rgN hr12 (by decide), hn, if_pos c1, e0]
    · rw [B_X12_worth_9a, q_rgN hr12 (by decide), hn, if_pos c1, e0]
  | cons code cs ih =>
    intro i l g x8 x9 hx hn hi hcd hl hs he
    rw [List.length_cons] at hi
    cases he2 : q_stk nm code l with
    | none => rw [q_evl, he2] at he; cases he
    | some l2 =>
      rw [q_evl, he2] at he
      have hlen := q_stk_len he2
      have h0 := hcd 0 (by simp)
      obtain ⟨g1, p, q, e1, hs1, hf1⟩ := m_wstep (o := o) hnm hr12 hn50 hn (by omega) h0 hl hs he2 d x8 x9 hx
      obtain ⟨g2, e2, hf2⟩ := ih (i + 1) l2 g1 (.int p) (.int q) (Or.inr ⟨_, _, rfl, rfl⟩) ((hf1 _ _ (by decide)).trans hn) (by omega) (fun j hj => by
        have h := hcd (j + 1) (by simp; omega)
        rw [List.getElem_cons_succ] at h
        rw [hf1 _ _ (by decide), hf1 _ _ (by decide), show i + 1 + j = i + (j + 1) by omega]
        exact h) (by omega) hs1 he
      exact ⟨g2, e1.trans e2, fun p k h => (hf2 p k h).trans (hf1 p k h)⟩
theorem m_worth (hm : repM g S N) (hv : q_rw S N) (d : Nat) {r : Nat} (hrN : r < N 6) (a b c e : Int32) : ∃ g2, q_sem (d + 1) mX12_worth 0 [.ref 98, .int (nI r), .int a, .int b, .int c, .int e, .retAddr 0, .retAddr 0, .retAddr 0, .retAddr 0] [] (q_K o g) = some (some (.int (q_wo S r a b c e)), q_K o g2) ∧ ∀ p k, p ≠ 141 → g2 p k = g p k := by
  have hN := m_c6 hm
  obtain ⟨hv1, hv2, hv3, hv4⟩ := hv r hrN
  obtain ⟨v, hv5⟩ := hv4 (q_nm4 a b c e)
  rw [q_wo_eq hv5]
  have hlen : (q_cs S r).length = q_cl2 (S 28 r) := by unfold q_cs; simp
  obtain ⟨g2, e2, hf2⟩ := m_worth_l (o := o) (nm := q_nm4 a b c e) (v := v) rfl (show r < 12 by omega) hv1 d (q_cs S r) 0 [] g (.retAddr 0) (.retAddr 0) (Or.inl ⟨rfl, rfl⟩) ((m_f28 hm hrN).trans hv2) (by rw [hlen]; omega) (fun j hj => by
    have hj2 : j < q_cl2 (S 28 r) := by rw [hlen] at hj; exact hj
    have := hm.2.2.1 r hrN j (by omega) (by rw [hv2]; exact nI_lt hj2 (by omega))
    rw [Nat.zero_add]
    unfold q_cs at hj ⊢
    simp only [List.getElem_map, List.getElem_range]
    exact this) (Nat.le_refl _) trivial hv5
  refine ⟨g2, ?_, hf2⟩
  rw [B_X12_worth_0, show (50 : Int32) = nI 50 from rfl, pk_mul]
  exact e2
theorem m_if_l (hm : repM g S N) (d : Nat) (u m : Int32) : ∀ n r, r + n = N 6 → q_sem d mX12_inForce 5 [.ref 98, .int u, .int m, .int (q_if S u m r), .int (nI r)] [] (q_K o g) = some (some (.int (q_if S u m (N 6))), q_K o g) := by
  have hN := m_c6 hm
  intro n
  induction n with
  | zero =>
    intro r hr
    have c1 : nI (N 6) ≤ nI r := nI_le (by omega) (by omega)
    have er : r = N 6 := by omega
    rw [B_X12_inForce_5, m_n6 hm, if_pos c1, er]
  | succ n ih =>
    intro r hr
    have hr2 : r < N 6 := by omega
    have c1 : ¬ nI (N 6) ≤ nI r := nI_ge hr2 (by omega)
    have h := ih (r + 1) (by omega)
    have h0 : q_if S u m (r + 1) = if S 26 r = u ∧ S 27 r ≤ m then nI r else q_if S u m r := rfl
    rw [h0] at h
    rw [B_X12_inForce_5]
    simp only [m_n6 hm, c1, ↓reduceIte, q_rgN (show r < 12 by omega) (show 12 < 2 ^ 31 by decide), m_f26 hm hr2, m_f27 hm hr2, nI_1]
    by_cases h1 : S 26 r = u
    · by_cases h2 : S 27 r ≤ m
      · have h3 : ¬ m < S 27 r := by rw [q_leN]; exact h2
        rw [if_pos h1, if_neg h3]
        rw [if_pos ⟨h1, h2⟩] at h
        exact h
      · have h3 : m < S 27 r := by rw [← q_ltN]; exact h2
        rw [if_pos h1, if_pos h3]
        rw [if_neg (fun z => h2 z.2)] at h
        exact h
    · rw [if_neg h1]
      rw [if_neg (fun z => h1 z.1)] at h
      exact h
theorem m_inForce (hm : repM g S N) (d : Nat) (u m : Int32) : q_sem d mX12_inForce 0 [.ref 98, .int u, .int m, .retAddr 0, .retAddr 0] [] (q_K o g) = some (some (.int (q_if S u m (N 6))), q_K o g) := by
  rw [B_X12_inForce_0]
  exact m_if_l hm d u m (N 6) 0 (by omega)
theorem m_isHostile (hm : repM g S N) (hv : q_rw S N) (d : Nat) {i : Nat} (hi : i < N 5) : ∃ g2, q_sem (d + 2) mX12_isHostile 0 [.ref 98, .int (nI i), .retAddr 0] [] (q_K o g) = some (some (.int (q_ho S N i)), q_K o g2) ∧ ∀ p k, p ≠ 141 → g2 p k = g p k := by
  have hN := m_c5 hm
  have hN6 := m_c6 hm
  unfold q_ho
  rcases q_if_cases S 1 (S 0 7) (N 6) with h | ⟨r, hrN, h⟩
  · refine ⟨g, ?_, fun _ _ _ => rfl⟩
    rw [h]
    simp only [B_X12_isHostile_0, B_X12_isHostile_12, B_X12_isHostile_64, m_inForce hm, hm.2.2.2.2.1, h, Option.bind_some, Option.toList_some, Option.toList_none, List.cons_append, List.nil_append, (by decide : ¬ (0 : Int32) ≤ -1), (by decide : (-1 : Int32) < 0), ↓reduceIte, q_rgN (show i < 16 by omega) (show 16 < 2 ^ 31 by decide), m_f14 hm hi, ← q_ltN]
    by_cases h3 : S 14 i < 3 <;> simp [h3]
  · obtain ⟨g2, e2, hf2⟩ := m_worth (o := o) hm hv d hrN (S 17 i) (S 16 i) (S 24 i) (S 19 i)
    refine ⟨g2, ?_, hf2⟩
    have c1 : 0 ≤ nI r := nI_pos' (by omega)
    have c2 : ¬ nI r < 0 := nI_pos (by omega)
    rw [h, show q_cl2 (nI r) = r from nI_clamp (by omega), if_neg c2]
    simp only [B_X12_isHostile_0, B_X12_isHostile_12, B_X12_isHostile_64, m_inForce hm, hm.2.2.2.2.1, h, Option.bind_some, Option.toList_some, Option.toList_none, List.cons_append, List.nil_append, c1, ↓reduceIte, q_rgN (show i < 16 by omega) (show 16 < 2 ^ 31 by decide), m_f17 hm hi, m_f16 hm hi, m_f24 hm hi, m_f19 hm hi, e2]
    split <;> rfl
theorem m_isFlight (hm : repM g S N) {i : Nat} (hi : i < N 5) (d : Nat) : q_sem d mX12_isFlight 0 [.ref 98, .int (nI i)] [] (q_K o g) = some (some (.int (bI (decide (3 < S 14 i)))), q_K o g) := by
  have hN := m_c5 hm
  rw [B_X12_isFlight_0]
  simp only [q_rgN (show i < 16 by omega) (show 16 < 2 ^ 31 by decide), m_f14 hm hi, ← q_ltN]
  by_cases h : S 14 i ≤ 3 <;> simp [h, bI]
theorem z_isA4 (hr : repC 1 g S N) (hf : q_wf S N) (ho : q_oR o) {i : Nat} (hi : i < N 5) (d : Nat) : q_sem (d + 2) mX10_isA 0 [.ref 1, .int (nI i), .int 4, .retAddr 0, .retAddr 0] [] (q_K o g) = some (some (.int (bI (decide (3 < S 14 i)))), q_K o g) := by
  have hN := n_cnt_fl hr
  rw [c_isA4 hr hf ho, q_at_in hi (by omega), bI_d]
theorem z_isA3 (hr : repC 1 g S N) (hf : q_wf S N) (ho : q_oR o) {i : Nat} (hi : i < N 5) (d : Nat) : q_sem (d + 2) mX10_isA 0 [.ref 1, .int (nI i), .int 3, .retAddr 0, .retAddr 0] [] (q_K o g) = some (some (.int (bI (decide (3 ≤ S 14 i)))), q_K o g) := by
  have hN := n_cnt_fl hr
  rw [c_isA3 hr hf ho, q_at_in hi (by omega), ← bI_d]
  by_cases h : S 14 i < 3
  · rw [if_pos h, if_neg (by rw [q_ltN]; exact h)]
  · rw [if_neg h, if_pos (by rw [← q_leN]; exact h)]
theorem z_stands (hr : repC 1 g S N) {i : Nat} (hi : i < N 5) (d : Nat) (how : Int32) : q_sem (d + 2) mX10_stands 0 [.ref 1, .int (nI i), .int how] [] (q_K o g) = some (some (.int (bI (decide (S 20 i = how)))), q_K o g) := by
  have hN := n_cnt_fl hr
  rw [c_stands hr, q_at_in hi (by omega), bI_d]
end MWO
