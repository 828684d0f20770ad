section LBM
variable {o : q_H} {g : Nat → Nat → Int32} {s n nc N ms cs : Nat} {M C : Nat → Int32}
theorem m_areMasts (hM : q_sM g ms n M) (d : Nat) : q_sem (d + 3) mX12_areMasts 0 [.ref 98, .int (nI ms), .retAddr 0, .retAddr 0] [] (q_K o g) = some (some (.int (bI (decide (n ≠ 0 ∧ n % 3 = 0 ∧ ∀ m, m < n / 3 → q_okm M m = true)))), q_K o g) := by
  obtain ⟨hs, hn, en, hv⟩ := hM
  have e3 : ∀ i, i ≤ 24 → nI i - nI i / 3 * 3 = nI (i % 3) := fun i hi => pk_rem (d := 3) (by omega) (by decide) (by decide)
  have r4 := fun (f : Nat → Option (Option Value × q_H)) => q_rgN (k := f) hs (show 4 < 2 ^ 31 by decide)
  generalize hF : (fun i => if i % 3 = 2 then q_in (M i) 1 15 else q_in (M i) 0 15) = F
  have hFs : ∀ i, F i = if i % 3 = 2 then q_in (M i) 1 15 else q_in (M i) 0 15 := fun i => by rw [← hF]
  have body : ∀ k i, i + k = n → q_sem (d + 3) mX12_areMasts 28 [.ref 98, .int (nI ms), .int 1, .int (nI i)] [] (q_K o g) = some (some (.int (bI (decide (∀ c, c < n → i ≤ c → F c = true)))), q_K o g) := by
    intro k
    induction k with
    | zero =>
      intro i hi
      have c1 : nI n ≤ nI i := nI_le (by omega) (by omega)
      rw [B_X12_areMasts_28, r4, en, if_pos c1, decide_eq_true (fun c a b => by omega)]
      rfl
    | succ k ih =>
      intro i hi
      have c1 : ¬ nI n ≤ nI i := nI_ge (by omega) (by omega)
      have e24 : (24 : Int32) * nI ms + nI i = nI (24 * ms + i) := by rw [show (24 : Int32) = nI 24 from rfl, pk_mul, nI_add]
      have key : q_sem (d + 3) mX12_areMasts 28 [.ref 98, .int (nI ms), .int 1, .int (nI i)] [] (q_K o g) = q_sem (d + 3) mX12_areMasts 28 [.ref 98, .int (nI ms), .int (bI (F i)), .int (nI (i + 1))] [] (q_K o g) := by
        rw [B_X12_areMasts_28, r4, en, if_neg c1, if_neg (by decide), e24, q_rgN (show 24 * ms + i < 96 by omega) (by decide), hv i (by omega), e3 i (by omega), hFs]
        by_cases q : i % 3 = 2
        · rw [if_pos q, if_pos (by rw [q]; rfl)]
          simp only [y_in, Option.bind_some, Option.toList_some, Option.toList_none, List.cons_append, List.nil_append, B_X12_areMasts_70, nI_1]
        · rw [if_neg q, if_neg (show ¬ nI (i % 3) = 2 from fun z => q ((nI_eq (by omega) (by decide)).mp (z : nI (i % 3) = nI 2)))]
          simp only [y_in, Option.bind_some, Option.toList_some, Option.toList_none, List.cons_append, List.nil_append, B_X12_areMasts_70, nI_1]
      rw [key]
      cases e : F i
      · rw [decide_eq_false (fun z => by have := z i (by omega) (Nat.le_refl _); rw [e] at this; exact absurd this (by decide))]
        rw [B_X12_areMasts_28, r4, en]
        by_cases c2 : nI n ≤ nI (i + 1)
        · rw [if_pos c2]; rfl
        · rw [if_neg c2, if_pos (show bI false = 0 from rfl)]; rfl
      · have hiff : (∀ c, c < n → i ≤ c → F c = true) ↔ (∀ c, c < n → i + 1 ≤ c → F c = true) := ⟨fun z m a b => z m a (by omega), fun z m a b => by
          by_cases q : m = i
          · rw [q]; exact e
          · exact z m a (by omega)⟩
        rw [decide_eq_decide.mpr hiff]
        exact ih (i + 1) (by omega)
  rw [B_X12_areMasts_0, r4, en]
  by_cases n0 : n = 0
  · subst n0
    rw [if_pos (by decide), decide_eq_false (fun z => z.1 rfl), B_X12_areMasts_28, r4, en, if_pos (by decide)]
    rfl
  rw [if_neg (nI_nle (by omega) (by omega)), r4, en, e3 n hn]
  by_cases n3 : n % 3 = 0
  · rw [if_pos (by rw [n3]; rfl), show (0 : Int32) = nI 0 from rfl, body n 0 (by omega)]
    have hiff : (∀ c, c < n → 0 ≤ c → F c = true) ↔ (n ≠ 0 ∧ n % 3 = 0 ∧ ∀ m, m < n / 3 → q_okm M m = true) := by
      constructor
      · intro z
        refine ⟨n0, n3, fun m hm => ?_⟩
        have a := z (3 * m) (by omega) (Nat.zero_le _)
        have b := z (3 * m + 1) (by omega) (Nat.zero_le _)
        have c := z (3 * m + 2) (by omega) (Nat.zero_le _)
        rw [hFs, if_neg (by omega)] at a b
        rw [hFs, if_pos (by omega)] at c
        unfold q_okm
        rw [a, b, c]; rfl
      · rintro ⟨_, _, z⟩ c hc _
        have := z (c / 3) (by omega)
        unfold q_okm at this
        rw [Bool.and_eq_true, Bool.and_eq_true] at this
        rw [hFs]
        by_cases q : c % 3 = 2
        · rw [if_pos q, show c = 3 * (c / 3) + 2 by omega]; exact this.2.2
        · rw [if_neg q]
          by_cases q1 : c % 3 = 1
          · rw [show c = 3 * (c / 3) + 1 by omega]; exact this.2.1
          · rw [show c = 3 * (c / 3) by omega]; exact this.1
    rw [decide_eq_decide.mpr hiff]
  · rw [if_neg (nI_ne0 (by omega) (by omega)), decide_eq_false (fun z => n3 z.2.1), B_X12_areMasts_28, r4, en]
    rw [if_neg (nI_nle (by omega) (by omega)), if_pos rfl]
    rfl
theorem m_areCells (hM : q_sM g cs nc C) (d : Nat) : q_sem (d + 3) mX12_areCells 0 [.ref 98, .int (nI cs), .retAddr 0, .retAddr 0] [] (q_K o g) = some (some (.int (bI (decide (∀ i, i < nc → q_in (C i) 0 255 = true)))), q_K o g) := by
  obtain ⟨hs, hn, en, hv⟩ := hM
  have r4 := fun (f : Nat → Option (Option Value × q_H)) => q_rgN (k := f) hs (show 4 < 2 ^ 31 by decide)
  have zer : ∀ k i, i + k = nc → q_sem (d + 3) mX12_areCells 4 [.ref 98, .int (nI cs), .int 0, .int (nI i)] [] (q_K o g) = some (some (.int 0), q_K o g) := by
    intro k
    induction k with
    | zero =>
      intro i hi
      rw [B_X12_areCells_4, r4, en, if_pos (nI_le (by omega) (by omega))]; rfl
    | succ k ih =>
      intro i hi
      rw [B_X12_areCells_4, r4, en, if_neg (nI_ge (by omega) (by omega)), if_pos rfl, nI_1]
      exact ih (i + 1) (by omega)
  have body : ∀ k i, i + k = nc → q_sem (d + 3) mX12_areCells 4 [.ref 98, .int (nI cs), .int 1, .int (nI i)] [] (q_K o g) = some (some (.int (bI (decide (∀ c, c < nc → i ≤ c → q_in (C c) 0 255 = true)))), q_K o g) := by
    intro k
    induction k with
    | zero =>
      intro i hi
      rw [B_X12_areCells_4, r4, en, if_pos (nI_le (by omega) (by omega)), decide_eq_true (fun c a b => by omega)]
      rfl
    | succ k ih =>
      intro i hi
      have e24 : (24 : Int32) * nI cs + nI i = nI (24 * cs + i) := by rw [show (24 : Int32) = nI 24 from rfl, pk_mul, nI_add]
      rw [B_X12_areCells_4, r4, en, if_neg (nI_ge (by omega) (by omega)), if_neg (by decide), e24, q_rgN (show 24 * cs + i < 96 by omega) (by decide), hv i (by omega), y_isCell]
      simp only [Option.bind_some, Option.toList_some, Option.toList_none, List.cons_append, List.nil_append, B_X12_areCells_32, nI_1]
      cases e : q_in (C i) 0 255
      · rw [decide_eq_false (fun z => by have := z i (by omega) (Nat.le_refl _); rw [e] at this; exact absurd this (by decide)), bI_f, if_pos rfl]
        exact zer k (i + 1) (by omega)
      · have hiff : (∀ c, c < nc → i ≤ c → q_in (C c) 0 255 = true) ↔ (∀ c, c < nc → i + 1 ≤ c → q_in (C c) 0 255 = true) := ⟨fun z m a b => z m a (by omega), fun z m a b => by
          by_cases q : m = i
          · rw [q]; exact e
          · exact z m a (by omega)⟩
        rw [decide_eq_decide.mpr hiff, bI_t, if_neg (by decide)]
        exact ih (i + 1) (by omega)
  have hb := body nc 0 (by omega)
  rw [show nI 0 = (0 : Int32) from rfl] at hb
  rw [B_X12_areCells_0, hb]
  have hiff : (∀ c, c < nc → 0 ≤ c → q_in (C c) 0 255 = true) ↔ (∀ i, i < nc → q_in (C i) 0 255 = true) := ⟨fun z c a => z c a (Nat.zero_le _), fun z c a _ => z c a⟩
  rw [decide_eq_decide.mpr hiff]
theorem m_seenI (hM : q_sM g ms n M) (hC0 : q_sM g cs nc C) (hok : ∀ m, m < N → q_okm M m = true) {t : Nat} (ht : t < 2 ^ N) (hN : N ≤ 8) {c : Nat} (hc : c < nc) (hcc : q_in (C c) 0 255 = true) (d : Nat) (x4 : Int32) : ∀ k m v8, m + k = 8 → (v8 = .retAddr 0 ∨ ∃ z, v8 = .int z) → ∃ v, (v = .retAddr 0 ∨ ∃ z, v = .int z) ∧ q_sem (d + 2) mX12_seenBy 23 [.ref 98, .int (nI ms), .int (nI cs), .int (nI t), .int x4, .int (nI c), .int (bI (q_any (q_P M C) t m c)), .int (nI m), v8] [] (q_K o g) = q_sem (d + 2) mX12_seenBy 6 [.ref 98, .int (nI ms), .int (nI cs), .int (nI t), .int (x4 + bI (q_any (q_P M C) t 8 c)), .int (nI (c + 1)), .int (bI (q_any (q_P M C) t 8 c)), .int 8, v] [] (q_K o g) := by
  obtain ⟨hs, hn, en, hv⟩ := hM
  obtain ⟨hs2, hn2, en2, hv2⟩ := hC0
  have h256 : 2 ^ N ≤ 2 ^ 8 := Nat.pow_le_pow_right (by decide) hN
  intro k
  induction k with
  | zero =>
    intro m v8 hm hx
    obtain rfl : m = 8 := by omega
    refine ⟨v8, hx, ?_⟩
    rcases hx with rfl | ⟨z, rfl⟩
    · rw [B_X12_seenBy_23, if_pos (by decide), nI_1]
      cases q_any (q_P M C) t 8 c
      · rw [if_pos (show bI false = 0 from rfl)]; rfl
      · rw [if_neg (show ¬ bI true = 0 by decide)]; rfl
    · rw [B_X12_seenBy_23a, if_pos (by decide), nI_1]
      cases q_any (q_P M C) t 8 c
      · rw [if_pos (show bI false = 0 from rfl)]; rfl
      · rw [if_neg (show ¬ bI true = 0 by decide)]; rfl
  | succ k ih =>
    intro m v8 hm hx
    have c1 : ¬ (8 : Int32) ≤ nI m := (by decide : (8 : Int32) = nI 8) ▸ nI_ge (by omega) (by omega)
    have e1 : (24 : Int32) * nI ms + 3 * nI m = nI (24 * ms + 3 * m) := by rw [show (24 : Int32) = nI 24 from rfl, show (3 : Int32) = nI 3 from rfl, pk_mul, pk_mul, nI_add]
    have e2 : (24 : Int32) * nI cs + nI c = nI (24 * cs + c) := by rw [show (24 : Int32) = nI 24 from rfl, pk_mul, nI_add]
    have go : ∀ A, (A = if q_any (q_P M C) t m c = false then (if t.testBit m = true then (q_sem (d + 1) mX12_isWithin 0 [.int (C c), .int (16 * M (3 * m + 1) + M (3 * m)), .int (M (3 * m + 2)), .retAddr 0, .retAddr 0] [] (q_K o g)).bind (fun r => q_sem (d + 2) mX12_seenBy 100 [.ref 98, .int (nI ms), .int (nI cs), .int (nI t), .int x4, .int (nI c), .int (bI (q_any (q_P M C) t m c)), .int (nI m), .int (nI (24 * ms + 3 * m))] (r.1.toList ++ []) r.2) else q_sem (d + 2) mX12_seenBy 23 [.ref 98, .int (nI ms), .int (nI cs), .int (nI t), .int x4, .int (nI c), .int 0, .int (nI (m + 1)), .int (nI (24 * ms + 3 * m))] [] (q_K o g)) else q_sem (d + 2) mX12_seenBy 23 [.ref 98, .int (nI ms), .int (nI cs), .int (nI t), .int x4, .int (nI c), .int 1, .int (nI (m + 1)), .int (nI (24 * ms + 3 * m))] [] (q_K o g)) → ∃ v, (v = .retAddr 0 ∨ ∃ z, v = .int z) ∧ A = q_sem (d + 2) mX12_seenBy 6 [.ref 98, .int (nI ms), .int (nI cs), .int (nI t), .int (x4 + bI (q_any (q_P M C) t 8 c)), .int (nI (c + 1)), .int (bI (q_any (q_P M C) t 8 c)), .int 8, v] [] (q_K o g) := by
      intro A hA
      obtain ⟨v, hv0, e0⟩ := ih (m + 1) (.int (nI (24 * ms + 3 * m))) (by omega) (Or.inr ⟨_, rfl⟩)
      refine ⟨v, hv0, ?_⟩
      rw [hA, ← e0]
      have es : q_any (q_P M C) t (m + 1) c = (q_any (q_P M C) t m c || (t.testBit m && q_P M C m c)) := rfl
      cases a : q_any (q_P M C) t m c
      · rw [if_pos rfl]
        cases b : t.testBit m
        · rw [if_neg (by decide), es, a, b]; rfl
        · rw [if_pos rfl]
          have hmN : m < N := by
            apply Nat.lt_of_not_le
            intro z
            have := Nat.testBit_lt_two_pow (Nat.lt_of_lt_of_le ht (Nat.pow_le_pow_right (by decide) z))
            rw [b] at this; exact absurd this (by decide)
          obtain ⟨x, y, hx, hy, ex, ey⟩ := q_okm_t (hok m hmN)
          obtain ⟨w, hw, ew⟩ := q_inc_t hcc
          have em : (16 : Int32) * nI y + nI x = nI (16 * y + x) := by rw [show (16 : Int32) = nI 16 from rfl, pk_mul, nI_add]
          have hP0 : q_P M C m c = decide (nI (q_d2 w (16 * y + x)) ≤ M (3 * m + 2) * M (3 * m + 2)) := by
            unfold q_P
            rw [ex, ey, ew, show q_cl2 (nI x) = x from nI_clamp (by omega), show q_cl2 (nI y) = y from nI_clamp (by omega), show q_cl2 (nI w) = w from nI_clamp (by omega), q_d2_comm]
          rw [es, a, b, hP0, ex, ey, ew, em, n_isWithin d hw (by omega), bI_d]
          simp only [Option.bind_some, Option.toList_some, Option.toList_none, List.cons_append, List.nil_append, B_X12_seenBy_100, nI_1]
          cases decide (nI (q_d2 w (16 * y + x)) ≤ M (3 * m + 2) * M (3 * m + 2))
          · rw [if_pos (show bI false = 0 from rfl)]; rfl
          · rw [if_neg (show ¬ bI true = 0 by decide)]; rfl
      · rw [if_neg (by decide), es, a]; rfl
    apply go
    have hb := f_bit t (by omega) m (by omega)
    have hbb : (nI (if t.testBit m = true then 1 else 0) = 1) = (t.testBit m = true) := by cases t.testBit m <;> simp <;> decide
    have r1 : ∀ (f : Nat → Option (Option Value × q_H)), q_rg (nI (24 * cs + c)) 96 f = f (24 * cs + c) := fun f => q_rgN (by omega) (by decide)
    have r2 : ∀ (f : Nat → Option (Option Value × q_H)), q_rg (nI (24 * ms + 3 * m + 1)) 96 f = f (24 * ms + 3 * m + 1) := fun f => q_rgN (by omega) (by decide)
    have r3 : ∀ (f : Nat → Option (Option Value × q_H)), q_rg (nI (24 * ms + 3 * m)) 96 f = f (24 * ms + 3 * m) := fun f => q_rgN (by omega) (by decide)
    have r5 : ∀ (f : Nat → Option (Option Value × q_H)), q_rg (nI (24 * ms + 3 * m + 2)) 96 f = f (24 * ms + 3 * m + 2) := fun f => q_rgN (by omega) (by decide)
    have v0 : g 137 (24 * cs + c) = C c := hv2 c (by omega)
    have v1 : g 137 (24 * ms + 3 * m + 1) = M (3 * m + 1) := by rw [Nat.add_assoc]; exact hv _ (by omega)
    have v2 : g 137 (24 * ms + 3 * m) = M (3 * m) := hv _ (by omega)
    have v3 : g 137 (24 * ms + 3 * m + 2) = M (3 * m + 2) := by rw [Nat.add_assoc]; exact hv _ (by omega)
    rcases hx with rfl | ⟨z, rfl⟩
    · rw [B_X12_seenBy_23, if_neg c1]
      simp only [bI_0, hb, hbb, e1, e2, nI_1, nI_2, r1, r2, r3, r5, v0, v1, v2, v3]
    · rw [B_X12_seenBy_23a, if_neg c1]
      simp only [bI_0, hb, hbb, e1, e2, nI_1, nI_2, r1, r2, r3, r5, v0, v1, v2, v3]
theorem m_seenBy (hM : q_sM g ms n M) (hC0 : q_sM g cs nc C) (hok : ∀ m, m < N → q_okm M m = true) (hcc : ∀ c, c < nc → q_in (C c) 0 255 = true) {t : Nat} (ht : t < 2 ^ N) (hN : N ≤ 8) (d : Nat) : q_sem (d + 2) mX12_seenBy 0 [.ref 98, .int (nI ms), .int (nI cs), .int (nI t), .retAddr 0, .retAddr 0, .retAddr 0, .retAddr 0, .retAddr 0] [] (q_K o g) = some (some (.int (nI (q_cnt (fun c => q_any (q_P M C) t N c) nc))), q_K o g) := by
  have hs2 := hC0.1; have hn2 := hC0.2.1; have en2 := hC0.2.2.1
  have r4 := fun (f : Nat → Option (Option Value × q_H)) => q_rgN (k := f) hs2 (show 4 < 2 ^ 31 by decide)
  have h8 : ∀ c, q_any (q_P M C) t 8 c = q_any (q_P M C) t N c := fun c => by
    obtain ⟨k, hk⟩ := Nat.le.dest hN
    rw [← hk]
    exact q_any_ge (fun j hj => Nat.testBit_lt_two_pow (Nat.lt_of_lt_of_le ht (Nat.pow_le_pow_right (by decide) hj))) k
  have main : ∀ k c v6 v7 v8, c + k = nc → ((v6 = .retAddr 0 ∧ v7 = .retAddr 0 ∧ v8 = .retAddr 0) ∨ ∃ a b, v6 = .int a ∧ v7 = .int b ∧ (v8 = .retAddr 0 ∨ ∃ z, v8 = .int z)) → q_sem (d + 2) mX12_seenBy 6 [.ref 98, .int (nI ms), .int (nI cs), .int (nI t), .int (nI (q_cnt (fun c => q_any (q_P M C) t N c) c)), .int (nI c), v6, v7, v8] [] (q_K o g) = some (some (.int (nI (q_cnt (fun c => q_any (q_P M C) t N c) nc))), q_K o g) := by
    intro k
    induction k with
    | zero =>
      intro c v6 v7 v8 hc hx
      have c1 : nI nc ≤ nI c := nI_le (by omega) (by omega)
      obtain rfl : c = nc := by omega
      rcases hx with ⟨rfl, rfl, rfl⟩ | ⟨a, b, rfl, rfl, rfl | ⟨z, rfl⟩⟩
      · rw [B_X12_seenBy_6, r4, en2, if_pos c1]
      · rw [B_X12_seenBy_6a, r4, en2, if_pos c1]
      · rw [B_X12_seenBy_6b, r4, en2, if_pos c1]
    | succ k ih =>
      intro c v6 v7 v8 hc hx
      have c1 : ¬ nI nc ≤ nI c := nI_ge (by omega) (by omega)
      have hstep : ∀ w, (w = Value.retAddr 0 ∨ ∃ z, w = Value.int z) → q_sem (d + 2) mX12_seenBy 23 [.ref 98, .int (nI ms), .int (nI cs), .int (nI t), .int (nI (q_cnt (fun c => q_any (q_P M C) t N c) c)), .int (nI c), .int 0, .int 0, w] [] (q_K o g) = some (some (.int (nI (q_cnt (fun c => q_any (q_P M C) t N c) nc))), q_K o g) := by
        intro w hw
        obtain ⟨v, hv, e⟩ := m_seenI (o := o) hM hC0 hok ht hN (show c < nc by omega) (hcc c (by omega)) d (nI (q_cnt (fun c => q_any (q_P M C) t N c) c)) 8 0 w (by omega) hw
        have e' : q_sem (d + 2) mX12_seenBy 23 [.ref 98, .int (nI ms), .int (nI cs), .int (nI t), .int (nI (q_cnt (fun c => q_any (q_P M C) t N c) c)), .int (nI c), .int 0, .int 0, w] [] (q_K o g) = _ := e
        rw [e', h8]
        have : nI (q_cnt (fun c => q_any (q_P M C) t N c) c) + bI (q_any (q_P M C) t N c) = nI (q_cnt (fun c => q_any (q_P M C) t N c) (c + 1)) := by
          show _ = nI (_ + if q_any (q_P M C) t N c = true then 1 else 0)
          rw [← nI_add]
          cases q_any (q_P M C) t N c <;> rfl
        rw [this]
        exact ih (c + 1) _ _ _ (by omega) (Or.inr ⟨_, _, rfl, rfl, hv⟩)
      rcases hx with ⟨rfl, rfl, rfl⟩ | ⟨a, b, rfl, rfl, rfl | ⟨z, rfl⟩⟩
      · rw [B_X12_seenBy_6, r4, en2, if_neg c1]; exact hstep _ (Or.inl rfl)
      · rw [B_X12_seenBy_6a, r4, en2, if_neg c1]; exact hstep _ (Or.inl rfl)
      · rw [B_X12_seenBy_6b, r4, en2, if_neg c1]; exact hstep _ (Or.inr ⟨_, rfl⟩)
  rw [B_X12_seenBy_0]
  exact main nc 0 _ _ _ (by omega) (Or.inl ⟨rfl, rfl, rfl⟩)
end LBM
