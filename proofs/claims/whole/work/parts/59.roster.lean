/-! pilots -/
theorem q_tb85 : q_tb 85 10 1 := ⟨⟨by decide, rfl⟩, rfl, rfl, rfl, rfl, ⟨by decide, rfl, rfl⟩, by decide, by decide, by decide⟩
theorem q_tb87 : q_tb 87 10 1 := ⟨⟨by decide, rfl⟩, rfl, rfl, rfl, rfl, ⟨by decide, rfl, rfl⟩, by decide, by decide, by decide⟩
theorem q_tb89 : q_tb 89 11 7 := ⟨⟨by decide, rfl⟩, rfl, rfl, rfl, rfl, ⟨by decide, rfl, rfl⟩, by decide, by decide, by decide⟩
section RST
variable {o : q_H} {t M W R : Nat}
theorem z_get1 {g : Nat → Nat → Int32} (tb : q_tb t M 1) (ht : q_ti g t M 1 R) {r : Nat} (hr : r < R) (d : Nat) : q_sem (d + 1) mX7_get 0 [.ref t, .int (nI r), .int 0] [] (q_K o g) = some (some (.int (g (t + 1) r)), q_K o g) := by
  have h1 := tb.2.2.2.2.2.2.1
  have h2 := ht.2.2.2
  have e := s_get (o := o) d tb ht (nI r) (nI 0)
  rw [q_gt_in hr (by decide) (by omega) (by decide), Nat.mul_one, Nat.add_zero] at e
  exact e
theorem z_getW {g : Nat → Nat → Int32} (tb : q_tb t M W) (ht : q_ti g t M W R) {r c : Nat} (hr : r < R) (hc : c < W) (d : Nat) : q_sem (d + 1) mX7_get 0 [.ref t, .int (nI r), .int (nI c)] [] (q_K o g) = some (some (.int (g (t + 1) (r * W + c))), q_K o g) := by
  have h1 := tb.2.2.2.2.2.2.1
  have h2 := ht.2.2.2
  have h3 := tb.2.2.2.2.2.2.2.2
  rw [s_get d tb ht, q_gt_in hr hc (by omega) h3]
theorem z_getO {g : Nat → Nat → Int32} (tb : q_tb t M W) (ht : q_ti g t M W R) {x : Int32} (hx : ¬ 0 ≤ x) (y : Int32) (d : Nat) : q_sem (d + 1) mX7_get 0 [.ref t, .int x, .int y] [] (q_K o g) = some (some (.int 0), q_K o g) := by
  rw [s_get d tb ht]
  unfold q_gt
  rw [if_neg (fun z => hx z.1)]
theorem z_addT {g : Nat → Nat → Int32} (tb : q_tb t M W) (ht : q_ti g t M W R) (hR : R < M) (v : Int32) (d : Nat) : ∃ g2 y, q_sem (d + 2) mX7_add 0 [.ref t, .int v, .retAddr 0] [] (q_K o g) = some (some (.int y), q_K o g2) ∧ q_ti g2 t M W (R + 1) ∧ g2 (t + 1) (R * W) = v ∧ ∀ p j, ¬ (p = t ∧ j = 3) → ¬ (p = t + 1 ∧ R * W ≤ j ∧ j < R * W + W) → g2 p j = g p j := by
  have h1 := tb.2.2.2.2.2.2.2.1
  refine ⟨_, _, s_add d tb ht hR v, ?_, ?_, ?_⟩
  · unfold q_ad
    refine ⟨?_, ?_, ?_, by omega⟩
    · dsimp only; rw [if_neg (by omega), if_neg (by omega)]; exact ht.1
    · dsimp only; rw [if_neg (by omega), if_neg (by omega)]; exact ht.2.1
    · dsimp only; rw [if_pos ⟨rfl, rfl⟩]
  · unfold q_ad
    rw [if_neg (by omega), if_pos ⟨rfl, by omega, by omega⟩, if_pos rfl]
  · intro p j a b
    unfold q_ad
    rw [if_neg a, if_neg b]
theorem z_wrT {g : Nat → Nat → Int32} (tb : q_tb t M W) (ht : q_ti g t M W R) {r c : Nat} (hr : r < R) (hc : c < W) (v : Int32) (d : Nat) : q_sem (d + 1) mX7_write 0 [.ref t, .int (nI r), .int (nI c), .int v] [] (q_K o g) = some (none, q_K o (q_up g (t + 1) (r * W + c) v)) := by
  have h1 := tb.2.2.2.2.2.2.1
  have h2 := ht.2.2.2
  have h3 := tb.2.2.2.2.2.2.2.2
  rw [s_write d tb ht, q_pt_in hr hc (by omega) h3]
end RST
theorem nI_subN {a b c : Nat} (ha : a < 2 ^ 30) (hb : b < 2 ^ 30) (hc : c < 2 ^ 30) : (nI a - nI b < nI c) = (a < c + b) := by
  apply propext
  rw [Int32.lt_iff_toInt_lt, pk_sub_toInt ha hb, nI_toInt (by omega)]
  omega
theorem nI_subNN {a b c e : Nat} (ha : a < 2 ^ 30) (hb : b < 2 ^ 30) (hc : c < 2 ^ 30) (he : e < 2 ^ 30) : (nI a - nI b < nI c - nI e) = (a + e < c + b) := by
  apply propext
  rw [Int32.lt_iff_toInt_lt, pk_sub_toInt ha hb, pk_sub_toInt hc he]
  omega
section ROS
variable {o : q_H} {g : Nat → Nat → Int32} {s n : Nat} {M : Nat → Int32} {nd : Nat → Nat}
theorem z_rrL (hn10 : n ≤ 10) (d : Nat) : ∀ k i (g : Nat → Nat → Int32) (v4 : Value), i + k = n → q_sV g s n M → q_ti g 85 10 1 i → (∀ j, j < i → g 86 j = M j) → (v4 = .retAddr 0 ∨ ∃ z, v4 = .int z) → ∃ g2 R, q_sem (d + 5) mX4_read 25 [.ref 84, .ref 69, .int (nI s), .int (nI i), v4] [] (q_K o g) = some (some (.int (bI (decide (∀ j, j < n → i ≤ j → q_in (M j) 0 6 = true)))), q_K o g2) ∧ q_ti g2 85 10 1 R ∧ (∀ p j, p ≠ 85 → p ≠ 86 → g2 p j = g p j) ∧ ((∀ j, j < n → i ≤ j → q_in (M j) 0 6 = true) → R = n ∧ ∀ j, j < n → g2 86 j = M j) := by
  intro k
  induction k with
  | zero =>
    intro i g v4 hi hM ht hv hx
    have c1 : nI n ≤ nI i := nI_le (by omega) (by omega)
    have hall : ∀ j, j < n → i ≤ j → q_in (M j) 0 6 = true := fun m a b => by omega
    refine ⟨g, i, ?_, ht, fun _ _ _ _ => rfl, fun _ => ⟨by omega, fun m hm => hv m (by omega)⟩⟩
    rw [decide_eq_true hall]
    rcases hx with rfl | ⟨z, rfl⟩
    · rw [B_X4_read_25]
      simp only [z_sizeS hM, Option.bind_some, Option.toList_some, Option.toList_none, List.cons_append, List.nil_append, B_X4_read_31, c1, ↓reduceIte]
      rfl
    · rw [B_X4_read_25a]
      simp only [z_sizeS hM, Option.bind_some, Option.toList_some, Option.toList_none, List.cons_append, List.nil_append, B_X4_read_31a, c1, ↓reduceIte]
      rfl
  | succ k ih =>
    intro i g v4 hi hM ht hv hx
    have c1 : ¬ nI n ≤ nI i := nI_ge (by omega) (by omega)
    have go : ∀ A : Option (Option Value × q_H), (A = if q_in (M i) 0 6 = false then some (some (.int 0), q_K o g) else (q_sem (d + 4) mX7_add 0 [.ref 85, .int (M i), .retAddr 0] [] (q_K o g)).bind (fun r => q_sem (d + 5) mX4_read 64 [.ref 84, .ref 69, .int (nI s), .int (nI i), .int (M i)] (r.1.toList ++ []) r.2)) → ∃ g2 R, A = some (some (.int (bI (decide (∀ j, j < n → i ≤ j → q_in (M j) 0 6 = true)))), q_K o g2) ∧ q_ti g2 85 10 1 R ∧ (∀ p j, p ≠ 85 → p ≠ 86 → g2 p j = g p j) ∧ ((∀ j, j < n → i ≤ j → q_in (M j) 0 6 = true) → R = n ∧ ∀ j, j < n → g2 86 j = M j) := by
      intro A hA
      cases e : q_in (M i) 0 6
      · have bad : ¬ (∀ j, j < n → i ≤ j → q_in (M j) 0 6 = true) := fun z => by
          have := z i (by omega) (Nat.le_refl _)
          rw [e] at this; exact absurd this (by decide)
        exact ⟨g, i, by rw [hA, if_pos e, decide_eq_false bad]; rfl, ht, fun _ _ _ _ => rfl, fun z => absurd z bad⟩
      · rw [if_neg (by rw [e]; decide)] at hA
        obtain ⟨g1, y, e1, h1, v1, f1⟩ := z_addT (o := o) q_tb85 ht (by omega) (M i) (d + 2)
        rw [Nat.mul_one] at v1
        obtain ⟨g2, R, e2, h2, f2, k2⟩ := ih (i + 1) g1 (.int (M i)) (by omega) (sV_fr hM (fun p k h => f1 p k (by omega) (by omega))) h1 (fun j hj => by
          by_cases q : j = i
          · rw [q]; exact v1
          · rw [f1 _ _ (by omega) (by omega)]; exact hv j (by omega)) (Or.inr ⟨_, rfl⟩)
        have hiff : (∀ j, j < n → i ≤ j → q_in (M j) 0 6 = true) ↔ (∀ j, j < n → i + 1 ≤ j → q_in (M j) 0 6 = true) := ⟨fun z m a b => z m a (by omega), fun z m a b => by
          by_cases q : m = i
          · rw [q]; exact e
          · exact z m a (by omega)⟩
        refine ⟨g2, R, ?_, h2, fun p j a b => (f2 p j a b).trans (f1 p j (by omega) (by omega)), fun z => k2 (hiff.mp z)⟩
        rw [hA, e1]
        simp only [Option.bind_some, Option.toList_some, Option.toList_none, List.cons_append, List.nil_append, B_X4_read_64, nI_1]
        rw [decide_eq_decide.mpr hiff]
        exact e2
    apply go
    rcases hx with rfl | ⟨z, rfl⟩
    · rw [B_X4_read_25]
      simp only [z_sizeS hM, Option.bind_some, Option.toList_some, Option.toList_none, List.cons_append, List.nil_append, B_X4_read_31, c1, ↓reduceIte, z_getS hM (show i < n by omega), B_X4_read_40, z_within, B_X4_read_50, bI_0]
    · rw [B_X4_read_25a]
      simp only [z_sizeS hM, Option.bind_some, Option.toList_some, Option.toList_none, List.cons_append, List.nil_append, B_X4_read_31a, c1, ↓reduceIte, z_getS hM (show i < n by omega), B_X4_read_40a, z_within, B_X4_read_50, bI_0]
theorem f_in10 : ∀ n, n < 25 → q_in (nI n) 1 10 = decide (1 ≤ n ∧ n ≤ 10) := by decide +kernel
abbrev q_rok (n : Nat) (M : Nat → Int32) : Prop := (1 ≤ n ∧ n ≤ 10) ∧ ∀ j, j < n → q_in (M j) 0 6 = true
theorem z_rread (hM : q_sV g s n M) {R0 : Nat} (ht : q_ti g 85 10 1 R0) (d : Nat) : ∃ g2 R, q_sem (d + 5) mX4_read 0 [.ref 84, .ref 69, .int (nI s), .retAddr 0, .retAddr 0] [] (q_K o g) = some (some (.int (bI (decide (q_rok n M)))), q_K o g2) ∧ q_ti g2 85 10 1 R ∧ (∀ p j, p ≠ 85 → p ≠ 86 → g2 p j = g p j) ∧ (q_rok n M → R = n ∧ ∀ j, j < n → g2 86 j = M j) := by
  have hn := hM.2.2.1
  have hg1 : ∀ p i, p ≠ 85 → q_up g 85 3 0 p i = g p i := fun p i h => q_upN h
  have hM1 : q_sV (q_up g 85 3 0) s n M := sV_fr hM (fun p k h => hg1 p k (by omega))
  have ht1 : q_ti (q_up g 85 3 0) 85 10 1 0 := ⟨by rw [q_upJ (by decide)]; exact ht.1, by rw [q_upJ (by decide)]; exact ht.2.1, by rw [q_upE]; rfl, by omega⟩
  by_cases c : 1 ≤ n ∧ n ≤ 10
  · obtain ⟨g2, R, e2, h2, f2, k2⟩ := z_rrL (o := o) c.2 d n 0 _ (.retAddr 0) (by omega) hM1 ht1 (fun j hj => by omega) (Or.inl rfl)
    have hiff : q_rok n M ↔ (∀ j, j < n → 0 ≤ j → q_in (M j) 0 6 = true) := ⟨fun z m a _ => z.2 m a, fun z => ⟨c, fun m a => z m a (Nat.zero_le _)⟩⟩
    refine ⟨g2, R, ?_, h2, fun p j a b => (f2 p j a b).trans (hg1 p j a), fun z => k2 (hiff.mp z)⟩
    simp only [B_X4_read_0, s_clear _ q_tb85, Option.bind_some, Option.toList_some, Option.toList_none, List.cons_append, List.nil_append, B_X4_read_7, z_sizeS hM1, B_X4_read_12, z_within, f_in10 n (by omega), decide_eq_true c, bI_t, B_X4_read_18, i10, ↓reduceIte]
    rw [decide_eq_decide.mpr hiff]
    exact e2
  · refine ⟨q_up g 85 3 0, 0, ?_, ht1, fun p j a _ => hg1 p j a, fun z => absurd z.1 c⟩
    rw [decide_eq_false (fun z => c z.1)]
    simp only [B_X4_read_0, s_clear _ q_tb85, Option.bind_some, Option.toList_some, Option.toList_none, List.cons_append, List.nil_append, B_X4_read_7, z_sizeS hM1, B_X4_read_12, z_within, f_in10 n (by omega), decide_eq_false c, bI_f, B_X4_read_18, i00, ↓reduceIte]
def q_nds (g : Nat → Nat → Int32) (n : Nat) (nd : Nat → Nat) : Prop := q_ti g 85 10 1 n ∧ ∀ i, i < n → g 86 i = nI (nd i)
theorem nds_fr {g g2 : Nat → Nat → Int32} (h : q_nds g n nd) (hg : ∀ p j, p = 85 ∨ p = 86 → g2 p j = g p j) : q_nds g2 n nd := ⟨ti_fr h.1 (fun k => hg _ _ (Or.inl rfl)), fun i hi => (hg _ _ (Or.inr rfl)).trans (h.2 i hi)⟩
theorem z_need (h : q_nds g n nd) {i : Nat} (hi : i < n) (d : Nat) : q_sem (d + 1) mX7_get 0 [.ref 85, .int (nI i), .int 0] [] (q_K o g) = some (some (.int (nI (nd i))), q_K o g) := by
  rw [z_get1 q_tb85 h.1 hi, h.2 i hi]
theorem z_before (h : q_nds g n nd) {i : Nat} (hi : i ≤ n) (d : Nat) : q_sem (d + 1) mX7_get 0 [.ref 85, .int (nI i - 1), .int 0] [] (q_K o g) = some (some (.int (nI (q_Bd nd i))), q_K o g) := by
  cases i with
  | zero => rw [z_getO q_tb85 h.1 (by decide)]; rfl
  | succ i => rw [nI_pred, z_need h (by omega)]; rfl
theorem z_canFill (hnd : ∀ i, nd i ≤ 6) (h : q_nds g n nd) (ht : q_ti g 89 11 7 (n + 1)) {k d0 b : Nat} (hk : d0 + (k + 1) = n) (hb : b ≤ 6) (hc : ∀ a, a < 7 → g 90 ((d0 + 1) * 7 + a) = bI (q_can nd k (d0 + 1) a)) (d : Nat) : q_sem (d + 2) mX4_canFill 0 [.ref 84, .int (nI d0), .int (nI b), .retAddr 0, .retAddr 0, .retAddr 0] [] (q_K o g) = some (some (.int (bI (q_can nd (k + 1) d0 b))), q_K o g) := by
  have hneed := hnd d0
  have hB6 : q_Bd nd d0 ≤ 6 := by unfold q_Bd; split; omega; exact hnd _
  have body : ∀ t a, a + t = nd d0 + 1 → q_sem (d + 2) mX4_canFill 26 [.ref 84, .int (nI d0), .int (nI b), .int (nI (q_Bd nd d0)), .int (nI (nd d0)), .int (nI a)] [] (q_K o g) = some (some (.int (bI (decide (∃ c, c < nd d0 + 1 ∧ a ≤ c ∧ ((c + b ≤ q_Bd nd d0 ∧ nd d0 + q_Bd nd d0 ≤ 6 + c) ∧ q_can nd k (d0 + 1) c = true))))), q_K o g) := by
    intro t
    induction t with
    | zero =>
      intro a ha
      rw [B_X4_canFill_26, if_pos (nI_lt (by omega) (by omega)), decide_eq_false (fun ⟨c, h1, h2, _⟩ => by omega)]; rfl
    | succ t ih =>
      intro a ha
      have ih0 := ih (a + 1) (by omega)
      have skip : ¬ ((a + b ≤ q_Bd nd d0 ∧ nd d0 + q_Bd nd d0 ≤ 6 + a) ∧ q_can nd k (d0 + 1) a = true) → (∃ c, c < nd d0 + 1 ∧ a ≤ c ∧ ((c + b ≤ q_Bd nd d0 ∧ nd d0 + q_Bd nd d0 ≤ 6 + c) ∧ q_can nd k (d0 + 1) c = true)) = (∃ c, c < nd d0 + 1 ∧ a + 1 ≤ c ∧ ((c + b ≤ q_Bd nd d0 ∧ nd d0 + q_Bd nd d0 ≤ 6 + c) ∧ q_can nd k (d0 + 1) c = true)) := fun hno => propext ⟨fun ⟨c, h1, h2, h3⟩ => by
        by_cases q : c = a
        · subst q; exact absurd h3 hno
        · exact ⟨c, h1, by omega, h3⟩, fun ⟨c, h1, h2, h3⟩ => ⟨c, h1, by omega, h3⟩⟩
      have e1 : (nI (q_Bd nd d0) - nI b < nI a) = (q_Bd nd d0 < a + b) := nI_subN (by omega) (by omega) (by omega)
      have e2 : (6 - nI (q_Bd nd d0) < nI (nd d0) - nI a) = (6 + a < nd d0 + q_Bd nd d0) := nI_subNN (a := 6) (by decide) (by omega) (by omega) (by omega)
      rw [B_X4_canFill_26, if_neg (nI_nlt (by omega) (by omega)), nI_1, nI_1]
      simp only [e1, e2]
      by_cases q1 : q_Bd nd d0 < a + b
      · rw [if_pos q1]
        simp only [skip (fun z => by omega)]
        exact ih0
      rw [if_neg q1]
      by_cases q2 : 6 + a < nd d0 + q_Bd nd d0
      · rw [if_pos q2]
        simp only [skip (fun z => by omega)]
        exact ih0
      rw [if_neg q2, z_getW q_tb89 ht (by omega) (by omega), show g (89 + 1) ((d0 + 1) * 7 + a) = _ from hc a (by omega)]
      simp only [Option.bind_some, Option.toList_some, Option.toList_none, List.cons_append, List.nil_append, B_X4_canFill_65, nI_1]
      cases e : q_can nd k (d0 + 1) a
      · rw [bI_f, if_pos rfl]
        simp only [skip (fun z => by rw [e] at z; exact absurd z.2 (by decide))]
        exact ih0
      · rw [bI_t, if_neg (by decide), decide_eq_true ⟨a, by omega, Nat.le_refl _, ⟨by omega, by omega⟩, e⟩]; rfl
  rw [B_X4_canFill_0]
  simp only [z_before h (show d0 ≤ n by omega), Option.bind_some, Option.toList_some, Option.toList_none, List.cons_append, List.nil_append, B_X4_canFill_11, z_need h (show d0 < n by omega), B_X4_canFill_21]
  refine (body (nd d0 + 1) 0 (by omega)).trans ?_
  rw [q_can_s]
  simp only [Nat.zero_le, true_and]
theorem z_foreA (h : q_nds g n nd) {R0 : Nat} (ht : q_ti g 89 11 7 R0) (d : Nat) : ∃ g2, q_ti g2 89 11 7 (n + 1) ∧ (∀ p j, p ≠ 89 → p ≠ 90 → g2 p j = g p j) ∧ ∀ A, q_sem (d + 3) mX4_foresee 43 [.ref 84, .int (nI n), .retAddr 0] [] (q_K o g2) = A → q_sem (d + 3) mX4_foresee 0 [.ref 84, .retAddr 0, .retAddr 0] [] (q_K o g) = A := by
  have hn := h.1.2.2.2
  have main : ∀ k i (g : Nat → Nat → Int32), i + k = n + 1 → q_nds g n nd → q_ti g 89 11 7 i → ∃ g2, q_ti g2 89 11 7 (n + 1) ∧ (∀ p j, p ≠ 89 → p ≠ 90 → g2 p j = g p j) ∧ ∀ A, q_sem (d + 3) mX4_foresee 43 [.ref 84, .int (nI n), .retAddr 0] [] (q_K o g2) = A → q_sem (d + 3) mX4_foresee 9 [.ref 84, .int (nI i), .retAddr 0] [] (q_K o g) = A := by
    intro k
    induction k with
    | zero =>
      intro i g hi h ht
      obtain rfl : i = n + 1 := by omega
      refine ⟨g, ht, fun _ _ _ _ => rfl, fun A hA => ?_⟩
      have c1 : nI n < nI (n + 1) := nI_lt (by omega) (by omega)
      rw [B_X4_foresee_9, s_size _ q_tb85, h.1.2.2.1]
      simp only [Option.bind_some, Option.toList_some, Option.toList_none, List.cons_append, List.nil_append, B_X4_foresee_17, c1, ↓reduceIte, s_size _ q_tb85, h.1.2.2.1, B_X4_foresee_42]
      exact hA
    | succ k ih =>
      intro i g hi h ht
      have c1 : ¬ nI n < nI i := nI_nlt (by omega) (by omega)
      obtain ⟨g1, y, e1, h1, _, f1⟩ := z_addT (o := o) q_tb89 ht (by omega) 0 d
      obtain ⟨g2, h2, f2, k2⟩ := ih (i + 1) g1 (by omega) (nds_fr h (fun p j a => f1 _ _ (by omega) (by omega))) h1
      refine ⟨g2, h2, fun p j a b => (f2 p j a b).trans (f1 p j (by omega) (by omega)), fun A hA => ?_⟩
      rw [B_X4_foresee_9, s_size _ q_tb85, h.1.2.2.1]
      simp only [Option.bind_some, Option.toList_some, Option.toList_none, List.cons_append, List.nil_append, B_X4_foresee_17, c1, ↓reduceIte, e1, B_X4_foresee_28, nI_1]
      exact k2 A hA
  have hg1 : ∀ p i, p ≠ 89 → q_up g 89 3 0 p i = g p i := fun p i h => q_upN h
  have ht1 : q_ti (q_up g 89 3 0) 89 11 7 0 := ⟨by rw [q_upJ (by decide)]; exact ht.1, by rw [q_upJ (by decide)]; exact ht.2.1, by rw [q_upE]; rfl, by omega⟩
  obtain ⟨g2, h2, f2, k2⟩ := main (n + 1) 0 (q_up g 89 3 0) (by omega) (nds_fr h (fun p j a => hg1 _ _ (by omega))) ht1
  refine ⟨g2, h2, fun p j a b => (f2 p j a b).trans (hg1 p j a), fun A hA => ?_⟩
  simp only [B_X4_foresee_0, s_clear _ q_tb89, Option.bind_some, Option.toList_some, Option.toList_none, List.cons_append, List.nil_append, B_X4_foresee_7]
  exact k2 A hA
def q_cant (g : Nat → Nat → Int32) (n : Nat) (nd : Nat → Nat) (d0 : Nat) : Prop := ∀ k d1, d0 ≤ d1 → d1 + k = n → ∀ a, a < 7 → g 90 (d1 * 7 + a) = bI (q_can nd k d1 a)
theorem z_foreB (hnd : ∀ i, nd i ≤ 6) (d : Nat) {k d0 : Nat} (hk : d0 + k = n) : ∀ t b (g : Nat → Nat → Int32), b + t = 7 → q_nds g n nd → q_ti g 89 11 7 (n + 1) → q_cant g n nd (d0 + 1) → (∀ a, a < b → g 90 (d0 * 7 + a) = bI (q_can nd k d0 a)) → ∃ g2, q_nds g2 n nd ∧ q_ti g2 89 11 7 (n + 1) ∧ q_cant g2 n nd d0 ∧ (∀ p j, p ≠ 90 → g2 p j = g p j) ∧ q_sem (d + 3) mX4_foresee 49 [.ref 84, .int (nI d0), .int (nI b)] [] (q_K o g) = q_sem (d + 3) mX4_foresee 43 [.ref 84, .int (nI d0 + (-1)), .int 7] [] (q_K o g2) := by
  intro t
  induction t with
  | zero =>
    intro b g hb h ht hc hr
    obtain rfl : b = 7 := by omega
    refine ⟨g, h, ht, fun k1 d1 a1 a2 a ha => ?_, fun _ _ _ => rfl, ?_⟩
    · by_cases q : d1 = d0
      · subst q; obtain rfl : k1 = k := by omega
        exact hr a ha
      · exact hc k1 d1 (by omega) a2 a ha
    · rw [B_X4_foresee_49, if_pos (by decide)]; rfl
  | succ t ih =>
    intro b g hb h ht hc hr
    have hn := h.1.2.2.2
    have c1 : ¬ (6 : Int32) < nI b := nI_nlt (a := 6) (by omega) (by omega)
    obtain ⟨g2, h2, t2, k2, f2, e2⟩ := ih (b + 1) (q_up g 90 (d0 * 7 + b) (bI (q_can nd k d0 b))) (by omega) (nds_fr h (fun p j a => q_upN (by omega))) (ti_fr ht (fun k => q_upN (by decide))) (fun k1 d1 a1 a2 a ha => by
      rw [q_upJ (by omega)]; exact hc k1 d1 a1 a2 a ha) (fun a ha => by
      by_cases q : a = b
      · subst q; rw [q_upE]
      · rw [q_upJ (by omega)]; exact hr a (by omega))
    refine ⟨g2, h2, t2, k2, fun p j a => (f2 p j a).trans (q_upN a), ?_⟩
    rw [← e2, B_X4_foresee_49, if_neg c1, s_size _ q_tb85, h.1.2.2.1]
    have hw : ∀ v, q_sem (d + 2) mX7_write 0 [.ref 89, .int (nI d0), .int (nI b), .int v] [] (q_K o g) = some (none, q_K o (q_up g 90 (d0 * 7 + b) v)) := fun v => z_wrT q_tb89 ht (by omega) (by omega) v (d + 1)
    cases k with
    | zero =>
      have c2 : nI d0 = nI n := by rw [show d0 = n by omega]
      simp only [Option.bind_some, Option.toList_some, Option.toList_none, List.cons_append, List.nil_append, B_X4_foresee_69, c2, ↓reduceIte]
      rw [← c2, hw]
      simp only [Option.bind_some, Option.toList_some, Option.toList_none, List.cons_append, List.nil_append, B_X4_foresee_89, nI_1]
      rfl
    | succ k =>
      have c2 : ¬ nI d0 = nI n := fun z => by have := (nI_eq (by omega) (by omega)).mp z; omega
      have hcf := z_canFill (o := o) (b := b) hnd h ht hk (by omega) (fun a ha => hc k (d0 + 1) (Nat.le_refl _) (by omega) a ha) d
      simp only [Option.bind_some, Option.toList_some, Option.toList_none, List.cons_append, List.nil_append, B_X4_foresee_69, c2, ↓reduceIte, hcf, B_X4_foresee_78, hw, B_X4_foresee_89, nI_1]
      cases q_can nd (k + 1) d0 b
      · rw [bI_f, if_pos rfl]
      · rw [bI_t, if_neg (by decide)]
theorem z_fore (hnd : ∀ i, nd i ≤ 6) (h : q_nds g n nd) {R0 : Nat} (ht : q_ti g 89 11 7 R0) (d : Nat) : ∃ g2, q_sem (d + 3) mX4_foresee 0 [.ref 84, .retAddr 0, .retAddr 0] [] (q_K o g) = some (none, q_K o g2) ∧ q_nds g2 n nd ∧ q_ti g2 89 11 7 (n + 1) ∧ q_cant g2 n nd 0 ∧ ∀ p j, p ≠ 89 → p ≠ 90 → g2 p j = g p j := by
  have hn := h.1.2.2.2
  obtain ⟨g1, h1, f1, k1⟩ := z_foreA (o := o) h ht d
  have main : ∀ d0 (g : Nat → Nat → Int32) (v : Value), d0 ≤ n → q_nds g n nd → q_ti g 89 11 7 (n + 1) → q_cant g n nd (d0 + 1) → (v = .retAddr 0 ∨ ∃ z, v = .int z) → ∃ g2, q_sem (d + 3) mX4_foresee 43 [.ref 84, .int (nI d0), v] [] (q_K o g) = some (none, q_K o g2) ∧ q_nds g2 n nd ∧ q_ti g2 89 11 7 (n + 1) ∧ q_cant g2 n nd 0 ∧ ∀ p j, p ≠ 90 → g2 p j = g p j := by
    intro d0
    induction d0 with
    | zero =>
      intro g v hd h ht hc hx
      obtain ⟨g2, h2, t2, k2, f2, e2⟩ := z_foreB (o := o) (k := n) hnd d (show 0 + n = n by omega) 7 0 g (by omega) h ht hc (fun a ha => by omega)
      refine ⟨g2, ?_, h2, t2, k2, f2⟩
      have e3 : q_sem (d + 3) mX4_foresee 43 [.ref 84, .int (nI 0 + (-1)), .int 7] [] (q_K o g2) = some (none, q_K o g2) := by
        rw [B_X4_foresee_43a, if_pos (by decide)]
      rw [e3] at e2
      rcases hx with rfl | ⟨z, rfl⟩
      · rw [B_X4_foresee_43, if_neg (nI_pos (by decide))]; exact e2
      · rw [B_X4_foresee_43a, if_neg (nI_pos (by decide))]; exact e2
    | succ d0 ih =>
      intro g v hd h ht hc hx
      obtain ⟨g2, h2, t2, k2, f2, e2⟩ := z_foreB (o := o) (k := n - (d0 + 1)) hnd d (show (d0 + 1) + (n - (d0 + 1)) = n by omega) 7 0 g (by omega) h ht hc (fun a ha => by omega)
      obtain ⟨g3, e3, h3, t3, k3, f3⟩ := ih g2 (.int 7) (by omega) h2 t2 k2 (Or.inr ⟨_, rfl⟩)
      refine ⟨g3, ?_, h3, t3, k3, fun p j a => (f3 p j a).trans (f2 p j a)⟩
      rw [pk_m1, e3] at e2
      rcases hx with rfl | ⟨z, rfl⟩
      · rw [B_X4_foresee_43, if_neg (nI_pos (by omega))]; exact e2
      · rw [B_X4_foresee_43a, if_neg (nI_pos (by omega))]; exact e2
  obtain ⟨g2, e2, h2, t2, k2, f2⟩ := main n g1 (.retAddr 0) (Nat.le_refl _) (nds_fr h (fun p j a => f1 _ _ (by omega) (by omega))) h1 (fun k d1 a1 a2 => by omega) (Or.inl rfl)
  exact ⟨g2, k1 _ e2, h2, t2, k2, fun p j a b => (f2 p j b).trans (f1 p j a b)⟩
/-- the days so far -/
def q_dys (g : Nat → Nat → Int32) (d0 one two : Nat) : Prop := q_ti g 87 10 1 d0 ∧ (d0 = 0 → two = 0) ∧ (d0 < 2 → one = 0) ∧ (1 ≤ d0 → g 88 (d0 - 1) = nI two) ∧ (2 ≤ d0 → g 88 (d0 - 2) = nI one)
theorem z_fsetL (hnd : ∀ i, nd i ≤ 6) (h : q_nds g n nd) (ht : q_ti g 89 11 7 (n + 1)) (hc : q_cant g n nd 0) {k d0 one two : Nat} (hk : d0 + (k + 1) = n) (h1 : one < 64) (h2 : two < 64) (d : Nat) : ∀ t s, s + t = 64 → q_sem (d + 2) mX4_firstSet 29 [.ref 84, .int (nI d0), .int (nI two), .int (nI (two &&& one)), .int (nI s)] [] (q_K o g) = some (some (.int (if q_fst (q_gd nd k d0 one two) t s < 64 then nI (q_fst (q_gd nd k d0 one two) t s) else -1)), q_K o g) := by
  have hn := h.1.2.2.2
  intro t
  induction t with
  | zero =>
    intro s hs
    obtain rfl : s = 64 := by omega
    rw [B_X4_firstSet_29, if_pos (by decide)]
    rfl
  | succ t ih =>
    intro s hs
    have c1 : ¬ (64 : Int32) ≤ nI s := nI_ge (b := 64) (by omega) (by omega)
    have ih0 := ih (s + 1) (by omega)
    have hbt : two &&& one < 64 := and_lt64 h2
    have hst : s &&& two < 64 := and_lt64 (by omega)
    have hsb : s &&& (two &&& one) < 64 := and_lt64 (by omega)
    have hpc := f_pcle (s &&& two) hst
    have hps := f_pcle s (by omega)
    have hgC := q_gd_C (k := k) (d := d0) (one := one) (s := s) hnd h2 (by omega)
    rw [q_fst_s, ← hgC]
    rw [B_X4_firstSet_29, if_neg c1]
    simp only [z_bitCount8 _ (show s < 256 by omega), f_pc s (by omega), Option.bind_some, Option.toList_some, Option.toList_none, List.cons_append, List.nil_append, B_X4_firstSet_41, z_need h (show d0 < n by omega), B_X4_firstSet_50, nI_1, nI_and (show s < 2 ^ 32 by omega) (show two < 2 ^ 32 by omega), nI_and (show s < 2 ^ 32 by omega) (show two &&& one < 2 ^ 32 by omega), z_bitCount8 _ (show s &&& two < 256 by omega), f_pc _ hst, B_X4_firstSet_74, z_getW q_tb89 ht (show d0 + 1 < n + 1 by omega) (show q_pcn (s &&& two) < 7 by omega), show g (89 + 1) ((d0 + 1) * 7 + q_pcn (s &&& two)) = _ from hc k (d0 + 1) (by omega) (by omega) _ (by omega), B_X4_firstSet_77]
    unfold q_gdC
    have hndd := hnd d0
    by_cases e1 : q_pcn s = nd d0
    · rw [if_pos (by rw [e1]), decide_eq_true e1]
      by_cases e2 : s &&& (two &&& one) = 0
      · rw [if_pos (by rw [e2]; rfl), decide_eq_true e2]
        cases e3 : q_can nd k (d0 + 1) (q_pcn (s &&& two))
        · rw [bI_f, if_pos rfl]; exact ih0
        · rw [bI_t, if_neg (by decide)]
          simp only [Bool.and_self, ↓reduceIte, show s < 64 by omega]
      · rw [if_neg (nI_ne0 (by omega) (by omega)), decide_eq_false e2]; exact ih0
    · rw [if_neg (fun z => e1 ((nI_eq (by omega) (by omega)).mp z)), decide_eq_false e1]; exact ih0
theorem z_fset (hnd : ∀ i, nd i ≤ 6) (h : q_nds g n nd) (ht : q_ti g 89 11 7 (n + 1)) (hc : q_cant g n nd 0) {k d0 one two : Nat} (hk : d0 + (k + 1) = n) (h1 : one < 64) (h2 : two < 64) (hd : q_dys g d0 one two) (d : Nat) : q_sem (d + 2) mX4_firstSet 0 [.ref 84, .int (nI d0), .retAddr 0, .retAddr 0, .retAddr 0] [] (q_K o g) = some (some (.int (if q_fst (q_gd nd k d0 one two) 64 0 < 64 then nI (q_fst (q_gd nd k d0 one two) 64 0) else -1)), q_K o g) := by
  have e1 : ∀ d, q_sem (d + 1) mX7_get 0 [.ref 87, .int (nI d0 - 1), .int 0] [] (q_K o g) = some (some (.int (nI two)), q_K o g) := fun d => by
    cases d0 with
    | zero => rw [z_getO q_tb87 hd.1 (by decide), hd.2.1 rfl]; rfl
    | succ d1 =>
      have := hd.2.2.2.1 (by omega)
      rw [nI_pred, z_get1 q_tb87 hd.1 (by omega), show g (87 + 1) d1 = _ from this]
  have e2 : ∀ d, q_sem (d + 1) mX7_get 0 [.ref 87, .int (nI d0 - 2), .int 0] [] (q_K o g) = some (some (.int (nI one)), q_K o g) := fun d => by
    rcases d0 with _ | _ | d1
    · rw [z_getO q_tb87 hd.1 (by decide), hd.2.2.1 (by omega)]; rfl
    · rw [z_getO q_tb87 hd.1 (by decide), hd.2.2.1 (by omega)]; rfl
    · have := hd.2.2.2.2 (by omega)
      rw [show nI (d1 + 1 + 1) - 2 = nI d1 from nI_pred2 d1, z_get1 q_tb87 hd.1 (by omega), show g (87 + 1) d1 = _ from this]
  rw [B_X4_firstSet_0]
  simp only [e1, e2, Option.bind_some, Option.toList_some, Option.toList_none, List.cons_append, List.nil_append, B_X4_firstSet_11, B_X4_firstSet_24, nI_and (show two < 2 ^ 32 by omega) (show one < 2 ^ 32 by omega)]
  exact z_fsetL hnd h ht hc hk h1 h2 d 64 0 (by omega)
theorem z_layR (hnd : ∀ i, nd i ≤ 6) (d : Nat) : ∀ k d0 one two (g : Nat → Nat → Int32) (v : Value), d0 + k = n → q_nds g n nd → q_ti g 89 11 7 (n + 1) → q_cant g n nd 0 → one < 64 → two < 64 → q_dys g d0 one two → (v = .retAddr 0 ∨ ∃ z, v = .int z) → ∃ g2 R, q_sem (d + 3) mX4_lay 13 [.ref 84, .int (nI d0), v] [] (q_K o g) = some (some (.int (bI (q_feas nd k d0 one two))), q_K o g2) ∧ q_ti g2 87 10 1 R ∧ (∀ p j, p ≠ 87 → p ≠ 88 → g2 p j = g p j) ∧ (∀ j, j < d0 → g2 88 j = g 88 j) ∧ (q_feas nd k d0 one two = true → R = n ∧ ∀ j, d0 ≤ j → j < n → g2 88 j = nI (q_pth nd k d0 one two j)) := by
  intro k
  induction k with
  | zero =>
    intro d0 one two g v hk h ht hc h1 h2 hd hx
    obtain rfl : d0 = n := by omega
    have hn := h.1.2.2.2
    have c1 : nI d0 ≤ nI d0 := nI_le (Nat.le_refl _) (by omega)
    refine ⟨g, d0, ?_, hd.1, fun _ _ _ _ => rfl, fun _ _ => rfl, fun _ => ⟨rfl, fun j a b => by omega⟩⟩
    rcases hx with rfl | ⟨z, rfl⟩
    · rw [B_X4_lay_13, s_size _ q_tb85, h.1.2.2.1]
      simp only [Option.bind_some, Option.toList_some, Option.toList_none, List.cons_append, List.nil_append, B_X4_lay_21, c1, ↓reduceIte]; rfl
    · rw [B_X4_lay_13a, s_size _ q_tb85, h.1.2.2.1]
      simp only [Option.bind_some, Option.toList_some, Option.toList_none, List.cons_append, List.nil_append, B_X4_lay_21a, c1, ↓reduceIte]; rfl
  | succ k ih =>
    intro d0 one two g v hk h ht hc h1 h2 hd hx
    have hn := h.1.2.2.2
    have c1 : ¬ nI n ≤ nI d0 := nI_ge (by omega) (by omega)
    have hfs := z_fset (o := o) hnd h ht hc hk h1 h2 hd d
    rw [q_feas_s]
    have go : ∀ A : Option (Option Value × q_H), (A = if 0 ≤ (if q_fst (q_gd nd k d0 one two) 64 0 < 64 then nI (q_fst (q_gd nd k d0 one two) 64 0) else -1) then (q_sem (d + 2) mX7_add 0 [.ref 87, .int (if q_fst (q_gd nd k d0 one two) 64 0 < 64 then nI (q_fst (q_gd nd k d0 one two) 64 0) else -1), .retAddr 0] [] (q_K o g)).bind (fun r => q_sem (d + 3) mX4_lay 44 [.ref 84, .int (nI d0), .int (if q_fst (q_gd nd k d0 one two) 64 0 < 64 then nI (q_fst (q_gd nd k d0 one two) 64 0) else -1)] (r.1.toList ++ []) r.2) else some (some (.int 0), q_K o g)) → ∃ g2 R, A = some (some (.int (bI (decide (q_fst (q_gd nd k d0 one two) 64 0 < 64)))), q_K o g2) ∧ q_ti g2 87 10 1 R ∧ (∀ p j, p ≠ 87 → p ≠ 88 → g2 p j = g p j) ∧ (∀ j, j < d0 → g2 88 j = g 88 j) ∧ (decide (q_fst (q_gd nd k d0 one two) 64 0 < 64) = true → R = n ∧ ∀ j, d0 ≤ j → j < n → g2 88 j = nI (q_pth nd (k + 1) d0 one two j)) := by
      intro A hA
      by_cases hlt : q_fst (q_gd nd k d0 one two) 64 0 < 64
      · have hg := q_fst_t _ _ _ hlt
        rw [if_pos hlt] at hA
        have hpt : ∀ j, q_pth nd (k + 1) d0 one two j = if j = d0 then q_fst (q_gd nd k d0 one two) 64 0 else q_pth nd k (d0 + 1) two (q_fst (q_gd nd k d0 one two) 64 0) j := fun j => rfl
        generalize q_fst (q_gd nd k d0 one two) 64 0 = s at *
        unfold q_gd at hg
        rw [Bool.and_eq_true, Bool.and_eq_true] at hg
        rw [if_pos (nI_pos' (by omega))] at hA
        obtain ⟨g1, y, e1, t1, v1, f1⟩ := z_addT (o := o) q_tb87 hd.1 (by omega) (nI s) d
        rw [Nat.mul_one] at v1
        have v1' : g1 88 d0 = nI s := v1
        obtain ⟨g2, R, e2, t2, f2, b2, k2⟩ := ih (d0 + 1) two s g1 (.int (nI s)) (by omega) (nds_fr h (fun p j a => f1 _ _ (by omega) (by omega))) (ti_fr ht (fun k => f1 _ _ (by omega) (by omega))) (fun k d1 a1 a2 a ha => (f1 _ _ (by omega) (by omega)).trans (hc k d1 a1 a2 a ha)) h2 hlt ⟨t1, fun z => by omega, fun z => hd.2.1 (by omega), fun _ => v1', fun z => (f1 _ _ (by omega) (by omega)).trans (hd.2.2.2.1 (by omega))⟩ (Or.inr ⟨_, rfl⟩)
        rw [hg.2.2] at e2
        obtain ⟨k3, k4⟩ := k2 hg.2.2
        refine ⟨g2, R, ?_, t2, fun p j a b => (f2 p j a b).trans (f1 p j (by omega) (by omega)), fun j hj => (b2 j (by omega)).trans (f1 _ _ (by omega) (by omega)), fun _ => ⟨k3, fun j a b => ?_⟩⟩
        · rw [hA, e1, decide_eq_true hlt]
          simp only [Option.bind_some, Option.toList_some, Option.toList_none, List.cons_append, List.nil_append, B_X4_lay_44, nI_1]
          exact e2
        · rw [hpt]
          by_cases q : j = d0
          · rw [if_pos q, q, b2 d0 (by omega)]; exact v1'
          · rw [if_neg q]; exact k4 j (by omega) b
      · rw [if_neg hlt, if_neg (by decide)] at hA
        exact ⟨g, d0, by rw [hA, decide_eq_false hlt]; rfl, hd.1, fun _ _ _ _ => rfl, fun _ _ => rfl, fun z => absurd (of_decide_eq_true z) hlt⟩
    apply go
    rcases hx with rfl | ⟨z, rfl⟩
    · rw [B_X4_lay_13, s_size _ q_tb85, h.1.2.2.1]
      simp only [Option.bind_some, Option.toList_some, Option.toList_none, List.cons_append, List.nil_append, B_X4_lay_21, c1, hfs, B_X4_lay_29, if_false]
    · rw [B_X4_lay_13a, s_size _ q_tb85, h.1.2.2.1]
      simp only [Option.bind_some, Option.toList_some, Option.toList_none, List.cons_append, List.nil_append, B_X4_lay_21a, c1, hfs, B_X4_lay_29a, if_false]
theorem z_rlay (hnd : ∀ i, nd i ≤ 6) (h : q_nds g n nd) {R0 R1 : Nat} (ht : q_ti g 89 11 7 R0) (ht2 : q_ti g 87 10 1 R1) (d : Nat) : ∃ g2 R, q_sem (d + 4) mX4_lay 0 [.ref 84, .retAddr 0, .retAddr 0] [] (q_K o g) = some (some (.int (bI (q_feas nd n 0 0 0))), q_K o g2) ∧ q_ti g2 85 10 1 n ∧ q_ti g2 89 11 7 (n + 1) ∧ q_ti g2 87 10 1 R ∧ (∀ p j, ¬ (85 ≤ p ∧ p < 91) → g2 p j = g p j) ∧ (q_feas nd n 0 0 0 = true → R = n ∧ ∀ j, j < n → g2 88 j = nI (q_pth nd n 0 0 0 j)) := by
  obtain ⟨g1, e1, h1, t1, c1, f1⟩ := z_fore (o := o) hnd h ht d
  have t87 : q_ti (q_up g1 87 3 0) 87 10 1 0 := ⟨by rw [q_upJ (by decide), f1 _ _ (by decide) (by decide)]; exact ht2.1, by rw [q_upJ (by decide), f1 _ _ (by decide) (by decide)]; exact ht2.2.1, by rw [q_upE]; rfl, by omega⟩
  obtain ⟨g2, R, e2, t2, f2, _, k2⟩ := z_layR (o := o) hnd (d + 1) n 0 0 0 (q_up g1 87 3 0) (.retAddr 0) (by omega) (nds_fr h1 (fun p j a => q_upN (by omega))) (ti_fr t1 (fun k => q_upN (by decide))) (fun k d1 a1 a2 a ha => by rw [q_upN (by decide)]; exact c1 k d1 a1 a2 a ha) (by decide) (by decide) ⟨t87, fun _ => rfl, fun _ => rfl, fun z => by omega, fun z => by omega⟩ (Or.inl rfl)
  have fu : ∀ p j, p ≠ 87 → q_up g1 87 3 0 p j = g1 p j := fun p j a => q_upN a
  refine ⟨g2, R, ?_, ti_fr h1.1 (fun k => (f2 _ _ (by decide) (by decide)).trans (fu _ _ (by decide))), ti_fr t1 (fun k => (f2 _ _ (by decide) (by decide)).trans (fu _ _ (by decide))), t2, fun p j a => (f2 p j (by omega) (by omega)).trans ((fu p j (by omega)).trans (f1 p j (by omega) (by omega))), fun z => ⟨(k2 z).1, fun j hj => (k2 z).2 j (Nat.zero_le _) hj⟩⟩
  rw [B_X4_lay_0]
  simp only [e1, Option.bind_some, Option.toList_some, Option.toList_none, List.cons_append, List.nil_append, B_X4_lay_4, s_clear _ q_tb87, B_X4_lay_11]
  exact e2
end ROS
