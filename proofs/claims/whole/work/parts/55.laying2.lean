section LAZ
variable {o : q_H} {g : Nat → Nat → Int32} {s n nc N ms cs : Nat} {M C : Nat → Int32}
theorem z_readM (hN : n = 3 * N) (hC : ∀ i, i < nc → q_in (C i) 0 255 = true) (d : Nat) : ∀ k j, j + k = N → ∀ (g : Nat → Nat → Int32) (v6 v7 v8 : Value), q_sV g ms n M → q_sV g cs nc C → q_ti g 92 8 1 j → (∀ m, m < j → g 93 m = nI (q_B (q_P M C m) nc)) → ((v6 = .retAddr 0 ∧ v7 = .retAddr 0 ∧ v8 = .retAddr 0) ∨ ∃ a b c, v6 = .int a ∧ v7 = .int b ∧ v8 = .int c) → ∃ g2 R, q_sem (d + 5) mX0_read 72 [.ref 91, .ref 69, .int (nI ms), .int (nI cs), .int (nI n), .int (nI (3 * j)), v6, v7, v8] [] (q_K o g) = some (some (.int (bI (decide (∀ m, m < N → j ≤ m → q_okm M m = true)))), q_K o g2) ∧ q_ti g2 92 8 1 R ∧ (∀ p i, p ≠ 92 → p ≠ 93 → g2 p i = g p i) ∧ ((∀ m, m < N → j ≤ m → q_okm M m = true) → R = N ∧ ∀ m, m < N → g2 93 m = nI (q_B (q_P M C m) nc)) := by
  intro k
  induction k with
  | zero =>
    intro j hj g v6 v7 v8 hM hC0 ht hP hx
    have hn := hM.2.2.1
    have c1 : nI n ≤ nI (3 * j) := nI_le (by omega) (by omega)
    have hall : ∀ m, m < N → j ≤ m → q_okm M m = true := fun m a b => by omega
    refine ⟨g, j, ?_, ht, fun _ _ _ _ => rfl, fun _ => ⟨by omega, fun m hm => hP m (by omega)⟩⟩
    rw [decide_eq_true hall]
    rcases hx with ⟨rfl, rfl, rfl⟩ | ⟨a, b, c, rfl, rfl, rfl⟩
    · rw [B_X0_read_72, if_pos c1]; rfl
    · rw [B_X0_read_72a, if_pos c1]; rfl
  | succ k ih =>
    intro j hj g v6 v7 v8 hM hC0 ht hP hx
    have hn := hM.2.2.1
    have c1 : ¬ nI n ≤ nI (3 * j) := nI_ge (by omega) (by omega)
    have go : ∀ A, (A = if q_in (M (3 * j)) 0 15 = false then some (some (.int 0), q_K o g) else if q_in (M (3 * j + 1)) 0 15 = false then some (some (.int 0), q_K o g) else if q_in (M (3 * j + 2)) 1 15 = false then some (some (.int 0), q_K o g) else (q_sem (d + 4) mX0_seen 0 [.ref 69, .int (nI cs), .int (16 * M (3 * j + 1) + M (3 * j)), .int (M (3 * j + 2)), .retAddr 0, .retAddr 0] [] (q_K o g)).bind (fun r => q_sem (d + 5) mX0_read 164 [.ref 91, .ref 69, .int (nI ms), .int (nI cs), .int (nI n), .int (nI (3 * j)), .int (M (3 * j)), .int (M (3 * j + 1)), .int (M (3 * j + 2))] (r.1.toList ++ [.ref 92]) r.2)) → ∃ g2 R, A = some (some (.int (bI (decide (∀ m, m < N → j ≤ m → q_okm M m = true)))), q_K o g2) ∧ q_ti g2 92 8 1 R ∧ (∀ p i, p ≠ 92 → p ≠ 93 → g2 p i = g p i) ∧ ((∀ m, m < N → j ≤ m → q_okm M m = true) → R = N ∧ ∀ m, m < N → g2 93 m = nI (q_B (q_P M C m) nc)) := by
      intro A hA
      have bad : q_okm M j = false → ¬ (∀ m, m < N → j ≤ m → q_okm M m = true) := fun h z => by
        have := z j (by omega) (Nat.le_refl _)
        rw [h] at this; exact absurd this (by decide)
      have out : q_okm M j = false → A = some (some (.int 0), q_K o g) → ∃ g2 R, A = some (some (.int (bI (decide (∀ m, m < N → j ≤ m → q_okm M m = true)))), q_K o g2) ∧ q_ti g2 92 8 1 R ∧ (∀ p i, p ≠ 92 → p ≠ 93 → g2 p i = g p i) ∧ ((∀ m, m < N → j ≤ m → q_okm M m = true) → R = N ∧ ∀ m, m < N → g2 93 m = nI (q_B (q_P M C m) nc)) := fun h hB => ⟨g, j, by rw [hB, decide_eq_false (bad h)]; rfl, ht, fun _ _ _ _ => rfl, fun z => absurd z (bad h)⟩
      cases e1 : q_in (M (3 * j)) 0 15
      · exact out (by simp [q_okm, e1]) (by rw [hA, if_pos e1])
      cases e2 : q_in (M (3 * j + 1)) 0 15
      · exact out (by simp [q_okm, e2]) (by rw [hA, if_neg (by rw [e1]; decide), if_pos e2])
      cases e3 : q_in (M (3 * j + 2)) 1 15
      · exact out (by simp [q_okm, e3]) (by rw [hA, if_neg (by rw [e1]; decide), if_neg (by rw [e2]; decide), if_pos e3])
      have ok : q_okm M j = true := by simp [q_okm, e1, e2, e3]
      obtain ⟨x, y, hx, hy, ex, ey⟩ := q_okm_t ok
      have em : (16 : Int32) * nI y + nI x = nI (16 * y + x) := by rw [show (16 : Int32) = nI 16 from rfl, pk_mul, nI_add]
      have hP0 : (fun c => decide (nI (q_d2 (16 * y + x) (q_cl2 (C c))) ≤ M (3 * j + 2) * M (3 * j + 2))) = q_P M C j := by
        funext c; unfold q_P
        rw [ex, ey, show q_cl2 (nI x) = x from nI_clamp (by omega), show q_cl2 (nI y) = y from nI_clamp (by omega)]
      have hse := z_seen (o := o) hC0 hC (show 16 * y + x < 256 by omega) (M (3 * j + 2)) d
      rw [hP0] at hse
      have had := s_add (o := o) (d + 2) q_tb92 ht (by omega) (nI (q_B (q_P M C j) nc))
      have fad : ∀ p i, p ≠ 92 → p ≠ 93 → q_ad g 92 1 j (nI (q_B (q_P M C j) nc)) p i = g p i := fun p i h1 h2 => by
        unfold q_ad; rw [if_neg (by omega), if_neg (by omega)]
      have hti : q_ti (q_ad g 92 1 j (nI (q_B (q_P M C j) nc))) 92 8 1 (j + 1) := by
        unfold q_ad
        refine ⟨?_, ?_, ?_, by omega⟩
        · dsimp only; rw [if_neg (by omega), if_neg (by omega)]; exact ht.1
        · dsimp only; rw [if_neg (by omega), if_neg (by omega)]; exact ht.2.1
        · dsimp only; rw [if_pos ⟨rfl, rfl⟩]
      have h93 : ∀ m, m < j + 1 → q_ad g 92 1 j (nI (q_B (q_P M C j) nc)) 93 m = nI (q_B (q_P M C m) nc) := fun m hm => by
        unfold q_ad
        by_cases e : m = j
        · subst e; rw [if_neg (by omega), if_pos ⟨rfl, by omega, by omega⟩, if_pos (by omega)]
        · rw [if_neg (by omega), if_neg (by omega)]; exact hP m (by omega)
      obtain ⟨g2, R, e4, h4, f4, k4⟩ := ih (j + 1) (by omega) (q_ad g 92 1 j (nI (q_B (q_P M C j) nc))) (.int (M (3 * j))) (.int (M (3 * j + 1))) (.int (M (3 * j + 2))) (sV_fr hM (fun p k h => fad p k (by omega) (by omega))) (sV_fr hC0 (fun p k h => fad p k (by omega) (by omega))) hti h93 (Or.inr ⟨_, _, _, rfl, rfl, rfl⟩)
      have hiff : (∀ m, m < N → j ≤ m → q_okm M m = true) ↔ (∀ m, m < N → j + 1 ≤ m → q_okm M m = true) := ⟨fun z m a b => z m a (by omega), fun z m a b => by
        by_cases e : m = j
        · rw [e]; exact ok
        · exact z m a (by omega)⟩
      refine ⟨g2, R, ?_, h4, fun p i a b => (f4 p i a b).trans (fad p i a b), fun z => k4 (hiff.mp z)⟩
      rw [hA, if_neg (by rw [e1]; decide), if_neg (by rw [e2]; decide), if_neg (by rw [e3]; decide)]
      simp only [ex, ey, em] at e4 ⊢
      rw [hse]
      simp only [Option.bind_some, Option.toList_some, Option.toList_none, List.cons_append, List.nil_append, B_X0_read_164, had, B_X0_read_167]
      rw [show nI (3 * j) + 3 = nI (3 * (j + 1)) from nI_add (3 * j) 3]
      rw [decide_eq_decide.mpr hiff]
      exact e4
    have i3 := hx
    apply go
    rcases hx with ⟨rfl, rfl, rfl⟩ | ⟨a, b, c, rfl, rfl, rfl⟩
    · rw [B_X0_read_72, if_neg c1]
      simp only [z_getS hM (show 3 * j < n by omega), Option.bind_some, Option.toList_some, Option.toList_none, List.cons_append, List.nil_append, B_X0_read_86, nI_1, z_getS hM (show 3 * j + 1 < n by omega), B_X0_read_97, nI_2, z_getS hM (show 3 * j + 2 < n by omega), B_X0_read_108, z_within, B_X0_read_118, B_X0_read_129, B_X0_read_140, bI_0]
    · rw [B_X0_read_72a, if_neg c1]
      simp only [z_getS hM (show 3 * j < n by omega), Option.bind_some, Option.toList_some, Option.toList_none, List.cons_append, List.nil_append, B_X0_read_86a, nI_1, z_getS hM (show 3 * j + 1 < n by omega), B_X0_read_97a, nI_2, z_getS hM (show 3 * j + 2 < n by omega), B_X0_read_108a, z_within, B_X0_read_118, B_X0_read_129, B_X0_read_140, bI_0]
abbrev q_rdy (n nc : Nat) (M C : Nat → Int32) : Prop := (n ≠ 0 ∧ n % 3 = 0 ∧ ∀ m, m < n / 3 → q_okm M m = true) ∧ ∀ i, i < nc → q_in (C i) 0 255 = true
theorem z_readC (hC0 : q_sV g cs nc C) (n : Nat) (d : Nat) : ∀ k i, i + k = nc → q_sem (d + 5) mX0_read 38 [.ref 91, .ref 69, .int (nI ms), .int (nI cs), .int (nI n), .int (nI i), .retAddr 0, .retAddr 0, .retAddr 0] [] (q_K o g) = if ∀ c, c < nc → i ≤ c → q_in (C c) 0 255 = true then q_sem (d + 5) mX0_read 72 [.ref 91, .ref 69, .int (nI ms), .int (nI cs), .int (nI n), .int 0, .retAddr 0, .retAddr 0, .retAddr 0] [] (q_K o g) else some (some (.int 0), q_K o g) := by
  intro k
  have hn := hC0.2.2.1
  induction k with
  | zero =>
    intro i hi
    have c1 : nI nc ≤ nI i := nI_le (by omega) (by omega)
    rw [if_pos (fun c a b => by omega), B_X0_read_38]
    simp only [z_sizeS hC0, Option.bind_some, Option.toList_some, Option.toList_none, List.cons_append, List.nil_append, B_X0_read_45, c1, ↓reduceIte]
  | succ k ih =>
    intro i hi
    have c1 : ¬ nI nc ≤ nI i := nI_ge (by omega) (by omega)
    have ih0 := ih (i + 1) (by omega)
    rw [B_X0_read_38]
    simp only [z_sizeS hC0, Option.bind_some, Option.toList_some, Option.toList_none, List.cons_append, List.nil_append, B_X0_read_45, c1, ↓reduceIte, z_getS hC0 (show i < nc by omega), B_X0_read_55, z_isCell, B_X0_read_58, nI_1]
    cases e : q_in (C i) 0 255
    · rw [bI_f, if_pos rfl, if_neg (fun z => by have := z i (by omega) (Nat.le_refl _); rw [e] at this; exact absurd this (by decide))]
    · rw [bI_t, if_neg (by decide), ih0]
      have hiff : (∀ c, c < nc → i ≤ c → q_in (C c) 0 255 = true) ↔ (∀ c, c < nc → i + 1 ≤ c → q_in (C c) 0 255 = true) := ⟨fun z m a b => z m a (by omega), fun z m a b => by
        by_cases q : m = i
        · rw [q]; exact e
        · exact z m a (by omega)⟩
      by_cases z : ∀ c, c < nc → i ≤ c → q_in (C c) 0 255 = true
      · rw [if_pos z, if_pos (hiff.mp z)]
      · rw [if_neg z, if_neg (fun y => z (hiff.mpr y))]
theorem z_read (hM : q_sV g ms n M) (hC0 : q_sV g cs nc C) {R0 : Nat} (ht : q_ti g 92 8 1 R0) (d : Nat) : ∃ g2 R, q_sem (d + 5) mX0_read 0 [.ref 91, .ref 69, .int (nI ms), .int (nI cs), .retAddr 0, .retAddr 0, .retAddr 0, .retAddr 0, .retAddr 0] [] (q_K o g) = some (some (.int (bI (decide (q_rdy n nc M C)))), q_K o g2) ∧ q_ti g2 92 8 1 R ∧ (∀ p i, p ≠ 92 → p ≠ 93 → g2 p i = g p i) ∧ (q_rdy n nc M C → R = n / 3 ∧ ∀ m, m < n / 3 → g2 93 m = nI (q_B (q_P M C m) nc)) := by
  have hn := hM.2.2.1
  have hg1 : ∀ p i, p ≠ 92 → q_up g 92 3 0 p i = g p i := fun p i h => q_upN h
  have hM1 : q_sV (q_up g 92 3 0) ms n M := sV_fr hM (fun p k h => hg1 p k (by omega))
  have hC1 : q_sV (q_up g 92 3 0) cs nc C := sV_fr hC0 (fun p k h => hg1 p k (by omega))
  have ht1 : q_ti (q_up g 92 3 0) 92 8 1 0 := ⟨by rw [q_upJ (by decide)]; exact ht.1, by rw [q_upJ (by decide)]; exact ht.2.1, by rw [q_upE]; rfl, by omega⟩
  have e3 : nI n - nI n / 3 * 3 = nI (n % 3) := pk_rem (d := 3) (by omega) (by decide) (by decide)
  have hz : ∀ A, (A = if nI n = 0 then some (some (.int 0), q_K o (q_up g 92 3 0)) else if nI (n % 3) = 0 then q_sem (d + 5) mX0_read 38 [.ref 91, .ref 69, .int (nI ms), .int (nI cs), .int (nI n), .int 0, .retAddr 0, .retAddr 0, .retAddr 0] [] (q_K o (q_up g 92 3 0)) else some (some (.int 0), q_K o (q_up g 92 3 0))) → ∃ g2 R, A = some (some (.int (bI (decide (q_rdy n nc M C)))), q_K o g2) ∧ q_ti g2 92 8 1 R ∧ (∀ p i, p ≠ 92 → p ≠ 93 → g2 p i = g p i) ∧ (q_rdy n nc M C → R = n / 3 ∧ ∀ m, m < n / 3 → g2 93 m = nI (q_B (q_P M C m) nc)) := by
    intro A hA
    have out : ¬ q_rdy n nc M C → A = some (some (.int 0), q_K o (q_up g 92 3 0)) → ∃ g2 R, A = some (some (.int (bI (decide (q_rdy n nc M C)))), q_K o g2) ∧ q_ti g2 92 8 1 R ∧ (∀ p i, p ≠ 92 → p ≠ 93 → g2 p i = g p i) ∧ (q_rdy n nc M C → R = n / 3 ∧ ∀ m, m < n / 3 → g2 93 m = nI (q_B (q_P M C m) nc)) := fun h hB => ⟨q_up g 92 3 0, 0, by rw [hB, decide_eq_false h]; rfl, ht1, fun p i a _ => hg1 p i a, fun z => absurd z h⟩
    by_cases n0 : n = 0
    · exact out (fun z => z.1.1 n0) (by rw [hA, if_pos (by rw [n0]; rfl)])
    have c0 : ¬ nI n = 0 := nI_ne0 (by omega) (by omega)
    by_cases n3 : n % 3 = 0
    · have c3 : nI (n % 3) = 0 := by rw [n3]; rfl
      have hrc := z_readC (o := o) (ms := ms) hC1 n d nc 0 (by omega)
      rw [show nI 0 = (0 : Int32) from rfl] at hrc
      rw [if_neg c0, if_pos c3, hrc] at hA
      by_cases hC : ∀ c, c < nc → 0 ≤ c → q_in (C c) 0 255 = true
      · rw [if_pos hC] at hA
        obtain ⟨g2, R, e4, h4, f4, k4⟩ := z_readM (o := o) (n := n) (N := n / 3) (by omega) (fun c h => hC c h (Nat.zero_le _)) d (n / 3) 0 (by omega) _ _ _ _ hM1 hC1 ht1 (fun m hm => by omega) (Or.inl ⟨rfl, rfl, rfl⟩)
        have hiff : q_rdy n nc M C ↔ (∀ m, m < n / 3 → 0 ≤ m → q_okm M m = true) := ⟨fun z m a _ => z.1.2.2 m a, fun z => ⟨⟨n0, n3, fun m a => z m a (Nat.zero_le _)⟩, fun i hi => hC i hi (Nat.zero_le _)⟩⟩
        refine ⟨g2, R, ?_, h4, fun p i a b => (f4 p i a b).trans (hg1 p i a), fun z => k4 (hiff.mp z)⟩
        rw [hA, decide_eq_decide.mpr hiff]
        exact e4
      · exact out (fun z => hC (fun c a _ => z.2 c a)) (by rw [hA, if_neg hC])
    · exact out (fun z => n3 z.1.2.1) (by rw [hA, if_neg c0, if_neg (nI_ne0 (by omega) (by omega))])
  apply hz
  have c24 : nI n ≤ 24 := (by decide : (24 : Int32) = nI 24) ▸ nI_le hn (by decide)
  simp only [B_X0_read_0, s_clear _ q_tb92, Option.bind_some, Option.toList_some, Option.toList_none, List.cons_append, List.nil_append, B_X0_read_7, z_sizeS hM1, B_X0_read_12, e3, c24, ↓reduceIte]
end LAZ
