/-! sheets: one number put, numbers moved -/
theorem q_fb_ne {g : Nat → Nat → Int32} {k p j : Nat} (h : p ≠ 97) : q_fb g k p j = g p j := q_upN h
theorem q_8i (x : Int32) : x.toInt8.toInt32.toInt8.toInt32 = x.toInt8.toInt32 := by simp
theorem q_16i (x : Int32) : x.toInt16.toInt32.toInt16.toInt32 = x.toInt16.toInt32 := by simp
theorem shs_put {g : Nat → Nat → Int32} {s i : Nat} {v : Int32} (h : q_shs g) (hs : s < 4) (hi : i < 24) (hv : (g 135 s = 8 → v.toInt8.toInt32 = v) ∧ (g 135 s = 16 → v.toInt16.toInt32 = v)) : q_shs (q_up (q_up g 71 (s * 26 + (2 + i)) v) 137 (24 * s + i) v) := by
  refine ⟨ti_fr h.1 (fun k => by rw [q_upN (by decide), q_upN (by decide)]), fun t ht => ?_⟩
  obtain ⟨a1, a2, a3, a4, a5, a6⟩ := h.2 t ht
  unfold q_sh1
  have e5 : ∀ k, q_up (q_up g 71 (s * 26 + (2 + i)) v) 137 (24 * s + i) v 135 k = g 135 k := fun k => by rw [q_upN (by decide), q_upN (by decide)]
  have e6 : ∀ k, q_up (q_up g 71 (s * 26 + (2 + i)) v) 137 (24 * s + i) v 136 k = g 136 k := fun k => by rw [q_upN (by decide), q_upN (by decide)]
  have e71 : ∀ k, q_up (q_up g 71 (s * 26 + (2 + i)) v) 137 (24 * s + i) v 71 k = if k = s * 26 + (2 + i) then v else g 71 k := fun k => by
    rw [q_upN (by decide)]
    by_cases e : k = s * 26 + (2 + i)
    · rw [if_pos e, e, q_upE]
    · rw [if_neg e, q_upJ e]
  have e137 : ∀ k, q_up (q_up g 71 (s * 26 + (2 + i)) v) 137 (24 * s + i) v 137 k = if k = 24 * s + i then v else g 137 k := fun k => by
    by_cases e : k = 24 * s + i
    · rw [if_pos e, e, q_upE]
    · rw [if_neg e, q_upJ e, q_upN (by decide)]
  simp only [e5, e6, e71, e137]
  refine ⟨by rw [if_neg (by omega)]; exact a1, by rw [if_neg (by omega)]; exact a2, a3, a4, fun k hk => ?_, fun k hk => ?_⟩
  · by_cases e : t = s ∧ k = i
    · obtain ⟨rfl, rfl⟩ := e
      rw [if_pos rfl, if_pos rfl]
    · rw [if_neg (by omega), if_neg (by omega)]; exact a5 k hk
  · by_cases e : t = s ∧ k = i
    · obtain ⟨rfl, rfl⟩ := e
      rw [if_pos rfl]; exact hv
    · rw [if_neg (by omega)]; exact a6 k hk
theorem law_put {o : q_H} {n : Nat} {g : Nat → Nat → Int32} (hR : q_R n g) (ho : q_oR o) (d : Nat) (x1 : Int32) (x2 : Int32) (x3 : Int32) : ∃ v g1 g2, q_sem (d + 30) mX11_put 0 [.ref 0, .int x1, .int x2, .int x3, .retAddr 0] [] (q_K o g) = some (some (.int v), q_K o g1) ∧ q_sem (d + 30) mX12_put 0 [.ref 98, .int x1, .int x2, .int x3] [] (q_K o g1) = some (some (.int v), q_K o g2) ∧ q_R n g2 := by
  obtain ⟨⟨S, N, hr, hm, hk⟩, ha⟩ := id hR
  have hs0 := ha.2.1
  cases c1 : q_hs x1 4
  · exact ⟨-1000001, q_fb g 1, q_fm (q_fb g 1) 1, by simp only [B_X11_put_0, B_X11_put_8, B_X11_put_32, B_X11_put_21, B_X11_put_37, B_X11_put_45, B_X11_put_56, z_within, z_isCell, z_fin1, z_fin2, z_fin3, z_fin4, z_fin5, Option.bind_some, Option.toList_some, Option.toList_none, List.cons_append, List.nil_append, bI_t, bI_f, i10, i00, i11, i01, ↓reduceIte, Bool.false_eq_true, x_wantN hs0.1 c1, c1], (by have hm := repM_fb (k := 1) hm; simp only [B_X12_put_0, B_X12_put_4, B_X12_put_13, B_X12_put_29, B_X12_put_43, B_X12_put_52, y_in, y_isCell, y_fin1, y_fin2, y_fin3, y_fin4, y_fin5, Option.bind_some, Option.toList_some, Option.toList_none, List.cons_append, List.nil_append, bI_t, bI_f, i10, i00, i11, i01, ↓reduceIte, Bool.false_eq_true, y_isSheet, c1]), R_fin hR (by decide)⟩
  obtain ⟨s, hs, rfl⟩ := q_hs_t c1 (by decide)
  obtain ⟨a1, a2, a3, ⟨nn, hnn, en⟩, a5, a6⟩ := hs0.2 s hs
  by_cases b0 : g 135 s = 0
  · exact ⟨-1000002, q_fb g 2, q_fm (q_fb g 2) 2, by simp only [B_X11_put_0, B_X11_put_8, B_X11_put_32, B_X11_put_21, B_X11_put_37, B_X11_put_45, B_X11_put_56, z_within, z_isCell, z_fin1, z_fin2, z_fin3, z_fin4, z_fin5, Option.bind_some, Option.toList_some, Option.toList_none, List.cons_append, List.nil_append, bI_t, bI_f, i10, i00, i11, i01, ↓reduceIte, Bool.false_eq_true, x_want hs0.1 hs, a1, (by decide : ¬ (2 : Int32) = 0), c1, b0], (by have hm := repM_fb (k := 2) hm; simp only [B_X12_put_0, B_X12_put_4, B_X12_put_13, B_X12_put_29, B_X12_put_43, B_X12_put_52, y_in, y_isCell, y_fin1, y_fin2, y_fin3, y_fin4, y_fin5, Option.bind_some, Option.toList_some, Option.toList_none, List.cons_append, List.nil_append, bI_t, bI_f, i10, i00, i11, i01, ↓reduceIte, Bool.false_eq_true, y_isSheet, q_fb_ne (show 135 ≠ 97 by decide), q_rgN hs (show 4 < 2 ^ 31 by decide), c1, b0]), R_fin hR (by decide)⟩
  have es : g 71 (s * 26 + 1) = nI nn := a2.trans en
  have hn31 : nn < 2 ^ 31 := by omega
  cases c2 : q_hs x2 nn
  · exact ⟨-1000001, q_fb g 1, q_fm (q_fb g 1) 1, by simp only [B_X11_put_0, B_X11_put_8, B_X11_put_32, B_X11_put_21, B_X11_put_37, B_X11_put_45, B_X11_put_56, z_within, z_isCell, z_fin1, z_fin2, z_fin3, z_fin4, z_fin5, Option.bind_some, Option.toList_some, Option.toList_none, List.cons_append, List.nil_append, bI_t, bI_f, i10, i00, i11, i01, ↓reduceIte, Bool.false_eq_true, x_want hs0.1 hs, a1, x_size hs0.1 hs, es, q_in_hs _ hn31, c1, b0, c2], (by have hm := repM_fb (k := 1) hm; simp only [B_X12_put_0, B_X12_put_4, B_X12_put_13, B_X12_put_29, B_X12_put_43, B_X12_put_52, y_in, y_isCell, y_fin1, y_fin2, y_fin3, y_fin4, y_fin5, Option.bind_some, Option.toList_some, Option.toList_none, List.cons_append, List.nil_append, bI_t, bI_f, i10, i00, i11, i01, ↓reduceIte, Bool.false_eq_true, y_isSheet, q_fb_ne (show 135 ≠ 97 by decide), q_fb_ne (show 136 ≠ 97 by decide), q_rgN hs (show 4 < 2 ^ 31 by decide), en, q_in_hs _ hn31, c1, b0, c2]), R_fin hR (by decide)⟩
  obtain ⟨i, hi, rfl⟩ := q_hs_t c2 hn31
  have e24 : (24 : Int32) * nI s + nI i = nI (24 * s + i) := by rw [show (24 : Int32) = nI 24 from rfl, pk_mul, nI_add]
  have hx := fun v => x_write (o := o) hs0.1 hs hnn es hi (d + 26) v
  rw [a1] at hx
  have hg1 : ∀ v p k, p ≠ 71 → q_up g 71 (s * 26 + (2 + i)) v p k = g p k := fun v p k h => q_upN h
  have fin : ∀ v, ((g 135 s = 8 → v.toInt8.toInt32 = v) ∧ (g 135 s = 16 → v.toInt16.toInt32 = v)) → q_R n (q_up (q_up g 71 (s * 26 + (2 + i)) v) 137 (24 * s + i) v) := fun v hv => R_sh hR (shs_put hs0 hs (by omega) hv) (fun p k h1 h2 h3 => by rw [q_upN (by omega), q_upN h1])
  by_cases b8 : g 135 s = 8
  · refine ⟨1, q_up g 71 (s * 26 + (2 + i)) x3.toInt8.toInt32, _, ?_, ?_, fin x3.toInt8.toInt32 ⟨fun _ => q_8i x3, fun z => absurd (b8.symm.trans z) (by decide)⟩⟩
    · simp only [b8, ↓reduceIte] at hx
      simp only [B_X11_put_0, B_X11_put_8, B_X11_put_32, B_X11_put_21, B_X11_put_37, B_X11_put_45, B_X11_put_56, z_within, z_isCell, z_fin1, z_fin2, z_fin3, z_fin4, z_fin5, Option.bind_some, Option.toList_some, Option.toList_none, List.cons_append, List.nil_append, bI_t, bI_f, i10, i00, i11, i01, ↓reduceIte, Bool.false_eq_true, x_want hs0.1 hs, a1, b0, x_size hs0.1 hs, es, q_in_hs _ hn31, c2, hx]
    · simp only [B_X12_put_0, B_X12_put_4, B_X12_put_13, B_X12_put_29, B_X12_put_43, B_X12_put_52, y_in, y_isCell, y_fin1, y_fin2, y_fin3, y_fin4, y_fin5, Option.bind_some, Option.toList_some, Option.toList_none, List.cons_append, List.nil_append, bI_t, bI_f, i10, i00, i11, i01, ↓reduceIte, Bool.false_eq_true, y_isSheet, c1, hg1 _ 135 _ (by decide), hg1 _ 136 _ (by decide), q_rgN hs (show 4 < 2 ^ 31 by decide), b0, en, q_in_hs _ hn31, c2, e24, q_rgN (show 24 * s + i < 96 by omega) (by decide), b8, (by decide : ¬ (8 : Int32) = 0)]
  by_cases b16 : g 135 s = 16
  · refine ⟨1, q_up g 71 (s * 26 + (2 + i)) x3.toInt16.toInt32, _, ?_, ?_, fin x3.toInt16.toInt32 ⟨fun z => absurd z b8, fun _ => q_16i x3⟩⟩
    · simp only [b16, ↓reduceIte, (by decide : ¬ (16 : Int32) = 8)] at hx
      simp only [B_X11_put_0, B_X11_put_8, B_X11_put_32, B_X11_put_21, B_X11_put_37, B_X11_put_45, B_X11_put_56, z_within, z_isCell, z_fin1, z_fin2, z_fin3, z_fin4, z_fin5, Option.bind_some, Option.toList_some, Option.toList_none, List.cons_append, List.nil_append, bI_t, bI_f, i10, i00, i11, i01, ↓reduceIte, Bool.false_eq_true, x_want hs0.1 hs, a1, b0, x_size hs0.1 hs, es, q_in_hs _ hn31, c2, hx]
    · simp only [B_X12_put_0, B_X12_put_4, B_X12_put_13, B_X12_put_29, B_X12_put_43, B_X12_put_52, y_in, y_isCell, y_fin1, y_fin2, y_fin3, y_fin4, y_fin5, Option.bind_some, Option.toList_some, Option.toList_none, List.cons_append, List.nil_append, bI_t, bI_f, i10, i00, i11, i01, ↓reduceIte, Bool.false_eq_true, y_isSheet, c1, hg1 _ 135 _ (by decide), hg1 _ 136 _ (by decide), q_rgN hs (show 4 < 2 ^ 31 by decide), b0, en, q_in_hs _ hn31, c2, e24, q_rgN (show 24 * s + i < 96 by omega) (by decide), b16, (by decide : ¬ (16 : Int32) = 0), (by decide : ¬ (16 : Int32) = 8)]
  · refine ⟨1, q_up g 71 (s * 26 + (2 + i)) x3, _, ?_, ?_, fin x3 ⟨fun z => absurd z b8, fun z => absurd z b16⟩⟩
    · simp only [b8, b16, ↓reduceIte] at hx
      simp only [B_X11_put_0, B_X11_put_8, B_X11_put_32, B_X11_put_21, B_X11_put_37, B_X11_put_45, B_X11_put_56, z_within, z_isCell, z_fin1, z_fin2, z_fin3, z_fin4, z_fin5, Option.bind_some, Option.toList_some, Option.toList_none, List.cons_append, List.nil_append, bI_t, bI_f, i10, i00, i11, i01, ↓reduceIte, Bool.false_eq_true, x_want hs0.1 hs, a1, b0, x_size hs0.1 hs, es, q_in_hs _ hn31, c2, hx]
    · simp only [B_X12_put_0, B_X12_put_4, B_X12_put_13, B_X12_put_29, B_X12_put_43, B_X12_put_52, y_in, y_isCell, y_fin1, y_fin2, y_fin3, y_fin4, y_fin5, Option.bind_some, Option.toList_some, Option.toList_none, List.cons_append, List.nil_append, bI_t, bI_f, i10, i00, i11, i01, ↓reduceIte, Bool.false_eq_true, y_isSheet, c1, hg1 _ 135 _ (by decide), hg1 _ 136 _ (by decide), q_rgN hs (show 4 < 2 ^ 31 by decide), b0, en, q_in_hs _ hn31, c2, e24, q_rgN (show 24 * s + i < 96 by omega) (by decide), b8, b16]
/-- numbers a .. b - 1 of m are moved -/
def q_mv (g : Nat → Nat → Int32) (s i t j a b : Nat) : Nat → Nat → Int32 := fun p q => if p = 71 ∧ t * 26 + 2 + j + a ≤ q ∧ q < t * 26 + 2 + j + b then g 71 (s * 26 + 2 + i + (q - (t * 26 + 2 + j))) else g p q
theorem q_mv_ne {g : Nat → Nat → Int32} {s i t j a b p q : Nat} (h : ¬ (p = 71 ∧ t * 26 + 2 + j + a ≤ q ∧ q < t * 26 + 2 + j + b)) : q_mv g s i t j a b p q = g p q := if_neg h
theorem q_mv_up {g : Nat → Nat → Int32} {s i t j k : Nat} : q_up (q_mv g s i t j 0 k) 71 (t * 26 + (2 + (j + k))) (g 71 (s * 26 + (2 + (i + k)))) = q_mv g s i t j 0 (k + 1) := by
  funext p q
  unfold q_mv q_up
  by_cases e : p = 71 ∧ q = t * 26 + (2 + (j + k))
  · obtain ⟨rfl, rfl⟩ := e
    rw [if_pos ⟨rfl, rfl⟩, if_pos ⟨rfl, by omega, by omega⟩]
    congr 1
    omega
  · rw [if_neg e]
    dsimp only
    by_cases e2 : p = 71 ∧ t * 26 + 2 + j + 0 ≤ q ∧ q < t * 26 + 2 + j + k
    · rw [if_pos e2, if_pos ⟨e2.1, e2.2.1, by omega⟩]
    · rw [if_neg e2, if_neg (by omega)]
theorem q_mv_dn {g : Nat → Nat → Int32} {s i t j a m : Nat} (ha : a < m) : q_up (q_mv g s i t j (a + 1) m) 71 (t * 26 + (2 + (j + a))) (g 71 (s * 26 + (2 + (i + a)))) = q_mv g s i t j a m := by
  funext p q
  unfold q_mv q_up
  by_cases e : p = 71 ∧ q = t * 26 + (2 + (j + a))
  · obtain ⟨rfl, rfl⟩ := e
    rw [if_pos ⟨rfl, rfl⟩, if_pos ⟨rfl, by omega, by omega⟩]
    congr 1
    omega
  · rw [if_neg e]
    dsimp only
    by_cases e2 : p = 71 ∧ t * 26 + 2 + j + (a + 1) ≤ q ∧ q < t * 26 + 2 + j + m
    · rw [if_pos e2, if_pos ⟨e2.1, by omega, e2.2.2⟩]
    · rw [if_neg e2, if_neg (by omega)]
theorem q_mv_0 {g : Nat → Nat → Int32} {s i t j a : Nat} : q_mv g s i t j a a = g := by
  funext p q
  exact q_mv_ne (by omega)
section CPY
variable {o : q_H} {g : Nat → Nat → Int32} {s t i j m ns nt : Nat}
theorem x_copy_s (ht0 : q_ti g 70 4 26 4) (hs : s < 4) (ht : t < 4) (hns : ns ≤ 24) (hnt : nt ≤ 24) (es : g 71 (s * 26 + 1) = nI ns) (et : g 71 (t * 26 + 1) = nI nt) (him : i + m ≤ ns) (hjm : j + m ≤ nt) (hfit : ∀ k, k < m → (g 71 (t * 26) = 8 → (g 71 (s * 26 + (2 + (i + k)))).toInt8.toInt32 = g 71 (s * 26 + (2 + (i + k)))) ∧ (g 71 (t * 26) = 16 → (g 71 (s * 26 + (2 + (i + k)))).toInt16.toInt32 = g 71 (s * 26 + (2 + (i + k))))) (a b k : Nat) (hk : k < m) (hb : b ≤ m) (hdir : ¬ (s * 26 + 2 + i + k ≥ t * 26 + 2 + j + a ∧ s * 26 + 2 + i + k < t * 26 + 2 + j + b)) (d : Nat) : q_sem (d + 3) mX6_get 0 [.ref 69, .int (nI s), .int (nI (i + k))] [] (q_K o (q_mv g s i t j a b)) = some (some (.int (g 71 (s * 26 + (2 + (i + k))))), q_K o (q_mv g s i t j a b)) ∧ q_sem (d + 3) mX6_write 0 [.ref 69, .int (nI t), .int (nI (j + k)), .int (g 71 (s * 26 + (2 + (i + k)))), .retAddr 0] [] (q_K o (q_mv g s i t j a b)) = some (none, q_K o (q_up (q_mv g s i t j a b) 71 (t * 26 + (2 + (j + k))) (g 71 (s * 26 + (2 + (i + k)))))) := by
  have h0 : q_ti (q_mv g s i t j a b) 70 4 26 4 := ti_fr ht0 (fun k => q_mv_ne (by omega))
  have e1 : q_mv g s i t j a b 71 (s * 26 + 1) = nI ns := (q_mv_ne (by omega)).trans es
  have e2 : q_mv g s i t j a b 71 (t * 26 + 1) = nI nt := (q_mv_ne (by omega)).trans et
  have e3 : q_mv g s i t j a b 71 (t * 26) = g 71 (t * 26) := q_mv_ne (by omega)
  have e4 : q_mv g s i t j a b 71 (s * 26 + (2 + (i + k))) = g 71 (s * 26 + (2 + (i + k))) := q_mv_ne (by omega)
  refine ⟨?_, ?_⟩
  · rw [x_get h0 hs hns e1 (by omega) d, e4]
  · rw [x_write h0 ht hnt e2 (by omega) d, e3]
    congr 5
    have hf := hfit k hk
    by_cases b8 : g 71 (t * 26) = 8
    · rw [if_pos b8]; exact hf.1 b8
    · rw [if_neg b8]
      by_cases b16 : g 71 (t * 26) = 16
      · rw [if_pos b16]; exact hf.2 b16
      · rw [if_neg b16]
theorem x_copy_dn (ht0 : q_ti g 70 4 26 4) (hs : s < 4) (ht : t < 4) (hns : ns ≤ 24) (hnt : nt ≤ 24) (es : g 71 (s * 26 + 1) = nI ns) (et : g 71 (t * 26 + 1) = nI nt) (him : i + m ≤ ns) (hjm : j + m ≤ nt) (hfit : ∀ k, k < m → (g 71 (t * 26) = 8 → (g 71 (s * 26 + (2 + (i + k)))).toInt8.toInt32 = g 71 (s * 26 + (2 + (i + k)))) ∧ (g 71 (t * 26) = 16 → (g 71 (s * 26 + (2 + (i + k)))).toInt16.toInt32 = g 71 (s * 26 + (2 + (i + k))))) (hji : j ≤ i) (d : Nat) : ∀ n k, k + n = m → ∀ x8, (x8 = .retAddr 0 ∨ ∃ v, x8 = .int v) → q_sem (d + 4) mX6_copy 57 [.ref 69, .int (nI s), .int (nI i), .int (nI t), .int (nI j), .int (nI m), .int 0, .int (nI k), x8] [] (q_K o (q_mv g s i t j 0 k)) = some (some (.int 1), q_K o (q_mv g s i t j 0 m)) := by
  intro n
  induction n with
  | zero =>
    intro k hk x8 hx
    have c1 : nI m ≤ nI k := nI_le (by omega) (by omega)
    have ek : k = m := by omega
    subst ek
    rcases hx with rfl | ⟨v, rfl⟩
    · rw [B_X6_copy_57, if_pos c1]
    · rw [B_X6_copy_57a, if_pos c1]
  | succ n ih =>
    intro k hk x8 hx
    have c1 : ¬ nI m ≤ nI k := nI_ge (by omega) (by omega)
    obtain ⟨e1, e2⟩ := x_copy_s (o := o) ht0 hs ht hns hnt es et him hjm hfit 0 k k (by omega) (by omega) (by omega) d
    rw [q_mv_up] at e2
    have e3 := ih (k + 1) (by omega) (.int (nI k)) (Or.inr ⟨_, rfl⟩)
    rcases hx with rfl | ⟨v, rfl⟩
    · rw [B_X6_copy_57]
      simp only [c1, ↓reduceIte, nI_add, e1, Option.bind_some, Option.toList_some, Option.toList_none, List.cons_append, List.nil_append, B_X6_copy_99, e2, B_X6_copy_102, nI_1, e3]
    · rw [B_X6_copy_57a]
      simp only [c1, ↓reduceIte, nI_add, e1, Option.bind_some, Option.toList_some, Option.toList_none, List.cons_append, List.nil_append, B_X6_copy_99, e2, B_X6_copy_102, nI_1, e3]
theorem x_copy_up (ht0 : q_ti g 70 4 26 4) (hs : s < 4) (ht : t < 4) (hns : ns ≤ 24) (hnt : nt ≤ 24) (es : g 71 (s * 26 + 1) = nI ns) (et : g 71 (t * 26 + 1) = nI nt) (him : i + m ≤ ns) (hjm : j + m ≤ nt) (hfit : ∀ k, k < m → (g 71 (t * 26) = 8 → (g 71 (s * 26 + (2 + (i + k)))).toInt8.toInt32 = g 71 (s * 26 + (2 + (i + k)))) ∧ (g 71 (t * 26) = 16 → (g 71 (s * 26 + (2 + (i + k)))).toInt16.toInt32 = g 71 (s * 26 + (2 + (i + k))))) (hji : i < j) (d : Nat) : ∀ n k, k + n = m → ∀ x8, (x8 = .retAddr 0 ∨ ∃ v, x8 = .int v) → q_sem (d + 4) mX6_copy 57 [.ref 69, .int (nI s), .int (nI i), .int (nI t), .int (nI j), .int (nI m), .int 1, .int (nI k), x8] [] (q_K o (q_mv g s i t j n m)) = some (some (.int 1), q_K o (q_mv g s i t j 0 m)) := by
  intro n
  induction n with
  | zero =>
    intro k hk x8 hx
    have c1 : nI m ≤ nI k := nI_le (by omega) (by omega)
    rcases hx with rfl | ⟨v, rfl⟩
    · rw [B_X6_copy_57, if_pos c1]
    · rw [B_X6_copy_57a, if_pos c1]
  | succ n ih =>
    intro k hk x8 hx
    have c1 : ¬ nI m ≤ nI k := nI_ge (by omega) (by omega)
    obtain ⟨e1, e2⟩ := x_copy_s (o := o) ht0 hs ht hns hnt es et him hjm hfit (n + 1) m n (by omega) (by omega) (by omega) d
    rw [q_mv_dn (by omega)] at e2
    have en : (nI m - 1) - nI k = nI n := by
      have : m = (n + k) + 1 := by omega
      rw [this, nI_pred, nI_sub (by omega)]
      congr 1
      omega
    have e3 := ih (k + 1) (by omega) (.int (nI n)) (Or.inr ⟨_, rfl⟩)
    rcases hx with rfl | ⟨v, rfl⟩
    · rw [B_X6_copy_57]
      simp only [c1, ↓reduceIte, i10, en, nI_add, e1, Option.bind_some, Option.toList_some, Option.toList_none, List.cons_append, List.nil_append, B_X6_copy_99, e2, B_X6_copy_102, nI_1, e3]
    · rw [B_X6_copy_57a]
      simp only [c1, ↓reduceIte, i10, en, nI_add, e1, Option.bind_some, Option.toList_some, Option.toList_none, List.cons_append, List.nil_append, B_X6_copy_99, e2, B_X6_copy_102, nI_1, e3]
theorem m_lift {s i m : Nat} (d : Nat) (hs : s < 4) (him : i + m ≤ 24) (x3 x4 : Int32) : ∀ n k g, k + n = m → ∃ g2, q_sem d mX12_move 119 [.ref 98, .int (nI s), .int (nI i), .int x3, .int x4, .int (nI m), .int (nI k)] [] (q_K o g) = q_sem d mX12_move 156 [.ref 98, .int (nI s), .int (nI i), .int x3, .int x4, .int (nI m), .int 0] [] (q_K o g2) ∧ (∀ c, k ≤ c → c < m → g2 150 c = g 137 (24 * s + i + c)) ∧ ∀ p c, ¬ (p = 150 ∧ k ≤ c ∧ c < m) → g2 p c = g p c := by
  intro n
  induction n with
  | zero =>
    intro k g hk
    have c1 : nI m ≤ nI k := nI_le (by omega) (by omega)
    exact ⟨g, by rw [B_X12_move_119, if_pos c1], fun c a b => by omega, fun _ _ _ => rfl⟩
  | succ n ih =>
    intro k g hk
    have c1 : ¬ nI m ≤ nI k := nI_ge (by omega) (by omega)
    obtain ⟨g2, e2, h2, f2⟩ := ih (k + 1) (q_up g 150 k (g 137 (24 * s + i + k))) (by omega)
    refine ⟨g2, ?_, ?_, ?_⟩
    · have e : (24 : Int32) * nI s + nI i + nI k = nI (24 * s + i + k) := by rw [show (24 : Int32) = nI 24 from rfl, pk_mul, nI_add, nI_add]
      rw [B_X12_move_119, if_neg c1, e, q_rgN (show 24 * s + i + k < 96 by omega) (by decide), q_rgN (show k < 24 by omega) (by decide), nI_1]
      exact e2
    · intro c a b
      by_cases q : c = k
      · subst q; rw [f2 _ _ (by omega), q_upE]
      · rw [h2 c (by omega) b, q_upN (by decide)]
    · intro p c z
      rw [f2 _ _ (by omega), q_up_ne (by omega)]
theorem m_drop {t j m : Nat} (d : Nat) (ht : t < 4) (hjm : j + m ≤ 24) (x1 x2 : Int32) : ∀ n k g, k + n = m → ∃ g2, q_sem d mX12_move 156 [.ref 98, .int x1, .int x2, .int (nI t), .int (nI j), .int (nI m), .int (nI k)] [] (q_K o g) = some (some (.int (nI m)), q_K o g2) ∧ (∀ c, k ≤ c → c < m → g2 137 (24 * t + j + c) = g 150 c) ∧ ∀ p c, ¬ (p = 137 ∧ 24 * t + j + k ≤ c ∧ c < 24 * t + j + m) → g2 p c = g p c := by
  intro n
  induction n with
  | zero =>
    intro k g hk
    have c1 : nI m ≤ nI k := nI_le (by omega) (by omega)
    exact ⟨g, by rw [B_X12_move_156, if_pos c1], fun c a b => by omega, fun _ _ _ => rfl⟩
  | succ n ih =>
    intro k g hk
    have c1 : ¬ nI m ≤ nI k := nI_ge (by omega) (by omega)
    obtain ⟨g2, e2, h2, f2⟩ := ih (k + 1) (q_up g 137 (24 * t + j + k) (g 150 k)) (by omega)
    refine ⟨g2, ?_, ?_, ?_⟩
    · have e : (24 : Int32) * nI t + nI j + nI k = nI (24 * t + j + k) := by rw [show (24 : Int32) = nI 24 from rfl, pk_mul, nI_add, nI_add]
      rw [B_X12_move_156, if_neg c1, e, q_rgN (show k < 24 by omega) (by decide), q_rgN (show 24 * t + j + k < 96 by omega) (by decide), nI_1]
      exact e2
    · intro c a b
      by_cases q : c = k
      · subst q; rw [f2 _ _ (by omega), q_upE]
      · rw [h2 c (by omega) b, q_upN (by decide)]
    · intro p c z
      rw [f2 _ _ (by omega), q_up_ne (by omega)]
end CPY
theorem q_subI {a b : Nat} (ha : a ≤ 24) (hb : b < 2 ^ 31) : (nI a - nI b).toInt = (a : Int) - b := by
  rw [Int32.toInt_sub, nI_toInt (by omega), nI_toInt hb, Int.bmod_def]
  omega
theorem q_subLt {a b c : Nat} (ha : a ≤ 24) (hb : b < 2 ^ 31) (hc : c < 2 ^ 31) : (nI a - nI b < nI c) = (a < b + c) := by
  rw [Int32.lt_iff_toInt_lt, q_subI ha hb, nI_toInt hc]
  apply propext
  omega
theorem q_subLe {a b c : Nat} (ha : a ≤ 24) (hb : b < 2 ^ 31) (hc : c < 2 ^ 31) : (nI c ≤ nI a - nI b) = (b + c ≤ a) := by
  rw [Int32.le_iff_toInt_le, q_subI ha hb, nI_toInt hc]
  apply propext
  omega
theorem q_lt2 {x : Int32} (h : x < 0) : (x < 0) = True := eq_true h
theorem law_move {o : q_H} {n : Nat} {g : Nat → Nat → Int32} (hR : q_R n g) (ho : q_oR o) (d : Nat) (x1 : Int32) (x2 : Int32) (x3 : Int32) (x4 : Int32) (x5 : Int32) : ∃ v g1 g2, q_sem (d + 30) mX11_move 0 [.ref 0, .int x1, .int x2, .int x3, .int x4, .int x5] [] (q_K o g) = some (some (.int v), q_K o g1) ∧ q_sem (d + 30) mX12_move 0 [.ref 98, .int x1, .int x2, .int x3, .int x4, .int x5, .retAddr 0] [] (q_K o g1) = some (some (.int v), q_K o g2) ∧ q_R n g2 := by
  obtain ⟨⟨S, N, hr, hm, hk⟩, ha⟩ := id hR
  have hs0 := ha.2.1
  cases c1 : q_hs x1 4
  · exact ⟨-1000001, q_fb g 1, q_fm (q_fb g 1) 1, by simp only [B_X11_move_0, B_X11_move_8, B_X11_move_27, B_X11_move_19, B_X11_move_36, B_X11_move_47, B_X11_move_55, B_X11_move_64, B_X11_move_72, B_X11_move_95, B_X11_move_80, B_X11_move_108, z_within, z_isCell, z_fin1, z_fin2, z_fin3, z_fin4, z_fin5, Option.bind_some, Option.toList_some, Option.toList_none, List.cons_append, List.nil_append, bI_t, bI_f, i10, i00, i11, i01, ↓reduceIte, Bool.false_eq_true, x_has hs0.1, c1], (by have hm := repM_fb (k := 1) hm; simp only [B_X12_move_0, B_X12_move_4, B_X12_move_20, B_X12_move_11, B_X12_move_45, B_X12_move_115, B_X12_move_67, y_in, y_isCell, y_fin1, y_fin2, y_fin3, y_fin4, y_fin5, Option.bind_some, Option.toList_some, Option.toList_none, List.cons_append, List.nil_append, bI_t, bI_f, i10, i00, i11, i01, ↓reduceIte, Bool.false_eq_true, y_isSheet, c1]), R_fin hR (by decide)⟩
  cases c2 : q_hs x3 4
  · exact ⟨-1000001, q_fb g 1, q_fm (q_fb g 1) 1, by simp only [B_X11_move_0, B_X11_move_8, B_X11_move_27, B_X11_move_19, B_X11_move_36, B_X11_move_47, B_X11_move_55, B_X11_move_64, B_X11_move_72, B_X11_move_95, B_X11_move_80, B_X11_move_108, z_within, z_isCell, z_fin1, z_fin2, z_fin3, z_fin4, z_fin5, Option.bind_some, Option.toList_some, Option.toList_none, List.cons_append, List.nil_append, bI_t, bI_f, i10, i00, i11, i01, ↓reduceIte, Bool.false_eq_true, x_has hs0.1, c1, c2], (by have hm := repM_fb (k := 1) hm; simp only [B_X12_move_0, B_X12_move_4, B_X12_move_20, B_X12_move_11, B_X12_move_45, B_X12_move_115, B_X12_move_67, y_in, y_isCell, y_fin1, y_fin2, y_fin3, y_fin4, y_fin5, Option.bind_some, Option.toList_some, Option.toList_none, List.cons_append, List.nil_append, bI_t, bI_f, i10, i00, i11, i01, ↓reduceIte, Bool.false_eq_true, y_isSheet, c1, c2]), R_fin hR (by decide)⟩
  obtain ⟨s, hs, rfl⟩ := q_hs_t c1 (by decide)
  obtain ⟨t, ht, rfl⟩ := q_hs_t c2 (by decide)
  obtain ⟨a1, a2, a3, ⟨ns, hns, ens⟩, a5, a6⟩ := hs0.2 s hs
  obtain ⟨b1, b2, b3, ⟨nt, hnt, ent⟩, b5, b6⟩ := hs0.2 t ht
  have es : g 71 (s * 26 + 1) = nI ns := a2.trans ens
  have et : g 71 (t * 26 + 1) = nI nt := b2.trans ent
  by_cases z0 : g 135 s = 0
  · exact ⟨-1000002, q_fb g 2, q_fm (q_fb g 2) 2, by simp only [B_X11_move_0, B_X11_move_8, B_X11_move_27, B_X11_move_19, B_X11_move_36, B_X11_move_47, B_X11_move_55, B_X11_move_64, B_X11_move_72, B_X11_move_95, B_X11_move_80, B_X11_move_108, z_within, z_isCell, z_fin1, z_fin2, z_fin3, z_fin4, z_fin5, Option.bind_some, Option.toList_some, Option.toList_none, List.cons_append, List.nil_append, bI_t, bI_f, i10, i00, i11, i01, ↓reduceIte, Bool.false_eq_true, x_has hs0.1, x_want hs0.1 hs, a1, (by decide : ¬ (2 : Int32) = 0), c1, c2, z0], (by have hm := repM_fb (k := 2) hm; simp only [B_X12_move_0, B_X12_move_4, B_X12_move_20, B_X12_move_11, B_X12_move_45, B_X12_move_115, B_X12_move_67, y_in, y_isCell, y_fin1, y_fin2, y_fin3, y_fin4, y_fin5, Option.bind_some, Option.toList_some, Option.toList_none, List.cons_append, List.nil_append, bI_t, bI_f, i10, i00, i11, i01, ↓reduceIte, Bool.false_eq_true, y_isSheet, q_fb_ne (show 135 ≠ 97 by decide), q_rgN hs (show 4 < 2 ^ 31 by decide), c1, c2, z0]), R_fin hR (by decide)⟩
  by_cases z1 : g 135 t = 0
  · exact ⟨-1000002, q_fb g 2, q_fm (q_fb g 2) 2, by simp only [B_X11_move_0, B_X11_move_8, B_X11_move_27, B_X11_move_19, B_X11_move_36, B_X11_move_47, B_X11_move_55, B_X11_move_64, B_X11_move_72, B_X11_move_95, B_X11_move_80, B_X11_move_108, z_within, z_isCell, z_fin1, z_fin2, z_fin3, z_fin4, z_fin5, Option.bind_some, Option.toList_some, Option.toList_none, List.cons_append, List.nil_append, bI_t, bI_f, i10, i00, i11, i01, ↓reduceIte, Bool.false_eq_true, x_has hs0.1, x_want hs0.1 hs, x_want hs0.1 ht, a1, b1, (by decide : ¬ (2 : Int32) = 0), c1, c2, z0, z1], (by have hm := repM_fb (k := 2) hm; simp only [B_X12_move_0, B_X12_move_4, B_X12_move_20, B_X12_move_11, B_X12_move_45, B_X12_move_115, B_X12_move_67, y_in, y_isCell, y_fin1, y_fin2, y_fin3, y_fin4, y_fin5, Option.bind_some, Option.toList_some, Option.toList_none, List.cons_append, List.nil_append, bI_t, bI_f, i10, i00, i11, i01, ↓reduceIte, Bool.false_eq_true, y_isSheet, q_fb_ne (show 135 ≠ 97 by decide), q_rgN hs (show 4 < 2 ^ 31 by decide), q_rgN ht (show 4 < 2 ^ 31 by decide), c1, c2, z0, z1]), R_fin hR (by decide)⟩
  by_cases z2 : g 135 s = g 135 t
  rotate_left
  · exact ⟨-1000005, q_fb g 5, q_fm (q_fb g 5) 5, by simp only [B_X11_move_0, B_X11_move_8, B_X11_move_27, B_X11_move_19, B_X11_move_36, B_X11_move_47, B_X11_move_55, B_X11_move_64, B_X11_move_72, B_X11_move_95, B_X11_move_80, B_X11_move_108, z_within, z_isCell, z_fin1, z_fin2, z_fin3, z_fin4, z_fin5, Option.bind_some, Option.toList_some, Option.toList_none, List.cons_append, List.nil_append, bI_t, bI_f, i10, i00, i11, i01, ↓reduceIte, Bool.false_eq_true, x_has hs0.1, x_want hs0.1 hs, x_want hs0.1 ht, x_bits hs0.1 hs, x_bits hs0.1 ht, a1, b1, c1, c2, z0, z1, z2], (by have hm := repM_fb (k := 5) hm; simp only [B_X12_move_0, B_X12_move_4, B_X12_move_20, B_X12_move_11, B_X12_move_45, B_X12_move_115, B_X12_move_67, y_in, y_isCell, y_fin1, y_fin2, y_fin3, y_fin4, y_fin5, Option.bind_some, Option.toList_some, Option.toList_none, List.cons_append, List.nil_append, bI_t, bI_f, i10, i00, i11, i01, ↓reduceIte, Bool.false_eq_true, y_isSheet, q_fb_ne (show 135 ≠ 97 by decide), q_rgN hs (show 4 < 2 ^ 31 by decide), q_rgN ht (show 4 < 2 ^ 31 by decide), c1, c2, z0, z1, z2]), R_fin hR (by decide)⟩
  by_cases y0 : x5 < 0
  · exact ⟨-1000001, q_fb g 1, q_fm (q_fb g 1) 1, by simp only [B_X11_move_0, B_X11_move_8, B_X11_move_27, B_X11_move_19, B_X11_move_36, B_X11_move_47, B_X11_move_55, B_X11_move_64, B_X11_move_72, B_X11_move_95, B_X11_move_80, B_X11_move_108, z_within, z_isCell, z_fin1, z_fin2, z_fin3, z_fin4, z_fin5, Option.bind_some, Option.toList_some, Option.toList_none, List.cons_append, List.nil_append, bI_t, bI_f, i10, i00, i11, i01, ↓reduceIte, Bool.false_eq_true, x_has hs0.1, x_want hs0.1 hs, x_want hs0.1 ht, x_bits hs0.1 hs, x_bits hs0.1 ht, a1, b1, B_X6_copy_0, c1, c2, z2, z1, y0], (by have hm := repM_fb (k := 1) hm; simp only [B_X12_move_0, B_X12_move_4, B_X12_move_20, B_X12_move_11, B_X12_move_45, B_X12_move_115, B_X12_move_67, y_in, y_isCell, y_fin1, y_fin2, y_fin3, y_fin4, y_fin5, Option.bind_some, Option.toList_some, Option.toList_none, List.cons_append, List.nil_append, bI_t, bI_f, i10, i00, i11, i01, ↓reduceIte, Bool.false_eq_true, y_isSheet, q_fb_ne (show 135 ≠ 97 by decide), q_rgN hs (show 4 < 2 ^ 31 by decide), q_rgN ht (show 4 < 2 ^ 31 by decide), c1, c2, z2, z1, y0]), R_fin hR (by decide)⟩
  by_cases y1 : x2 < 0
  · exact ⟨-1000001, q_fb g 1, q_fm (q_fb g 1) 1, by simp only [B_X11_move_0, B_X11_move_8, B_X11_move_27, B_X11_move_19, B_X11_move_36, B_X11_move_47, B_X11_move_55, B_X11_move_64, B_X11_move_72, B_X11_move_95, B_X11_move_80, B_X11_move_108, z_within, z_isCell, z_fin1, z_fin2, z_fin3, z_fin4, z_fin5, Option.bind_some, Option.toList_some, Option.toList_none, List.cons_append, List.nil_append, bI_t, bI_f, i10, i00, i11, i01, ↓reduceIte, Bool.false_eq_true, x_has hs0.1, x_want hs0.1 hs, x_want hs0.1 ht, x_bits hs0.1 hs, x_bits hs0.1 ht, a1, b1, B_X6_copy_0, c1, c2, z2, z1, y0, y1], (by have hm := repM_fb (k := 1) hm; simp only [B_X12_move_0, B_X12_move_4, B_X12_move_20, B_X12_move_11, B_X12_move_45, B_X12_move_115, B_X12_move_67, y_in, y_isCell, y_fin1, y_fin2, y_fin3, y_fin4, y_fin5, Option.bind_some, Option.toList_some, Option.toList_none, List.cons_append, List.nil_append, bI_t, bI_f, i10, i00, i11, i01, ↓reduceIte, Bool.false_eq_true, y_isSheet, q_fb_ne (show 135 ≠ 97 by decide), q_rgN hs (show 4 < 2 ^ 31 by decide), q_rgN ht (show 4 < 2 ^ 31 by decide), c1, c2, z2, z1, y0, y1]), R_fin hR (by decide)⟩
  by_cases y2 : x4 < 0
  · exact ⟨-1000001, q_fb g 1, q_fm (q_fb g 1) 1, by simp only [B_X11_move_0, B_X11_move_8, B_X11_move_27, B_X11_move_19, B_X11_move_36, B_X11_move_47, B_X11_move_55, B_X11_move_64, B_X11_move_72, B_X11_move_95, B_X11_move_80, B_X11_move_108, z_within, z_isCell, z_fin1, z_fin2, z_fin3, z_fin4, z_fin5, Option.bind_some, Option.toList_some, Option.toList_none, List.cons_append, List.nil_append, bI_t, bI_f, i10, i00, i11, i01, ↓reduceIte, Bool.false_eq_true, x_has hs0.1, x_want hs0.1 hs, x_want hs0.1 ht, x_bits hs0.1 hs, x_bits hs0.1 ht, a1, b1, B_X6_copy_0, c1, c2, z2, z1, y0, y1, y2], (by have hm := repM_fb (k := 1) hm; simp only [B_X12_move_0, B_X12_move_4, B_X12_move_20, B_X12_move_11, B_X12_move_45, B_X12_move_115, B_X12_move_67, y_in, y_isCell, y_fin1, y_fin2, y_fin3, y_fin4, y_fin5, Option.bind_some, Option.toList_some, Option.toList_none, List.cons_append, List.nil_append, bI_t, bI_f, i10, i00, i11, i01, ↓reduceIte, Bool.false_eq_true, y_isSheet, q_fb_ne (show 135 ≠ 97 by decide), q_rgN hs (show 4 < 2 ^ 31 by decide), q_rgN ht (show 4 < 2 ^ 31 by decide), c1, c2, z2, z1, y0, y1, y2]), R_fin hR (by decide)⟩
  obtain ⟨m, hm31, rfl⟩ := nI_of y0
  obtain ⟨i, hi31, rfl⟩ := nI_of y1
  obtain ⟨j, hj31, rfl⟩ := nI_of y2
  by_cases w1 : ns < m + i
  · have w2 : ns < i + m := by omega
    exact ⟨-1000001, q_fb g 1, q_fm (q_fb g 1) 1, by simp only [B_X11_move_0, B_X11_move_8, B_X11_move_27, B_X11_move_19, B_X11_move_36, B_X11_move_47, B_X11_move_55, B_X11_move_64, B_X11_move_72, B_X11_move_95, B_X11_move_80, B_X11_move_108, z_within, z_isCell, z_fin1, z_fin2, z_fin3, z_fin4, z_fin5, Option.bind_some, Option.toList_some, Option.toList_none, List.cons_append, List.nil_append, bI_t, bI_f, i10, i00, i11, i01, ↓reduceIte, Bool.false_eq_true, x_has hs0.1, x_want hs0.1 hs, x_want hs0.1 ht, x_bits hs0.1 hs, x_bits hs0.1 ht, x_size hs0.1 hs, es, q_subLt hns hm31 hi31, w1, a1, b1, B_X6_copy_0, B_X6_copy_20, c1, c2, z2, z1, y0, y1, y2], (by have hm := repM_fb (k := 1) hm; simp only [B_X12_move_0, B_X12_move_4, B_X12_move_20, B_X12_move_11, B_X12_move_45, B_X12_move_115, B_X12_move_67, y_in, y_isCell, y_fin1, y_fin2, y_fin3, y_fin4, y_fin5, Option.bind_some, Option.toList_some, Option.toList_none, List.cons_append, List.nil_append, bI_t, bI_f, i10, i00, i11, i01, ↓reduceIte, Bool.false_eq_true, y_isSheet, q_fb_ne (show 135 ≠ 97 by decide), q_fb_ne (show 136 ≠ 97 by decide), q_rgN hs (show 4 < 2 ^ 31 by decide), q_rgN ht (show 4 < 2 ^ 31 by decide), ens, q_subLt hns hi31 hm31, w2, c1, c2, z2, z1, y0, y1, y2]), R_fin hR (by decide)⟩
  have w2 : ¬ ns < i + m := by omega
  by_cases w3 : m + j ≤ nt
  rotate_left
  · have w4 : ¬ j + m ≤ nt := by omega
    exact ⟨-1000001, q_fb g 1, q_fm (q_fb g 1) 1, by simp only [B_X11_move_0, B_X11_move_8, B_X11_move_27, B_X11_move_19, B_X11_move_36, B_X11_move_47, B_X11_move_55, B_X11_move_64, B_X11_move_72, B_X11_move_95, B_X11_move_80, B_X11_move_108, z_within, z_isCell, z_fin1, z_fin2, z_fin3, z_fin4, z_fin5, Option.bind_some, Option.toList_some, Option.toList_none, List.cons_append, List.nil_append, bI_t, bI_f, i10, i00, i11, i01, ↓reduceIte, Bool.false_eq_true, x_has hs0.1, x_want hs0.1 hs, x_want hs0.1 ht, x_bits hs0.1 hs, x_bits hs0.1 ht, x_size hs0.1 hs, x_size hs0.1 ht, es, et, q_subLt hns hm31 hi31, q_subLe hnt hm31 hj31, w1, w3, a1, b1, B_X6_copy_0, B_X6_copy_20, B_X6_copy_33, c1, c2, z2, z1, y0, y1, y2], (by have hm := repM_fb (k := 1) hm; simp only [B_X12_move_0, B_X12_move_4, B_X12_move_20, B_X12_move_11, B_X12_move_45, B_X12_move_115, B_X12_move_67, y_in, y_isCell, y_fin1, y_fin2, y_fin3, y_fin4, y_fin5, Option.bind_some, Option.toList_some, Option.toList_none, List.cons_append, List.nil_append, bI_t, bI_f, i10, i00, i11, i01, ↓reduceIte, Bool.false_eq_true, y_isSheet, q_fb_ne (show 135 ≠ 97 by decide), q_fb_ne (show 136 ≠ 97 by decide), q_rgN hs (show 4 < 2 ^ 31 by decide), q_rgN ht (show 4 < 2 ^ 31 by decide), ens, ent, q_subLt hns hi31 hm31, q_subLe hnt hj31 hm31, w2, w4, c1, c2, z2, z1, y0, y1, y2]), R_fin hR (by decide)⟩
  have w4 : j + m ≤ nt := by omega
  have hfit : ∀ k, k < m → (g 71 (t * 26) = 8 → (g 71 (s * 26 + (2 + (i + k)))).toInt8.toInt32 = g 71 (s * 26 + (2 + (i + k)))) ∧ (g 71 (t * 26) = 16 → (g 71 (s * 26 + (2 + (i + k)))).toInt16.toInt32 = g 71 (s * 26 + (2 + (i + k)))) := by
    intro k hk
    rw [a5 (i + k) (by omega), b1, ← z2]
    exact a6 (i + k) (by omega)
  have hcopy : ∃ up : Int32, (if nI j ≤ nI i then q_sem (d + 29) mX6_copy 57 [.ref 69, .int (nI s), .int (nI i), .int (nI t), .int (nI j), .int (nI m), .int 0, .int 0, .retAddr 0] [] (q_K o g) else q_sem (d + 29) mX6_copy 57 [.ref 69, .int (nI s), .int (nI i), .int (nI t), .int (nI j), .int (nI m), .int 1, .int 0, .retAddr 0] [] (q_K o g)) = some (some (.int 1), q_K o (q_mv g s i t j 0 m)) := by
    refine ⟨0, ?_⟩
    by_cases hji : j ≤ i
    · have h := x_copy_dn (o := o) hs0.1 hs ht hns hnt es et (show i + m ≤ ns by omega) w4 hfit hji (d + 25) m 0 (by omega) (.retAddr 0) (Or.inl rfl)
      rw [q_mv_0] at h
      rw [if_pos ((nI_leI hj31 hi31).mpr hji)]
      exact h
    · have h := x_copy_up (o := o) hs0.1 hs ht hns hnt es et (show i + m ≤ ns by omega) w4 hfit (by omega) (d + 25) m 0 (by omega) (.retAddr 0) (Or.inl rfl)
      rw [q_mv_0] at h
      rw [if_neg (fun z => hji ((nI_leI hj31 hi31).mp z))]
      exact h
  obtain ⟨_, hcopy⟩ := hcopy
  obtain ⟨g2, e2, h2, f2⟩ := m_lift (o := o) (d + 30) hs (show i + m ≤ 24 by omega) (nI t) (nI j) m 0 (q_mv g s i t j 0 m) (by omega)
  obtain ⟨g3, e3, h3, f3⟩ := m_drop (o := o) (d + 30) ht (show j + m ≤ 24 by omega) (nI s) (nI i) m 0 g2 (by omega)
  have hq : ∀ p k, p ≠ 71 → q_mv g s i t j 0 m p k = g p k := fun p k h => q_mv_ne (by omega)
  have f4 : ∀ p k, p ≠ 150 → ¬ (p = 137 ∧ 24 * t + j ≤ k ∧ k < 24 * t + j + m) → g3 p k = q_mv g s i t j 0 m p k := fun p k h h' => by rw [f3 _ _ (by omega), f2 _ _ (by omega)]
  have v3 : ∀ c, c < m → g3 137 (24 * t + j + c) = g 137 (24 * s + i + c) := fun c hc => by rw [h3 c (Nat.zero_le _) hc, h2 c (Nat.zero_le _) hc, hq _ _ (by decide)]
  refine ⟨nI m, q_mv g s i t j 0 m, g3, ?_, ?_, R_sh hR ⟨ti_fr hs0.1 (fun k => by rw [f4 _ _ (by decide) (by omega), hq _ _ (by decide)]), fun u hu => ?_⟩ (fun p k h1 h4 h5 => by rw [f4 _ _ (by omega) (by omega), hq _ _ h1])⟩
  · simp only [B_X11_move_0, B_X11_move_8, B_X11_move_27, B_X11_move_19, B_X11_move_36, B_X11_move_47, B_X11_move_55, B_X11_move_64, B_X11_move_72, B_X11_move_95, B_X11_move_80, B_X11_move_108, z_within, z_isCell, z_fin1, z_fin2, z_fin3, z_fin4, z_fin5, Option.bind_some, Option.toList_some, Option.toList_none, List.cons_append, List.nil_append, bI_t, bI_f, i10, i00, i11, i01, ↓reduceIte, Bool.false_eq_true, c1, c2, x_has hs0.1, x_want hs0.1 hs, x_want hs0.1 ht, x_bits hs0.1 hs, x_bits hs0.1 ht, x_size hs0.1 hs, x_size hs0.1 ht, es, et, a1, b1, z2, z1, B_X6_copy_0, B_X6_copy_20, B_X6_copy_33, y0, y1, y2, q_subLt hns hm31 hi31, q_subLe hnt hm31 hj31, w1, w3, hcopy]
  · simp only [B_X12_move_0, B_X12_move_4, B_X12_move_11, y_in, y_isCell, y_fin1, y_fin2, y_fin3, y_fin4, y_fin5, Option.bind_some, Option.toList_some, Option.toList_none, List.cons_append, List.nil_append, bI_t, bI_f, i10, i00, i11, i01, ↓reduceIte, Bool.false_eq_true, c1, c2, y_isSheet, hq _ _ (show 135 ≠ 71 by decide), hq _ _ (show 136 ≠ 71 by decide), q_rgN hs (show 4 < 2 ^ 31 by decide), q_rgN ht (show 4 < 2 ^ 31 by decide), z2, z1, y0, y1, y2, ens, ent, q_subLt hns hi31 hm31, q_subLe hnt hj31 hm31, w2, w4]
    exact e2.trans e3
  · obtain ⟨u1, u2, u3, ⟨nu, hnu, enu⟩, u5, u6⟩ := hs0.2 u hu
    have k5 : g3 135 u = g 135 u := by rw [f4 _ _ (by decide) (by omega), hq _ _ (by decide)]
    have k6 : g3 136 u = g 136 u := by rw [f4 _ _ (by decide) (by omega), hq _ _ (by decide)]
    have k71 : ∀ k, g3 71 k = q_mv g s i t j 0 m 71 k := fun k => f4 _ _ (by decide) (by omega)
    have e71 : ∀ k, k < 24 → q_mv g s i t j 0 m 71 (u * 26 + (2 + k)) = g3 137 (24 * u + k) := by
      intro k hk
      by_cases e : u = t ∧ j ≤ k ∧ k < j + m
      · obtain ⟨rfl, e1, e4⟩ := e
        have := v3 (k - j) (by omega)
        rw [show 24 * u + j + (k - j) = 24 * u + k by omega] at this
        rw [this, show 24 * s + i + (k - j) = 24 * s + (i + (k - j)) by omega, ← a5 (i + (k - j)) (by omega)]
        unfold q_mv
        rw [if_pos ⟨rfl, by omega, by omega⟩]
        congr 1
        omega
      · rw [f4 137 _ (by decide) (by omega), hq 137 _ (by decide), ← u5 k hk]
        exact q_mv_ne (by omega)
    unfold q_sh1
    rw [k5, k6, k71, k71, q_mv_ne (by omega), q_mv_ne (by omega)]
    refine ⟨u1, u2, u3, ⟨nu, hnu, enu⟩, fun k hk => by rw [k71]; exact e71 k hk, fun k hk => ?_⟩
    by_cases e : u = t ∧ j ≤ k ∧ k < j + m
    · obtain ⟨rfl, e1, e4⟩ := e
      have := v3 (k - j) (by omega)
      rw [show 24 * u + j + (k - j) = 24 * u + k by omega] at this
      rw [this, ← z2, show 24 * s + i + (k - j) = 24 * s + (i + (k - j)) by omega]
      exact a6 (i + (k - j)) (by omega)
    · rw [f4 137 _ (by decide) (by omega), hq _ _ (by decide)]
      exact u6 k hk
