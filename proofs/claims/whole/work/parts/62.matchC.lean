/-! matching: the class -/
theorem q_tb73 : q_tb 73 9 1 := ⟨⟨by decide, rfl⟩, rfl, rfl, rfl, rfl, ⟨by decide, rfl, rfl⟩, by decide, by decide, by decide⟩
theorem q_tb75 : q_tb 75 9 1 := ⟨⟨by decide, rfl⟩, rfl, rfl, rfl, rfl, ⟨by decide, rfl, rfl⟩, by decide, by decide, by decide⟩
theorem q_tb77 : q_tb 77 9 9 := ⟨⟨by decide, rfl⟩, rfl, rfl, rfl, rfl, ⟨by decide, rfl, rfl⟩, by decide, by decide, by decide⟩
theorem q_tb79 : q_tb 79 9 1 := ⟨⟨by decide, rfl⟩, rfl, rfl, rfl, rfl, ⟨by decide, rfl, rfl⟩, by decide, by decide, by decide⟩
theorem q_tb81 : q_tb 81 10 1 := ⟨⟨by decide, rfl⟩, rfl, rfl, rfl, rfl, ⟨by decide, rfl, rfl⟩, by decide, by decide, by decide⟩
def q_cvo : Option Nat → Int32
  | some w => nI w
  | none => -1
def q_cvn : Option Nat → Int32
  | some w => nI w
  | none => 10000000
def q_mtc (g : Nat → Nat → Int32) (R C : Nat) (cost : Nat → Nat → Option Nat) (L : Int32) : Prop := q_ti g 73 9 1 R ∧ q_ti g 75 9 1 C ∧ q_ti g 77 9 9 9 ∧ (∀ r c, r < R → c < C → g 78 (r * 9 + c) = q_cvo (cost r c)) ∧ g 72 6 = L
theorem mtc_fr {g g2 : Nat → Nat → Int32} {R C : Nat} {cost : Nat → Nat → Option Nat} {L : Int32} (h : q_mtc g R C cost L) (hg : ∀ p j, (73 ≤ p ∧ p < 79) ∨ (p = 72 ∧ j = 6) → g2 p j = g p j) : q_mtc g2 R C cost L := ⟨ti_fr h.1 (fun k => hg _ _ (by omega)), ti_fr h.2.1 (fun k => hg _ _ (by omega)), ti_fr h.2.2.1 (fun k => hg _ _ (by omega)), fun r c a b => (hg _ _ (by omega)).trans (h.2.2.2.1 r c a b), (hg _ _ (by omega)).trans h.2.2.2.2⟩
/-- the columns that the rows before could have taken -/
def q_orf (f : Nat → Bool) : Nat → Nat → Nat → Nat
  | 0, _, s => s
  | t + 1, i, s => q_orf f t (i + 1) (if f i then s ||| 2 ^ i else s)
def q_tkb (cost : Nat → Nat → Option Nat) (C : Nat) : Nat → Nat
  | 0 => 0
  | r + 1 => q_orf (fun c => (cost r c).isSome) C 0 (q_tkb cost C r)
theorem orf_spec (f : Nat → Bool) : ∀ t i s, i + t ≤ 9 → s < 512 → q_orf f t i s < 512 ∧ s ||| q_orf f t i s = q_orf f t i s ∧ ∀ c, i ≤ c → c < i + t → f c = true → 2 ^ c ||| q_orf f t i s = q_orf f t i s
  | 0, i, s, _, h => ⟨h, Nat.or_self s, fun c a b => by omega⟩
  | t + 1, i, s, hi, h => by
    have h1 : (if f i then s ||| 2 ^ i else s) < 512 := by split; exact or_lt512 h (by omega); exact h
    have hs1 : s ||| (if f i then s ||| 2 ^ i else s) = (if f i then s ||| 2 ^ i else s) := by
      split
      · rw [← Nat.or_assoc, Nat.or_self]
      · exact Nat.or_self s
    obtain ⟨a1, a2, a3⟩ := orf_spec f t (i + 1) _ (by omega) h1
    have hh : ∀ x y z : Nat, x ||| y = y → y ||| z = z → x ||| z = z := fun x y z p q => by rw [← q, ← Nat.or_assoc, p]
    refine ⟨a1, hh _ _ _ hs1 a2, fun c c1 c2 c3 => ?_⟩
    by_cases e : c = i
    · subst e
      refine hh _ _ _ ?_ a2
      rw [if_pos c3, Nat.or_comm s, ← Nat.or_assoc, Nat.or_self]
    · exact a3 c (by omega) (by omega) c3
theorem tk_lt {cost : Nat → Nat → Option Nat} {C : Nat} (hC : C ≤ 9) : ∀ r, q_tkb cost C r < 512
  | 0 => (by decide : 0 < 512)
  | r + 1 => (orf_spec _ C 0 _ (by omega) (tk_lt hC r)).1
theorem tk_mono {cost : Nat → Nat → Option Nat} {C : Nat} (hC : C ≤ 9) (r : Nat) : q_tkb cost C r ||| q_tkb cost C (r + 1) = q_tkb cost C (r + 1) := (orf_spec _ C 0 _ (by omega) (tk_lt hC r)).2.1
theorem tk_in {cost : Nat → Nat → Option Nat} {C r c w : Nat} (hC : C ≤ 9) (hc : c < C) (h : cost r c = some w) : 2 ^ c ||| q_tkb cost C (r + 1) = q_tkb cost C (r + 1) := (orf_spec (fun c => (cost r c).isSome) C 0 _ (by omega) (tk_lt hC r)).2.2 c (Nat.zero_le _) (by omega) (by rw [h]; rfl)
theorem sub_tr {x y z : Nat} (p : x ||| y = y) (q : y ||| z = z) : x ||| z = z := by rw [← q, ← Nat.or_assoc, p]
theorem sub_two {x y z : Nat} (p : x ||| z = z) (q : y ||| z = z) : (x ||| y) ||| z = z := by rw [Nat.or_assoc, q, p]
theorem sub_le {x y : Nat} (h : x ||| y = y) : x ≤ y := by rw [← h]; exact Nat.left_le_or
section MCL
variable {o : q_H} {g : Nat → Nat → Int32} {R C : Nat} {cost : Nat → Nat → Option Nat} {L : Int32}
/-- the array of least sums, from a row on -/
def q_lst (g : Nat → Nat → Int32) (R C : Nat) (cost : Nat → Nat → Option Nat) (L : Int32) (row : Nat) : Prop := ∀ k r, row ≤ r → r + k = R → ∀ s, s < 512 → s ||| q_tkb cost C r = q_tkb cost C r → g 83 (r * 512 + s) = nI (q_V cost L C k r s)
theorem z_kept {r s : Nat} (hr : r ≤ 9) (hs : s < 512) (d : Nat) : q_sem d mX1_kept 0 [.ref 72, .int (nI r), .int (nI s), .retAddr 0] [] (q_K o g) = some (some (.int (g 83 (r * 512 + s))), q_K o g) := by
  have e : nI r * 512 + nI s = nI (r * 512 + s) := by rw [show (512 : Int32) = nI 512 from rfl, pk_mul, nI_add]
  have c2 : ¬ (5120 : Int32) ≤ nI (r * 512 + s) := nI_ge (b := 5120) (by omega) (by decide)
  rw [B_X1_kept_0, e, if_neg (nI_pos (by omega)), if_neg c2, q_rgN (by omega) (by decide)]
theorem z_keep {r s : Nat} (hr : r ≤ 9) (hs : s < 512) (v : Int32) (d : Nat) : q_sem d mX1_keep 0 [.ref 72, .int (nI r), .int (nI s), .int v, .retAddr 0] [] (q_K o g) = some (none, q_K o (q_up g 83 (r * 512 + s) v)) := by
  have e : nI r * 512 + nI s = nI (r * 512 + s) := by rw [show (512 : Int32) = nI 512 from rfl, pk_mul, nI_add]
  have c2 : ¬ (5120 : Int32) ≤ nI (r * 512 + s) := nI_ge (b := 5120) (by omega) (by decide)
  rw [B_X1_keep_0, e, if_neg (nI_pos (by omega)), if_neg c2, q_rgN (by omega) (by decide)]
theorem z_with (hW : ∀ r c w, cost r c = some w → w ≤ 11000) (h : q_mtc g R C cost L) {k row used c : Nat} (hk : row + (k + 1) = R) (hu : used < 512) (hsub : used ||| q_tkb cost C row = q_tkb cost C row) (hl : q_lst g R C cost L (row + 1)) (hc : c < C) (d : Nat) : q_sem (d + 2) mX1_with 0 [.ref 72, .int (nI row), .int (nI used), .int (nI c), .retAddr 0] [] (q_K o g) = some (some (.int (q_cvn (q_of cost L C k row used c))), q_K o g) := by
  have hR := h.1.2.2.2
  have hC := h.2.1.2.2.2
  rw [B_X1_with_0]
  simp only [z_getW q_tb77 h.2.2.1 (show row < 9 by omega) (show c < 9 by omega), show g (77 + 1) (row * 9 + c) = _ from h.2.2.2.1 row c (by omega) hc, Option.bind_some, Option.toList_some, Option.toList_none, List.cons_append, List.nil_append, B_X1_with_9, f_bit9 used hu c (by omega), z_bitCount _ (show used < 2 ^ 24 by omega), B_X1_with_28, h.2.2.2.2, f_one c (by omega), nI_or (show used < 2 ^ 32 by omega) (Nat.pow_lt_pow_right (by decide) (show c < 32 by omega)), nI_1, z_kept (show row + 1 ≤ 9 by omega) (or_lt512 hu (show c < 9 by omega)), B_X1_with_52]
  unfold q_of q_opt
  cases e : cost row c with
  | none =>
    rw [show q_cvo none = -1 from rfl, if_pos (by decide)]
    split <;> rfl
  | some w =>
    have hw := hW _ _ _ e
    rw [show q_cvo (some w) = nI w from rfl, if_neg (nI_pos (by omega))]
    cases e2 : used.testBit c
    · rw [if_pos (by decide)]
      by_cases e3 : nI (q_cnt (fun i => used.testBit i) 24) < L
      · have e3' : nI (q_c24 used) < L := e3
        rw [if_pos e3, if_pos ⟨rfl, e3'⟩, hl k (row + 1) (Nat.le_refl _) (by omega) _ (or_lt512 hu (by omega)) (sub_two (sub_tr hsub (tk_mono hC row)) (tk_in hC hc e)), nI_add]
        rfl
      · have e3' : ¬ nI (q_c24 used) < L := e3
        rw [if_neg e3, if_neg (fun z => e3' z.2)]; rfl
    · rw [if_neg (by decide), if_neg (fun z => absurd z.1 (by decide))]; rfl
def q_mo (a : Nat) : Option Nat → Nat
  | some w => min a w
  | none => a
theorem cvn_min {a : Nat} (x : Option Nat) (ha : a < 10000000) (hv : ∀ v, x = some v → v < 10000000) : (if q_cvn x < nI a then q_cvn x else nI a) = nI (q_mo a x) := by
  cases x with
  | none => rw [if_neg (show ¬ q_cvn none < nI a from nI_nlt (a := 10000000) (by omega) (by decide))]; rfl
  | some w =>
    have := hv w rfl
    show (if nI w < nI a then nI w else nI a) = nI (min a w)
    exact nI_min (by omega) (by omega)
theorem q_of_lt (hW : ∀ r c w, cost r c = some w → w ≤ 11000) {k row used c v : Nat} (hk : k ≤ 9) (h : q_of cost L C k row used c = some v) : v < 10000000 := by
  obtain ⟨w, e1, _, _, rfl⟩ := q_of_some h
  have := hW _ _ _ e1
  have h2 := q_V_le (cost := cost) (L := L) (C := C) k (row + 1) (used ||| 2 ^ c)
  omega
theorem z_lfL (hW : ∀ r c w, cost r c = some w → w ≤ 11000) (h : q_mtc g R C cost L) {k row used : Nat} (hk : row + (k + 1) = R) (hu : used < 512) (hsub : used ||| q_tkb cost C row = q_tkb cost C row) (hl : q_lst g R C cost L (row + 1)) (base : Nat) (hb : base < 10000000) (d : Nat) : ∀ t i a, i + t = C → a ≤ base → q_sem (d + 3) mX1_leastFrom 15 [.ref 72, .int (nI row), .int (nI used), .int (nI a), .int (nI i)] [] (q_K o g) = some (some (.int (nI (min a (q_mM (q_of cost L C k row used) base t i)))), q_K o g) := by
  have hR := h.1.2.2.2
  have hC := h.2.1.2.2.2
  intro t
  induction t with
  | zero =>
    intro i a hi ha
    have c1 : nI C ≤ nI i := nI_le (by omega) (by omega)
    rw [B_X1_leastFrom_15, s_size _ q_tb75, h.2.1.2.2.1]
    simp only [Option.bind_some, Option.toList_some, Option.toList_none, List.cons_append, List.nil_append, B_X1_leastFrom_24, c1, ↓reduceIte]
    rw [show q_mM (q_of cost L C k row used) base 0 i = base from rfl, Nat.min_eq_left ha]
  | succ t ih =>
    intro i a hi ha
    have c1 : ¬ nI C ≤ nI i := nI_ge (by omega) (by omega)
    rw [B_X1_leastFrom_15, s_size _ q_tb75, h.2.1.2.2.1]
    simp only [Option.bind_some, Option.toList_some, Option.toList_none, List.cons_append, List.nil_append, B_X1_leastFrom_24, c1, ↓reduceIte, z_with hW h hk hu hsub hl (show i < C by omega), B_X1_leastFrom_36, nI_1]
    rw [cvn_min _ (by omega) (fun v hv => q_of_lt hW (by omega) hv)]
    cases e : q_of cost L C k row used i with
    | none => rw [mM_n e]; exact ih (i + 1) a (by omega) ha
    | some w =>
      rw [mM_s e]
      refine (ih (i + 1) (min a w) (by omega) (by omega)).trans ?_
      rw [Nat.min_assoc]
theorem z_leastFrom (hW : ∀ r c w, cost r c = some w → w ≤ 11000) (h : q_mtc g R C cost L) {k row used : Nat} (hk : row + (k + 1) = R) (hu : used < 512) (hsub : used ||| q_tkb cost C row = q_tkb cost C row) (hl : q_lst g R C cost L (row + 1)) (d : Nat) : q_sem (d + 3) mX1_leastFrom 0 [.ref 72, .int (nI row), .int (nI used), .retAddr 0, .retAddr 0] [] (q_K o g) = some (some (.int (nI (q_V cost L C (k + 1) row used))), q_K o g) := by
  have hR := h.1.2.2.2
  have hC := h.2.1.2.2.2
  have hv := q_V_le (cost := cost) (L := L) (C := C) k (row + 1) used
  have e1 : (100000 : Int32) + nI (q_V cost L C k (row + 1) used) = nI (100000 + q_V cost L C k (row + 1) used) := nI_add 100000 _
  rw [B_X1_leastFrom_0, nI_1, z_kept (by omega) hu, hl k (row + 1) (Nat.le_refl _) (by omega) used hu (sub_tr hsub (tk_mono hC row))]
  simp only [Option.bind_some, Option.toList_some, Option.toList_none, List.cons_append, List.nil_append, B_X1_leastFrom_10, e1]
  refine (z_lfL hW h hk hu hsub hl _ (by omega) d C 0 _ (by omega) (Nat.le_refl _)).trans ?_
  rw [q_V_s, Nat.min_eq_right (mM_le _ _ _ _)]
theorem z_firstBest (hW : ∀ r c w, cost r c = some w → w ≤ 11000) (h : q_mtc g R C cost L) {k row used : Nat} (hk : row + (k + 1) = R) (hu : used < 512) (hsub : used ||| q_tkb cost C row = q_tkb cost C row) (hl : q_lst g R C cost L (row + 1)) (d : Nat) : q_sem (d + 4) mX1_firstBest 0 [.ref 72, .int (nI row), .int (nI used), .retAddr 0, .retAddr 0] [] (q_K o g) = some (some (.int (if q_cho cost L C k row used < C then nI (q_cho cost L C k row used) else -1)), q_K o g) := by
  have hR := h.1.2.2.2
  have hC := h.2.1.2.2.2
  have hv := q_V_le (cost := cost) (L := L) (C := C) (k + 1) row used
  have hf := mH_fst (f := q_of cost L C k row used) (base := 100000 + q_V cost L C k (row + 1) used) C 0 (q_V_s cost L C k row used).symm
  have main : ∀ t i, i + t = C → q_sem (d + 4) mX1_firstBest 10 [.ref 72, .int (nI row), .int (nI used), .int (nI (q_V cost L C (k + 1) row used)), .int (nI i)] [] (q_K o g) = some (some (.int (if q_fst (fun c => decide (q_of cost L C k row used c = some (q_V cost L C (k + 1) row used))) t i < C then nI (q_fst (fun c => decide (q_of cost L C k row used c = some (q_V cost L C (k + 1) row used))) t i) else -1)), q_K o g) := by
    intro t
    induction t with
    | zero =>
      intro i hi
      obtain rfl : i = C := by omega
      have c1 : nI i ≤ nI i := nI_le (Nat.le_refl _) (by omega)
      rw [B_X1_firstBest_10, s_size _ q_tb75, h.2.1.2.2.1]
      simp only [Option.bind_some, Option.toList_some, Option.toList_none, List.cons_append, List.nil_append, B_X1_firstBest_19, c1, ↓reduceIte]
      rw [show q_fst (fun c => decide (q_of cost L i k row used c = some (q_V cost L i (k + 1) row used))) 0 i = i from rfl, if_neg (Nat.lt_irrefl _)]
    | succ t ih =>
      intro i hi
      have c1 : ¬ nI C ≤ nI i := nI_ge (by omega) (by omega)
      have ih0 := ih (i + 1) (by omega)
      rw [q_fst_s]
      rw [B_X1_firstBest_10, s_size _ q_tb75, h.2.1.2.2.1]
      simp only [Option.bind_some, Option.toList_some, Option.toList_none, List.cons_append, List.nil_append, B_X1_firstBest_19, c1, ↓reduceIte, z_with hW h hk hu hsub hl (show i < C by omega), B_X1_firstBest_30, nI_1]
      have hq : (q_cvn (q_of cost L C k row used i) = nI (q_V cost L C (k + 1) row used)) = (q_of cost L C k row used i = some (q_V cost L C (k + 1) row used)) := by
        apply propext
        cases e : q_of cost L C k row used i with
        | none =>
          constructor
          · intro z
            have := (nI_eq (a := 10000000) (by decide) (by omega)).mp z
            omega
          · intro z; simp at z
        | some w =>
          have hw := q_of_lt hW (by omega) e
          constructor
          · intro z; rw [(nI_eq (by omega) (by omega)).mp z]
          · intro z; rw [Option.some.inj z]; rfl
      simp only [hq]
      by_cases e : q_of cost L C k row used i = some (q_V cost L C (k + 1) row used)
      · rw [if_pos e, decide_eq_true e, if_pos rfl, if_pos (show i < C by omega)]
      · rw [if_neg e, decide_eq_false e, if_neg (show ¬ false = true by decide)]; exact ih0
  rw [B_X1_firstBest_0, z_leastFrom hW h hk hu hsub hl]
  simp only [Option.bind_some, Option.toList_some, Option.toList_none, List.cons_append, List.nil_append, B_X1_firstBest_6]
  have m0 := main C 0 (by omega)
  rw [hf] at m0
  exact m0
/-- the columns ahead -/
theorem z_laI (hW : ∀ r c w, cost r c = some w → w ≤ 11000) (h : q_mtc g R C cost L) {row : Nat} (hrow : row < R) (d : Nat) : ∀ t i s, i + t = C → s < 512 → q_sem (d + 3) mX1_lookAhead 33 [.ref 72, .int (nI s), .int (nI row), .int (nI i)] [] (q_K o g) = q_sem (d + 3) mX1_lookAhead 11 [.ref 72, .int (nI (q_orf (fun c => (cost row c).isSome) t i s)), .int (nI (row + 1)), .int (nI C)] [] (q_K o g) := by
  have hR := h.1.2.2.2
  have hC := h.2.1.2.2.2
  intro t
  induction t with
  | zero =>
    intro i s hi hs
    obtain rfl : i = C := by omega
    have c1 : nI i ≤ nI i := nI_le (Nat.le_refl _) (by omega)
    rw [B_X1_lookAhead_33, s_size _ q_tb75, h.2.1.2.2.1]
    simp only [Option.bind_some, Option.toList_some, Option.toList_none, List.cons_append, List.nil_append, B_X1_lookAhead_41, c1, ↓reduceIte, nI_1]
    rfl
  | succ t ih =>
    intro i s hi hs
    have c1 : ¬ nI C ≤ nI i := nI_ge (by omega) (by omega)
    rw [B_X1_lookAhead_33, s_size _ q_tb75, h.2.1.2.2.1]
    simp only [Option.bind_some, Option.toList_some, Option.toList_none, List.cons_append, List.nil_append, B_X1_lookAhead_41, c1, ↓reduceIte, z_getW q_tb77 h.2.2.1 (show row < 9 by omega) (show i < 9 by omega), show g (77 + 1) (row * 9 + i) = _ from h.2.2.2.1 row i hrow (by omega), B_X1_lookAhead_54, nI_1]
    show _ = q_sem (d + 3) mX1_lookAhead 11 [.ref 72, .int (nI (q_orf (fun c => (cost row c).isSome) t (i + 1) (if (cost row i).isSome = true then s ||| 2 ^ i else s))), _, _] [] _
    cases e : cost row i with
    | none =>
      rw [if_pos (show q_cvo none < 0 by decide), show (0 : Int32) = nI 0 from rfl, nI_or (by omega) (by decide), Nat.or_zero]
      exact ih (i + 1) s (by omega) hs
    | some w =>
      have hw := hW _ _ _ e
      rw [if_neg (show ¬ q_cvo (some w) < 0 from nI_pos (by omega)), f_one i (by omega), nI_or (by omega) (Nat.pow_lt_pow_right (by decide) (show i < 32 by omega))]
      exact ih (i + 1) (s ||| 2 ^ i) (by omega) (or_lt512 hs (by omega))
theorem z_laX (h : q_mtc g R C cost L) (x2 : Int32) (d : Nat) : ∀ t i (x1 : Int32), i + t = C → ∃ y, q_sem (d + 3) mX1_lookAhead 33 [.ref 72, .int x1, .int x2, .int (nI i)] [] (q_K o g) = q_sem (d + 3) mX1_lookAhead 11 [.ref 72, .int y, .int (x2 + 1), .int (nI C)] [] (q_K o g) := by
  have hC := h.2.1.2.2.2
  intro t
  induction t with
  | zero =>
    intro i x1 hi
    obtain rfl : i = C := by omega
    have c1 : nI i ≤ nI i := nI_le (Nat.le_refl _) (by omega)
    refine ⟨x1, ?_⟩
    rw [B_X1_lookAhead_33, s_size _ q_tb75, h.2.1.2.2.1]
    simp only [Option.bind_some, Option.toList_some, Option.toList_none, List.cons_append, List.nil_append, B_X1_lookAhead_41, c1, ↓reduceIte]
  | succ t ih =>
    intro i x1 hi
    have c1 : ¬ nI C ≤ nI i := nI_ge (by omega) (by omega)
    rw [B_X1_lookAhead_33, s_size _ q_tb75, h.2.1.2.2.1]
    simp only [Option.bind_some, Option.toList_some, Option.toList_none, List.cons_append, List.nil_append, B_X1_lookAhead_41, c1, ↓reduceIte, s_get _ q_tb77 h.2.2.1, B_X1_lookAhead_54, nI_1]
    split
    · exact ih (i + 1) _ (by omega)
    · exact ih (i + 1) _ (by omega)
theorem z_look (hW : ∀ r c w, cost r c = some w → w ≤ 11000) (h : q_mtc g R C cost L) {R0 : Nat} (ht : q_ti g 81 10 1 R0) (d : Nat) : ∃ g2, q_sem (d + 3) mX1_lookAhead 0 [.ref 72, .retAddr 0, .retAddr 0, .retAddr 0] [] (q_K o g) = some (none, q_K o g2) ∧ q_mtc g2 R C cost L ∧ q_ti g2 81 10 1 (R + 1) ∧ (∀ r, r ≤ R → g2 82 r = nI (q_tkb cost C r)) ∧ ∀ p j, p ≠ 81 → p ≠ 82 → g2 p j = g p j := by
  have hR := h.1.2.2.2
  have hC := h.2.1.2.2.2
  have main : ∀ k row (g : Nat → Nat → Int32) (v : Value), row + k = R → q_mtc g R C cost L → q_ti g 81 10 1 row → (∀ r, r < row → g 82 r = nI (q_tkb cost C r)) → (v = .retAddr 0 ∨ ∃ z, v = .int z) → ∃ g2, q_sem (d + 3) mX1_lookAhead 11 [.ref 72, .int (nI (q_tkb cost C row)), .int (nI row), v] [] (q_K o g) = some (none, q_K o g2) ∧ q_mtc g2 R C cost L ∧ q_ti g2 81 10 1 (R + 1) ∧ (∀ r, r ≤ R → g2 82 r = nI (q_tkb cost C r)) ∧ ∀ p j, p ≠ 81 → p ≠ 82 → g2 p j = g p j := by
    intro k
    induction k with
    | zero =>
      intro row g v hk h ht hr hx
      obtain rfl : row = R := by omega
      have c1 : ¬ nI row < nI row := nI_nlt (Nat.le_refl _) (by omega)
      obtain ⟨g1, y, e1, t1, v1, f1⟩ := z_addT (o := o) q_tb81 ht (by omega) (nI (q_tkb cost C row)) d
      rw [Nat.mul_one] at v1
      have h1 : q_mtc g1 row C cost L := mtc_fr h (fun p j a => f1 p j (by omega) (by omega))
      obtain ⟨y2, e2⟩ := z_laX (o := o) h1 (nI row) d C 0 (nI (q_tkb cost C row)) (by omega)
      have c2 : nI row < nI (row + 1) := nI_lt (by omega) (by omega)
      refine ⟨g1, ?_, h1, t1, fun r a => ?_, fun p j a b => f1 p j (by omega) (by omega)⟩
      · have e3 : q_sem (d + 3) mX1_lookAhead 30 [.ref 72, .int (nI (q_tkb cost C row)), .int (nI row), v] [.int y] (q_K o g1) = some (none, q_K o g1) := by
          have : q_sem (d + 3) mX1_lookAhead 33 [.ref 72, .int (nI (q_tkb cost C row)), .int (nI row), .int (nI 0)] [] (q_K o g1) = some (none, q_K o g1) := by
            rw [e2, nI_1, B_X1_lookAhead_11a, s_size _ q_tb73, h1.1.2.2.1]
            simp only [Option.bind_some, Option.toList_some, Option.toList_none, List.cons_append, List.nil_append, B_X1_lookAhead_19a, c2, ↓reduceIte]
          rcases hx with rfl | ⟨z, rfl⟩
          · rw [B_X1_lookAhead_30]; exact this
          · rw [B_X1_lookAhead_30a]; exact this
        rcases hx with rfl | ⟨z, rfl⟩
        · rw [B_X1_lookAhead_11, s_size _ q_tb73, h.1.2.2.1]
          simp only [Option.bind_some, Option.toList_some, Option.toList_none, List.cons_append, List.nil_append, B_X1_lookAhead_19, c1, ↓reduceIte, e1]
          exact e3
        · rw [B_X1_lookAhead_11a, s_size _ q_tb73, h.1.2.2.1]
          simp only [Option.bind_some, Option.toList_some, Option.toList_none, List.cons_append, List.nil_append, B_X1_lookAhead_19a, c1, ↓reduceIte, e1]
          exact e3
      · by_cases q : r = row
        · rw [q]; exact v1
        · rw [f1 _ _ (by omega) (by omega)]; exact hr r (by omega)
    | succ k ih =>
      intro row g v hk h ht hr hx
      have c1 : ¬ nI R < nI row := nI_nlt (by omega) (by omega)
      obtain ⟨g1, y, e1, t1, v1, f1⟩ := z_addT (o := o) q_tb81 ht (by omega) (nI (q_tkb cost C row)) d
      rw [Nat.mul_one] at v1
      have h1 : q_mtc g1 R C cost L := mtc_fr h (fun p j a => f1 p j (by omega) (by omega))
      have e2 := z_laI (o := o) hW h1 (show row < R by omega) d C 0 (q_tkb cost C row) (by omega) (tk_lt hC row)
      obtain ⟨g2, e3, h2, t2, r2, f2⟩ := ih (row + 1) g1 (.int (nI C)) (by omega) h1 t1 (fun r a => by
        by_cases q : r = row
        · rw [q]; exact v1
        · rw [f1 _ _ (by omega) (by omega)]; exact hr r (by omega)) (Or.inr ⟨_, rfl⟩)
      have e4 := e2.trans e3
      refine ⟨g2, ?_, h2, t2, r2, fun p j a b => (f2 p j a b).trans (f1 p j (by omega) (by omega))⟩
      rcases hx with rfl | ⟨z, rfl⟩
      · rw [B_X1_lookAhead_11, s_size _ q_tb73, h.1.2.2.1]
        simp only [Option.bind_some, Option.toList_some, Option.toList_none, List.cons_append, List.nil_append, B_X1_lookAhead_19, c1, ↓reduceIte, e1, B_X1_lookAhead_30]
        exact e4
      · rw [B_X1_lookAhead_11a, s_size _ q_tb73, h.1.2.2.1]
        simp only [Option.bind_some, Option.toList_some, Option.toList_none, List.cons_append, List.nil_append, B_X1_lookAhead_19a, c1, ↓reduceIte, e1, B_X1_lookAhead_30a]
        exact e4
  have fu : ∀ p j, p ≠ 81 → q_up g 81 3 0 p j = g p j := fun p j a => q_upN a
  have ht1 : q_ti (q_up g 81 3 0) 81 10 1 0 := ⟨by rw [q_upJ (by decide)]; exact ht.1, by rw [q_upJ (by decide)]; exact ht.2.1, by rw [q_upE]; rfl, by omega⟩
  obtain ⟨g2, e2, h2, t2, r2, f2⟩ := main R 0 (q_up g 81 3 0) (.retAddr 0) (by omega) (mtc_fr h (fun p j a => fu p j (by omega))) ht1 (fun r a => by omega) (Or.inl rfl)
  refine ⟨g2, ?_, h2, t2, r2, fun p j a b => (f2 p j a b).trans (fu p j a)⟩
  rw [B_X1_lookAhead_0, s_clear _ q_tb81]
  simp only [Option.bind_some, Option.toList_some, Option.toList_none, List.cons_append, List.nil_append, B_X1_lookAhead_7]
  exact e2
/-- one row of the least sums -/
theorem z_solR (hW : ∀ r c w, cost r c = some w → w ≤ 11000) (x1 : Int32) {k row : Nat} (hk : row + k = R) (d : Nat) : ∀ t s (g : Nat → Nat → Int32), s + t = q_tkb cost C row + 1 → q_mtc g R C cost L → q_lst g R C cost L (row + 1) → (∀ u, u < s → u ||| q_tkb cost C row = q_tkb cost C row → g 83 (row * 512 + u) = nI (q_V cost L C k row u)) → ∃ g2 y, q_sem (d + 4) mX1_solve 34 [.ref 72, .int x1, .int (nI row), .int (nI (q_tkb cost C row)), .int (nI s)] [] (q_K o g) = q_sem (d + 4) mX1_solve 17 [.ref 72, .int x1, .int (nI row + (-1)), .int (nI (q_tkb cost C row)), .int y] [] (q_K o g2) ∧ q_mtc g2 R C cost L ∧ q_lst g2 R C cost L row ∧ ∀ p j, p ≠ 83 → g2 p j = g p j := by
  intro t
  induction t with
  | zero =>
    intro s g hs h hl hr
    have hR := h.1.2.2.2
    have hC := h.2.1.2.2.2
    have htk := tk_lt (cost := cost) hC row
    have c1 : nI (q_tkb cost C row) < nI s := nI_lt (by omega) (by omega)
    refine ⟨g, nI s, by rw [B_X1_solve_34, if_pos c1], h, fun k1 r a b u hu hsub => ?_, fun _ _ _ => rfl⟩
    by_cases q : r = row
    · subst q
      obtain rfl : k1 = k := by omega
      exact hr u (by have := sub_le hsub; omega) hsub
    · exact hl k1 r (by omega) b u hu hsub
  | succ t ih =>
    intro s g hs h hl hr
    have hR := h.1.2.2.2
    have hC := h.2.1.2.2.2
    have htk := tk_lt (cost := cost) hC row
    have c1 : ¬ nI (q_tkb cost C row) < nI s := nI_nlt (by omega) (by omega)
    rw [B_X1_solve_34, if_neg c1, nI_1]
    simp only [q_subz (show s < 2 ^ 31 by omega) (show q_tkb cost C row < 2 ^ 31 by omega)]
    by_cases hsub : s ||| q_tkb cost C row = q_tkb cost C row
    · rw [if_pos hsub, s_size _ q_tb73, h.1.2.2.1]
      have fin : ∀ v, v = nI (q_V cost L C k row s) → ∃ g2 y, q_sem (d + 4) mX1_solve 34 [.ref 72, .int x1, .int (nI row), .int (nI (q_tkb cost C row)), .int (nI (s + 1))] [] (q_K o (q_up g 83 (row * 512 + s) v)) = q_sem (d + 4) mX1_solve 17 [.ref 72, .int x1, .int (nI row + (-1)), .int (nI (q_tkb cost C row)), .int y] [] (q_K o g2) ∧ q_mtc g2 R C cost L ∧ q_lst g2 R C cost L row ∧ ∀ p j, p ≠ 83 → g2 p j = g p j := by
        rintro v rfl
        obtain ⟨g2, y, e2, h2, l2, f2⟩ := ih (s + 1) (q_up g 83 (row * 512 + s) (nI (q_V cost L C k row s))) (by omega) (mtc_fr h (fun p j a => q_upN (by omega))) (fun k1 r a b u hu hsb => by
          rw [q_upJ (by omega)]; exact hl k1 r a b u hu hsb) (fun u hu hsb => by
          by_cases q : u = s
          · rw [q, q_upE]
          · rw [q_upJ (by omega)]; exact hr u (by omega) hsb)
        exact ⟨g2, y, e2, h2, l2, fun p j a => (f2 p j a).trans (q_upN a)⟩
      cases k with
      | zero =>
        have c2 : nI row = nI R := by rw [show row = R by omega]
        simp only [Option.bind_some, Option.toList_some, Option.toList_none, List.cons_append, List.nil_append, B_X1_solve_61, c2, ↓reduceIte]
        rw [← c2]
        simp only [z_keep (show row ≤ 9 by omega) (show s < 512 by omega), Option.bind_some, Option.toList_some, Option.toList_none, List.cons_append, List.nil_append, B_X1_solve_78, nI_1]
        exact fin 0 rfl
      | succ k =>
        have c2 : ¬ nI row = nI R := fun z => by have := (nI_eq (by omega) (by omega)).mp z; omega
        simp only [Option.bind_some, Option.toList_some, Option.toList_none, List.cons_append, List.nil_append, B_X1_solve_61, c2, ↓reduceIte, z_leastFrom hW h hk (show s < 512 by omega) hsub hl, B_X1_solve_75, z_keep (show row ≤ 9 by omega) (show s < 512 by omega), B_X1_solve_78, nI_1]
        exact fin _ rfl
    · rw [if_neg hsub]
      obtain ⟨g2, y, e2, h2, l2, f2⟩ := ih (s + 1) g (by omega) h hl (fun u hu hsb => by
        by_cases q : u = s
        · rw [q] at hsb; exact absurd hsb hsub
        · exact hr u (by omega) hsb)
      exact ⟨g2, y, e2, h2, l2, f2⟩
/-- the choice, row by row -/
theorem z_takeL (hW : ∀ r c w, cost r c = some w → w ≤ 11000) (d : Nat) : ∀ k row used sm pr (g : Nat → Nat → Int32) (v : Value), row + k = R → used < 512 → used ||| q_tkb cost C row = q_tkb cost C row → q_mtc g R C cost L → q_lst g R C cost L 0 → q_ti g 79 9 1 row → g 72 7 = nI sm → g 72 8 = nI pr → (v = .retAddr 0 ∨ ∃ z, v = .int z) → ∃ g2, q_sem (d + 5) mX1_take 21 [.ref 72, .int (nI used), .int (nI row), v] [] (q_K o g) = some (none, q_K o g2) ∧ q_ti g2 79 9 1 R ∧ g2 72 7 = nI (sm + (q_tS cost L C k row used).2) ∧ g2 72 8 = nI (pr + (k - (q_tS cost L C k row used).1)) ∧ (∀ r, row ≤ r → r < R → g2 80 r = (if q_mP cost L C k row used r < C then nI (q_mP cost L C k row used r) else -1)) ∧ (∀ r, r < row → g2 80 r = g 80 r) ∧ ∀ p j, p ≠ 79 → p ≠ 80 → ¬ (p = 72 ∧ (j = 7 ∨ j = 8)) → g2 p j = g p j := by
  intro k
  induction k with
  | zero =>
    intro row used sm pr g v hk hu hsub h hl ht h7 h8 hx
    obtain rfl : row = R := by omega
    have hR := h.1.2.2.2
    have c1 : nI row ≤ nI row := nI_le (Nat.le_refl _) (by omega)
    refine ⟨g, ?_, ht, by rw [h7]; rfl, by rw [h8]; rfl, fun r a b => by omega, fun _ _ => rfl, fun _ _ _ _ _ => rfl⟩
    rcases hx with rfl | ⟨z, rfl⟩
    · rw [B_X1_take_21, s_size _ q_tb73, h.1.2.2.1]
      simp only [Option.bind_some, Option.toList_some, Option.toList_none, List.cons_append, List.nil_append, B_X1_take_29, c1, ↓reduceIte]
    · rw [B_X1_take_21a, s_size _ q_tb73, h.1.2.2.1]
      simp only [Option.bind_some, Option.toList_some, Option.toList_none, List.cons_append, List.nil_append, B_X1_take_29a, c1, ↓reduceIte]
  | succ k ih =>
    intro row used sm pr g v hk hu hsub h hl ht h7 h8 hx
    have hR := h.1.2.2.2
    have hC := h.2.1.2.2.2
    have c1 : ¬ nI R ≤ nI row := nI_ge (by omega) (by omega)
    have hl1 : q_lst g R C cost L (row + 1) := fun k1 r a b => hl k1 r (by omega) b
    have hfb := z_firstBest (o := o) hW h hk hu hsub hl1 d
    have hS := q_tS_eq (L := L) (C := C) hW k (row + 1) (q_nx C used (q_cho cost L C k row used))
    have go : ∀ A : Option (Option Value × q_H), (A = (q_sem (d + 4) mX7_add 0 [.ref 79, .int (if q_cho cost L C k row used < C then nI (q_cho cost L C k row used) else -1), .retAddr 0] [] (q_K o g)).bind (fun r => q_sem (d + 5) mX1_take 47 [.ref 72, .int (nI used), .int (nI row), .int (if q_cho cost L C k row used < C then nI (q_cho cost L C k row used) else -1)] (r.1.toList ++ []) r.2)) → ∃ g2, A = some (none, q_K o g2) ∧ q_ti g2 79 9 1 R ∧ g2 72 7 = nI (sm + (q_tS cost L C (k + 1) row used).2) ∧ g2 72 8 = nI (pr + (k + 1 - (q_tS cost L C (k + 1) row used).1)) ∧ (∀ r, row ≤ r → r < R → g2 80 r = (if q_mP cost L C (k + 1) row used r < C then nI (q_mP cost L C (k + 1) row used r) else -1)) ∧ (∀ r, r < row → g2 80 r = g 80 r) ∧ ∀ p j, p ≠ 79 → p ≠ 80 → ¬ (p = 72 ∧ (j = 7 ∨ j = 8)) → g2 p j = g p j := by
      intro A hA
      have hmP : ∀ j, q_mP cost L C (k + 1) row used j = if j = row then q_cho cost L C k row used else q_mP cost L C k (row + 1) (q_nx C used (q_cho cost L C k row used)) j := fun j => rfl
      have htS : q_tS cost L C (k + 1) row used = if q_cho cost L C k row used < C then ((q_tS cost L C k (row + 1) (q_nx C used (q_cho cost L C k row used))).1, (q_tS cost L C k (row + 1) (q_nx C used (q_cho cost L C k row used))).2 + (cost row (q_cho cost L C k row used)).getD 0) else ((q_tS cost L C k (row + 1) (q_nx C used (q_cho cost L C k row used))).1 + 1, (q_tS cost L C k (row + 1) (q_nx C used (q_cho cost L C k row used))).2) := rfl
      have sp := mH_spec (q_of cost L C k row used) (100000 + q_V cost L C k (row + 1) used) C 0
      rw [Nat.zero_add] at sp
      have sp1 : q_cho cost L C k row used < C → q_of cost L C k row used (q_cho cost L C k row used) = some _ := sp.1
      generalize q_cho cost L C k row used = c at *
      generalize hv : (if c < C then nI c else -1) = vc at *
      obtain ⟨g1, y, e1, t1, v1, f1⟩ := z_addT (o := o) q_tb79 ht (by omega) vc (d + 2)
      rw [Nat.mul_one] at v1
      have v1' : g1 80 row = vc := v1
      have h1 : q_mtc g1 R C cost L := mtc_fr h (fun p j a => f1 p j (by omega) (by omega))
      have hl2 : q_lst g1 R C cost L 0 := fun k1 r a b u hu hs => (f1 _ _ (by omega) (by omega)).trans (hl k1 r a b u hu hs)
      rw [e1] at hA
      simp only [Option.bind_some, Option.toList_some, Option.toList_none, List.cons_append, List.nil_append] at hA
      rw [B_X1_take_47] at hA
      by_cases hc : c < C
      · obtain ⟨w, ew, _, _, _⟩ := q_of_some (sp1 hc)
        have hww := hW _ _ _ ew
        rw [if_pos hc] at hv htS
        subst hv
        have hnx : q_nx C used c = used ||| 2 ^ c := if_pos hc
        rw [hnx] at hmP htS hS
        rw [if_neg (nI_pos (by omega)), z_getW q_tb77 h1.2.2.1 (show row < 9 by omega) (show c < 9 by omega), show g1 (77 + 1) (row * 9 + c) = _ from h1.2.2.2.1 row c (by omega) hc, ew, f_one c (by omega), nI_or (by omega) (Nat.pow_lt_pow_right (by decide) (show c < 32 by omega)), f1 72 7 (by omega) (by omega), h7] at hA
        simp only [Option.bind_some, Option.toList_some, Option.toList_none, List.cons_append, List.nil_append, B_X1_take_72, nI_1] at hA
        rw [show q_cvo (some w) = nI w from rfl, nI_add, q_upJ (show 8 ≠ 7 by decide), f1 72 8 (by omega) (by omega), h8, nI_1] at hA
        have fu : ∀ p j, ¬ (p = 72 ∧ (j = 7 ∨ j = 8)) → q_up (q_up g1 72 7 (nI (sm + w))) 72 8 (nI (pr + 1)) p j = g1 p j := fun p j a => by rw [q_up_ne (by omega), q_up_ne (by omega)]
        obtain ⟨g2, e2, t2, s2, p2, r2, b2, f2⟩ := ih (row + 1) (used ||| 2 ^ c) (sm + w) (pr + 1) (q_up (q_up g1 72 7 (nI (sm + w))) 72 8 (nI (pr + 1))) (.int (nI c)) (by omega) (or_lt512 hu (by omega)) (sub_two (sub_tr hsub (tk_mono hC row)) (tk_in hC hc ew)) (mtc_fr h1 (fun p j a => fu p j (by omega))) (fun k1 r a b u hu hs => (fu _ _ (by omega)).trans (hl2 k1 r a b u hu hs)) (ti_fr t1 (fun k => fu _ _ (by omega))) (by rw [q_upJ (by decide), q_upE]) (by rw [q_upE]) (Or.inr ⟨_, rfl⟩)
        refine ⟨g2, hA.trans e2, t2, ?_, ?_, fun r a b => ?_, fun r a => ?_, fun p j a b c => ?_⟩
        · rw [s2, htS, ew]
          dsimp only [Option.getD_some]
          congr 1; omega
        · rw [p2, htS]
          dsimp only
          congr 1; omega
        · rw [hmP]
          by_cases q : r = row
          · rw [if_pos q, q, b2 row (by omega), fu _ _ (by omega), v1', if_pos hc]
          · rw [if_neg q]; exact r2 r (by omega) b
        · rw [b2 r (by omega), fu _ _ (by omega), f1 _ _ (by omega) (by omega)]
        · rw [f2 p j a b c, fu _ _ c, f1 _ _ (by omega) (by omega)]
      · rw [if_neg hc] at hv htS
        subst hv
        have hnx : q_nx C used c = used := if_neg hc
        rw [hnx] at hmP htS hS
        rw [if_pos (by decide), nI_1] at hA
        obtain ⟨g2, e2, t2, s2, p2, r2, b2, f2⟩ := ih (row + 1) used sm pr g1 (.int (-1)) (by omega) hu (sub_tr hsub (tk_mono hC row)) h1 hl2 t1 ((f1 _ _ (by omega) (by omega)).trans h7) ((f1 _ _ (by omega) (by omega)).trans h8) (Or.inr ⟨_, rfl⟩)
        refine ⟨g2, hA.trans e2, t2, by rw [s2, htS], ?_, fun r a b => ?_, fun r a => ?_, fun p j a b c => ?_⟩
        · rw [p2, htS]
          dsimp only
          congr 1; omega
        · rw [hmP]
          by_cases q : r = row
          · rw [if_pos q, q, b2 row (by omega), v1', if_neg hc]
          · rw [if_neg q]; exact r2 r (by omega) b
        · rw [b2 r (by omega), f1 _ _ (by omega) (by omega)]
        · rw [f2 p j a b c, f1 _ _ (by omega) (by omega)]
    apply go
    rcases hx with rfl | ⟨z, rfl⟩
    · rw [B_X1_take_21, s_size _ q_tb73, h.1.2.2.1]
      simp only [Option.bind_some, Option.toList_some, Option.toList_none, List.cons_append, List.nil_append, B_X1_take_29, c1, if_false, hfb, B_X1_take_38]
    · rw [B_X1_take_21a, s_size _ q_tb73, h.1.2.2.1]
      simp only [Option.bind_some, Option.toList_some, Option.toList_none, List.cons_append, List.nil_append, B_X1_take_29a, c1, if_false, hfb, B_X1_take_38a]
theorem z_solve (hW : ∀ r c w, cost r c = some w → w ≤ 11000) (h : q_mtc (q_up g 72 6 L) R C cost L) {R0 R1 : Nat} (ht : q_ti g 81 10 1 R0) (ht2 : q_ti g 79 9 1 R1) (d : Nat) : ∃ g2, q_sem (d + 6) mX1_solve 0 [.ref 72, .int L, .retAddr 0, .retAddr 0, .retAddr 0] [] (q_K o g) = some (none, q_K o g2) ∧ q_ti g2 81 10 1 (R + 1) ∧ q_ti g2 79 9 1 R ∧ g2 72 7 = nI (q_tS cost L C R 0 0).2 ∧ g2 72 8 = nI (R - (q_tS cost L C R 0 0).1) ∧ (∀ r, r < R → g2 80 r = (if q_mP cost L C R 0 0 r < C then nI (q_mP cost L C R 0 0 r) else -1)) ∧ ∀ p j, ¬ (79 ≤ p ∧ p < 84) → p ≠ 72 → g2 p j = g p j := by
  have hR := h.1.2.2.2
  have hC := h.2.1.2.2.2
  obtain ⟨g1, e1, h1, t1, r1, f1⟩ := z_look (o := o) (g := q_up g 72 6 L) hW h (ti_fr ht (fun k => q_upN (by decide))) (d + 2)
  have rows : ∀ row (g : Nat → Nat → Int32) (v3 v4 : Value), row ≤ R → q_mtc g R C cost L → q_ti g 81 10 1 (R + 1) → (∀ r, r ≤ R → g 82 r = nI (q_tkb cost C r)) → q_lst g R C cost L (row + 1) → ((v3 = .retAddr 0 ∧ v4 = .retAddr 0) ∨ ∃ a b, v3 = .int a ∧ v4 = .int b) → ∃ g2 a b, q_sem (d + 6) mX1_solve 17 [.ref 72, .int L, .int (nI row), v3, v4] [] (q_K o g) = q_sem (d + 6) mX1_solve 17 [.ref 72, .int L, .int (-1), .int a, .int b] [] (q_K o g2) ∧ q_mtc g2 R C cost L ∧ q_lst g2 R C cost L 0 ∧ ∀ p j, p ≠ 83 → g2 p j = g p j := by
    intro row
    induction row with
    | zero =>
      intro g v3 v4 hr h ht hk hl hx
      obtain ⟨g2, y, e2, h2, l2, f2⟩ := z_solR (o := o) (k := R) hW L (show 0 + R = R by omega) (d + 2) (q_tkb cost C 0 + 1) 0 g (by omega) h hl (fun u a => by omega)
      refine ⟨g2, nI (q_tkb cost C 0), y, ?_, h2, l2, f2⟩
      rcases hx with ⟨rfl, rfl⟩ | ⟨a, b, rfl, rfl⟩
      · rw [B_X1_solve_17, if_neg (nI_pos (by decide)), z_get1 q_tb81 ht (show 0 < R + 1 by omega), show g (81 + 1) 0 = _ from hk 0 (by omega)]
        simp only [Option.bind_some, Option.toList_some, Option.toList_none, List.cons_append, List.nil_append, B_X1_solve_30]
        exact e2
      · rw [B_X1_solve_17a, if_neg (nI_pos (by decide)), z_get1 q_tb81 ht (show 0 < R + 1 by omega), show g (81 + 1) 0 = _ from hk 0 (by omega)]
        simp only [Option.bind_some, Option.toList_some, Option.toList_none, List.cons_append, List.nil_append, B_X1_solve_30a]
        exact e2
    | succ row ih =>
      intro g v3 v4 hr h ht hk hl hx
      obtain ⟨g2, y, e2, h2, l2, f2⟩ := z_solR (o := o) (k := R - (row + 1)) hW L (show (row + 1) + (R - (row + 1)) = R by omega) (d + 2) (q_tkb cost C (row + 1) + 1) 0 g (by omega) h hl (fun u a => by omega)
      rw [pk_m1] at e2
      obtain ⟨g3, a3, b3, e3, h3, l3, f3⟩ := ih g2 (.int (nI (q_tkb cost C (row + 1)))) (.int y) (by omega) h2 (ti_fr ht (fun k => f2 _ _ (by decide))) (fun r a => (f2 _ _ (by decide)).trans (hk r a)) l2 (Or.inr ⟨_, _, rfl, rfl⟩)
      refine ⟨g3, a3, b3, ?_, h3, l3, fun p j a => (f3 p j a).trans (f2 p j a)⟩
      rw [← e3]
      rcases hx with ⟨rfl, rfl⟩ | ⟨a, b, rfl, rfl⟩
      · rw [B_X1_solve_17, if_neg (nI_pos (by omega)), z_get1 q_tb81 ht (show row + 1 < R + 1 by omega), show g (81 + 1) (row + 1) = _ from hk (row + 1) (by omega)]
        simp only [Option.bind_some, Option.toList_some, Option.toList_none, List.cons_append, List.nil_append, B_X1_solve_30]
        exact e2
      · rw [B_X1_solve_17a, if_neg (nI_pos (by omega)), z_get1 q_tb81 ht (show row + 1 < R + 1 by omega), show g (81 + 1) (row + 1) = _ from hk (row + 1) (by omega)]
        simp only [Option.bind_some, Option.toList_some, Option.toList_none, List.cons_append, List.nil_append, B_X1_solve_30a]
        exact e2
  obtain ⟨g2, a2, b2, e2, h2, l2, f2⟩ := rows R g1 (.retAddr 0) (.retAddr 0) (Nat.le_refl _) h1 t1 r1 (fun k r a b => by omega) (Or.inl ⟨rfl, rfl⟩)
  have fu : ∀ p j, ¬ (p = 72 ∧ (j = 7 ∨ j = 8)) → p ≠ 79 → q_up (q_up (q_up g2 72 7 0) 72 8 0) 79 3 0 p j = g2 p j := fun p j a b => by rw [q_upN b, q_up_ne (by omega), q_up_ne (by omega)]
  have f12 : ∀ p j, p ≠ 81 → p ≠ 82 → p ≠ 83 → g2 p j = q_up g 72 6 L p j := fun p j a b c => (f2 p j c).trans (f1 p j a b)
  have t79 : q_ti (q_up (q_up (q_up g2 72 7 0) 72 8 0) 79 3 0) 79 9 1 0 := by
    refine ⟨?_, ?_, by rw [q_upE]; rfl, by omega⟩
    · rw [q_upJ (by decide), q_upN (by decide), q_upN (by decide), f12 _ _ (by decide) (by decide) (by decide), q_upN (by decide)]; exact ht2.1
    · rw [q_upJ (by decide), q_upN (by decide), q_upN (by decide), f12 _ _ (by decide) (by decide) (by decide), q_upN (by decide)]; exact ht2.2.1
  obtain ⟨g3, e3, t3, s3, p3, r3, _, f3⟩ := z_takeL (o := o) (L := L) hW d R 0 0 0 0 (q_up (q_up (q_up g2 72 7 0) 72 8 0) 79 3 0) (.retAddr 0) (by omega) (by decide) (Nat.zero_or _) (mtc_fr h2 (fun p j a => fu p j (by omega) (by omega))) (fun k r a b u hu hs => (fu _ _ (by omega) (by omega)).trans (l2 k r a b u hu hs)) t79 (by rw [q_upN (by decide), q_upJ (by decide), q_upE]; rfl) (by rw [q_upN (by decide), q_upE]; rfl) (Or.inl rfl)
  refine ⟨g3, ?_, ti_fr t1 (fun k => (f3 _ _ (by decide) (by decide) (by omega)).trans ((fu _ _ (by omega) (by decide)).trans (f2 _ _ (by decide)))), t3, by rw [s3, Nat.zero_add], by rw [p3, Nat.zero_add], fun r a => r3 r (Nat.zero_le _) a, fun p j a b => ?_⟩
  · rw [B_X1_solve_0, e1]
    simp only [Option.bind_some, Option.toList_some, Option.toList_none, List.cons_append, List.nil_append, B_X1_solve_9, s_size _ q_tb73, h1.1.2.2.1, B_X1_solve_16]
    rw [e2, B_X1_solve_17a, if_pos (by decide), B_X1_take_0, s_clear _ q_tb79]
    simp only [Option.bind_some, Option.toList_some, Option.toList_none, List.cons_append, List.nil_append, B_X1_take_19]
    have e3' : q_sem (d + 5) mX1_take 21 [.ref 72, .int 0, .int 0, .retAddr 0] [] (q_K o (q_up (q_up (q_up g2 72 7 0) 72 8 0) 79 3 0)) = some (none, q_K o g3) := e3
    rw [e3']
    simp only [Option.bind_some, Option.toList_some, Option.toList_none, List.cons_append, List.nil_append, B_X1_solve_94a]
  · rw [f3 p j (by omega) (by omega) (by omega), fu p j (by omega) (by omega), f12 p j (by omega) (by omega) (by omega), q_upN b]
end MCL
