/-! matching: what the least sum is -/
def q_c24 (s : Nat) : Nat := q_cnt (fun i => s.testBit i) 24
def q_opt (cost : Nat → Nat → Option Nat) (L : Int32) (row used c : Nat) : Option Nat := if used.testBit c = false ∧ nI (q_c24 used) < L then cost row c else none
def q_mM (f : Nat → Option Nat) (base : Nat) : Nat → Nat → Nat
  | 0, _ => base
  | t + 1, i => match f i with
    | some w => min w (q_mM f base t (i + 1))
    | none => q_mM f base t (i + 1)
def q_mH (f : Nat → Option Nat) (base : Nat) : Nat → Nat → Nat
  | 0, i => i
  | t + 1, i => match f i with
    | some w => if w ≤ q_mM f base t (i + 1) then i else q_mH f base t (i + 1)
    | none => q_mH f base t (i + 1)
theorem mM_n {f : Nat → Option Nat} {base t i : Nat} (h : f i = none) : q_mM f base (t + 1) i = q_mM f base t (i + 1) := by show (match f i with | some w => _ | none => _) = _; rw [h]
theorem mM_s {f : Nat → Option Nat} {base t i w : Nat} (h : f i = some w) : q_mM f base (t + 1) i = min w (q_mM f base t (i + 1)) := by show (match f i with | some w => _ | none => _) = _; rw [h]
theorem mH_n {f : Nat → Option Nat} {base t i : Nat} (h : f i = none) : q_mH f base (t + 1) i = q_mH f base t (i + 1) := by show (match f i with | some w => _ | none => _) = _; rw [h]
theorem mH_s {f : Nat → Option Nat} {base t i w : Nat} (h : f i = some w) : q_mH f base (t + 1) i = if w ≤ q_mM f base t (i + 1) then i else q_mH f base t (i + 1) := by show (match f i with | some w => _ | none => _) = _; rw [h]
theorem mM_le (f : Nat → Option Nat) (base : Nat) : ∀ t i, q_mM f base t i ≤ base
  | 0, _ => Nat.le_refl _
  | t + 1, i => by
    have := mM_le f base t (i + 1)
    cases h : f i with
    | none => rw [mM_n h]; exact this
    | some w => rw [mM_s h]; omega
theorem mH_le (f : Nat → Option Nat) (base : Nat) : ∀ t i, i ≤ q_mH f base t i ∧ q_mH f base t i ≤ i + t
  | 0, _ => ⟨Nat.le_refl _, Nat.le_refl _⟩
  | t + 1, i => by
    have := mH_le f base t (i + 1)
    cases h : f i with
    | none => rw [mH_n h]; omega
    | some w => rw [mH_s h]; split <;> omega
theorem mH_spec (f : Nat → Option Nat) (base : Nat) : ∀ t i, (q_mH f base t i < i + t → f (q_mH f base t i) = some (q_mM f base t i)) ∧ (¬ q_mH f base t i < i + t → q_mM f base t i = base)
  | 0, i => ⟨fun h => by unfold q_mH at h; omega, fun _ => rfl⟩
  | t + 1, i => by
    have ih := mH_spec f base t (i + 1)
    have hl := mH_le f base t (i + 1)
    cases h : f i with
    | none => rw [mH_n h, mM_n h]; exact ⟨fun z => ih.1 (by omega), fun z => ih.2 (by omega)⟩
    | some w =>
      rw [mH_s h, mM_s h]
      by_cases c : w ≤ q_mM f base t (i + 1)
      · rw [if_pos c, Nat.min_eq_left c]
        exact ⟨fun _ => h, fun z => absurd (show i < i + (t + 1) by omega) z⟩
      · rw [if_neg c, Nat.min_eq_right (by omega)]
        exact ⟨fun z => ih.1 (by omega), fun z => ih.2 (by omega)⟩
theorem mH_fst {f : Nat → Option Nat} {base m : Nat} : ∀ t i, q_mM f base t i = m → q_fst (fun c => decide (f c = some m)) t i = q_mH f base t i
  | 0, _, _ => rfl
  | t + 1, i, e => by
    rw [q_fst_s]
    cases h : f i with
    | none =>
      rw [mM_n h] at e
      rw [mH_n h, if_neg (by simp), mH_fst t (i + 1) e]
    | some w =>
      rw [mM_s h] at e
      rw [mH_s h]
      by_cases c : w ≤ q_mM f base t (i + 1)
      · rw [if_pos c, if_pos (decide_eq_true (by rw [← e, Nat.min_eq_left c]))]
      · have e2 : q_mM f base t (i + 1) = m := by omega
        rw [if_neg c, if_neg (by simp; omega), mH_fst t (i + 1) e2]
/-- none from i on -/
theorem mM_none {f : Nat → Option Nat} {base : Nat} : ∀ t i, (∀ c, i ≤ c → c < i + t → f c = none) → q_mM f base t i = base ∧ q_mH f base t i = i + t
  | 0, _, _ => ⟨rfl, rfl⟩
  | t + 1, i, h => by
    have := mM_none (base := base) t (i + 1) (fun c a b => h c (by omega) (by omega))
    have h0 := h i (Nat.le_refl _) (by omega)
    rw [mM_n h0, mH_n h0]
    exact ⟨this.1, by omega⟩
section MTC
variable (cost : Nat → Nat → Option Nat) (L : Int32) (C : Nat)
def q_V : Nat → Nat → Nat → Nat
  | 0, _, _ => 0
  | k + 1, row, used => q_mM (fun c => (q_opt cost L row used c).map (fun w => w + q_V k (row + 1) (used ||| 2 ^ c))) (100000 + q_V k (row + 1) used) C 0
def q_of (k row used : Nat) : Nat → Option Nat := fun c => (q_opt cost L row used c).map (fun w => w + q_V cost L C k (row + 1) (used ||| 2 ^ c))
theorem q_V_s (k row used : Nat) : q_V cost L C (k + 1) row used = q_mM (q_of cost L C k row used) (100000 + q_V cost L C k (row + 1) used) C 0 := rfl
def q_nx (used c : Nat) : Nat := if c < C then used ||| 2 ^ c else used
def q_cho (k row used : Nat) : Nat := q_mH (q_of cost L C k row used) (100000 + q_V cost L C k (row + 1) used) C 0
def q_mP : Nat → Nat → Nat → Nat → Nat
  | 0, _, _, _ => 0
  | k + 1, row, used, j => if j = row then q_cho cost L C k row used else q_mP k (row + 1) (q_nx C used (q_cho cost L C k row used)) j
def q_tS : Nat → Nat → Nat → Nat × Nat
  | 0, _, _ => (0, 0)
  | k + 1, row, used => if q_cho cost L C k row used < C then ((q_tS k (row + 1) (q_nx C used (q_cho cost L C k row used))).1, (q_tS k (row + 1) (q_nx C used (q_cho cost L C k row used))).2 + (cost row (q_cho cost L C k row used)).getD 0) else ((q_tS k (row + 1) (q_nx C used (q_cho cost L C k row used))).1 + 1, (q_tS k (row + 1) (q_nx C used (q_cho cost L C k row used))).2)
variable {cost L C}
theorem q_V_le : ∀ k row used, q_V cost L C k row used ≤ 100000 * k
  | 0, _, _ => Nat.le_refl _
  | k + 1, row, used => by
    rw [q_V_s]
    have h1 := mM_le (q_of cost L C k row used) (100000 + q_V cost L C k (row + 1) used) C 0
    have h2 := q_V_le k (row + 1) used
    omega
theorem q_of_some {k row used c v : Nat} (h : q_of cost L C k row used c = some v) : ∃ w, cost row c = some w ∧ used.testBit c = false ∧ nI (q_c24 used) < L ∧ v = w + q_V cost L C k (row + 1) (used ||| 2 ^ c) := by
  unfold q_of q_opt at h
  split at h
  · next hc =>
    cases e : cost row c with
    | none => rw [e] at h; simp at h
    | some w => rw [e] at h; exact ⟨w, rfl, hc.1, hc.2, (Option.some.inj h).symm⟩
  · simp at h
theorem q_tS_eq {W : Nat} (hW : ∀ r c w, cost r c = some w → w ≤ W) : ∀ k row used, q_V cost L C k row used = 100000 * (q_tS cost L C k row used).1 + (q_tS cost L C k row used).2 ∧ (q_tS cost L C k row used).1 ≤ k ∧ (q_tS cost L C k row used).2 ≤ k * W
  | 0, _, _ => ⟨rfl, Nat.le_refl _, by simp [q_tS]⟩
  | k + 1, row, used => by
    have sp := mH_spec (q_of cost L C k row used) (100000 + q_V cost L C k (row + 1) used) C 0
    rw [Nat.zero_add] at sp
    obtain ⟨i1, i2, i3⟩ := q_tS_eq hW k (row + 1) (q_nx C used (q_cho cost L C k row used))
    rw [q_V_s]
    unfold q_tS
    by_cases h : q_cho cost L C k row used < C
    · rw [if_pos h]
      obtain ⟨w, e1, _, _, e2⟩ := q_of_some (sp.1 h)
      have hw := hW _ _ _ e1
      have e1' : cost row (q_cho cost L C k row used) = some w := e1
      have e3 : q_nx C used (q_cho cost L C k row used) = used ||| 2 ^ q_cho cost L C k row used := if_pos h
      rw [e2, e1']
      rw [e3] at i1 i2 i3 ⊢
      dsimp only [Option.getD_some]
      refine ⟨?_, by omega, by rw [Nat.succ_mul]; omega⟩
      show w + q_V cost L C k (row + 1) (used ||| 2 ^ q_cho cost L C k row used) = _
      omega
    · rw [if_neg h]
      have e3 : q_nx C used (q_cho cost L C k row used) = used := if_neg h
      rw [sp.2 h]
      rw [e3] at i1 i2 i3 ⊢
      dsimp only
      refine ⟨by omega, by omega, by rw [Nat.succ_mul]; omega⟩
end MTC
theorem q_key {a b c e : Nat} (hb : b < 100000) (he : e < 100000) (h : 100000 * a + b = 100000 * c + e) : a = c ∧ b = e := by omega
/-! bits below 512 -/
theorem f_bit9 : ∀ s, s < 512 → ∀ f, f < 9 → (nI s >>> (nI f &&& 31)) &&& 1 = nI (if s.testBit f then 1 else 0) := by decide +kernel
theorem q_c24_or (s c : Nat) (hc : c < 24) (h : s.testBit c = false) : q_c24 (s ||| 2 ^ c) = q_c24 s + 1 := by
  have step : ∀ n, q_cnt (fun i => (s ||| 2 ^ c).testBit i) n = q_cnt (fun i => s.testBit i) n + if c < n then 1 else 0 := by
    intro n
    induction n with
    | zero => rfl
    | succ n ih =>
      show q_cnt _ n + (if (s ||| 2 ^ c).testBit n = true then 1 else 0) = (q_cnt _ n + if s.testBit n = true then 1 else 0) + _
      rw [ih, Nat.testBit_or, Nat.testBit_two_pow]
      by_cases e : c = n
      · subst e
        rw [h, if_neg (Nat.lt_irrefl _), if_pos (Nat.lt_succ_self _)]
        simp
      · have : decide (c = n) = false := decide_eq_false e
        rw [this, Bool.or_false]
        by_cases c1 : c < n
        · rw [if_pos c1, if_pos (show c < n + 1 by omega)]; omega
        · rw [if_neg c1, if_neg (show ¬ c < n + 1 by omega)]; omega
  unfold q_c24
  rw [step 24, if_pos hc]
theorem or_lt512 {a c : Nat} (ha : a < 512) (hc : c < 9) : a ||| 2 ^ c < 512 := Nat.or_lt_two_pow (n := 9) ha (Nat.pow_lt_pow_right (by decide) hc)
/-- within, bit by bit -/
theorem q_subz {a m : Nat} (ha : a < 2 ^ 31) (hm : m < 2 ^ 31) : (nI a &&& (nI m ^^^ (-1)) = 0) = (a ||| m = m) := by
  apply propext
  constructor
  · intro h
    apply Nat.eq_of_testBit_eq
    intro i
    by_cases hi : i < 32
    · have := congrArg (fun z : Int32 => z.toBitVec.getLsbD i) h
      simp only [Int32.toBitVec_and, Int32.toBitVec_xor, BitVec.getLsbD_and, BitVec.getLsbD_xor] at this
      have e1 : (nI a).toBitVec.getLsbD i = a.testBit i := by rw [BitVec.getLsbD, pk_tn (by omega)]
      have e2 : (nI m).toBitVec.getLsbD i = m.testBit i := by rw [BitVec.getLsbD, pk_tn (by omega)]
      have e3 : (-1 : Int32).toBitVec.getLsbD i = true := by
        have : ∀ i, i < 32 → (-1 : Int32).toBitVec.getLsbD i = true := by decide
        exact this i hi
      have e4 : (0 : Int32).toBitVec.getLsbD i = false := by
        have : ∀ i, i < 32 → (0 : Int32).toBitVec.getLsbD i = false := by decide
        exact this i hi
      rw [e1, e2, e3, e4] at this
      rw [Nat.testBit_or]
      revert this
      cases a.testBit i <;> cases m.testBit i <;> decide
    · have e1 : a.testBit i = false := Nat.testBit_lt_two_pow (Nat.lt_of_lt_of_le ha (Nat.pow_le_pow_right (by decide) (by omega)))
      rw [Nat.testBit_or, e1, Bool.false_or]
  · intro h
    apply Int32.toBitVec_inj.mp
    apply BitVec.eq_of_getLsbD_eq
    intro i hi
    simp only [Int32.toBitVec_and, Int32.toBitVec_xor, BitVec.getLsbD_and, BitVec.getLsbD_xor]
    have e1 : (nI a).toBitVec.getLsbD i = a.testBit i := by rw [BitVec.getLsbD, pk_tn (by omega)]
    have e2 : (nI m).toBitVec.getLsbD i = m.testBit i := by rw [BitVec.getLsbD, pk_tn (by omega)]
    have e3 : (-1 : Int32).toBitVec.getLsbD i = true := by
      have : ∀ i, i < 32 → (-1 : Int32).toBitVec.getLsbD i = true := by decide
      exact this i hi
    have e4 : (0 : Int32).toBitVec.getLsbD i = false := by
      have : ∀ i, i < 32 → (0 : Int32).toBitVec.getLsbD i = false := by decide
      exact this i hi
    rw [e1, e2, e3, e4]
    have := congrArg (fun z => z.testBit i) h
    simp only [Nat.testBit_or] at this
    revert this
    cases a.testBit i <;> cases m.testBit i <;> decide
theorem sub_or {a m b : Nat} (h : a ||| m = m) : a ||| (m ||| b) = m ||| b := by rw [← Nat.or_assoc, h]
theorem sub_or2 {a m b c : Nat} (h : a ||| m = m) (h2 : c ||| (m ||| b) = m ||| b) : (a ||| c) ||| (m ||| b) = m ||| b := by
  rw [Nat.or_assoc, h2, sub_or h]
