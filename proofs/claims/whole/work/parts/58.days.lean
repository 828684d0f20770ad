/-! pilots: the days -/
def q_pcn (s : Nat) : Nat := s % 2 + s / 2 % 2 + s / 4 % 2 + s / 8 % 2 + s / 16 % 2 + s / 32 % 2
theorem f_pc : ∀ s, s < 64 → q_cnt (fun i => s.testBit i) 8 = q_pcn s := by decide +kernel
def q_low : Nat → Nat → Nat → Nat → Nat
  | 0, _, _, _ => 0
  | f + 1, m, k, p => if k = 0 then 0 else if m % 2 = 1 then p + q_low f (m / 2) (k - 1) (2 * p) else q_low f (m / 2) k (2 * p)
def q_wit (two b need again : Nat) : Nat := q_low 6 (two - b) again 1 + q_low 6 (63 - two) (need - again) 1
theorem q_rall {f : Nat → Bool} {n : Nat} (h : (List.range n).all f = true) {i : Nat} (hi : i < n) : f i = true := List.all_eq_true.mp h i (List.mem_range.mpr hi)
theorem f_daysL0 : (List.range 64).all (fun two => (List.range 64).all (fun b => if b &&& two = b then (List.range 64).all (fun s => if s &&& b = 0 then decide (q_pcn (two &&& s) + q_pcn b ≤ q_pcn two ∧ q_pcn s + q_pcn two ≤ 6 + q_pcn (two &&& s) ∧ q_pcn (two &&& s) ≤ q_pcn s) else true) else true)) = true := by decide +kernel
theorem f_daysL {two b s : Nat} (h1 : two < 64) (h2 : b < 64) (h3 : b &&& two = b) (h4 : s < 64) (h5 : s &&& b = 0) : q_pcn (two &&& s) + q_pcn b ≤ q_pcn two ∧ q_pcn s + q_pcn two ≤ 6 + q_pcn (two &&& s) ∧ q_pcn (two &&& s) ≤ q_pcn s := by
  have a := q_rall (q_rall f_daysL0 h1) h2
  rw [if_pos h3] at a
  have c := q_rall a h4
  rw [if_pos h5] at c
  exact of_decide_eq_true c
theorem f_daysW0 : (List.range 64).all (fun two => (List.range 64).all (fun b => if b &&& two = b then (List.range 7).all (fun need => (List.range 7).all (fun again => if again ≤ need ∧ again + q_pcn b ≤ q_pcn two ∧ need + q_pcn two ≤ 6 + again then decide (q_wit two b need again < 64 ∧ q_pcn (q_wit two b need again) = need ∧ q_wit two b need again &&& b = 0 ∧ q_pcn (two &&& q_wit two b need again) = again) else true)) else true)) = true := by decide +kernel
theorem f_daysW {two b need again : Nat} (h1 : two < 64) (h2 : b < 64) (h3 : b &&& two = b) (h4 : need < 7) (h5 : again < 7) (h6 : again ≤ need) (h7 : again + q_pcn b ≤ q_pcn two) (h8 : need + q_pcn two ≤ 6 + again) : q_wit two b need again < 64 ∧ q_pcn (q_wit two b need again) = need ∧ q_wit two b need again &&& b = 0 ∧ q_pcn (two &&& q_wit two b need again) = again := by
  have a := q_rall (q_rall f_daysW0 h1) h2
  rw [if_pos h3] at a
  have c := q_rall (q_rall a h4) h5
  rw [if_pos ⟨h6, h7, h8⟩] at c
  exact of_decide_eq_true c
theorem f_pcle : ∀ s, s < 64 → q_pcn s ≤ 6 := by decide +kernel
def q_fst (f : Nat → Bool) : Nat → Nat → Nat
  | 0, i => i
  | k + 1, i => if f i then i else q_fst f k (i + 1)
theorem q_fst_s (f : Nat → Bool) (k i : Nat) : q_fst f (k + 1) i = if f i then i else q_fst f k (i + 1) := rfl
theorem q_fst_ge (f : Nat → Bool) : ∀ k i, i ≤ q_fst f k i
  | 0, i => Nat.le_refl _
  | k + 1, i => by rw [q_fst_s]; have := q_fst_ge f k (i + 1); split <;> omega
theorem q_fst_le (f : Nat → Bool) : ∀ k i, q_fst f k i ≤ i + k
  | 0, i => Nat.le_refl _
  | k + 1, i => by rw [q_fst_s]; have := q_fst_le f k (i + 1); split <;> omega
theorem q_fst_t (f : Nat → Bool) : ∀ k i, q_fst f k i < i + k → f (q_fst f k i) = true
  | 0, i, h => by unfold q_fst at h; omega
  | k + 1, i, h => by
    rw [q_fst_s] at h ⊢
    cases e : f i
    · rw [e, if_neg (by decide)] at h
      rw [if_neg (by decide)]; exact q_fst_t f k (i + 1) (by omega)
    · rw [if_pos rfl]; exact e
theorem q_fst_ex (f : Nat → Bool) : ∀ k i s, i ≤ s → s < i + k → f s = true → q_fst f k i < i + k
  | 0, i, s, a, b, _ => by omega
  | k + 1, i, s, a, b, h => by
    rw [q_fst_s]
    cases e : f i
    · rw [if_neg (by decide)]
      have hne : s ≠ i := fun z => by rw [z, e] at h; exact absurd h (by decide)
      have := q_fst_ex f k (i + 1) s (by omega) (by omega) h
      omega
    · rw [if_pos rfl]; omega
theorem q_fst_c {f h : Nat → Bool} : ∀ k i, (∀ s, i ≤ s → s < i + k → f s = h s) → q_fst f k i = q_fst h k i
  | 0, _, _ => rfl
  | k + 1, i, e => by
    rw [q_fst_s, q_fst_s, e i (Nat.le_refl _) (by omega), q_fst_c k (i + 1) (fun s a b => e s (by omega) (by omega))]
def q_feas (nd : Nat → Nat) : Nat → Nat → Nat → Nat → Bool
  | 0, _, _, _ => true
  | k + 1, d, one, two => decide (q_fst (fun s => decide (q_pcn s = nd d) && (decide (s &&& one &&& two = 0) && q_feas nd k (d + 1) two s)) 64 0 < 64)
def q_gd (nd : Nat → Nat) (k d one two s : Nat) : Bool := decide (q_pcn s = nd d) && (decide (s &&& one &&& two = 0) && q_feas nd k (d + 1) two s)
theorem q_feas_s (nd : Nat → Nat) (k d one two : Nat) : q_feas nd (k + 1) d one two = decide (q_fst (q_gd nd k d one two) 64 0 < 64) := rfl
def q_Bd (nd : Nat → Nat) (d : Nat) : Nat := if d = 0 then 0 else nd (d - 1)
def q_can (nd : Nat → Nat) : Nat → Nat → Nat → Bool
  | 0, _, _ => true
  | k + 1, d, b => decide (∃ a, a < nd d + 1 ∧ ((a + b ≤ q_Bd nd d ∧ nd d + q_Bd nd d ≤ 6 + a) ∧ q_can nd k (d + 1) a = true))
theorem q_can_s (nd : Nat → Nat) (k d b : Nat) : q_can nd (k + 1) d b = decide (∃ a, a < nd d + 1 ∧ ((a + b ≤ q_Bd nd d ∧ nd d + q_Bd nd d ≤ 6 + a) ∧ q_can nd k (d + 1) a = true)) := rfl
theorem and_lt64 {a b : Nat} (h : a < 64) : a &&& b < 64 := Nat.lt_of_le_of_lt Nat.and_le_left h
theorem q_feas_can {nd : Nat → Nat} (hnd : ∀ i, nd i ≤ 6) : ∀ k d one two, one < 64 → two < 64 → q_pcn two = q_Bd nd d → q_feas nd k d one two = q_can nd k d (q_pcn (two &&& one)) := by
  intro k
  induction k with
  | zero => intros; rfl
  | succ k ih =>
    intro d one two h1 h2 hp
    have hB : q_Bd nd (d + 1) = nd d := by unfold q_Bd; rw [if_neg (by omega)]; rfl
    have hb : two &&& one < 64 := and_lt64 h2
    have hbb : (two &&& one) &&& two = two &&& one := by
      rw [Nat.and_assoc, Nat.and_comm one two, ← Nat.and_assoc, Nat.and_self]
    rw [q_feas_s, q_can_s]
    apply decide_eq_decide.mpr
    constructor
    · intro h
      have hg := q_fst_t _ _ _ h
      have hl : q_fst (q_gd nd k d one two) 64 0 < 64 := h
      generalize q_fst (q_gd nd k d one two) 64 0 = s at *
      unfold q_gd at hg
      rw [Bool.and_eq_true, Bool.and_eq_true] at hg
      have g1 := of_decide_eq_true hg.1
      have g2 := of_decide_eq_true hg.2.1
      have g3 := hg.2.2
      rw [ih (d + 1) two s h2 hl (by rw [hB, g1])] at g3
      have := f_daysL h2 hb hbb hl (by rw [Nat.and_comm two one, ← Nat.and_assoc]; exact g2)
      rw [g1] at this
      exact ⟨q_pcn (two &&& s), by omega, ⟨by omega, by omega⟩, by rw [Nat.and_comm two s]; exact g3⟩
    · rintro ⟨a, a1, ⟨a2, a3⟩, a4⟩
      have hle := hnd d
      obtain ⟨w1, w2, w3, w4⟩ := f_daysW h2 hb hbb (show nd d < 7 by omega) (show a < 7 by omega) (by omega) (by omega) (by omega)
      generalize q_wit two (two &&& one) (nd d) a = s at *
      refine q_fst_ex _ 64 0 s (by omega) (by omega) ?_
      unfold q_gd
      rw [Bool.and_eq_true, Bool.and_eq_true]
      refine ⟨decide_eq_true w2, decide_eq_true ?_, ?_⟩
      · rw [Nat.and_assoc, Nat.and_comm one two]; exact w3
      · rw [ih (d + 1) two s h2 w1 (by rw [hB, w2]), Nat.and_comm s two, w4]; exact a4
/-- the same, as the class asks it -/
def q_gdC (nd : Nat → Nat) (k d one two s : Nat) : Bool := decide (q_pcn s = nd d) && (decide (s &&& (two &&& one) = 0) && q_can nd k (d + 1) (q_pcn (s &&& two)))
theorem q_gd_C {nd : Nat → Nat} (hnd : ∀ i, nd i ≤ 6) {k d one two s : Nat} (h2 : two < 64) (hs : s < 64) : q_gdC nd k d one two s = q_gd nd k d one two s := by
  unfold q_gdC q_gd
  rw [Nat.and_assoc, Nat.and_comm one two]
  by_cases h : q_pcn s = nd d
  · rw [q_feas_can hnd k (d + 1) two s h2 hs (by unfold q_Bd; rw [if_neg (by omega)]; exact h)]
  · rw [decide_eq_false h]; rfl
def q_pth (nd : Nat → Nat) : Nat → Nat → Nat → Nat → Nat → Nat
  | 0, _, _, _, _ => 0
  | k + 1, d, one, two, j => if j = d then q_fst (q_gd nd k d one two) 64 0 else q_pth nd k (d + 1) two (q_fst (q_gd nd k d one two) 64 0) j
theorem q_pth_s (nd : Nat → Nat) (k d one two j : Nat) : q_pth nd (k + 1) d one two j = if j = d then q_fst (q_gd nd k d one two) 64 0 else q_pth nd k (d + 1) two (q_fst (q_gd nd k d one two) 64 0) j := rfl
