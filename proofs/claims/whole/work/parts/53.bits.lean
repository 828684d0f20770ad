/-! bits -/
theorem nI_and {a b : Nat} (ha : a < 2 ^ 32) (hb : b < 2 ^ 32) : nI a &&& nI b = nI (a &&& b) := by
  apply Int32.toBitVec_inj.mp; apply BitVec.eq_of_toNat_eq
  rw [Int32.toBitVec_and, BitVec.toNat_and, pk_tn ha, pk_tn hb, pk_tn (Nat.lt_of_le_of_lt Nat.and_le_left ha)]
theorem nI_or {a b : Nat} (ha : a < 2 ^ 32) (hb : b < 2 ^ 32) : nI a ||| nI b = nI (a ||| b) := by
  apply Int32.toBitVec_inj.mp; apply BitVec.eq_of_toNat_eq
  rw [Int32.toBitVec_or, BitVec.toNat_or, pk_tn ha, pk_tn hb, pk_tn (Nat.or_lt_two_pow ha hb)]
def q_cnt (f : Nat → Bool) : Nat → Nat
  | 0 => 0
  | n + 1 => q_cnt f n + if f n then 1 else 0
theorem q_cnt_c {f h : Nat → Bool} : ∀ {n : Nat}, (∀ i, i < n → f i = h i) → q_cnt f n = q_cnt h n
  | 0, _ => rfl
  | n + 1, e => by unfold q_cnt; rw [q_cnt_c (fun i hi => e i (by omega)), e n (by omega)]
theorem q_cnt_le (f : Nat → Bool) : ∀ n, q_cnt f n ≤ n
  | 0 => Nat.le_refl _
  | n + 1 => by unfold q_cnt; have := q_cnt_le f n; split <;> omega
theorem q_cnt_add (f : Nat → Bool) (m : Nat) : ∀ n, q_cnt f (m + n) = q_cnt f m + q_cnt (fun i => f (m + i)) n
  | 0 => rfl
  | n + 1 => by
    show q_cnt f (m + n) + _ = _ + (q_cnt _ n + _)
    rw [q_cnt_add f m n, Nat.add_assoc]
    rfl
def q_B (f : Nat → Bool) : Nat → Nat
  | 0 => 0
  | n + 1 => q_B f n + if f n then 2 ^ n else 0
theorem q_B_lt (f : Nat → Bool) : ∀ n, q_B f n < 2 ^ n
  | 0 => Nat.one_pos
  | n + 1 => by unfold q_B; have := q_B_lt f n; rw [Nat.pow_succ]; split <;> omega
theorem q_B_tb (f : Nat → Bool) : ∀ n i, (q_B f n).testBit i = (decide (i < n) && f i)
  | 0, i => by simp [q_B]
  | n + 1, i => by
    unfold q_B
    have hl := q_B_lt f n
    cases e : f n
    · simp only [Bool.false_eq_true, ↓reduceIte, Nat.add_zero]
      rw [q_B_tb f n i]
      by_cases h : i = n
      · subst h; simp [e]
      · by_cases h2 : i < n
        · simp [h2, show i < n + 1 by omega]
        · simp [h2, show ¬ i < n + 1 by omega]
    · simp only [↓reduceIte]
      rw [Nat.add_comm]
      by_cases h : i = n
      · subst h; rw [Nat.testBit_two_pow_add_eq, q_B_tb f i i]; simp [e]
      · by_cases h2 : i < n
        · rw [Nat.testBit_two_pow_add_gt h2, q_B_tb f n i]; simp [h2, show i < n + 1 by omega]
        · have h3 : 2 ^ n + q_B f n < 2 ^ i := Nat.lt_of_lt_of_le (by rw [Nat.pow_succ]; omega) (Nat.pow_le_pow_right (n := 2) (by decide) (show n + 1 ≤ i by omega))
          rw [Nat.testBit_lt_two_pow h3]; simp [show ¬ i < n + 1 by omega]
theorem q_B_or (f h : Nat → Bool) (n : Nat) : q_B f n ||| q_B h n = q_B (fun i => f i || h i) n := by
  apply Nat.eq_of_testBit_eq
  intro i
  rw [Nat.testBit_or, q_B_tb, q_B_tb, q_B_tb]
  cases decide (i < n) <;> simp
theorem q_B_cnt {f : Nat → Bool} {n k : Nat} (hn : n ≤ k) : q_cnt (fun i => (q_B f n).testBit i) k = q_cnt f n := by
  obtain ⟨m, rfl⟩ := Nat.le.dest hn
  rw [q_cnt_add, q_cnt_c (h := f) (n := n) (fun i hi => by rw [q_B_tb]; simp [hi]), q_cnt_c (h := fun _ => false) (n := m) (fun i hi => by rw [q_B_tb, show decide (n + i < n) = false from decide_eq_false (by omega)]; rfl)]
  have : ∀ m, q_cnt (fun _ => false) m = 0 := by
    intro m
    induction m with
    | zero => rfl
    | succ m ih => unfold q_cnt; rw [ih]; rfl
  rw [this, Nat.add_zero]
theorem and8 {a b m n : Nat} (ha : a < 256) (hm : m < 256) : (a + 256 * b) &&& (m + 256 * n) = (a &&& m) + 256 * (b &&& n) := by
  have e1 : ((a + 256 * b) &&& (m + 256 * n)) % 2 ^ 8 = (a &&& m) := by
    rw [Nat.and_mod_two_pow]
    congr 1 <;> omega
  have e2 : ((a + 256 * b) &&& (m + 256 * n)) / 2 ^ 8 = (b &&& n) := by
    rw [Nat.and_div_two_pow]
    congr 1 <;> omega
  have := Nat.div_add_mod ((a + 256 * b) &&& (m + 256 * n)) (2 ^ 8)
  rw [e1, e2] at this
  omega
theorem and3 {a b c : Nat} (m : Nat) (ha : a < 256) (hb : b < 256) (hc : c < 256) (hm : m < 256) : (a + 256 * (b + 256 * c)) &&& (m + 256 * (m + 256 * (m + 256 * m))) = (a &&& m) + 256 * ((b &&& m) + 256 * (c &&& m)) := by
  rw [and8 ha hm, and8 hb hm, show c = c + 256 * 0 by omega, and8 hc hm]
  simp
def q_u1 (a : Nat) : Nat := a - ((a / 2) &&& 0x55)
def q_u2 (a : Nat) : Nat := (a &&& 0x33) + ((a / 4) &&& 0x33)
theorem f_u1 : ∀ a, a < 256 → (∀ k, k < 2 → (a / 2 + 128 * k) &&& 0x55 = (a / 2) &&& 0x55) ∧ ((a / 2) &&& 0x55) ≤ a := by decide +kernel
theorem f_u2 : ∀ a, a < 256 → (∀ k, k < 4 → (a / 4 + 64 * k) &&& 0x33 = (a / 4) &&& 0x33) ∧ (a &&& 0x33) < 64 ∧ ((a / 4) &&& 0x33) < 64 := by decide +kernel
theorem f_u3 : ∀ a, a < 256 → q_u2 (q_u1 a) % 16 ≤ 4 ∧ q_u2 (q_u1 a) / 16 ≤ 4 ∧ (q_u2 (q_u1 a) + q_u2 (q_u1 a) / 16) % 16 = q_cnt (fun i => a.testBit i) 8 ∧ q_cnt (fun i => a.testBit i) 8 ≤ 8 := by decide +kernel
theorem f_and15 : ∀ a, a < 256 → a &&& 15 = a % 16 := by decide +kernel
section BC
variable {o : q_H} {g : Nat → Nat → Int32}
theorem z_bitCount (d : Nat) {X : Nat} (hX : X < 2 ^ 24) : q_sem d mJ6_bitCount_0f7a4 0 [.int (nI X)] [] (q_K o g) = some (some (.int (nI (q_cnt (fun i => X.testBit i) 24))), q_K o g) := by
  rw [B_J6_bitCount_0f7a4_0]
  obtain ⟨a, b, c, ha, hb, hc, rfl⟩ : ∃ a b c, a < 256 ∧ b < 256 ∧ c < 256 ∧ X = a + 256 * (b + 256 * c) := ⟨X % 256, X / 256 % 256, X / 65536, by omega, by omega, by omega, by omega⟩
  have hcnt : q_cnt (fun i => (a + 256 * (b + 256 * c)).testBit i) 24 = q_cnt (fun i => a.testBit i) 8 + q_cnt (fun i => b.testBit i) 8 + q_cnt (fun i => c.testBit i) 8 := by
    rw [show 24 = (8 + 8) + 8 from rfl, q_cnt_add, q_cnt_add]
    congr 1
    · congr 1
      · refine q_cnt_c (fun i hi => ?_)
        have := Nat.testBit_mod_two_pow (a + 256 * (b + 256 * c)) 8 i
        rw [show (a + 256 * (b + 256 * c)) % 2 ^ 8 = a by omega] at this
        simp [hi] at this
        exact this.symm
      · refine q_cnt_c (fun i hi => ?_)
        have := Nat.testBit_mod_two_pow ((a + 256 * (b + 256 * c)) / 2 ^ 8) 8 i
        rw [show (a + 256 * (b + 256 * c)) / 2 ^ 8 % 2 ^ 8 = b by omega, Nat.testBit_div_two_pow] at this
        simp [hi] at this
        rw [show 8 + i = i + 8 by omega]
        exact this.symm
    · refine q_cnt_c (fun i hi => ?_)
      have := Nat.testBit_div_two_pow (n := 16) (a + 256 * (b + 256 * c)) i
      rw [show (a + 256 * (b + 256 * c)) / 2 ^ 16 = c by omega] at this
      rw [show 8 + 8 + i = i + 16 by omega]
      exact this.symm
  have A1 := f_u1 a ha; have B1 := f_u1 b hb; have C1 := f_u1 c hc
  have A3 := f_u3 a ha; have B3 := f_u3 b hb; have C3 := f_u3 c hc
  have a1 : q_u1 a < 256 := Nat.lt_of_le_of_lt (Nat.sub_le _ _) ha
  have b1 : q_u1 b < 256 := Nat.lt_of_le_of_lt (Nat.sub_le _ _) hb
  have c1 : q_u1 c < 256 := Nat.lt_of_le_of_lt (Nat.sub_le _ _) hc
  have A2 := f_u2 _ a1; have B2 := f_u2 _ b1; have C2 := f_u2 _ c1
  rw [pk_ushrN (show a + 256 * (b + 256 * c) < 2 ^ 32 by omega) 1 1 (by decide)]
  rw [show (1431655765 : Int32) = nI (0x55 + 256 * (0x55 + 256 * (0x55 + 256 * 0x55))) by decide, nI_and (by omega) (by omega),
    show (a + 256 * (b + 256 * c)) / 2 ^ 1 = (a / 2 + 128 * (b % 2)) + 256 * ((b / 2 + 128 * (c % 2)) + 256 * (c / 2)) by omega,
    and3 0x55 (by omega) (by omega) (by omega) (by omega), A1.1 _ (by omega), B1.1 _ (by omega),
    pk_sub (by omega),
    show a + 256 * (b + 256 * c) - ((a / 2 &&& 85) + 256 * ((b / 2 &&& 85) + 256 * (c / 2 &&& 85))) = q_u1 a + 256 * (q_u1 b + 256 * q_u1 c) by unfold q_u1; omega]
  generalize q_u1 a = u at *
  generalize q_u1 b = v at *
  generalize q_u1 c = w at *
  rw [pk_ushrN (show u + 256 * (v + 256 * w) < 2 ^ 32 by omega) 2 2 (by decide)]
  rw [show (858993459 : Int32) = nI (0x33 + 256 * (0x33 + 256 * (0x33 + 256 * 0x33))) by decide, nI_and (by omega) (by omega), nI_and (by omega) (by omega),
    show (u + 256 * (v + 256 * w)) / 2 ^ 2 = (u / 4 + 64 * (v % 4)) + 256 * ((v / 4 + 64 * (w % 4)) + 256 * (w / 4)) by omega,
    and3 0x33 (by omega) (by omega) (by omega) (by omega), and3 0x33 (by omega) (by omega) (by omega) (by omega), A2.1 _ (by omega), B2.1 _ (by omega),
    nI_add,
    show (u &&& 51) + 256 * ((v &&& 51) + 256 * (w &&& 51)) + ((u / 4 &&& 51) + 256 * ((v / 4 &&& 51) + 256 * (w / 4 &&& 51))) = q_u2 u + 256 * (q_u2 v + 256 * q_u2 w) by unfold q_u2; omega]
  generalize q_u2 u = u2 at *
  generalize q_u2 v = v2 at *
  generalize q_u2 w = w2 at *
  rw [pk_ushrN (show u2 + 256 * (v2 + 256 * w2) < 2 ^ 32 by omega) 4 4 (by decide)]
  rw [nI_add, show (252645135 : Int32) = nI (15 + 256 * (15 + 256 * (15 + 256 * 15))) by decide, nI_and (by omega) (by omega),
    show u2 + 256 * (v2 + 256 * w2) + (u2 + 256 * (v2 + 256 * w2)) / 2 ^ 4 = (u2 + u2 / 16 + 16 * (v2 % 16)) + 256 * ((v2 + v2 / 16 + 16 * (w2 % 16)) + 256 * (w2 + w2 / 16)) by omega,
    and3 15 (by omega) (by omega) (by omega) (by omega), f_and15 _ (by omega), f_and15 _ (by omega), f_and15 _ (by omega),
    show (u2 + u2 / 16 + 16 * (v2 % 16)) % 16 = (u2 + u2 / 16) % 16 by omega, show (v2 + v2 / 16 + 16 * (w2 % 16)) % 16 = (v2 + v2 / 16) % 16 by omega, A3.2.2.1, B3.2.2.1, C3.2.2.1]
  have A4 := A3.2.2.2; have B4 := B3.2.2.2; have C4 := C3.2.2.2
  clear A3 B3 C3
  rw [hcnt]
  clear hcnt
  generalize q_cnt (fun i => a.testBit i) 8 = p at *
  generalize q_cnt (fun i => b.testBit i) 8 = q at *
  generalize q_cnt (fun i => c.testBit i) 8 = r at *
  rw [pk_ushrN (show p + 256 * (q + 256 * r) < 2 ^ 32 by omega) 8 8 (by decide), nI_add, show p + 256 * (q + 256 * r) + (p + 256 * (q + 256 * r)) / 2 ^ 8 = (p + q) + 256 * ((q + r) + 256 * r) by omega,
    pk_ushrN (show (p + q) + 256 * ((q + r) + 256 * r) < 2 ^ 32 by omega) 16 16 (by decide), nI_add, pk_andN (by omega) 6 (by decide),
    show ((p + q) + 256 * ((q + r) + 256 * r)) / 2 ^ 16 = r by omega, show ((p + q) + 256 * ((q + r) + 256 * r) + r) % 2 ^ 6 = p + q + r by omega]
def q_on : Nat → Int32 → Int32 → Option Int32
  | 0, _, _ => none
  | k + 1, x, c => if x = 0 then some c else q_on k (x &&& (x - 1)) (c + 1)
theorem m_on (d : Nat) (x0 : Int32) : ∀ k x c v, q_on k x c = some v → q_sem d mX12_ones 4 [.int x0, .int c, .int x] [] (q_K o g) = some (some (.int v), q_K o g) := by
  intro k
  induction k with
  | zero => intro x c v h; exact absurd h (by simp [q_on])
  | succ k ih =>
    intro x c v h
    unfold q_on at h
    rw [B_X12_ones_4]
    split at h
    · next e => rw [if_pos e, ← Option.some.inj h]
    · next e => rw [if_neg e]; exact ih _ _ _ h
theorem f_on : ∀ s, s < 256 → q_on 9 (nI s) 0 = some (nI (q_cnt (fun i => s.testBit i) 8)) := by decide +kernel
theorem m_ones (d : Nat) {s : Nat} (hs : s < 256) : q_sem d mX12_ones 0 [.int (nI s), .retAddr 0, .retAddr 0] [] (q_K o g) = some (some (.int (nI (q_cnt (fun i => s.testBit i) 8))), q_K o g) := by
  rw [B_X12_ones_0]; exact m_on d _ 9 _ _ _ (f_on s hs)
theorem f_cnt : ∀ s, s < 256 → q_cnt (fun i => s.testBit i) 24 = q_cnt (fun i => s.testBit i) 8 := by decide +kernel
theorem z_bitCount8 (d : Nat) {s : Nat} (hs : s < 256) : q_sem d mJ6_bitCount_0f7a4 0 [.int (nI s)] [] (q_K o g) = some (some (.int (nI (q_cnt (fun i => s.testBit i) 8))), q_K o g) := by
  rw [z_bitCount d (by omega), f_cnt s hs]
end BC
theorem f_bit : ∀ s, s < 256 → ∀ f, f < 8 → (nI s >>> (nI f &&& 31)) &&& 1 = nI (if s.testBit f then 1 else 0) := by decide +kernel
def q_clr (s f : Nat) : Nat := if s.testBit f then s - 2 ^ f else s
theorem f_clr : ∀ s, s < 256 → ∀ f, f < 8 → nI s &&& ((1 <<< (nI f &&& 31)) ^^^ (-1)) = nI (q_clr s f) ∧ q_clr s f ≤ s := by decide +kernel
theorem f_clrb : ∀ s, s < 256 → ∀ f, f < 8 → ∀ m, m < 8 → (q_clr s f).testBit m = (s.testBit m && decide (m ≠ f)) := by decide +kernel
theorem f_one : ∀ f, f < 24 → (1 : Int32) <<< (nI f &&& 31) = nI (2 ^ f) := by decide +kernel
