/-! sets of plots -/
theorem cnt_lo (s n : Nat) : q_cnt (fun i => s.testBit i) (n + 1) = s % 2 + q_cnt (fun i => (s / 2).testBit i) n := by
  rw [Nat.add_comm n 1, q_cnt_add]
  have e1 : q_cnt (fun i => s.testBit i) 1 = s % 2 := by
    show 0 + (if s.testBit 0 = true then 1 else 0) = _
    rw [Nat.testBit_zero]
    rcases Nat.mod_two_eq_zero_or_one s with h | h <;> rw [h] <;> rfl
  rw [e1]
  congr 1
  refine q_cnt_c (fun i _ => ?_)
  have := Nat.testBit_div_two_pow (n := 1) s i
  rw [Nat.pow_one] at this
  rw [this, Nat.add_comm]
theorem and_half (a b : Nat) : (a &&& b) / 2 = (a / 2) &&& (b / 2) ∧ (a &&& b) % 2 = (a % 2) &&& (b % 2) := by
  have h1 : (a &&& b) / 2 ^ 1 = (a / 2 ^ 1) &&& (b / 2 ^ 1) := Nat.and_div_two_pow
  have h2 : (a &&& b) % 2 ^ 1 = (a % 2 ^ 1) &&& (b % 2 ^ 1) := Nat.and_mod_two_pow
  simp only [Nat.pow_one] at h1 h2
  exact ⟨h1, h2⟩
theorem kern : ∀ n s, 0 < s → s < 2 ^ n → q_cnt (fun i => s.testBit i) n = q_cnt (fun i => (s &&& (s - 1)).testBit i) n + 1 ∧ s &&& (s - 1) < s
  | 0, s, h, h2 => by simp at h2; omega
  | n + 1, s, h, h2 => by
    have h3 : s < 2 * 2 ^ n := by rw [Nat.pow_succ] at h2; omega
    obtain ⟨a1, a2⟩ := and_half s (s - 1)
    rw [cnt_lo, cnt_lo (s &&& (s - 1)), a1, a2]
    rcases Nat.mod_two_eq_zero_or_one s with e | e
    · have e1 : (s - 1) / 2 = s / 2 - 1 := by omega
      obtain ⟨k1, k2⟩ := kern n (s / 2) (by omega) (by omega)
      rw [e, e1, k1, Nat.zero_and]
      refine ⟨by omega, ?_⟩
      have := Nat.div_add_mod (s &&& (s - 1)) 2
      rw [a1, a2, e, Nat.zero_and, e1] at this
      omega
    · have e1 : (s - 1) / 2 = s / 2 := by omega
      have e2 : (s - 1) % 2 = 0 := by omega
      rw [e, e1, e2, Nat.and_self]
      refine ⟨by rw [show (1 &&& 0 : Nat) = 0 from rfl]; omega, ?_⟩
      have := Nat.div_add_mod (s &&& (s - 1)) 2
      rw [a1, a2, e, e1, e2, Nat.and_self, show (1 &&& 0 : Nat) = 0 from rfl] at this
      omega
section ONE
variable {o : q_H} {g : Nat → Nat → Int32}
theorem m_onesL (d : Nat) (x0 : Int32) : ∀ m s c, s ≤ m → s < 2 ^ 24 → q_sem d mX12_ones 4 [.int x0, .int (nI c), .int (nI s)] [] (q_K o g) = some (some (.int (nI (c + q_c24 s))), q_K o g) := by
  intro m
  induction m with
  | zero =>
    intro s c h h2
    obtain rfl : s = 0 := by omega
    rw [B_X12_ones_4, if_pos (show nI 0 = 0 from rfl)]
    have : q_c24 0 = 0 := q_cnt_0 24 (fun i _ => Nat.zero_testBit i)
    rw [this]; rfl
  | succ m ih =>
    intro s c h h2
    by_cases e : s = 0
    · subst e
      rw [B_X12_ones_4, if_pos (show nI 0 = 0 from rfl)]
      have : q_c24 0 = 0 := q_cnt_0 24 (fun i _ => Nat.zero_testBit i)
      rw [this]; rfl
    · obtain ⟨k1, k2⟩ := kern 24 s (by omega) h2
      have e1 : nI s - 1 = nI (s - 1) := nI_sub (b := 1) (by omega)
      rw [B_X12_ones_4, if_neg (nI_ne0 (by omega) (by omega)), e1, nI_and (by omega) (by omega), nI_1, ih _ _ (by omega) (by omega)]
      have : q_c24 s = q_c24 (s &&& (s - 1)) + 1 := k1
      rw [this, show c + (q_c24 (s &&& (s - 1)) + 1) = c + 1 + q_c24 (s &&& (s - 1)) by omega]
theorem m_ones24 (d : Nat) {s : Nat} (h : s < 2 ^ 24) : q_sem d mX12_ones 0 [.int (nI s), .retAddr 0, .retAddr 0] [] (q_K o g) = some (some (.int (nI (q_c24 s))), q_K o g) := by
  rw [B_X12_ones_0]
  have := m_onesL (o := o) (g := g) d (nI s) s s 0 (Nat.le_refl _) h
  rw [Nat.zero_add] at this
  exact this
theorem tb_mod (s i : Nat) : s.testBit i = decide (s / 2 ^ i % 2 = 1) := Nat.testBit_eq_decide_div_mod_eq
theorem f_sh : ∀ p, p < 32 → ((nI p &&& 31 : Int32).toBitVec.smod 32).toNat = p ∧ (((nI p).toUInt32 &&& Int32.toUInt32 31).toBitVec % 32).toNat = p := by decide +kernel
theorem bit24 {s p : Nat} (hs : s < 2 ^ 24) (hp : p < 32) : (nI s >>> (nI p &&& 31)) &&& 1 = nI (if s.testBit p then 1 else 0) := by
  have h1 := (f_sh p hp).1
  rw [pk_shrN (by omega) _ p h1, pk_andN (Nat.lt_of_le_of_lt (Nat.div_le_self _ _) (by omega)) 1 (by decide), tb_mod, Nat.pow_one]
  rcases Nat.mod_two_eq_zero_or_one (s / 2 ^ p) with e | e <;> rw [e] <;> rfl
theorem ubit24 {s p : Nat} (hs : s < 2 ^ 24) (hp : p < 32) : (((nI s).toUInt32 >>> ((nI p).toUInt32 &&& Int32.toUInt32 31)).toInt32 &&& 1) = nI (if s.testBit p then 1 else 0) := by
  have h1 := (f_sh p hp).2
  rw [pk_ushrN (by omega) (nI p) p h1, pk_andN (Nat.lt_of_le_of_lt (Nat.div_le_self _ _) (by omega)) 1 (by decide), tb_mod, Nat.pow_one]
  rcases Nat.mod_two_eq_zero_or_one (s / 2 ^ p) with e | e <;> rw [e] <;> rfl
/-- a set of the plots -/
def q_sto (x : Int32) (n : Nat) : Prop := ∃ s, s < 2 ^ n ∧ x = nI s
theorem q_sto_iff (x : Int32) {n : Nat} (hn : n ≤ 24) : q_sto x n ↔ x.toBitVec.toNat < 2 ^ n := by
  have h24 : 2 ^ n ≤ 2 ^ 24 := Nat.pow_le_pow_right (by decide) hn
  constructor
  · rintro ⟨s, hs, rfl⟩
    rw [pk_tn (by omega)]; exact hs
  · intro h
    refine ⟨x.toBitVec.toNat, h, ?_⟩
    apply Int32.toBitVec_inj.mp; apply BitVec.eq_of_toNat_eq
    rw [pk_tn (by omega)]
theorem z_arePlots {S : Nat → Nat → Int32} {N : Nat → Nat} (hr : repC 1 g S N) (hN : N 2 ≤ 24) (x : Int32) (d : Nat) : q_sem (d + 2) mX11_arePlots 0 [.ref 0, .int x] [] (q_K o g) = some (some (.int (if x.toBitVec.toNat < 2 ^ N 2 then 1 else 0)), q_K o g) := by
  have e := fun d => r_size_pl (o := o) hr d
  rw [B_X11_arePlots_0, show (6 : Nat) = 1 + 5 from rfl, e]
  simp only [Option.bind_some, Option.toList_some, Option.toList_none, List.cons_append, List.nil_append, B_X11_arePlots_11]
  have h1 := (f_sh (N 2) (by omega)).2
  have hv : ((x.toUInt32 >>> ((nI (N 2)).toUInt32 &&& Int32.toUInt32 31)).toInt32 = 0) ↔ (x.toBitVec.toNat < 2 ^ N 2) := by
    have hu := pk_ushr x (nI (N 2)) (N 2) h1
    constructor
    · intro z
      rw [z] at hu
      have h0 : (0 : Int32).toBitVec.toNat = 0 := by decide
      rw [h0] at hu
      exact (Nat.div_eq_zero_iff.mp hu.symm).resolve_left (Nat.ne_of_gt (Nat.two_pow_pos _))
    · intro z
      apply Int32.toBitVec_inj.mp; apply BitVec.eq_of_toNat_eq
      rw [hu, Nat.div_eq_of_lt z]
      decide
  by_cases z : x.toBitVec.toNat < 2 ^ N 2
  · rw [if_pos (hv.mpr z), if_pos z]
  · rw [if_neg (fun y => z (hv.mp y)), if_neg z]
theorem m_isTold {S : Nat → Nat → Int32} {N : Nat → Nat} (hm : repM g S N) (hN : N 2 ≤ 24) (x : Int32) (d : Nat) : q_sem d mX12_isTold 0 [.ref 98, .int x] [] (q_K o g) = some (some (.int (if x.toBitVec.toNat < 2 ^ N 2 then 1 else 0)), q_K o g) := by
  have e2 : g 100 2 = nI (N 2) := hm.2.2.2.1 2 (by decide)
  have h24 : 2 ^ N 2 ≤ 2 ^ 24 := Nat.pow_le_pow_right (by decide) hN
  have hsh : (1 : Int32) <<< (nI (N 2) &&& 31) = nI (2 ^ N 2) := by
    have := pk_shlN (n := 1) (nI (N 2) &&& 31) (N 2) (f_sh (N 2) (by omega)).1 (by omega)
    rw [Nat.one_mul] at this
    exact this
  rw [B_X12_isTold_0, e2, hsh]
  by_cases c : x < 0
  · rw [if_pos c, if_neg]
    intro z
    obtain ⟨s, hs, rfl⟩ := (q_sto_iff x hN).mpr z
    exact nI_pos (by omega) c
  · obtain ⟨j, hj, rfl⟩ := nI_of c
    rw [if_neg c, pk_tn (by omega)]
    by_cases z : j < 2 ^ N 2
    · rw [if_pos z, if_neg (nI_ge z (by omega))]
    · rw [if_neg z, if_pos (nI_le (by omega) hj)]
end ONE
