/-! judge -/
def q_dif (s u : Nat) : Nat := s ^^^ (s &&& u)
theorem dif_tb (s u i : Nat) : (q_dif s u).testBit i = (s.testBit i && !u.testBit i) := by
  unfold q_dif
  rw [Nat.testBit_xor, Nat.testBit_and]
  cases s.testBit i <;> cases u.testBit i <;> rfl
theorem dif_lt {s u n : Nat} (hs : s < 2 ^ n) : q_dif s u < 2 ^ n := Nat.xor_lt_two_pow hs (Nat.lt_of_le_of_lt Nat.and_le_left hs)
theorem nI_dif {s u : Nat} (hs : s < 2 ^ 31) (hu : u < 2 ^ 31) : nI s &&& (nI u ^^^ (-1)) = nI (q_dif s u) := by
  have hd : q_dif s u < 2 ^ 31 := dif_lt hs
  apply Int32.toBitVec_inj.mp
  apply BitVec.eq_of_getLsbD_eq
  intro i hi
  simp only [Int32.toBitVec_and, Int32.toBitVec_xor, BitVec.getLsbD_and, BitVec.getLsbD_xor]
  have e1 : (nI s).toBitVec.getLsbD i = s.testBit i := by rw [BitVec.getLsbD, pk_tn (by omega)]
  have e2 : (nI u).toBitVec.getLsbD i = u.testBit i := by rw [BitVec.getLsbD, pk_tn (by omega)]
  have e5 : (nI (q_dif s u)).toBitVec.getLsbD i = (q_dif s u).testBit i := by rw [BitVec.getLsbD, pk_tn (by omega)]
  have e3 : (-1 : Int32).toBitVec.getLsbD i = true := by
    have : ∀ i, i < 32 → (-1 : Int32).toBitVec.getLsbD i = true := by decide
    exact this i hi
  rw [e1, e2, e3, e5, dif_tb]
  cases s.testBit i <;> cases u.testBit i <;> rfl
/-- whether a plot may be followed here -/
def q_jo (S : Nat → Nat → Int32) (N : Nat → Nat) (s : Nat) (P : Nat → Nat) (k used : Nat) (v : Int32) : Bool := q_hs v (N 2) && (s.testBit (q_cl2 v) && (!used.testBit (q_cl2 v) && decide (q_mf S (q_cl2 v) (P k))))
def q_jg (S : Nat → Nat → Int32) (N : Nat → Nat) (s : Nat) (P : Nat → Nat) (it : Nat → Int32) : Nat → Nat → Nat → Nat → Int32
  | 0, _, n, _ => nI n
  | t + 1, k, n, used => if it k = -1 then q_jg S N s P it t (k + 1) (n + 1) used else if q_jo S N s P k used (it k) = true then q_jg S N s P it t (k + 1) n (used ||| 2 ^ q_cl2 (it k)) else -1
theorem jg_s (S : Nat → Nat → Int32) (N : Nat → Nat) (s : Nat) (P : Nat → Nat) (it : Nat → Int32) (t k n used : Nat) : q_jg S N s P it (t + 1) k n used = if it k = -1 then q_jg S N s P it t (k + 1) (n + 1) used else if q_jo S N s P k used (it k) = true then q_jg S N s P it t (k + 1) n (used ||| 2 ^ q_cl2 (it k)) else -1 := rfl
section JDG
variable {o : q_H} {g S : Nat → Nat → Int32} {N : Nat → Nat} {s sh : Nat} {it : Nat → Int32}
theorem z_tracksL (hr : repC 1 g S N) (hf : q_wf S N) (hN : N 2 ≤ 24) (hs : s < 2 ^ N 2) {R : Nat} (hR : q_cnt (fun i => s.testBit i) (N 2) = R) (hV : q_sV g sh R it) (d : Nat) : ∀ t p n used (v7 : Value), p + t = N 2 → used < 2 ^ 24 → (v7 = .retAddr 0 ∨ ∃ z, v7 = .int z) → q_sem (d + 6) mX11_tracksOf 11 [.ref 0, .int (nI s), .int (nI sh), .int (nI n), .int (nI (q_cnt (fun i => s.testBit i) p)), .int (nI used), .int (nI p), v7] [] (q_K o g) = some (some (.int (q_jg S N s (q_pos (fun i => s.testBit i) (N 2)) it (R - q_cnt (fun i => s.testBit i) p) (q_cnt (fun i => s.testBit i) p) n used)), q_K o g) := by
  have hs24 : s < 2 ^ 24 := Nat.lt_of_lt_of_le hs (Nat.pow_le_pow_right (by decide) hN)
  intro t
  induction t with
  | zero =>
    intro p n used v7 hp hu hx
    obtain rfl : p = N 2 := by omega
    have c1 : nI (N 2) ≤ nI (N 2) := nI_le (Nat.le_refl _) (by omega)
    rw [hR, Nat.sub_self]
    rcases hx with rfl | ⟨z, rfl⟩
    · rw [B_X11_tracksOf_11, r_size_pl hr]
      simp only [Option.bind_some, Option.toList_some, Option.toList_none, List.cons_append, List.nil_append, B_X11_tracksOf_23, c1, ↓reduceIte]; rfl
    · rw [B_X11_tracksOf_11a, r_size_pl hr]
      simp only [Option.bind_some, Option.toList_some, Option.toList_none, List.cons_append, List.nil_append, B_X11_tracksOf_23a, c1, ↓reduceIte]; rfl
  | succ t ih =>
    intro p n used v7 hp hu hx
    have c1 : ¬ nI (N 2) ≤ nI p := nI_ge (by omega) (by omega)
    have hcs := cnt_s (fun i => s.testBit i) p
    cases e : s.testBit p
    · rw [e, if_neg (by decide)] at hcs
      have ih0 := fun v7 hx => ih (p + 1) n used v7 (by omega) hu hx
      rw [hcs] at ih0
      rcases hx with rfl | ⟨z, rfl⟩
      · rw [B_X11_tracksOf_11, r_size_pl hr]
        simp only [Option.bind_some, Option.toList_some, Option.toList_none, List.cons_append, List.nil_append, B_X11_tracksOf_23, c1, ↓reduceIte, z_isIn hs24 (show p < 32 by omega), e, bI_f, B_X11_tracksOf_32, nI_1]
        exact ih0 _ (Or.inl rfl)
      · rw [B_X11_tracksOf_11a, r_size_pl hr]
        simp only [Option.bind_some, Option.toList_some, Option.toList_none, List.cons_append, List.nil_append, B_X11_tracksOf_23a, c1, ↓reduceIte, z_isIn hs24 (show p < 32 by omega), e, bI_f, B_X11_tracksOf_32a, nI_1]
        exact ih0 _ (Or.inr ⟨_, rfl⟩)
    · rw [e, if_pos rfl] at hcs
      have hm := cnt_mono (fun i => s.testBit i) (show p + 1 ≤ N 2 by omega)
      have hpo := pos_of (f := fun i => s.testBit i) (n := N 2) (q := p) (by omega) e
      generalize q_pos (fun i => s.testBit i) (N 2) = P at *
      generalize hk : q_cnt (fun i => s.testBit i) p = k at *
      have hkR : k < R := by omega
      have ih1 := fun n used v7 hu hx => ih (p + 1) n used v7 (by omega) hu hx
      rw [hcs] at ih1
      rw [show R - k = (R - (k + 1)) + 1 by omega, jg_s]
      have go : ∀ A : Option (Option Value × q_H), (A = if it k = -1 then q_sem (d + 6) mX11_tracksOf 11 [.ref 0, .int (nI s), .int (nI sh), .int (nI (n + 1)), .int (nI (k + 1)), .int (nI used), .int (nI (p + 1)), .int (it k)] [] (q_K o g) else (q_sem (d + 5) mX11_isIn 0 [.int (nI (q_dif s used)), .int (it k)] [] (q_K o g)).bind (fun r => q_sem (d + 6) mX11_tracksOf 76 [.ref 0, .int (nI s), .int (nI sh), .int (nI n), .int (nI (k + 1)), .int (nI used), .int (nI p), .int (it k)] (r.1.toList ++ []) r.2)) → A = some (some (.int (if it k = -1 then q_jg S N s P it (R - (k + 1)) (k + 1) (n + 1) used else if q_jo S N s P k used (it k) = true then q_jg S N s P it (R - (k + 1)) (k + 1) n (used ||| 2 ^ q_cl2 (it k)) else -1)), q_K o g) := by
        intro A hA
        rw [hA]
        by_cases e1 : it k = -1
        · rw [if_pos e1, if_pos e1]
          exact ih1 (n + 1) used _ hu (Or.inr ⟨_, rfl⟩)
        · rw [if_neg e1, if_neg e1]
          have hd24 : q_dif s used < 2 ^ 24 := dif_lt hs24
          cases e2 : q_hs (it k) (N 2)
          · have hj : q_jo S N s P k used (it k) = false := by unfold q_jo; rw [e2]; rfl
            rw [hj, if_neg (by decide)]
            have hno : q_sem (d + 5) mX11_isIn 0 [.int (nI (q_dif s used)), .int (it k)] [] (q_K o g) = some (some (.int 0), q_K o g) := by
              cases e3 : q_in (it k) 0 31
              · exact z_isInO e3 (d + 3)
              · obtain ⟨i, _, h2, h3⟩ := q_in_t (a := 0) (b := 31) e3 (by decide) (by decide)
                rw [h3] at e2 ⊢
                have hiN : N 2 ≤ i := by
                  apply Nat.le_of_not_lt
                  intro z
                  rw [q_hs_n z (by omega)] at e2
                  exact absurd e2 (by decide)
                rw [z_isIn hd24 (show i < 32 by omega), dif_tb, Nat.testBit_lt_two_pow (Nat.lt_of_lt_of_le hs (Nat.pow_le_pow_right (by decide) hiN))]
                rfl
            rw [hno]
            simp only [Option.bind_some, Option.toList_some, Option.toList_none, List.cons_append, List.nil_append, B_X11_tracksOf_76, ↓reduceIte]
          · obtain ⟨i, hi, ei⟩ := q_hs_t e2 (by omega)
            have ecl : q_cl2 (it k) = i := by rw [ei]; exact nI_clamp (by omega)
            have hj : q_jo S N s P k used (it k) = (s.testBit i && (!used.testBit i && decide (q_mf S i (P k)))) := by unfold q_jo; rw [e2, ecl]; rfl
            rw [hj, ecl]
            have hin : q_sem (d + 5) mX11_isIn 0 [.int (nI (q_dif s used)), .int (it k)] [] (q_K o g) = some (some (.int (bI (s.testBit i && !used.testBit i))), q_K o g) := by
              rw [ei, z_isIn hd24 (show i < 32 by omega), dif_tb]
            have hmf := z_mayBeFollowed (o := o) hr hf (d + 2) hi (show p < N 2 by omega)
            rw [← ei] at hmf
            rw [hin]
            simp only [Option.bind_some, Option.toList_some, Option.toList_none, List.cons_append, List.nil_append, B_X11_tracksOf_76]
            cases e4 : s.testBit i
            · rw [Bool.false_and, Bool.false_and, bI_f, if_pos rfl]; rfl
            cases e5 : used.testBit i
            rotate_left
            · rw [show (true && !true) = false from rfl, show (true && (!true && decide (q_mf S i (P k)))) = false from rfl, bI_f, if_pos rfl]; rfl
            rw [show (true && !false) = true from rfl, bI_t, if_neg (by decide), hmf]
            simp only [Option.bind_some, Option.toList_some, Option.toList_none, List.cons_append, List.nil_append, B_X11_tracksOf_90, hpo, nI_1]
            cases e6 : decide (q_mf S i p)
            · rw [bI_f, if_pos rfl]; rfl
            · rw [bI_t, if_neg (by decide), show (true && (!false && true)) = true from rfl, if_pos rfl]
              have hfo : (1 : Int32) <<< (it k &&& 31) = nI (2 ^ i) := by rw [ei]; exact f_one i (by omega)
              rw [hfo, nI_or (by omega) (Nat.pow_lt_pow_right (by decide) (show i < 32 by omega))]
              exact ih1 n (used ||| 2 ^ i) _ (Nat.or_lt_two_pow hu (Nat.pow_lt_pow_right (by decide) (by omega))) (Or.inr ⟨_, rfl⟩)
      apply go
      rcases hx with rfl | ⟨z, rfl⟩
      · rw [B_X11_tracksOf_11, r_size_pl hr]
        simp only [Option.bind_some, Option.toList_some, Option.toList_none, List.cons_append, List.nil_append, B_X11_tracksOf_23, c1, ↓reduceIte, z_isIn hs24 (show p < 32 by omega), e, bI_t, (by decide : ¬ (1 : Int32) = 0), B_X11_tracksOf_32, z_getS hV hkR, B_X11_tracksOf_51, nI_1, nI_dif (show s < 2 ^ 31 by omega) (show used < 2 ^ 31 by omega)]
      · rw [B_X11_tracksOf_11a, r_size_pl hr]
        simp only [Option.bind_some, Option.toList_some, Option.toList_none, List.cons_append, List.nil_append, B_X11_tracksOf_23a, c1, ↓reduceIte, z_isIn hs24 (show p < 32 by omega), e, bI_t, (by decide : ¬ (1 : Int32) = 0), B_X11_tracksOf_32a, z_getS hV hkR, B_X11_tracksOf_51a, nI_1, nI_dif (show s < 2 ^ 31 by omega) (show used < 2 ^ 31 by omega)]
theorem m_judgeL (hm : repM g S N) (hf : q_wf S N) (hs : s < 2 ^ 24) {R : Nat} {P : Nat → Nat} (hR : R ≤ 9) (h45 : g 98 45 = nI R) (h138 : ∀ i, i < R → g 138 i = nI (P i)) (hP : ∀ i, i < R → P i < N 2) (hsh : sh < 4) (hit : ∀ i, i < 24 → g 137 (24 * sh + i) = it i) (d : Nat) : ∀ t k n used (v6 : Value), k + t = R → used < 2 ^ 24 → (v6 = .retAddr 0 ∨ ∃ z, v6 = .int z) → q_sem (d + 6) mX12_judge 84 [.ref 98, .int (nI s), .int (nI sh), .int (nI n), .int (nI used), .int (nI k), v6] [] (q_K o g) = some (some (.int (q_jg S N s P it t k n used)), q_K o g) := by
  have hN := m_c2 hm
  intro t
  induction t with
  | zero =>
    intro k n used v6 hk hu hx
    have c1 : nI R ≤ nI k := nI_le (by omega) (by omega)
    rcases hx with rfl | ⟨z, rfl⟩
    · rw [B_X12_judge_84, h45, if_pos c1]; rfl
    · rw [B_X12_judge_84a, h45, if_pos c1]; rfl
  | succ t ih =>
    intro k n used v6 hk hu hx
    have c1 : ¬ nI R ≤ nI k := nI_ge (by omega) (by omega)
    have e24 : (24 : Int32) * nI sh + nI k = nI (24 * sh + k) := by rw [show (24 : Int32) = nI 24 from rfl, pk_mul, nI_add]
    rw [jg_s]
    have go : ∀ A : Option (Option Value × q_H), (A = if it k = -1 then q_sem (d + 6) mX12_judge 84 [.ref 98, .int (nI s), .int (nI sh), .int (nI (n + 1)), .int (nI used), .int (nI (k + 1)), .int (it k)] [] (q_K o g) else (q_sem (d + 5) mX12_isOf 0 [.ref 98, .int 2, .int (it k)] [] (q_K o g)).bind (fun r => q_sem (d + 6) mX12_judge 126 [.ref 98, .int (nI s), .int (nI sh), .int (nI n), .int (nI used), .int (nI k), .int (it k)] (r.1.toList ++ []) r.2)) → A = some (some (.int (if it k = -1 then q_jg S N s P it t (k + 1) (n + 1) used else if q_jo S N s P k used (it k) = true then q_jg S N s P it t (k + 1) n (used ||| 2 ^ q_cl2 (it k)) else -1)), q_K o g) := by
      intro A hA
      rw [hA]
      by_cases e1 : it k = -1
      · rw [if_pos e1, if_pos e1]
        exact ih (k + 1) (n + 1) used _ (by omega) hu (Or.inr ⟨_, rfl⟩)
      · rw [if_neg e1, if_neg e1, y_isOf2 hm]
        simp only [Option.bind_some, Option.toList_some, Option.toList_none, List.cons_append, List.nil_append]
        rw [B_X12_judge_126]
        cases e2 : q_hs (it k) (N 2)
        · have hj : q_jo S N s P k used (it k) = false := by unfold q_jo; rw [e2]; rfl
          rw [hj, if_neg (show ¬ false = true by decide), bI_f, if_pos rfl]
        · obtain ⟨i, hi, ei⟩ := q_hs_t e2 (by omega)
          have ecl : q_cl2 (it k) = i := by rw [ei]; exact nI_clamp (by omega)
          have hj : q_jo S N s P k used (it k) = (s.testBit i && (!used.testBit i && decide (q_mf S i (P k)))) := by unfold q_jo; rw [e2, ecl]; rfl
          rw [hj, ecl, bI_t, if_neg (by decide)]
          have hmf := m_mayFollow (o := o) hm hf (d + 2) hi (hP k (by omega))
          rw [← ei, ← h138 k (by omega)] at hmf
          have hb1 : (nI s >>> (it k &&& 31)) &&& 1 = nI (if s.testBit i then 1 else 0) := by rw [ei]; exact bit24 hs (by omega)
          have hb2 : (nI used >>> (it k &&& 31)) &&& 1 = nI (if used.testBit i then 1 else 0) := by rw [ei]; exact bit24 hu (by omega)
          rw [hb1, hb2]
          cases e4 : s.testBit i
          · rw [if_pos (show nI (if false = true then 1 else 0) = 0 by decide), Bool.false_and, if_neg (by decide)]
          rw [if_neg (show ¬ nI (if true = true then 1 else 0) = 0 by decide)]
          cases e5 : used.testBit i
          rotate_left
          · rw [if_pos (show nI (if true = true then 1 else 0) = 1 by decide), show (true && (!true && decide (q_mf S i (P k)))) = false from rfl, if_neg (by decide)]
          rw [if_neg (show ¬ nI (if false = true then 1 else 0) = 1 by decide), q_rgN (show k < 9 by omega) (by decide), hmf]
          simp only [Option.bind_some, Option.toList_some, Option.toList_none, List.cons_append, List.nil_append, B_X12_judge_162, nI_1]
          cases e6 : decide (q_mf S i (P k))
          · rw [bI_f, if_pos rfl]; rfl
          · rw [bI_t, if_neg (by decide), show (true && (!false && true)) = true from rfl, if_pos rfl]
            have hfo : (1 : Int32) <<< (it k &&& 31) = nI (2 ^ i) := by rw [ei]; exact f_one i (by omega)
            rw [hfo, nI_or (by omega) (Nat.pow_lt_pow_right (by decide) (show i < 32 by omega))]
            exact ih (k + 1) n (used ||| 2 ^ i) _ (by omega) (Nat.or_lt_two_pow hu (Nat.pow_lt_pow_right (by decide) (by omega))) (Or.inr ⟨_, rfl⟩)
    apply go
    rcases hx with rfl | ⟨z, rfl⟩
    · rw [B_X12_judge_84, h45, if_neg c1, e24, q_rgN (show 24 * sh + k < 96 by omega) (by decide), hit k (by omega), nI_1, nI_1]
    · rw [B_X12_judge_84a, h45, if_neg c1, e24, q_rgN (show 24 * sh + k < 96 by omega) (by decide), hit k (by omega), nI_1, nI_1]
end JDG
theorem law_judge {o : q_H} {n : Nat} {g : Nat → Nat → Int32} (hR : q_R n g) (ho : q_oR o) (d : Nat) (x1 : Int32) (x2 : Int32) : ∃ v g1 g2, q_sem (d + 30) mX11_judge 0 [.ref 0, .int x1, .int x2, .retAddr 0, .retAddr 0] [] (q_K o g) = some (some (.int v), q_K o g1) ∧ q_sem (d + 30) mX12_judge 0 [.ref 98, .int x1, .int x2, .retAddr 0, .retAddr 0, .retAddr 0, .retAddr 0] [] (q_K o g1) = some (some (.int v), q_K o g2) ∧ q_R n g2 := by
  obtain ⟨⟨S, N, hr, hm, hk⟩, ha⟩ := id hR
  have hs0 := ha.2.1
  have hN : N 2 ≤ 24 := m_c2 hm
  have hN24 : 2 ^ N 2 ≤ 2 ^ 24 := Nat.pow_le_pow_right (by decide) hN
  by_cases c1 : x1.toBitVec.toNat < 2 ^ N 2
  rotate_left
  · exact ⟨-1000001, q_fb g 1, q_fm (q_fb g 1) 1, by simp only [B_X11_judge_0, B_X11_judge_5, B_X11_judge_13, B_X11_judge_22, B_X11_judge_37, B_X11_judge_32, B_X11_judge_47, B_X11_judge_68, B_X11_judge_58, B_X11_judge_75, z_within, z_isCell, z_fin1, z_fin2, z_fin3, z_fin4, z_fin5, Option.bind_some, Option.toList_some, Option.toList_none, List.cons_append, List.nil_append, bI_t, bI_f, i10, i00, i11, i01, ↓reduceIte, Bool.false_eq_true, z_arePlots hr hN, c1], (by have hm := repM_fb (k := 1) hm; simp only [B_X12_judge_0, B_X12_judge_5, B_X12_judge_21, B_X12_judge_12, B_X12_judge_37, B_X12_judge_42, B_X12_judge_48, B_X12_judge_70, B_X12_judge_61, B_X12_judge_76, B_X12_judge_126, B_X12_judge_162, y_in, y_isCell, y_fin1, y_fin2, y_fin3, y_fin4, y_fin5, Option.bind_some, Option.toList_some, Option.toList_none, List.cons_append, List.nil_append, bI_t, bI_f, i10, i00, i11, i01, ↓reduceIte, Bool.false_eq_true, m_isTold hm hN, c1]), R_fin hR (by decide)⟩
  cases c2 : q_hs x2 4
  · exact ⟨-1000001, q_fb g 1, q_fm (q_fb g 1) 1, by simp only [B_X11_judge_0, B_X11_judge_5, B_X11_judge_13, B_X11_judge_22, B_X11_judge_37, B_X11_judge_32, B_X11_judge_47, B_X11_judge_68, B_X11_judge_58, B_X11_judge_75, z_within, z_isCell, z_fin1, z_fin2, z_fin3, z_fin4, z_fin5, Option.bind_some, Option.toList_some, Option.toList_none, List.cons_append, List.nil_append, bI_t, bI_f, i10, i00, i11, i01, ↓reduceIte, Bool.false_eq_true, z_arePlots hr hN, (by decide : ¬ (1 : Int32) = 0), x_wantN hs0.1 c2, c1, c2], (by have hm := repM_fb (k := 1) hm; simp only [B_X12_judge_0, B_X12_judge_5, B_X12_judge_21, B_X12_judge_12, B_X12_judge_37, B_X12_judge_42, B_X12_judge_48, B_X12_judge_70, B_X12_judge_61, B_X12_judge_76, B_X12_judge_126, B_X12_judge_162, y_in, y_isCell, y_fin1, y_fin2, y_fin3, y_fin4, y_fin5, Option.bind_some, Option.toList_some, Option.toList_none, List.cons_append, List.nil_append, bI_t, bI_f, i10, i00, i11, i01, ↓reduceIte, Bool.false_eq_true, m_isTold hm hN, (by decide : ¬ (1 : Int32) = 0), y_isSheet, c1, c2]), R_fin hR (by decide)⟩
  obtain ⟨sh, hsh, rfl⟩ := q_hs_t c2 (by decide)
  obtain ⟨a1, a2, _, ⟨nn, hn, a3⟩, a4, _⟩ := hs0.2 sh hsh
  obtain ⟨s, hs, rfl⟩ := (q_sto_iff x1 hN).mpr c1
  have hs24 : s < 2 ^ 24 := by omega
  by_cases w1 : g 135 sh = 0
  · exact ⟨-1000002, q_fb g 2, q_fm (q_fb g 2) 2, by simp only [B_X11_judge_0, B_X11_judge_5, B_X11_judge_13, B_X11_judge_22, B_X11_judge_37, B_X11_judge_32, B_X11_judge_47, B_X11_judge_68, B_X11_judge_58, B_X11_judge_75, z_within, z_isCell, z_fin1, z_fin2, z_fin3, z_fin4, z_fin5, Option.bind_some, Option.toList_some, Option.toList_none, List.cons_append, List.nil_append, bI_t, bI_f, i10, i00, i11, i01, ↓reduceIte, Bool.false_eq_true, z_arePlots hr hN, (by decide : ¬ (1 : Int32) = 0), (by decide : ¬ (2 : Int32) = 0), x_want hs0.1 hsh, a1, c1, c2, w1], (by have hm := repM_fb (k := 2) hm; simp only [B_X12_judge_0, B_X12_judge_5, B_X12_judge_21, B_X12_judge_12, B_X12_judge_37, B_X12_judge_42, B_X12_judge_48, B_X12_judge_70, B_X12_judge_61, B_X12_judge_76, B_X12_judge_126, B_X12_judge_162, y_in, y_isCell, y_fin1, y_fin2, y_fin3, y_fin4, y_fin5, Option.bind_some, Option.toList_some, Option.toList_none, List.cons_append, List.nil_append, bI_t, bI_f, i10, i00, i11, i01, ↓reduceIte, Bool.false_eq_true, m_isTold hm hN, (by decide : ¬ (1 : Int32) = 0), y_isSheet, q_fb_ne (show 135 ≠ 97 by decide), q_rgN hsh (show 4 < 2 ^ 31 by decide), c1, c2, w1]), R_fin hR (by decide)⟩
  have hcn := c24_n hs hN
  have hle := q_cnt_le (fun i => s.testBit i) 24
  have hc24 : q_c24 s < 25 := Nat.lt_succ_of_le hle
  have es : g 71 (sh * 26 + 1) = nI nn := a2.trans a3
  by_cases c3 : 1 ≤ q_c24 s ∧ q_c24 s ≤ 9
  rotate_left
  · exact ⟨-1000005, q_fb g 5, q_fm (q_fb g 5) 5, by simp only [B_X11_judge_0, B_X11_judge_5, B_X11_judge_13, B_X11_judge_22, B_X11_judge_37, B_X11_judge_32, B_X11_judge_47, B_X11_judge_68, B_X11_judge_58, B_X11_judge_75, z_within, z_isCell, z_fin1, z_fin2, z_fin3, z_fin4, z_fin5, Option.bind_some, Option.toList_some, Option.toList_none, List.cons_append, List.nil_append, bI_t, bI_f, i10, i00, i11, i01, ↓reduceIte, Bool.false_eq_true, z_arePlots hr hN, (by decide : ¬ (1 : Int32) = 0), (by decide : ¬ (2 : Int32) = 0), x_want hs0.1 hsh, a1, z_bc24 _ hs24, f_in9 _ hc24, decide_eq_false c3, c1, c2, w1], (by have hm := repM_fb (k := 5) hm; simp only [B_X12_judge_0, B_X12_judge_5, B_X12_judge_21, B_X12_judge_12, B_X12_judge_37, B_X12_judge_42, B_X12_judge_48, B_X12_judge_70, B_X12_judge_61, B_X12_judge_76, B_X12_judge_126, B_X12_judge_162, y_in, y_isCell, y_fin1, y_fin2, y_fin3, y_fin4, y_fin5, Option.bind_some, Option.toList_some, Option.toList_none, List.cons_append, List.nil_append, bI_t, bI_f, i10, i00, i11, i01, ↓reduceIte, Bool.false_eq_true, m_isTold hm hN, (by decide : ¬ (1 : Int32) = 0), y_isSheet, q_fb_ne (show 135 ≠ 97 by decide), q_rgN hsh (show 4 < 2 ^ 31 by decide), m_ones24 _ hs24, f_in9 _ hc24, decide_eq_false c3, c1, c2, w1]), R_fin hR (by decide)⟩
  by_cases c4 : nn = q_c24 s
  rotate_left
  · have c5 : ¬ nI nn = nI (q_c24 s) := fun z => c4 ((nI_eq (by omega) (by omega)).mp z)
    exact ⟨-1000005, q_fb g 5, q_fm (q_fb g 5) 5, by simp only [B_X11_judge_0, B_X11_judge_5, B_X11_judge_13, B_X11_judge_22, B_X11_judge_37, B_X11_judge_32, B_X11_judge_47, B_X11_judge_68, B_X11_judge_58, B_X11_judge_75, z_within, z_isCell, z_fin1, z_fin2, z_fin3, z_fin4, z_fin5, Option.bind_some, Option.toList_some, Option.toList_none, List.cons_append, List.nil_append, bI_t, bI_f, i10, i00, i11, i01, ↓reduceIte, Bool.false_eq_true, z_arePlots hr hN, (by decide : ¬ (1 : Int32) = 0), (by decide : ¬ (2 : Int32) = 0), x_want hs0.1 hsh, x_size hs0.1 hsh, es, a1, z_bc24 _ hs24, f_in9 _ hc24, decide_eq_true c3, c5, c1, c2, w1], (by have hm := repM_fb (k := 5) hm; simp only [B_X12_judge_0, B_X12_judge_5, B_X12_judge_21, B_X12_judge_12, B_X12_judge_37, B_X12_judge_42, B_X12_judge_48, B_X12_judge_70, B_X12_judge_61, B_X12_judge_76, B_X12_judge_126, B_X12_judge_162, y_in, y_isCell, y_fin1, y_fin2, y_fin3, y_fin4, y_fin5, Option.bind_some, Option.toList_some, Option.toList_none, List.cons_append, List.nil_append, bI_t, bI_f, i10, i00, i11, i01, ↓reduceIte, Bool.false_eq_true, m_isTold hm hN, (by decide : ¬ (1 : Int32) = 0), y_isSheet, q_fb_ne (show 135 ≠ 97 by decide), q_fb_ne (show 136 ≠ 97 by decide), q_rgN hsh (show 4 < 2 ^ 31 by decide), m_ones24 _ hs24, f_in9 _ hc24, decide_eq_true c3, a3, c5, c1, c2, w1]), R_fin hR (by decide)⟩
  have hcnt : q_cnt (fun i => s.testBit i) (N 2) = q_c24 s := hcn.symm
  have hPs : ∀ i, i < q_c24 s → q_pos (fun i => s.testBit i) (N 2) i < N 2 := fun i hi => (pos_spec (by omega)).1
  have hV : q_sV g sh (q_c24 s) (fun i => g 137 (24 * sh + i)) := ⟨hs0.1, hsh, by omega, by rw [es, c4], a4⟩
  have hc := z_tracksL (o := o) hr hk.1 hN hs hcnt hV (d + 23) (N 2) 0 0 0 (.retAddr 0) (by omega) (by decide) (Or.inl rfl)
  rw [show q_cnt (fun i => s.testBit i) 0 = 0 from rfl, Nat.sub_zero] at hc
  obtain ⟨h1, e3, k45, k138, f3⟩ := m_takes (o := o) hm hs24 (by omega) (d + 29)
  rw [hcnt] at k45 k138
  have hm1 : repM h1 S N := m_fr hm (fun p a b j => f3 _ _ (by omega) (by omega))
  have hmj := m_judgeL (o := o) (s := s) (it := fun i => g 137 (24 * sh + i)) hm1 hk.1 hs24 c3.2 k45 k138 hPs hsh (fun i hi => f3 _ _ (by decide) (by omega)) (d + 24) (q_c24 s) 0 0 0 (.retAddr 0) (by omega) (by decide) (Or.inl rfl)
  refine ⟨q_jg S N s (q_pos (fun i => s.testBit i) (N 2)) (fun i => g 137 (24 * sh + i)) (q_c24 s) 0 0 0, g, h1, ?_, ?_, R_scr hR (tis_fr ha.2.2.2.2.2 (fun p k z => f3 p k (by omega) (by omega))) (fun p k a b c => f3 p k (by omega) (by omega))⟩
  rotate_left
  · simp only [B_X12_judge_0, B_X12_judge_5, B_X12_judge_12, B_X12_judge_42, B_X12_judge_48, B_X12_judge_61, y_in, y_isCell, y_fin1, y_fin2, y_fin3, y_fin4, y_fin5, Option.bind_some, Option.toList_some, Option.toList_none, List.cons_append, List.nil_append, bI_t, bI_f, i10, i00, i11, i01, ↓reduceIte, Bool.false_eq_true, m_isTold hm hN, (by decide : ¬ (1 : Int32) = 0), y_isSheet, q_rgN hsh (show 4 < 2 ^ 31 by decide), m_ones24 _ hs24, f_in9 _ hc24, decide_eq_true c3, a3, c4, c1, c2, w1, e3, B_X12_judge_76]
    exact hmj
  · have hc' : q_sem (d + 29) mX11_tracksOf 11 [.ref 0, .int (nI s), .int (nI sh), .int 0, .int 0, .int 0, .int 0, .retAddr 0] [] (q_K o g) = _ := hc
    simp only [B_X11_judge_0, B_X11_judge_5, B_X11_judge_13, B_X11_judge_22, B_X11_judge_37, B_X11_judge_32, B_X11_judge_47, B_X11_judge_68, B_X11_judge_58, B_X11_judge_75, z_within, z_isCell, z_fin1, z_fin2, z_fin3, z_fin4, z_fin5, Option.bind_some, Option.toList_some, Option.toList_none, List.cons_append, List.nil_append, bI_t, bI_f, i10, i00, i11, i01, ↓reduceIte, Bool.false_eq_true, z_arePlots hr hN, (by decide : ¬ (1 : Int32) = 0), (by decide : ¬ (2 : Int32) = 0), x_want hs0.1 hsh, x_size hs0.1 hsh, es, c4, a1, z_bc24 _ hs24, f_in9 _ hc24, decide_eq_true c3, c1, c2, w1, B_X11_tracksOf_0, hc']
