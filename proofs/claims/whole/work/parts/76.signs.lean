section SGN
variable {o : q_H} {u r n op : Nat} {T : Nat → Int32} {g : Nat → Nat → Int32}
def q_sg0 (c : Int32) : Option Int32 := if c = 124 then some 2 else none
def q_sg1 (c : Int32) : Option Int32 := if c = 38 then some 3 else none
def q_sg2 (c : Int32) : Option Int32 := if c = 60 then some 4 else if c = 61 then some 5 else if c = 62 then some 6 else none
def q_sg3 (c : Int32) : Option Int32 := if c = 43 then some 7 else if c = 45 then some 8 else none
def q_sg4 (c : Int32) : Option Int32 := if c = 42 then some 9 else none
theorem sg_c0 (c i : Int32) (h : q_sg0 c = some i) : q_cdM i 0 (2000 + c) ∧ q_cod (2000 + c) ∧ ¬ 2000 + c < 1000 ∧ ¬ 2000 + c < 2000 ∧ ¬ 2000 + c = 2033 := by
  unfold q_sg0 at h
  split at h
  · next e =>
    subst e
    rw [← Option.some.inj h]
    exact ⟨by unfold q_cdM; simp, Or.inr (Or.inr ⟨by decide, by decide⟩), by decide, by decide, by decide⟩
  · simp at h
theorem sg_c1 (c i : Int32) (h : q_sg1 c = some i) : q_cdM i 0 (2000 + c) ∧ q_cod (2000 + c) ∧ ¬ 2000 + c < 1000 ∧ ¬ 2000 + c < 2000 ∧ ¬ 2000 + c = 2033 := by
  unfold q_sg1 at h
  split at h
  · next e =>
    subst e
    rw [← Option.some.inj h]
    exact ⟨by unfold q_cdM; simp, Or.inr (Or.inr ⟨by decide, by decide⟩), by decide, by decide, by decide⟩
  · simp at h
theorem sg_c2 (c i : Int32) (h : q_sg2 c = some i) : q_cdM i 0 (2000 + c) ∧ q_cod (2000 + c) ∧ ¬ 2000 + c < 1000 ∧ ¬ 2000 + c < 2000 ∧ ¬ 2000 + c = 2033 := by
  unfold q_sg2 at h
  split at h
  · next e =>
    subst e
    rw [← Option.some.inj h]
    exact ⟨by unfold q_cdM; simp, Or.inr (Or.inr ⟨by decide, by decide⟩), by decide, by decide, by decide⟩
  · split at h
    · next e =>
      subst e
      rw [← Option.some.inj h]
      exact ⟨by unfold q_cdM; simp, Or.inr (Or.inr ⟨by decide, by decide⟩), by decide, by decide, by decide⟩
    · split at h
      · next e =>
        subst e
        rw [← Option.some.inj h]
        exact ⟨by unfold q_cdM; simp, Or.inr (Or.inr ⟨by decide, by decide⟩), by decide, by decide, by decide⟩
      · simp at h
theorem sg_c3 (c i : Int32) (h : q_sg3 c = some i) : q_cdM i 0 (2000 + c) ∧ q_cod (2000 + c) ∧ ¬ 2000 + c < 1000 ∧ ¬ 2000 + c < 2000 ∧ ¬ 2000 + c = 2033 := by
  unfold q_sg3 at h
  split at h
  · next e =>
    subst e
    rw [← Option.some.inj h]
    exact ⟨by unfold q_cdM; simp, Or.inr (Or.inr ⟨by decide, by decide⟩), by decide, by decide, by decide⟩
  · split at h
    · next e =>
      subst e
      rw [← Option.some.inj h]
      exact ⟨by unfold q_cdM; simp, Or.inr (Or.inr ⟨by decide, by decide⟩), by decide, by decide, by decide⟩
    · simp at h
theorem sg_c4 (c i : Int32) (h : q_sg4 c = some i) : q_cdM i 0 (2000 + c) ∧ q_cod (2000 + c) ∧ ¬ 2000 + c < 1000 ∧ ¬ 2000 + c < 2000 ∧ ¬ 2000 + c = 2033 := by
  unfold q_sg4 at h
  split at h
  · next e =>
    subst e
    rw [← Option.some.inj h]
    exact ⟨by unfold q_cdM; simp, Or.inr (Or.inr ⟨by decide, by decide⟩), by decide, by decide, by decide⟩
  · simp at h
theorem sim_T (hT : q_tap T n) (hr : r < 12) (d e : Nat) (hsub : q_sim o r u T n op (fun g => q_sem (d + 2) mX8_level 0 [.ref 67, .int 1, .int (nI op), .retAddr 0, .retAddr 0, .retAddr 0] [] (q_K o g)) (fun g => q_sem (e + 1) mX12_readA 0 [.ref 98] [] (q_K o g))) : q_sim o r u T n op (fun g => q_sem (d + 3) mX8_level 0 [.ref 67, .int 0, .int (nI op), .retAddr 0, .retAddr 0, .retAddr 0] [] (q_K o g)) (fun g => q_sem (e + 2) mX12_readT 0 [.ref 98] [] (q_K o g)) := by
  have hn := hT.1
  refine lvl_sim hT hr (by decide) (by decide) q_sg0 (fun c d g => ?_) sg_c0 rfl d e _ (fun g => q_sem (e + 2) mX12_readT 4 [.ref 98] [] (q_K o g)) _ hsub (fun g p l bd h hp hor => ?_) (fun g p l i h hp hs g2 g3 e2 e3 => ?_) (fun g g1 e1 => ?_)
  · rw [B_X8_joins_0, if_pos rfl]; unfold q_sg0; split <;> rfl
  · show q_sem (e + 2) mX12_readT 4 [.ref 98] [] (q_K o g) = _
    have hno : ¬ (bd = false ∧ q_nb T n p = 124) := fun z => by
      rcases hor with y | y
      · rw [z.1] at y; exact absurd y (by decide)
      · rw [z.2] at y; exact absurd y (by decide)
    rw [B_X12_readT_4, m_may h hn (by omega), if_neg hno]
    simp only [Option.bind_some, Option.toList_some, Option.toList_none, List.cons_append, List.nil_append, B_X12_readT_10, ↓reduceIte]
  · show q_sem (e + 2) mX12_readT 4 [.ref 98] [] (q_K o g) = q_sem (e + 2) mX12_readT 4 [.ref 98] [] (q_K o g3)
    have hc : q_nb T n p = 124 ∧ i = 2 := by
      unfold q_sg0 at hs
      split at hs
      · next y => exact ⟨y, (Option.some.inj hs).symm⟩
      · simp at hs
    obtain ⟨hc, rfl⟩ := hc
    have e2' : q_sem (e + 1) mX12_readA 0 [.ref 98] [] (q_K o (q_up g 98 48 (nI (p + 1)))) = _ := e2
    rw [B_X12_readT_4, m_may h hn (by omega), if_pos ⟨rfl, hc⟩]
    simp only [Option.bind_some, Option.toList_some, Option.toList_none, List.cons_append, List.nil_append, B_X12_readT_10, (by decide : ¬ (1 : Int32) = 0), ↓reduceIte, e2', B_X12_readT_17, e3, B_X12_readT_23]
  · show q_sem (e + 2) mX12_readT 0 [.ref 98] [] (q_K o g) = q_sem (e + 2) mX12_readT 4 [.ref 98] [] (q_K o g1)
    have e1' : q_sem (e + 1) mX12_readA 0 [.ref 98] [] (q_K o g) = _ := e1
    rw [B_X12_readT_0, e1']
    simp only [Option.bind_some, Option.toList_some, Option.toList_none, List.cons_append, List.nil_append]
theorem sim_A (hT : q_tap T n) (hr : r < 12) (d e : Nat) (hsub : q_sim o r u T n op (fun g => q_sem (d + 2) mX8_level 0 [.ref 67, .int 2, .int (nI op), .retAddr 0, .retAddr 0, .retAddr 0] [] (q_K o g)) (fun g => q_sem (e + 1) mX12_readB 0 [.ref 98, .retAddr 0] [] (q_K o g))) : q_sim o r u T n op (fun g => q_sem (d + 3) mX8_level 0 [.ref 67, .int 1, .int (nI op), .retAddr 0, .retAddr 0, .retAddr 0] [] (q_K o g)) (fun g => q_sem (e + 2) mX12_readA 0 [.ref 98] [] (q_K o g)) := by
  have hn := hT.1
  refine lvl_sim hT hr (by decide) (by decide) q_sg1 (fun c d g => ?_) sg_c1 rfl d e _ (fun g => q_sem (e + 2) mX12_readA 4 [.ref 98] [] (q_K o g)) _ hsub (fun g p l bd h hp hor => ?_) (fun g p l i h hp hs g2 g3 e2 e3 => ?_) (fun g g1 e1 => ?_)
  · rw [B_X8_joins_0, if_neg (by decide), if_pos rfl]; unfold q_sg1; split <;> rfl
  · show q_sem (e + 2) mX12_readA 4 [.ref 98] [] (q_K o g) = _
    have hno : ¬ (bd = false ∧ q_nb T n p = 38) := fun z => by
      rcases hor with y | y
      · rw [z.1] at y; exact absurd y (by decide)
      · rw [z.2] at y; exact absurd y (by decide)
    rw [B_X12_readA_4, m_may h hn (by omega), if_neg hno]
    simp only [Option.bind_some, Option.toList_some, Option.toList_none, List.cons_append, List.nil_append, B_X12_readA_10, ↓reduceIte]
  · show q_sem (e + 2) mX12_readA 4 [.ref 98] [] (q_K o g) = q_sem (e + 2) mX12_readA 4 [.ref 98] [] (q_K o g3)
    have hc : q_nb T n p = 38 ∧ i = 3 := by
      unfold q_sg1 at hs
      split at hs
      · next y => exact ⟨y, (Option.some.inj hs).symm⟩
      · simp at hs
    obtain ⟨hc, rfl⟩ := hc
    have e2' : q_sem (e + 1) mX12_readB 0 [.ref 98, .retAddr 0] [] (q_K o (q_up g 98 48 (nI (p + 1)))) = _ := e2
    rw [B_X12_readA_4, m_may h hn (by omega), if_pos ⟨rfl, hc⟩]
    simp only [Option.bind_some, Option.toList_some, Option.toList_none, List.cons_append, List.nil_append, B_X12_readA_10, (by decide : ¬ (1 : Int32) = 0), ↓reduceIte, e2', B_X12_readA_17, e3, B_X12_readA_23]
  · show q_sem (e + 2) mX12_readA 0 [.ref 98] [] (q_K o g) = q_sem (e + 2) mX12_readA 4 [.ref 98] [] (q_K o g1)
    have e1' : q_sem (e + 1) mX12_readB 0 [.ref 98, .retAddr 0] [] (q_K o g) = _ := e1
    rw [B_X12_readA_0, e1']
    simp only [Option.bind_some, Option.toList_some, Option.toList_none, List.cons_append, List.nil_append]
theorem sim_P (hT : q_tap T n) (hr : r < 12) (d e : Nat) (hsub : q_sim o r u T n op (fun g => q_sem (d + 2) mX8_level 0 [.ref 67, .int 5, .int (nI op), .retAddr 0, .retAddr 0, .retAddr 0] [] (q_K o g)) (fun g => q_sem (e + 1) mX12_readQ 0 [.ref 98, .retAddr 0, .retAddr 0, .retAddr 0] [] (q_K o g))) : q_sim o r u T n op (fun g => q_sem (d + 3) mX8_level 0 [.ref 67, .int 4, .int (nI op), .retAddr 0, .retAddr 0, .retAddr 0] [] (q_K o g)) (fun g => q_sem (e + 2) mX12_readP 0 [.ref 98] [] (q_K o g)) := by
  have hn := hT.1
  refine lvl_sim hT hr (by decide) (by decide) q_sg4 (fun c d g => ?_) sg_c4 rfl d e _ (fun g => q_sem (e + 2) mX12_readP 4 [.ref 98] [] (q_K o g)) _ hsub (fun g p l bd h hp hor => ?_) (fun g p l i h hp hs g2 g3 e2 e3 => ?_) (fun g g1 e1 => ?_)
  · rw [B_X8_joins_0, if_neg (by decide), if_neg (by decide), if_neg (by decide), if_neg (by decide)]; unfold q_sg4; split <;> rfl
  · show q_sem (e + 2) mX12_readP 4 [.ref 98] [] (q_K o g) = _
    have hno : ¬ (bd = false ∧ q_nb T n p = 42) := fun z => by
      rcases hor with y | y
      · rw [z.1] at y; exact absurd y (by decide)
      · rw [z.2] at y; exact absurd y (by decide)
    rw [B_X12_readP_4, m_may h hn (by omega), if_neg hno]
    simp only [Option.bind_some, Option.toList_some, Option.toList_none, List.cons_append, List.nil_append, B_X12_readP_10, ↓reduceIte]
  · show q_sem (e + 2) mX12_readP 4 [.ref 98] [] (q_K o g) = q_sem (e + 2) mX12_readP 4 [.ref 98] [] (q_K o g3)
    have hc : q_nb T n p = 42 ∧ i = 9 := by
      unfold q_sg4 at hs
      split at hs
      · next y => exact ⟨y, (Option.some.inj hs).symm⟩
      · simp at hs
    obtain ⟨hc, rfl⟩ := hc
    have e2' : q_sem (e + 1) mX12_readQ 0 [.ref 98, .retAddr 0, .retAddr 0, .retAddr 0] [] (q_K o (q_up g 98 48 (nI (p + 1)))) = _ := e2
    rw [B_X12_readP_4, m_may h hn (by omega), if_pos ⟨rfl, hc⟩]
    simp only [Option.bind_some, Option.toList_some, Option.toList_none, List.cons_append, List.nil_append, B_X12_readP_10, (by decide : ¬ (1 : Int32) = 0), ↓reduceIte, e2', B_X12_readP_17, e3, B_X12_readP_24]
  · show q_sem (e + 2) mX12_readP 0 [.ref 98] [] (q_K o g) = q_sem (e + 2) mX12_readP 4 [.ref 98] [] (q_K o g1)
    have e1' : q_sem (e + 1) mX12_readQ 0 [.ref 98, .retAddr 0, .retAddr 0, .retAddr 0] [] (q_K o g) = _ := e1
    rw [B_X12_readP_0, e1']
    simp only [Option.bind_some, Option.toList_some, Option.toList_none, List.cons_append, List.nil_append]
theorem m_may_c (x : Int32) (d : Nat) : q_sem (d + 1) mX12_may 0 [.ref 98, .int x] [] (q_K o g) = none ∨ ∃ y g2, q_sem (d + 1) mX12_may 0 [.ref 98, .int x] [] (q_K o g) = some (some (.int y), q_K o g2) := by
  rw [B_X12_may_0]
  split
  · rw [B_X12_byteHere_0]
    split
    · simp only [Option.bind_some, Option.toList_some, Option.toList_none, List.cons_append, List.nil_append, B_X12_may_11]
      split
      · exact Or.inr ⟨_, _, rfl⟩
      · exact Or.inr ⟨_, _, rfl⟩
    · unfold q_rg
      split
      · simp only [Option.bind_some, Option.toList_some, Option.toList_none, List.cons_append, List.nil_append, B_X12_may_11]
        split
        · exact Or.inr ⟨_, _, rfl⟩
        · exact Or.inr ⟨_, _, rfl⟩
      · exact Or.inl rfl
  · exact Or.inr ⟨_, _, rfl⟩
theorem readS_hd (e : Nat) (x1 : Int32) : q_sem (e + 2) mX12_readS 48 [.ref 98, .int x1] [] (q_K o g) = q_sem (e + 2) mX12_readS 4 [.ref 98, .retAddr 0] [] (q_K o g) := by
  rw [B_X12_readS_48, B_X12_readS_4]
  rcases m_may_c (o := o) (g := g) 43 e with h | ⟨y, g2, h⟩
  · rw [h]; rfl
  · rw [h]
    simp only [Option.bind_some, Option.toList_some, Option.toList_none, List.cons_append, List.nil_append, B_X12_readS_54, B_X12_readS_10]
    split
    · rcases m_may_c (o := o) (g := g2) 45 e with h2 | ⟨y2, g3, h2⟩
      · rw [h2]; rfl
      · rw [h2]
        simp only [Option.bind_some, Option.toList_some, Option.toList_none, List.cons_append, List.nil_append, B_X12_readS_68, B_X12_readS_24]
    · rfl
theorem sim_S (hT : q_tap T n) (hr : r < 12) (d e : Nat) (hsub : q_sim o r u T n op (fun g => q_sem (d + 2) mX8_level 0 [.ref 67, .int 4, .int (nI op), .retAddr 0, .retAddr 0, .retAddr 0] [] (q_K o g)) (fun g => q_sem (e + 1) mX12_readP 0 [.ref 98] [] (q_K o g))) : q_sim o r u T n op (fun g => q_sem (d + 3) mX8_level 0 [.ref 67, .int 3, .int (nI op), .retAddr 0, .retAddr 0, .retAddr 0] [] (q_K o g)) (fun g => q_sem (e + 2) mX12_readS 0 [.ref 98, .retAddr 0] [] (q_K o g)) := by
  have hn := hT.1
  refine lvl_sim hT hr (by decide) (by decide) q_sg3 (fun c d g => ?_) sg_c3 rfl d e _ (fun g => q_sem (e + 2) mX12_readS 4 [.ref 98, .retAddr 0] [] (q_K o g)) _ hsub (fun g p l bd h hp hor => ?_) (fun g p l i h hp hs g2 g3 e2 e3 => ?_) (fun g g1 e1 => ?_)
  · rw [B_X8_joins_0, if_neg (by decide), if_neg (by decide), if_neg (by decide), if_pos rfl]; unfold q_sg3; split
    · rfl
    · split <;> rfl
  · show q_sem (e + 2) mX12_readS 4 [.ref 98, .retAddr 0] [] (q_K o g) = _
    have hno : ¬ (bd = false ∧ q_nb T n p = 43) := fun z => by
      rcases hor with y | y
      · rw [z.1] at y; exact absurd y (by decide)
      · rw [z.2] at y; exact absurd y (by decide)
    have hno2 : ¬ (bd = false ∧ q_nb T n p = 45) := fun z => by
      rcases hor with y | y
      · rw [z.1] at y; exact absurd y (by decide)
      · rw [z.2] at y; exact absurd y (by decide)
    rw [B_X12_readS_4, m_may h hn (by omega), if_neg hno]
    simp only [Option.bind_some, Option.toList_some, Option.toList_none, List.cons_append, List.nil_append, B_X12_readS_10, ↓reduceIte]
    rw [m_may h hn (by omega), if_neg hno2]
    simp only [Option.bind_some, Option.toList_some, Option.toList_none, List.cons_append, List.nil_append, B_X12_readS_24, ↓reduceIte, B_X12_readS_34, (by decide : (-1 : Int32) ≤ 0)]
  · show q_sem (e + 2) mX12_readS 4 [.ref 98, .retAddr 0] [] (q_K o g) = q_sem (e + 2) mX12_readS 4 [.ref 98, .retAddr 0] [] (q_K o g3)
    have e2' : q_sem (e + 1) mX12_readP 0 [.ref 98] [] (q_K o (q_up g 98 48 (nI (p + 1)))) = _ := e2
    unfold q_sg3 at hs
    split at hs
    · next hc =>
      obtain rfl := Option.some.inj hs
      rw [B_X12_readS_4, m_may h hn (by omega), if_pos ⟨rfl, hc⟩]
      simp only [Option.bind_some, Option.toList_some, Option.toList_none, List.cons_append, List.nil_append, B_X12_readS_10, (by decide : ¬ (1 : Int32) = 0), ↓reduceIte, B_X12_readS_34, (by decide : ¬ (7 : Int32) ≤ 0), e2', B_X12_readS_42, e3, readS_hd]
    · next hc0 =>
      split at hs
      · next hc =>
        obtain rfl := Option.some.inj hs
        rw [B_X12_readS_4, m_may h hn (by omega), if_neg (fun z => hc0 z.2)]
        simp only [Option.bind_some, Option.toList_some, Option.toList_none, List.cons_append, List.nil_append, B_X12_readS_10, ↓reduceIte]
        rw [m_may h hn (by omega), if_pos ⟨rfl, hc⟩]
        simp only [Option.bind_some, Option.toList_some, Option.toList_none, List.cons_append, List.nil_append, B_X12_readS_24, (by decide : ¬ (1 : Int32) = 0), ↓reduceIte, B_X12_readS_34, (by decide : ¬ (8 : Int32) ≤ 0), e2', B_X12_readS_42, e3, readS_hd]
      · simp at hs
  · show q_sem (e + 2) mX12_readS 0 [.ref 98, .retAddr 0] [] (q_K o g) = q_sem (e + 2) mX12_readS 4 [.ref 98, .retAddr 0] [] (q_K o g1)
    have e1' : q_sem (e + 1) mX12_readP 0 [.ref 98] [] (q_K o g) = _ := e1
    rw [B_X12_readS_0, e1']
    simp only [Option.bind_some, Option.toList_some, Option.toList_none, List.cons_append, List.nil_append]
theorem sim_B (hT : q_tap T n) (hr : r < 12) (d e : Nat) (hsub : q_sim o r u T n op (fun g => q_sem (d + 2) mX8_level 0 [.ref 67, .int 3, .int (nI op), .retAddr 0, .retAddr 0, .retAddr 0] [] (q_K o g)) (fun g => q_sem (e + 1) mX12_readS 0 [.ref 98, .retAddr 0] [] (q_K o g))) : q_sim o r u T n op (fun g => q_sem (d + 3) mX8_level 0 [.ref 67, .int 2, .int (nI op), .retAddr 0, .retAddr 0, .retAddr 0] [] (q_K o g)) (fun g => q_sem (e + 2) mX12_readB 0 [.ref 98, .retAddr 0] [] (q_K o g)) := by
  have hn := hT.1
  refine lvl_sim2 hT hr q_sg2 (fun c d g => ?_) sg_c2 rfl d e _ (fun g => q_sem (e + 2) mX12_readB 4 [.ref 98, .retAddr 0] [] (q_K o g)) _ hsub (fun g p l bd h hp hor => ?_) (fun g p l i h hp hs g2 g3 e2 e3 => ?_) (fun g g1 e1 => ?_)
  · rw [B_X8_joins_0, if_neg (by decide), if_neg (by decide), if_pos rfl]; unfold q_sg2; split
    · rfl
    · split
      · rfl
      · split <;> rfl
  · show q_sem (e + 2) mX12_readB 4 [.ref 98, .retAddr 0] [] (q_K o g) = _
    have hno : ∀ x, (q_sg2 x).isSome = true → ¬ (bd = false ∧ q_nb T n p = x) := fun x hx z => by
      rcases hor with y | y
      · rw [z.1] at y; exact absurd y (by decide)
      · rw [z.2] at y; rw [y] at hx; exact absurd hx (by decide)
    rw [B_X12_readB_4, m_may h hn (by omega), if_neg (hno 60 rfl)]
    simp only [Option.bind_some, Option.toList_some, Option.toList_none, List.cons_append, List.nil_append, B_X12_readB_10, ↓reduceIte]
    rw [m_may h hn (by omega), if_neg (hno 61 rfl)]
    simp only [Option.bind_some, Option.toList_some, Option.toList_none, List.cons_append, List.nil_append, B_X12_readB_23, ↓reduceIte]
    rw [m_may h hn (by omega), if_neg (hno 62 rfl)]
    simp only [Option.bind_some, Option.toList_some, Option.toList_none, List.cons_append, List.nil_append, B_X12_readB_36, ↓reduceIte]
  · show q_sem (e + 2) mX12_readB 4 [.ref 98, .retAddr 0] [] (q_K o g) = _
    have e2' : q_sem (e + 1) mX12_readS 0 [.ref 98, .retAddr 0] [] (q_K o (q_up g 98 48 (nI (p + 1)))) = _ := e2
    unfold q_sg2 at hs
    split at hs
    · next hc =>
      obtain rfl := Option.some.inj hs
      rw [B_X12_readB_4, m_may h hn (by omega), if_pos ⟨rfl, hc⟩]
      simp only [Option.bind_some, Option.toList_some, Option.toList_none, List.cons_append, List.nil_append, B_X12_readB_10, (by decide : ¬ (1 : Int32) = 0), ↓reduceIte, e2', B_X12_readB_54, e3, B_X12_readB_60]
    · next hc0 =>
      split at hs
      · next hc =>
        obtain rfl := Option.some.inj hs
        rw [B_X12_readB_4, m_may h hn (by omega), if_neg (fun z => hc0 z.2)]
        simp only [Option.bind_some, Option.toList_some, Option.toList_none, List.cons_append, List.nil_append, B_X12_readB_10, ↓reduceIte]
        rw [m_may h hn (by omega), if_pos ⟨rfl, hc⟩]
        simp only [Option.bind_some, Option.toList_some, Option.toList_none, List.cons_append, List.nil_append, B_X12_readB_23, (by decide : ¬ (1 : Int32) = 0), ↓reduceIte, e2', B_X12_readB_54, e3, B_X12_readB_60]
      · next hc1 =>
        split at hs
        · next hc =>
          obtain rfl := Option.some.inj hs
          rw [B_X12_readB_4, m_may h hn (by omega), if_neg (fun z => hc0 z.2)]
          simp only [Option.bind_some, Option.toList_some, Option.toList_none, List.cons_append, List.nil_append, B_X12_readB_10, ↓reduceIte]
          rw [m_may h hn (by omega), if_neg (fun z => hc1 z.2)]
          simp only [Option.bind_some, Option.toList_some, Option.toList_none, List.cons_append, List.nil_append, B_X12_readB_23, ↓reduceIte]
          rw [m_may h hn (by omega), if_pos ⟨rfl, hc⟩]
          simp only [Option.bind_some, Option.toList_some, Option.toList_none, List.cons_append, List.nil_append, B_X12_readB_36, (by decide : ¬ (1 : Int32) = 0), ↓reduceIte, e2', B_X12_readB_54, e3, B_X12_readB_60]
        · simp at hs
  · show q_sem (e + 2) mX12_readB 0 [.ref 98, .retAddr 0] [] (q_K o g) = q_sem (e + 2) mX12_readB 4 [.ref 98, .retAddr 0] [] (q_K o g1)
    have e1' : q_sem (e + 1) mX12_readS 0 [.ref 98, .retAddr 0] [] (q_K o g) = _ := e1
    rw [B_X12_readB_0, e1']
    simp only [Option.bind_some, Option.toList_some, Option.toList_none, List.cons_append, List.nil_append]
end SGN
