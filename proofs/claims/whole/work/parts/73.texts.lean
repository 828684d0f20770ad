/-! texts: what both sides read and write -/
def q_nb (T : Nat → Int32) (n p : Nat) : Int32 := if p < n then T p else -1
def q_tap (T : Nat → Int32) (n : Nat) : Prop := n ≤ 50 ∧ ∀ i, i < n → ∃ c, c < 256 ∧ T i = nI c
/-- the class's text at a place -/
def q_tc2 (g : Nat → Nat → Int32) (u : Nat) (T : Nat → Int32) (n p l : Nat) : Prop := q_ti g 19 50 1 n ∧ (∀ i, i < n → g 20 i = T i) ∧ g 67 3 = nI u ∧ g 67 4 = nI p ∧ g 67 2 = nI l
/-- the Model's text at a place -/
def q_tm2 (g : Nat → Nat → Int32) (r u : Nat) (T : Nat → Int32) (n p l op : Nat) (bd : Bool) : Prop := g 100 8 = nI n ∧ (∀ i, i < n → g 131 i = T i) ∧ g 100 6 = nI r ∧ g 98 51 = nI u ∧ g 98 48 = nI p ∧ g 98 52 = nI l ∧ g 98 49 = nI op ∧ g 98 50 = bI bd
def q_fc2 (g g2 : Nat → Nat → Int32) (l : Nat) : Prop := ∀ p j, ¬ (p = 67 ∧ (j = 2 ∨ j = 4)) → ¬ (p = 68 ∧ l ≤ j) → g2 p j = g p j
def q_fm2 (g g2 : Nat → Nat → Int32) (r l : Nat) : Prop := ∀ p j, ¬ (p = 98 ∧ 48 ≤ j ∧ j < 53 ∧ j ≠ 51) → ¬ ((p = 129 ∨ p = 130) ∧ 50 * r + l ≤ j ∧ j < 50 * r + 50) → g2 p j = g p j
theorem fc2_tr {g g2 g3 : Nat → Nat → Int32} {l l2 : Nat} (h : q_fc2 g g2 l) (h2 : q_fc2 g2 g3 l2) (hl : l ≤ l2) : q_fc2 g g3 l := fun p j a b => (h2 p j a (fun z => b ⟨z.1, Nat.le_trans hl z.2⟩)).trans (h p j a b)
theorem fm2_tr {g g2 g3 : Nat → Nat → Int32} {r l l2 : Nat} (h : q_fm2 g g2 r l) (h2 : q_fm2 g2 g3 r l2) (hl : l ≤ l2) : q_fm2 g g3 r l := fun p j a b => (h2 p j a (fun z => b ⟨z.1, by omega, z.2.2⟩)).trans (h p j a b)
theorem tc2_fr {g g2 : Nat → Nat → Int32} {u : Nat} {T : Nat → Int32} {n p l p2 l2 : Nat} (h : q_tc2 g u T n p l) (hg : ∀ q j, q = 19 ∨ q = 20 ∨ (q = 67 ∧ j = 3) → g2 q j = g q j) (h4 : g2 67 4 = nI p2) (h2 : g2 67 2 = nI l2) : q_tc2 g2 u T n p2 l2 := ⟨ti_fr h.1 (fun k => hg _ _ (Or.inl rfl)), fun i hi => (hg _ _ (by omega)).trans (h.2.1 i hi), (hg _ _ (by omega)).trans h.2.2.1, h4, h2⟩
theorem tm2_fr {g g2 : Nat → Nat → Int32} {r u : Nat} {T : Nat → Int32} {n p l op p2 l2 op2 : Nat} {bd bd2 : Bool} (h : q_tm2 g r u T n p l op bd) (hg : ∀ q j, q = 100 ∨ q = 131 ∨ (q = 98 ∧ j = 51) → g2 q j = g q j) (h48 : g2 98 48 = nI p2) (h52 : g2 98 52 = nI l2) (h49 : g2 98 49 = nI op2) (h50 : g2 98 50 = bI bd2) : q_tm2 g2 r u T n p2 l2 op2 bd2 := ⟨(hg _ _ (Or.inl rfl)).trans h.1, fun i hi => (hg _ _ (by omega)).trans (h.2.1 i hi), (hg _ _ (Or.inl rfl)).trans h.2.2.1, (hg _ _ (by omega)).trans h.2.2.2.1, h48, h52, h49, h50⟩
/-- one number more, or one in place of another, or one in place of two -/
def q_one (cs : List Int32) : Prop := ∀ nm st, ∃ v, q_evl nm cs st = some (v :: st)
def q_rep (cs : List Int32) : Prop := ∀ nm x st, ∃ v, q_evl nm cs (x :: st) = some (v :: st)
theorem rep_nil : q_rep [] := fun _ x _ => ⟨x, rfl⟩
theorem one_rep {a b : List Int32} (h : q_one a) (h2 : q_rep b) : q_one (a ++ b) := fun nm st => by
  obtain ⟨v, e⟩ := h nm st
  obtain ⟨w, e2⟩ := h2 nm v st
  exact ⟨w, by rw [q_evl_app, e]; exact e2⟩
theorem rep_rep {a b : List Int32} (h : q_rep a) (h2 : q_rep b) : q_rep (a ++ b) := fun nm x st => by
  obtain ⟨v, e⟩ := h nm x st
  obtain ⟨w, e2⟩ := h2 nm v st
  exact ⟨w, by rw [q_evl_app, e]; exact e2⟩
theorem one_bin {a : List Int32} (h : q_one a) {c : Int32} (h1 : ¬ c < 1000) (h2 : ¬ c < 2000) (h3 : ¬ c = 2033) : q_rep (a ++ [c]) := fun nm x st => by
  obtain ⟨v, e⟩ := h nm (x :: st)
  refine ⟨q_jn (c - 2000) x v, ?_⟩
  rw [q_evl_app, e]
  show (q_stk nm c (v :: x :: st)).bind (fun l2 => some l2) = _
  unfold q_stk
  rw [if_neg h1, if_neg h2, if_neg h3]
  rfl
theorem one_not {a : List Int32} (h : q_one a) : q_one (a ++ [2033]) := fun nm st => by
  obtain ⟨v, e⟩ := h nm st
  refine ⟨if v = 0 then 1 else 0, ?_⟩
  rw [q_evl_app, e]
  show (q_stk nm 2033 (v :: st)).bind (fun l2 => some l2) = _
  unfold q_stk
  rw [if_neg (by decide), if_neg (by decide), if_pos rfl]
  rfl
theorem one_num {c : Int32} (h : c < 1000) : q_one [c] := fun nm st => ⟨c, by
  show (q_stk nm c st).bind (fun l2 => some l2) = _
  unfold q_stk
  rw [if_pos h]; rfl⟩
theorem one_name {c : Int32} (h : ¬ c < 1000) (h2 : c < 2000) : q_one [c] := fun nm st => ⟨nm (q_cl2 (c - 1000)), by
  show (q_stk nm c st).bind (fun l2 => some l2) = _
  unfold q_stk
  rw [if_neg h, if_pos h2]; rfl⟩
section TXT
variable {o : q_H} {g : Nat → Nat → Int32} {u r n p l op : Nat} {T : Nat → Int32} {bd : Bool}
theorem q_tb19 : q_tb 19 50 1 := ⟨⟨by decide, rfl⟩, rfl, rfl, rfl, rfl, ⟨by decide, rfl, rfl⟩, by decide, by decide, by decide⟩
theorem z_next (h : q_tc2 g u T n p l) (hp : p ≤ 50) (d : Nat) : q_sem (d + 2) mX8_next 0 [.ref 67] [] (q_K o g) = some (some (.int (q_nb T n p)), q_K o g) := by
  have hn := h.1.2.2.2
  rw [B_X8_next_0, h.2.2.2.1, s_has _ q_tb19, h.1.2.2.1]
  unfold q_nb
  by_cases c : p < n
  · rw [if_pos ⟨nI_pos' (by omega), nI_lt c (by omega)⟩, if_pos c]
    simp only [Option.bind_some, Option.toList_some, Option.toList_none, List.cons_append, List.nil_append, B_X8_next_11, (by decide : ¬ (1 : Int32) = 0), ↓reduceIte, h.2.2.2.1, z_get1 q_tb19 h.1 c, show g (19 + 1) p = _ from h.2.1 p c, B_X8_next_11, B_X8_next_26]
  · rw [if_neg (fun z => nI_nlt (by omega) (by omega) z.2), if_neg c]
    simp only [Option.bind_some, Option.toList_some, Option.toList_none, List.cons_append, List.nil_append, B_X8_next_11, ↓reduceIte]
theorem m_byte (h : q_tm2 g r u T n p l op bd) (hn : n ≤ 50) (hp : p ≤ 50) (d : Nat) : q_sem d mX12_byteHere 0 [.ref 98] [] (q_K o g) = some (some (.int (q_nb T n p)), q_K o g) := by
  rw [B_X12_byteHere_0, h.1, h.2.2.2.2.1]
  unfold q_nb
  by_cases c : p < n
  · rw [if_neg (nI_ge c (by omega)), q_rgN (show p < 50 by omega) (by decide), h.2.1 p c, if_pos c]
  · rw [if_pos (nI_le (by omega) (by omega)), if_neg c]
theorem m_may (h : q_tm2 g r u T n p l op bd) (hn : n ≤ 50) (hp : p ≤ 50) (x : Int32) (d : Nat) : q_sem (d + 1) mX12_may 0 [.ref 98, .int x] [] (q_K o g) = if bd = false ∧ q_nb T n p = x then some (some (.int 1), q_K o (q_up g 98 48 (nI (p + 1)))) else some (some (.int 0), q_K o g) := by
  rw [B_X12_may_0, h.2.2.2.2.2.2.2]
  cases bd
  · rw [if_pos (show bI false = 0 from rfl), m_byte h hn hp]
    simp only [Option.bind_some, Option.toList_some, Option.toList_none, List.cons_append, List.nil_append, B_X12_may_11, h.2.2.2.2.1, nI_1]
    by_cases c : q_nb T n p = x
    · rw [if_pos c, if_pos ⟨trivial, c⟩]
    · rw [if_neg c, if_neg (fun z => c z.2)]
  · rw [if_neg (show ¬ bI true = 0 by decide), if_neg (fun z => absurd z.1 (by decide))]
theorem m_does (h : q_tm2 g r u T n p l op bd) (hr : r < 12) (hl : l < 50) (x y : Int32) (d : Nat) : q_sem d mX12_does 0 [.ref 98, .int x, .int y, .retAddr 0] [] (q_K o g) = some (none, q_K o (q_up (q_up (q_up g 129 (50 * r + l) x) 130 (50 * r + l) y) 98 52 (nI (l + 1)))) := by
  have e : (50 : Int32) * nI r + nI l = nI (50 * r + l) := by rw [show (50 : Int32) = nI 50 from rfl, pk_mul, nI_add]
  rw [B_X12_does_0, h.2.2.1, h.2.2.2.2.2.1, e, q_rgN (show 50 * r + l < 600 by omega) (by decide), q_rgN (show 50 * r + l < 600 by omega) (by decide), q_upN (show 98 ≠ 130 by decide), q_upN (show 98 ≠ 129 by decide), h.2.2.2.2.2.1, nI_1]
theorem z_emit (h : q_tc2 g u T n p l) (hl : l < 50) (x : Int32) (d : Nat) : q_sem d mX8_emit 0 [.ref 67, .int x] [] (q_K o g) = some (none, q_K o (q_up (q_up g 68 l x) 67 2 (nI (l + 1)))) := by
  rw [B_X8_emit_0, h.2.2.2.2, if_neg (nI_pos (by omega)), if_neg (show ¬ (50 : Int32) ≤ nI l from nI_ge (b := 50) hl (by decide)), q_rgN (show l < 50 by omega) (by decide), q_upN (show 67 ≠ 68 by decide), h.2.2.2.2, nI_1]
/-- what a name stands for; 4: for nothing -/
def q_nam (u c : Nat) : Nat := q_fst (fun i => decide (q_way (10 + u) i = (nI c).toInt8.toInt32)) (if u = 2 then 2 else 4) 0
theorem f_nam : (List.range 256).all (fun c => decide ((if nI c = 102 then (0 : Int32) else if nI c = 109 then 1 else if nI c = 119 then 2 else if nI c = 116 then 3 else -1) = (if q_nam 0 c < 4 then nI (q_nam 0 c) else -1)) && (decide ((if nI c = 115 then (0 : Int32) else if nI c = 104 then 1 else if nI c = 97 then 2 else if nI c = 110 then 3 else -1) = (if q_nam 1 c < 4 then nI (q_nam 1 c) else -1)) && decide ((if nI c = 100 then (0 : Int32) else if nI c = 117 then 1 else -1) = (if q_nam 2 c < 2 then nI (q_nam 2 c) else -1)))) = true := by decide +kernel
/-- the name's number; -1: none -/
def q_nmo (u c : Nat) : Int32 := if q_nam u c < (if u = 2 then 2 else 4) then nI (q_nam u c) else -1
theorem z_nameOf (ho : q_oR o) (h : q_tc2 g u T n p l) (hu : u < 3) {c : Nat} (hc : c < 256) (d : Nat) : q_sem (d + 4) mX8_nameOf 0 [.ref 67, .int (nI c), .retAddr 0] [] (q_K o g) = some (some (.int (q_nmo u c)), q_K o g) := by
  have hch : ((nI c).toUInt32 % 65536).toInt32 = nI c := by
    rw [pk_char, pk_tn (by omega), Nat.mod_eq_of_lt (by omega)]
  have i0 := j_idx0 (g := g) ho d hc
  have i1 := j_idx1 (g := g) ho d hc
  have i2 := j_idx2 (g := g) ho d hc
  rw [B_X8_nameOf_0, if_pos (nI_pos' (by omega)), h.2.2.1, hch]
  rcases u with _ | _ | _ | u
  · rw [if_pos (show nI 0 = 0 from rfl), i0]
    simp only [Option.bind_some, Option.toList_some, Option.toList_none, List.cons_append, List.nil_append, B_X8_nameOf_40, B_X8_nameOf_40a, B_X8_nameOf_40b]
    rfl
  · rw [if_neg (show ¬ nI 1 = 0 by decide), if_pos (show nI 1 = 1 from rfl), i1]
    simp only [Option.bind_some, Option.toList_some, Option.toList_none, List.cons_append, List.nil_append, B_X8_nameOf_40, B_X8_nameOf_40a, B_X8_nameOf_40b]
    rfl
  · rw [if_neg (show ¬ nI 2 = 0 by decide), if_neg (show ¬ nI 2 = 1 by decide), i2]
    simp only [Option.bind_some, Option.toList_some, Option.toList_none, List.cons_append, List.nil_append, B_X8_nameOf_40, B_X8_nameOf_40a, B_X8_nameOf_40b]
    rfl
  · omega
theorem z_nameN (d : Nat) : q_sem (d + 1) mX8_nameOf 0 [.ref 67, .int (-1), .retAddr 0] [] (q_K o g) = some (some (.int (-1)), q_K o g) := by
  rw [B_X8_nameOf_0, if_neg (by decide)]
theorem m_nameOf (h : q_tm2 g r u T n p l op bd) (hu : u < 3) {c : Nat} (hc : c < 256) (d : Nat) : q_sem d mX12_nameOf 0 [.ref 98, .int (nI c)] [] (q_K o g) = some (some (.int (q_nmo u c)), q_K o g) := by
  have f := q_rall f_nam hc
  rw [Bool.and_eq_true, Bool.and_eq_true] at f
  have f0 := of_decide_eq_true f.1
  have f1 := of_decide_eq_true f.2.1
  have f2 := of_decide_eq_true f.2.2
  rw [B_X12_nameOf_0, h.2.2.2.1]
  rcases u with _ | _ | _ | u
  · rw [if_pos (show nI 0 = 0 from rfl), show q_nmo 0 c = _ from f0.symm]
    split
    · rfl
    · split
      · rfl
      · split
        · rfl
        · split <;> rfl
  · rw [if_neg (show ¬ nI 1 = 0 by decide), if_pos (show nI 1 = 1 from rfl), show q_nmo 1 c = _ from f1.symm]
    split
    · rfl
    · split
      · rfl
      · split
        · rfl
        · split <;> rfl
  · rw [if_neg (show ¬ nI 2 = 0 by decide), if_neg (show ¬ nI 2 = 1 by decide), show q_nmo 2 c = _ from f2.symm]
    split
    · rfl
    · split <;> rfl
  · omega
theorem m_nameN (h : q_tm2 g r u T n p l op bd) (hu : u < 3) (d : Nat) : q_sem d mX12_nameOf 0 [.ref 98, .int (-1)] [] (q_K o g) = some (some (.int (-1)), q_K o g) := by
  rw [B_X12_nameOf_0, h.2.2.2.1]
  rcases u with _ | _ | _ | u
  · rfl
  · rfl
  · rfl
  · omega
end TXT
