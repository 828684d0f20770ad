/-! what a rule is worth -/
def q_jn (c x y : Int32) : Int32 := if c = 38 then (if x = 0 then 0 else if y = 0 then 0 else 1) else if c = 43 then x + y else if c = 45 then x - y else if c = 60 then (if x < y then 1 else 0) else if c = 61 then (if x = y then 1 else 0) else if c = 62 then (if y < x then 1 else 0) else if c = 124 then (if x = 0 then (if y = 0 then 0 else 1) else 1) else x * y
def q_cod (c : Int32) : Prop := (∃ n, n < 1000 ∧ c = nI n) ∨ (∃ n, n < 4 ∧ c = nI (1000 + n)) ∨ (2000 < c ∧ c < 2200)
def q_stk (nm : Nat → Int32) (c : Int32) (l : List Int32) : Option (List Int32) :=
  if c < 1000 then some (c :: l) else if c < 2000 then some (nm (q_cl2 (c - 1000)) :: l) else if c = 2033 then (match l with
    | x :: l => some ((if x = 0 then 1 else 0) :: l)
    | [] => none) else (match l with
    | y :: x :: l => some (q_jn (c - 2000) x y :: l)
    | _ => none)
def q_evl (nm : Nat → Int32) : List Int32 → List Int32 → Option (List Int32)
  | [], l => some l
  | c :: cs, l => (q_stk nm c l).bind (fun l2 => q_evl nm cs l2)
theorem q_evl_app (nm : Nat → Int32) : ∀ (a b l : List Int32), q_evl nm (a ++ b) l = (q_evl nm a l).bind (fun l2 => q_evl nm b l2)
  | [], b, l => rfl
  | c :: a, b, l => by
    show (q_stk nm c l).bind (fun l2 => q_evl nm (a ++ b) l2) = ((q_stk nm c l).bind (fun l2 => q_evl nm a l2)).bind _
    cases q_stk nm c l with
    | none => rfl
    | some l2 => exact q_evl_app nm a b l2
def q_nm4 (a b c d : Int32) (n : Nat) : Int32 := if n = 0 then a else if n = 1 then b else if n = 2 then c else d
def q_cs (S : Nat → Nat → Int32) (r : Nat) : List Int32 := (List.range (q_cl2 (S 28 r))).map (fun i => S 29 (50 * r + i))
def q_rk (cs : List Int32) : Prop := (∀ c ∈ cs, q_cod c) ∧ ∀ nm, ∃ v, q_evl nm cs [] = some [v]
def q_rw (S : Nat → Nat → Int32) (N : Nat → Nat) : Prop := ∀ r, r < N 6 → q_cl2 (S 28 r) ≤ 50 ∧ S 28 r = nI (q_cl2 (S 28 r)) ∧ q_rk (q_cs S r)
def q_wo (S : Nat → Nat → Int32) (r : Nat) (a b c d : Int32) : Int32 := ((q_evl (q_nm4 a b c d) (q_cs S r) []).getD []).headD 0
theorem q_wo_eq {S : Nat → Nat → Int32} {r : Nat} {a b c d v : Int32} (h : q_evl (q_nm4 a b c d) (q_cs S r) [] = some [v]) : q_wo S r a b c d = v := by
  unfold q_wo
  rw [h]
  rfl
/-- a stack in a row of numbers, its top first in the list -/
def q_sk (a : Nat → Int32) : List Int32 → Prop
  | [] => True
  | v :: l => a l.length = v ∧ q_sk a l
theorem q_sk_up {g : Nat → Nat → Int32} {p n : Nat} {x : Int32} : ∀ {l : List Int32}, l.length ≤ n → q_sk (g p) l → q_sk (q_up g p n x p) l
  | [], _, _ => trivial
  | v :: l, h, hs => by
    rw [List.length_cons] at h
    exact ⟨(q_up_ne (by omega)).trans hs.1, q_sk_up (by omega) hs.2⟩
theorem q_stk_len {nm : Nat → Int32} {c : Int32} {l l2 : List Int32} (h : q_stk nm c l = some l2) : l2.length ≤ l.length + 1 := by
  unfold q_stk at h
  split at h
  · cases h; simp
  · split at h
    · cases h; simp
    · split at h
      · split at h
        · cases h; simp
        · cases h
      · split at h
        · cases h; simp
        · cases h
theorem q_cod_int {c : Int32} (h : q_cod c) : 0 ≤ c.toInt ∧ c.toInt < 2200 := by
  rcases h with ⟨n, hn, rfl⟩ | ⟨n, hn, rfl⟩ | ⟨h1, h2⟩
  · rw [nI_toInt (by omega)]; omega
  · rw [nI_toInt (by omega)]; omega
  · rw [Int32.lt_iff_toInt_lt] at h1 h2
    have e1 : (2000 : Int32).toInt = 2000 := by decide
    have e2 : (2200 : Int32).toInt = 2200 := by decide
    omega
section QWO
variable {o : q_H} {w : Nat} {g S : Nat → Nat → Int32} {N : Nat → Nat}
theorem repC_scr {g2 : Nat → Nat → Int32} (hr : repC w g S N) (h : q_o2 (w + 20) (w + 21) g g2) : repC w g2 S N := by
  refine ⟨hr.1, ?_, ?_, ?_, ?_, ?_⟩
  · intro q hq
    have hs : ∀ q ∈ q_tbs, q.1 < 19 := by decide
    have := hs q hq
    exact q_tr_fr (hr.2.1 q hq) (fun k => h _ _ (by omega) (by omega)) (fun k => h _ _ (by omega) (by omega)) (fun _ _ _ _ _ => rfl)
  · intro r h1 i h2 h3
    rw [h _ _ (by omega) (by omega)]
    exact hr.2.2.1 r h1 i h2 h3
  · rw [h _ _ (by omega) (by omega)]; exact hr.2.2.2.1
  · rw [h _ _ (by omega) (by omega)]; exact hr.2.2.2.2.1
  · rw [h _ _ (by omega) (by omega)]; exact hr.2.2.2.2.2
theorem q_o2_tr {p0 p1 : Nat} {g2 g3 : Nat → Nat → Int32} (h : q_o2 p0 p1 g g2) (h2 : q_o2 p0 p1 g2 g3) : q_o2 p0 p1 g g3 := fun p k a b => (h2 p k a b).trans (h p k a b)
theorem q_o2_fr20 {g2 : Nat → Nat → Int32} (h : q_o2 (w + 20) (w + 21) g g2) : q_fr w g g2 := q_o2_fr (a := 20) h (by decide)
theorem q_50 {n : Nat} (h : n < 50) : ¬ nI n < 0 ∧ ¬ (50 : Int32) ≤ nI n ∧ nI n < 50 := ⟨nI_pos (by omega), (by decide : (50 : Int32) = nI 50) ▸ nI_ge h (by omega), (by decide : (50 : Int32) = nI 50) ▸ nI_lt h (by omega)⟩
theorem c_push (hw : q_W w) (d : Nat) {n : Nat} (h : n < 50) (v : Int32) : q_sem d mX5_push 0 [.ref (w + 15), .int (nI n), .int v] [] (q_K o g) = some (some (.int (nI (n + 1))), q_K o (q_up g (w + 21) n v)) := by
  simp only [B_X5_push_0 hw, (q_50 h).1, (q_50 h).2.2, ↓reduceIte, q_rgN h (by decide), nI_1]
theorem c_peek (hw : q_W w) (d : Nat) {n : Nat} (h : n < 50) : q_sem d mX5_peek 0 [.ref (w + 15), .int (nI n)] [] (q_K o g) = some (some (.int (g (w + 21) n)), q_K o g) := by
  simp only [B_X5_peek_0 hw, (q_50 h).1, (q_50 h).2.1, ↓reduceIte, q_rgN h (by decide)]
theorem c_joined (d : Nat) (c x y : Int32) : q_sem d mX5_joined 0 [.int c, .int x, .int y] [] (q_K o g) = some (some (.int (q_jn c x y)), q_K o g) := by
  simp only [B_X5_joined_0, ← q_ltN, q_jn]
  repeat' split
  all_goals first | rfl | contradiction | (exfalso; simp_all; done)
theorem nI_pred2 (n : Nat) : nI (n + 2) - 2 = nI n := by
  have h1 := nI_pred (n + 1)
  have h2 := nI_pred n
  have e : nI (n + 2) - 2 = nI (n + 2) - 1 - 1 := by
    rw [Int32.sub_eq_add_neg, Int32.sub_eq_add_neg, Int32.sub_eq_add_neg, Int32.add_assoc]
    rfl
  rw [e, h1, h2]
theorem c_apply (hw : q_W w) (d : Nat) {nm : Nat → Int32} (hn : ∀ j, j < 4 → g (w + 20) j = nm j) {c : Int32} (hc : q_cod c) {l l2 : List Int32} (hl : l.length < 50) (hs : q_sk (g (w + 21)) l) (he : q_stk nm c l = some l2) : ∃ g2, q_sem (d + 1) mX5_apply 0 [.ref (w + 15), .int c, .int (nI l.length), .retAddr 0] [] (q_K o g) = some (some (.int (nI l2.length)), q_K o g2) ∧ q_sk (g2 (w + 21)) l2 ∧ ∀ p k, p ≠ w + 21 → g2 p k = g p k := by
  have hi := q_cod_int hc
  have t1 : (1000 : Int32).toInt = 1000 := by decide
  have t2 : (2000 : Int32).toInt = 2000 := by decide
  unfold q_stk at he
  by_cases h1 : c < 1000
  · rw [if_pos h1] at he
    cases he
    have h1' : ¬ 1000 ≤ c := by rw [q_ltN]; exact h1
    refine ⟨q_up g (w + 21) l.length c, ?_, ⟨q_up_eq, q_sk_up (Nat.le_refl _) hs⟩, fun p k h => q_up_ne (fun z => h z.1)⟩
    simp only [B_X5_apply_0 hw, B_X5_apply_70 hw, B_X5_apply_98 hw, B_X5_apply_51 hw, B_X5_apply_13 hw, B_X5_apply_81 hw, B_X5_apply_105 hw, B_X5_apply_108 hw, B_X5_apply_111 hw, h1', ↓reduceIte, c_push hw _ hl, Option.bind_some, Option.toList_some, Option.toList_none, List.cons_append, List.nil_append, List.length_cons]
  · rw [if_neg h1] at he
    have h1' : 1000 ≤ c := by rw [← q_leN]; exact h1
    by_cases h2 : c < 2000
    · rw [if_pos h2] at he
      cases he
      have h2' : ¬ 2000 ≤ c := by rw [q_ltN]; exact h2
      have hc2 : ∃ n, n < 4 ∧ c = nI (1000 + n) := by
        rcases hc with ⟨n, hn, rfl⟩ | h | h
        · exact absurd (by rw [Int32.lt_iff_toInt_lt, nI_toInt (by omega)]; omega) h1
        · exact h
        · rw [Int32.lt_iff_toInt_lt] at h2 h; have := h.1; omega
      obtain ⟨n, hn4, rfl⟩ := hc2
      have e1 : nI (1000 + n) - 1000 = nI n := by
        rw [← nI_add, Int32.add_comm, Int32.sub_eq_add_neg, Int32.add_assoc]
        show nI n + 0 = nI n
        rw [Int32.add_zero]
      have e2 : ¬ 4 ≤ nI n := (by decide : (4 : Int32) = nI 4) ▸ nI_ge hn4 (by omega)
      rw [e1, show q_cl2 (nI n) = n from nI_clamp (by omega)]
      refine ⟨q_up g (w + 21) l.length (g (w + 20) n), ?_, ⟨q_up_eq.trans (hn n hn4), q_sk_up (Nat.le_refl _) hs⟩, fun p k h => q_up_ne (fun z => h z.1)⟩
      simp only [B_X5_apply_0 hw, B_X5_apply_70 hw, B_X5_apply_98 hw, B_X5_apply_51 hw, B_X5_apply_13 hw, B_X5_apply_81 hw, B_X5_apply_105 hw, B_X5_apply_108 hw, B_X5_apply_111 hw, h1', h2', e1, e2, ↓reduceIte, q_rgN hn4 (by decide), c_push hw _ hl, Option.bind_some, Option.toList_some, Option.toList_none, List.cons_append, List.nil_append, List.length_cons]
    · rw [if_neg h2] at he
      have h2' : 2000 ≤ c := by rw [← q_leN]; exact h2
      by_cases h3 : c = 2033
      · rw [if_pos h3] at he
        cases l with
        | nil => cases he
        | cons x l =>
          cases he
          subst h3
          rw [List.length_cons] at hl
          have hl2 : l.length < 50 := by omega
          have e0 : g (w + 21) l.length = x := hs.1
          refine ⟨q_up g (w + 21) l.length (if x = 0 then 1 else 0), ?_, ⟨q_up_eq, q_sk_up (Nat.le_refl _) hs.2⟩, fun p k h => q_up_ne (fun z => h z.1)⟩
          simp only [B_X5_apply_0 hw, B_X5_apply_70 hw, B_X5_apply_98 hw, B_X5_apply_51 hw, B_X5_apply_13 hw, B_X5_apply_81 hw, B_X5_apply_105 hw, B_X5_apply_108 hw, B_X5_apply_111 hw, h1', h2', ↓reduceIte, List.length_cons, nI_pred, c_peek hw _ hl2, c_push hw _ hl2, Option.bind_some, Option.toList_some, Option.toList_none, List.cons_append, List.nil_append, e0]
          by_cases h0 : x = 0 <;> simp only [h0, ↓reduceIte]
      · rw [if_neg h3] at he
        cases l with
        | nil => cases he
        | cons y l =>
          cases l with
          | nil => cases he
          | cons x l =>
            cases he
            rw [List.length_cons, List.length_cons] at hl
            have hl2 : l.length < 50 := by omega
            have hl3 : l.length + 1 < 50 := by omega
            have e0 : g (w + 21) (l.length + 1) = y := hs.1
            have e1 : g (w + 21) l.length = x := hs.2.1
            refine ⟨q_up g (w + 21) l.length (q_jn (c - 2000) x y), ?_, ⟨q_up_eq, q_sk_up (Nat.le_refl _) hs.2.2⟩, fun p k h => q_up_ne (fun z => h z.1)⟩
            simp only [B_X5_apply_0 hw, B_X5_apply_70 hw, B_X5_apply_98 hw, B_X5_apply_51 hw, B_X5_apply_13 hw, B_X5_apply_81 hw, B_X5_apply_105 hw, B_X5_apply_108 hw, B_X5_apply_111 hw, h1', h2', h3, ↓reduceIte, List.length_cons, show l.length + 1 + 1 = l.length + 2 from rfl, nI_pred2, show nI (l.length + 2) - 1 = nI (l.length + 1) from nI_pred _, c_peek hw _ hl2, c_peek hw _ hl3, c_push hw _ hl2, c_joined, Option.bind_some, Option.toList_some, Option.toList_none, List.cons_append, List.nil_append, e0, e1]
theorem c_worth_l (d : Nat) {nm : Nat → Int32} {r n : Nat} (hrN : r < N 6) (hn50 : n ≤ 50) (hn : S 28 r = nI n) (x2 x3 x4 x5 v : Int32) : ∀ (cs : List Int32) (i : Nat) (l : List Int32) (g : Nat → Nat → Int32), repC w g S N → (∀ j, j < 4 → g (w + 20) j = nm j) → i + cs.length = n → (∀ j (hj : j < cs.length), S 29 (50 * r + (i + j)) = cs[j]) → (∀ c ∈ cs, q_cod c) → l.length ≤ i → q_sk (g (w + 21)) l → q_evl nm cs l = some [v] → ∃ g2, q_sem (d + 2) mX5_worth 52 [.ref (w + 15), .int (nI r), .int x2, .int x3, .int x4, .int x5, .int (nI l.length), .int (nI n), .int (nI i)] [] (q_K o g) = some (some (.int v), q_K o g2) ∧ q_o2 (w + 20) (w + 21) g g2 := by
  intro cs
  induction cs with
  | nil =>
    intro i l g hr hnm hi _ _ hli hs he
    have hw := hr.1
    cases he
    have c1 : nI n ≤ nI i := nI_le (by rw [List.length_nil] at hi; omega) (by omega)
    have e0 : g (w + 21) 0 = v := hs.1
    have e1 : nI [v].length - 1 = nI 0 := by show nI 1 - 1 = nI 0; decide
    rw [B_X5_worth_52 hw]
    refine ⟨g, ?_, fun _ _ _ _ => rfl⟩
    simp only [c1, ↓reduceIte, e1, c_peek hw _ (show 0 < 50 by decide), B_X5_worth_0 hw, B_X5_worth_42 hw, B_X5_worth_93 hw, B_X5_worth_72 hw, B_X5_worth_77 hw, Option.bind_some, Option.toList_some, Option.toList_none, List.cons_append, List.nil_append, e0]
  | cons c cs ih =>
    intro i l g hr hnm hi hcs hcod hli hs he
    have hw := hr.1
    have hN := n_cnt_ru hr
    rw [List.length_cons] at hi
    have c1 : ¬ nI n ≤ nI i := nI_ge (by omega) (by omega)
    have hg : q_gt g (w + 16) 53 (N 6) (nI r) (3 + nI i) = c := by
      have e3 : (3 : Int32) + nI i = nI (3 + i) := nI_add 3 i
      rw [e3, q_gt_in hrN (by omega) (by omega) (by omega), ← Nat.add_assoc]
      have h0 := hcs 0 (by simp)
      rw [List.getElem_cons_zero] at h0
      rw [← h0]
      exact hr.2.2.1 r hrN i (by omega) (by rw [hn]; exact nI_lt (by omega) (by omega))
    have hget := s_get (o := o) d (W_tb hw _ (show (16, 12, 53, 3, 6, 26) ∈ q_tbs by decide)) (hr.2.1 _ (show (16, 12, 53, 3, 6, 26) ∈ q_tbs by decide)).1 (nI r) (3 + nI i)
    dsimp only at hget
    rw [hg] at hget
    cases he2 : q_stk nm c l with
    | none =>
      rw [q_evl, he2] at he
      cases he
    | some l2 =>
      rw [q_evl, he2] at he
      have hlen := q_stk_len he2
      obtain ⟨g1, ea, hs1, hf1⟩ := c_apply (o := o) hw (d) hnm (hcod c (List.mem_cons_self ..)) (by omega) hs he2
      have ho2 : q_o2 (w + 20) (w + 21) g g1 := fun p k _ h => hf1 p k h
      obtain ⟨g2, eb, hf2⟩ := ih (i + 1) l2 g1 (repC_scr hr ho2) (fun j hj => (hf1 _ _ (by omega)).trans (hnm j hj)) (by omega) (fun j hj => by
        have h := hcs (j + 1) (by simp; omega)
        rw [List.getElem_cons_succ] at h
        rw [← h]
        congr 1
        omega) (fun c2 h2 => hcod c2 (List.mem_cons_of_mem _ h2)) (by omega) hs1 he
      refine ⟨g2, ?_, q_o2_tr ho2 hf2⟩
      rw [B_X5_worth_52 hw]
      simp only [c1, ↓reduceIte, hget, B_X5_worth_0 hw, B_X5_worth_42 hw, B_X5_worth_93 hw, B_X5_worth_72 hw, B_X5_worth_77 hw, Option.bind_some, Option.toList_some, Option.toList_none, List.cons_append, List.nil_append, ea, nI_1, eb]
theorem c_worth (hr : repC w g S N) (hv : q_rw S N) (d : Nat) {r : Nat} (hrN : r < N 6) (a b c e : Int32) : ∃ g2, q_sem (d + 2) mX5_worth 0 [.ref (w + 15), .int (nI r), .int a, .int b, .int c, .int e, .retAddr 0, .retAddr 0, .retAddr 0] [] (q_K o g) = some (some (.int (q_wo S r a b c e)), q_K o g2) ∧ repC w g2 S N ∧ q_fr w g g2 := by
  have hw := hr.1
  have hN := n_cnt_ru hr
  obtain ⟨hv1, hv2, hv3, hv4⟩ := hv r hrN
  obtain ⟨v, hv5⟩ := hv4 (q_nm4 a b c e)
  rw [q_wo_eq hv5]
  have ho1 : q_o2 (w + 20) (w + 21) g (q_up (q_up (q_up (q_up g (w + 20) 0 a) (w + 20) 1 b) (w + 20) 2 c) (w + 20) 3 e) := fun p k h _ => by
    rw [q_up_ne (fun z => h z.1), q_up_ne (fun z => h z.1), q_up_ne (fun z => h z.1), q_up_ne (fun z => h z.1)]
  have hr1 := repC_scr hr ho1
  have hlen : (q_cs S r).length = q_cl2 (S 28 r) := by unfold q_cs; simp
  obtain ⟨g2, e2, hf2⟩ := c_worth_l (o := o) d (nm := q_nm4 a b c e) hrN hv1 hv2 a b c e v (q_cs S r) 0 [] _ hr1 (by
    intro j hj
    rcases j with _ | _ | _ | _ | j
    · rw [q_up_ne (by omega), q_up_ne (by omega), q_up_ne (by omega), q_up_eq]; rfl
    · rw [q_up_ne (by omega), q_up_ne (by omega), q_up_eq]; rfl
    · rw [q_up_ne (by omega), q_up_eq]; rfl
    · rw [q_up_eq]; rfl
    · omega) (by rw [hlen]; omega) (by
    intro j hj
    rw [Nat.zero_add]
    unfold q_cs at hj ⊢
    rw [List.getElem_map, List.getElem_range]) hv3 (Nat.le_refl _) trivial hv5
  refine ⟨g2, ?_, repC_scr hr1 hf2, q_fr_tr (q_o2_fr20 ho1) (q_o2_fr20 hf2)⟩
  have e28 : q_at S (N 6) 28 (nI r) = S 28 r := q_at_in hrN (by omega)
  have e50 : (if 50 < S 28 r then 50 else S 28 r) = nI (q_cl2 (S 28 r)) := by
    rw [if_neg ?_]
    · exact hv2
    · rw [hv2]
      exact (by decide : (50 : Int32) = nI 50) ▸ nI_nlt hv1 (by omega)
  rw [B_X5_worth_0 hw]
  simp only [w_get_ru0 hr1, w_get_ru1 hr1, w_get_ru2 hr1, w_size_ru hr1, w_has_ru hr1, w_full_ru hr1, Option.bind_some, Option.toList_some, Option.toList_none, List.cons_append, List.nil_append, e28, B_X5_worth_42 hw, e50]
  exact e2
end QWO
