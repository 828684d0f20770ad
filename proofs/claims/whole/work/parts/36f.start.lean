/-! the start of the law: both constructors, and the picture behind them -/
def q_ALL : List q_cel := q_N11 0 ++ q_N12 98
theorem L_start (L : Nat) (xs : Nat → Int32) : q_sem 400 mL_law 0 [.ref q_M, .retAddr 0, .retAddr 0, .retAddr 0] [] (q_h0 L xs) = q_sem 400 mL_law 18 [.ref q_M, .ref 0, .ref 98, .int (nI (6 * 0))] [] (q_C (q_h0 L xs) q_ALL) := by
  refine (congrArg (q_sem 400 mL_law 0 [.ref q_M, .retAddr 0, .retAddr 0, .retAddr 0] []) (q_C_nil (q_h0 L xs)).symm).trans ?_
  refine (C_new (Y := mL_law) (b := q_h0 L xs) (c := 9) (p := 0) (cs := []) (cs2 := [(9, 11, [])]) dL_law_0 rfl (by decide) (Nat.zero_le _) (Nat.zero_le _) rfl rfl).trans ?_
  refine (q_blk (Y := mL_law) (q_dcC dL_law_3 q_dcN) (show _ = some (4, [.ref q_M, .retAddr 0, .retAddr 0, .retAddr 0], [.ref 0, .ref 0]) from rfl)).trans ?_
  refine (C_ini (d := 399) (Y := mL_law) (Z := mX11_init) (b := q_h0 L xs) (i := 0) (vs := []) (rest := [.ref 0]) (la := [.ref ((q_h0 L xs).1 + 0)]) (cs := [(9, 11, [])]) (cs2 := q_N11 (q_h0 L xs).1) dL_law_4 rfl rfl rfl rfl rfl rfl (Nat.le_of_ble_eq_true rfl) rfl (Nat.le_of_ble_eq_true rfl) (N0_11 (b := q_h0 L xs) (Nat.zero_le _) 395)).trans ?_
  refine (q_blk (Y := mL_law) (q_dcC dL_law_7 q_dcN) (show _ = some (8, [.ref q_M, .ref 0, .retAddr 0, .retAddr 0], []) from rfl)).trans ?_
  refine (C_new (Y := mL_law) (b := q_h0 L xs) (c := 10) (p := 98) (cs := q_N11 0) (cs2 := q_N11 0 ++ [(10, 71, [])]) dL_law_8 rfl (by decide) (Nat.zero_le _) (Nat.le_of_ble_eq_true rfl) rfl rfl).trans ?_
  refine (q_blk (Y := mL_law) (q_dcC dL_law_11 q_dcN) (show _ = some (12, [.ref q_M, .ref 0, .retAddr 0, .retAddr 0], [.ref 98, .ref 98]) from rfl)).trans ?_
  refine (C_ini (d := 399) (Y := mL_law) (Z := mX12_init) (b := q_h0 L xs) (i := 98) (vs := []) (rest := [.ref 98]) (la := [.ref 98]) (cs := q_N11 0 ++ [(10, 71, [])]) (cs2 := q_N11 0 ++ q_N12 98) dL_law_12 rfl rfl rfl rfl rfl rfl (Nat.le_of_ble_eq_true rfl) rfl (Nat.le_of_ble_eq_true rfl) (N_12 (b := q_h0 L xs) (L := q_N11 0) (Nat.zero_le _) (Nat.le_of_ble_eq_true rfl) rfl 399)).trans ?_
  refine (q_blk (Y := mL_law) (q_dcC dL_law_15 (q_dcC dL_law_16 (q_dcC dL_law_17 q_dcN))) (show _ = some (18, [.ref q_M, .ref 0, .ref 98, .int (nI (6 * 0))], []) from rfl)).trans ?_
  rfl
/-- the whole numbers of the picture -/
def qs_vi (v : Value) : Int32 := match v with
  | .int x => x
  | _ => 0
def q_g0 (p k : Nat) : Int32 := match q_ALL[p]? with
  | some c => qs_vi (q_ceV c k)
  | none => 0
/-- a value stands as the picture has it -/
def qs_vk (r : Option Nat) (v : Value) : Bool := match r, v with
  | some q, .ref p => q == p
  | none, .int _ => true
  | _, _ => false
def qs_vr (r : Option Nat) (x : Int32) : Value := match r with
  | some q => .ref q
  | none => .int x
theorem qs_vk_t {r : Option Nat} {v : Value} (h : qs_vk r v = true) : v = qs_vr r (qs_vi v) := by
  cases r with
  | some q =>
    cases v with
    | ref p => exact congrArg Value.ref (of_decide_eq_true h).symm
    | _ => cases h
  | none =>
    cases v with
    | int x => rfl
    | _ => cases h
/-- a cell stands as the picture has it: shape, and every value -/
def qs_ck (p : Nat) (c : q_cel) : Bool := decide ((c.1, c.2.1) = q_sh p) && (if 100 ≤ c.1 then (q_rfT.getD p []).isEmpty && c.2.2.all (fun u => qs_vk none u.2) else (List.range c.2.1).all (fun k => qs_vk (q_ref p k) (q_ceV c k)))
def qs_cks : Nat → List q_cel → Bool
  | _, [] => true
  | p, c :: cs => qs_ck p c && qs_cks (p + 1) cs
set_option maxRecDepth 100000 in
theorem qs_ck_all : qs_cks 0 q_ALL = true := by decide +kernel
set_option maxRecDepth 100000 in
theorem q_ALL_len : q_ALL.length = 151 := by decide +kernel
theorem qs_cks_at : ∀ (cs : List q_cel) (p i : Nat) (c : q_cel), qs_cks p cs = true → cs[i]? = some c → qs_ck (p + i) c = true
  | [], _, _, _, _, hc => by cases hc
  | _ :: _, _, 0, _, h, hc => by cases hc; exact (Bool.and_eq_true _ _ ▸ h : _ ∧ _).1
  | a :: cs, p, i + 1, c, h, hc => by
    have h2 : qs_cks (p + 1) cs = true := (Bool.and_eq_true _ _ ▸ h : _ ∧ _).2
    have := qs_cks_at cs (p + 1) i c h2 hc
    rw [show p + (i + 1) = p + 1 + i by omega]
    exact this
theorem qs_ck_val {p k : Nat} {c : q_cel} (h : qs_ck p c = true) (hk : k < c.2.1) : q_ceV c k = qs_vr (q_ref p k) (qs_vi (q_ceV c k)) := by
  unfold qs_ck at h
  rw [Bool.and_eq_true] at h
  obtain ⟨h1, h2⟩ := h
  by_cases hc : 100 ≤ c.1
  · rw [if_pos hc, Bool.and_eq_true] at h2
    have e : q_ref p k = none := by
      unfold q_ref
      rw [List.isEmpty_iff.mp h2.1]
      rfl
    rw [e]
    refine qs_vk_t (r := none) ?_
    unfold q_ceV
    cases hf : c.2.2.find? (fun q => q.1 == k) with
    | some q => exact List.all_eq_true.mp h2.2 q (List.mem_of_find?_eq_some hf)
    | none =>
      show qs_vk none (q_dv c.1 k) = true
      unfold q_dv
      rw [if_pos hc]
      rfl
  · rw [if_neg hc] at h2
    exact qs_vk_t (List.all_eq_true.mp h2 k (List.mem_range.mpr hk))
theorem q_ag0 (L : Nat) (xs : Nat → Int32) : q_ag (q_K (q_h0 L xs) q_g0) (q_C (q_h0 L xs) q_ALL) := by
  have h1 : (q_C (q_h0 L xs) q_ALL).1 = 151 := by show 0 + q_ALL.length = 151; rw [q_ALL_len]
  have hc : ∀ p, p < 151 → ∃ c, q_ALL[p]? = some c ∧ qs_ck p c = true := fun p hp => by
    have hl : p < q_ALL.length := by rw [q_ALL_len]; exact hp
    refine ⟨q_ALL[p], List.getElem?_eq_getElem hl, ?_⟩
    have := qs_cks_at q_ALL 0 p q_ALL[p] qs_ck_all (List.getElem?_eq_getElem hl)
    rw [Nat.zero_add] at this
    exact this
  have hsh : ∀ p c, q_ALL[p]? = some c → (q_C (q_h0 L xs) q_ALL).2.1 p = (c.1, c.2.1) := fun p c e => by
    have := q_C_sh (b := q_h0 L xs) e
    rw [show (q_h0 L xs).1 + p = p from Nat.zero_add p] at this
    exact this
  have hrd : ∀ p c k, q_ALL[p]? = some c → q_rd (q_C (q_h0 L xs) q_ALL) p k = q_ceV c k := fun p c k e => by
    have := q_C_rd (b := q_h0 L xs) (k := k) e
    rw [show (q_h0 L xs).1 + p = p from Nat.zero_add p] at this
    exact this
  refine ⟨h1, (by decide : 151 < q_M), ?_, ?_, ?_⟩
  · intro p hp
    obtain ⟨c, e, k⟩ := hc p hp
    rw [hsh p c e]
    unfold qs_ck at k
    rw [Bool.and_eq_true] at k
    rw [of_decide_eq_true k.1]
    show q_sh p = if p < 151 then q_sh p else _
    rw [if_pos (show p < 151 from hp)]
  · intro p hp k hk
    have hp2 : p < 151 := hp
    obtain ⟨c, e, h⟩ := hc p hp
    have hk2 : k < c.2.1 := by
      have h3 := h
      unfold qs_ck at h3
      rw [Bool.and_eq_true] at h3
      have h4 := of_decide_eq_true h3.1
      rw [q_K_ln hp2, ← h4] at hk
      exact hk
    rw [hrd p c k e, qs_ck_val h hk2]
    cases hr : q_ref p k with
    | some q => exact (q_K_rr hp2 hr).symm
    | none =>
      rw [q_K_ri hp2 hr]
      show Value.int (qs_vi (q_ceV c k)) = .int (q_g0 p k)
      unfold q_g0
      rw [e]
  · intro p hp
    have h151 : ¬ p < 151 := fun z => by
      have : 151 < q_M := by decide
      omega
    have hn : q_ALL[p - 0]? = none := List.getElem?_eq_none (by rw [q_ALL_len]; omega)
    refine Or.inr ⟨?_, fun k => ?_⟩
    · have e1 : (q_K (q_h0 L xs) q_g0).2.1 p = (q_h0 L xs).2.1 p := if_neg h151
      rw [e1]
      show (if p < 0 then (q_h0 L xs).2.1 p else match q_ALL[p - 0]? with
        | some c => (c.1, c.2.1)
        | none => (q_h0 L xs).2.1 p) = (q_h0 L xs).2.1 p
      rw [if_neg (Nat.not_lt_zero p), hn]
    · have e1 : q_rd (q_K (q_h0 L xs) q_g0) p k = (q_h0 L xs).2.2 p k := if_neg h151
      rw [e1]
      show (if p < 0 then (q_h0 L xs).2.2 p k else match q_ALL[p - 0]? with
        | some c => q_ceV c k
        | none => (q_h0 L xs).2.2 p k) = (q_h0 L xs).2.2 p k
      rw [if_neg (Nat.not_lt_zero p), hn]
/-- the room at the start -/
def q_tiB (g : Nat → Nat → Int32) (t M W R : Nat) : Bool := g t 0 == nI M && (g t 1 == nI W && (g t 3 == nI R && decide (R ≤ M)))
theorem q_tiB_t {g : Nat → Nat → Int32} {t M W R : Nat} (h : q_tiB g t M W R = true) : q_ti g t M W R := by
  unfold q_tiB at h
  simp only [Bool.and_eq_true, beq_iff_eq, decide_eq_true_eq] at h
  exact ⟨h.1, h.2.1, h.2.2.1, h.2.2.2⟩
def q_S0 : Nat → Nat → Int32 := fun f j => if f = 0 ∧ j = 10 then 2 else 0
def q_N0n : Nat → Nat := fun _ => 0
set_option maxRecDepth 100000 in
theorem qs_b1 : ([1, 23, 45] : List Nat).all (fun w => q_tbs.all (fun q => q_tiB q_g0 (w + q.1) q.2.1 q.2.2.1 0) && (q_g0 w 8 == 0 && (q_g0 w 9 == 0 && q_g0 w 10 == 2))) = true := by decide +kernel
set_option maxRecDepth 100000 in
theorem qs_b2 : (q_nms.all (fun j => q_g0 100 j == 0) && (q_g0 100 7 == 0 && (q_g0 100 9 == 0 && q_g0 100 10 == 2))) = true := by decide +kernel
set_option maxRecDepth 100000 in
theorem qs_b3 : (q_scr.all (fun q => q_tiB q_g0 q.1 q.2.1 q.2.2 0) && (q_tiB q_g0 70 4 26 4 && (q_tiB q_g0 95 40 1 0 && (q_g0 98 68 == 0 && (q_g0 0 10 == 0 && (q_g0 98 38 == 0 && q_g0 98 37 == 0)))))) = true := by decide +kernel
def qs_mtc (p : Nat) : Bool := match q_ALL[p]? with
  | some c => decide (100 ≤ c.1) && c.2.2.isEmpty
  | none => false
theorem qs_mtc_t {p : Nat} (h : qs_mtc p = true) (k : Nat) : q_g0 p k = 0 := by
  unfold qs_mtc at h
  unfold q_g0
  cases e : q_ALL[p]? with
  | none => rfl
  | some c =>
    rw [e] at h
    dsimp only at h ⊢
    rw [Bool.and_eq_true] at h
    unfold q_ceV
    rw [List.isEmpty_iff.mp h.2]
    show qs_vi (q_dv c.1 k) = 0
    unfold q_dv
    rw [if_pos (of_decide_eq_true h.1)]
    rfl
set_option maxRecDepth 100000 in
theorem qs_b4 : ([71, 97, 99, 135, 136, 137] : List Nat).all qs_mtc = true := by decide +kernel
theorem q_rC0 {w : Nat} (hw : w ∈ ([1, 23, 45] : List Nat)) : repC w q_g0 q_S0 q_N0n := by
  have h := List.all_eq_true.mp qs_b1 w hw
  simp only [Bool.and_eq_true, beq_iff_eq] at h
  refine ⟨by simp only [List.mem_cons, List.not_mem_nil, or_false] at hw; exact hw, fun q hq => ⟨q_tiB_t (List.all_eq_true.mp h.1 q hq), fun c r _ hr => absurd hr (Nat.not_lt_zero r)⟩, fun r hr => absurd hr (Nat.not_lt_zero r), h.2.1, h.2.2.1, h.2.2.2⟩
theorem q_rM0 : repM q_g0 q_S0 q_N0n := by
  have h := qs_b2
  simp only [Bool.and_eq_true, beq_iff_eq] at h
  exact ⟨fun q _ => ⟨Nat.zero_le _, fun i hi => absurd hi (Nat.not_lt_zero i)⟩, fun i hi => absurd hi (Nat.not_lt_zero i), fun r hr => absurd hr (Nat.not_lt_zero r), fun j hj => by have := List.all_eq_true.mp h.1 j hj; simp only [beq_iff_eq] at this; exact this, h.2.1, h.2.2.1, h.2.2.2, fun i hi => absurd hi (Nat.not_lt_zero i)⟩
theorem q_ok0 : q_ok q_S0 q_N0n := ⟨⟨fun i hi => absurd hi (Nat.not_lt_zero i), fun i hi => absurd hi (Nat.not_lt_zero i), fun i hi => absurd hi (Nat.not_lt_zero i), fun i hi => absurd hi (Nat.not_lt_zero i), fun i hi => absurd hi (Nat.not_lt_zero i), fun i hi => absurd hi (Nat.not_lt_zero i), ⟨0, Nat.zero_le _, rfl⟩⟩, fun r hr => absurd hr (Nat.not_lt_zero r)⟩
theorem q_R0 : q_R 0 q_g0 := by
  have h := qs_b3
  simp only [Bool.and_eq_true, beq_iff_eq] at h
  obtain ⟨h1, h2, h3, h4, h5, h6, h7⟩ := h
  have hm : ∀ p ∈ ([71, 97, 99, 135, 136, 137] : List Nat), ∀ k, q_g0 p k = 0 := fun p hp k => qs_mtc_t (List.all_eq_true.mp qs_b4 p hp) k
  have m71 := hm 71 (by decide)
  have m97 := hm 97 (by decide)
  have m99 := hm 99 (by decide)
  have m135 := hm 135 (by decide)
  have m136 := hm 136 (by decide)
  have m137 := hm 137 (by decide)
  refine ⟨⟨q_S0, q_N0n, q_rC0 (by decide), q_rM0, q_ok0⟩, fun k _ => by rw [m97, m99], ⟨q_tiB_t h2, fun s _ => ?_⟩, ⟨0, q_tiB_t h3, h4, fun i hi => absurd hi (Nat.not_lt_zero i)⟩, ⟨0, q_S0, q_N0n, Nat.le_refl 0, h5, h6, by rw [if_pos rfl]; exact h7, q_rC0 (by decide), fun z => absurd rfl z⟩, ⟨q_S0, q_N0n, q_rC0 (by decide)⟩, fun q hq => ⟨0, q_tiB_t (List.all_eq_true.mp h1 q hq)⟩⟩
  refine ⟨by rw [m71, m135], by rw [m71, m136], Or.inl (m135 s), ⟨0, Nat.zero_le _, m136 s⟩, fun i _ => by rw [m71, m137], fun i _ => ⟨fun _ => ?_, fun _ => ?_⟩⟩
  · rw [m137]
    rfl
  · rw [m137]
    rfl
