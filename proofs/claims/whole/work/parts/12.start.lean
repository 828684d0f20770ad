/-! the start: the arrays that are only read, and the law's own frame -/
def q_sl2 : List (Nat × List Int32) := [(102, []), (102, [-1, 0, 1, 0, 3, 4]), (102, [1, 1, 0, -1, -1, -1, 0, 1]), (102, [0, 1, 1, 1, 0, -1, -1, -1]), (102, [10, 11, 12, 13, 0, 20, 0, 21, 30, 0, 31, 0, 0, 0, 40, 0, 50, 0, 0, 51, 0, 60, 61, 0]), (102, [1, 1, 0, -1, -1, -1, 0, 1]), (102, [0, 1, 1, 1, 0, -1, -1, -1]), (0, []), (0, []), (0, []), (103, [102, 109, 119, 116]), (103, [115, 104, 97, 110]), (103, [100, 117])]
def q_h0 (L : Nat) (xs : Nat → Int32) : q_H := (0, (fun p => if p < q_M then (0, 0) else if p = q_M then (102, L) else ((q_sl2.getD (p - q_M) (0, [])).1, (q_sl2.getD (p - q_M) (0, [])).2.length)), fun p k => if p = q_M then .int (xs k) else .int ((q_sl2.getD (p - q_M) (0, [])).2.getD k 0))
abbrev q_gvF : List Jvm.Cond := flatC (Jvm.Cond.and given_1 narrow_1)
def q_gv : List Jvm.Cond := [.arrayOf (.static RX10 "ABOVE" "[I") .int, .eq (.length (.static RX10 "ABOVE" "[I")) (.int 6), .eq (.elem (.static RX10 "ABOVE" "[I") (.int 0)) (.int (-1)), .eq (.elem (.static RX10 "ABOVE" "[I") (.int 1)) (.int (0)), .eq (.elem (.static RX10 "ABOVE" "[I") (.int 2)) (.int (1)), .eq (.elem (.static RX10 "ABOVE" "[I") (.int 3)) (.int (0)), .eq (.elem (.static RX10 "ABOVE" "[I") (.int 4)) (.int (3)), .eq (.elem (.static RX10 "ABOVE" "[I") (.int 5)) (.int (4)), .arrayOf (.static RX3 "WAY_X" "[I") .int, .eq (.length (.static RX3 "WAY_X" "[I")) (.int 8), .eq (.elem (.static RX3 "WAY_X" "[I") (.int 0)) (.int (1)), .eq (.elem (.static RX3 "WAY_X" "[I") (.int 1)) (.int (1)), .eq (.elem (.static RX3 "WAY_X" "[I") (.int 2)) (.int (0)), .eq (.elem (.static RX3 "WAY_X" "[I") (.int 3)) (.int (-1)), .eq (.elem (.static RX3 "WAY_X" "[I") (.int 4)) (.int (-1)), .eq (.elem (.static RX3 "WAY_X" "[I") (.int 5)) (.int (-1)), .eq (.elem (.static RX3 "WAY_X" "[I") (.int 6)) (.int (0)), .eq (.elem (.static RX3 "WAY_X" "[I") (.int 7)) (.int (1)), .arrayOf (.static RX3 "WAY_Y" "[I") .int, .eq (.length (.static RX3 "WAY_Y" "[I")) (.int 8), .eq (.elem (.static RX3 "WAY_Y" "[I") (.int 0)) (.int (0)), .eq (.elem (.static RX3 "WAY_Y" "[I") (.int 1)) (.int (1)), .eq (.elem (.static RX3 "WAY_Y" "[I") (.int 2)) (.int (1)), .eq (.elem (.static RX3 "WAY_Y" "[I") (.int 3)) (.int (1)), .eq (.elem (.static RX3 "WAY_Y" "[I") (.int 4)) (.int (0)), .eq (.elem (.static RX3 "WAY_Y" "[I") (.int 5)) (.int (-1)), .eq (.elem (.static RX3 "WAY_Y" "[I") (.int 6)) (.int (-1)), .eq (.elem (.static RX3 "WAY_Y" "[I") (.int 7)) (.int (-1)), .arrayOf (.static RX9 "BODIES" "[I") .int, .eq (.length (.static RX9 "BODIES" "[I")) (.int 24), .eq (.elem (.static RX9 "BODIES" "[I") (.int 0)) (.int (10)), .eq (.elem (.static RX9 "BODIES" "[I") (.int 1)) (.int (11)), .eq (.elem (.static RX9 "BODIES" "[I") (.int 2)) (.int (12)), .eq (.elem (.static RX9 "BODIES" "[I") (.int 3)) (.int (13)), .eq (.elem (.static RX9 "BODIES" "[I") (.int 4)) (.int (0)), .eq (.elem (.static RX9 "BODIES" "[I") (.int 5)) (.int (20)), .eq (.elem (.static RX9 "BODIES" "[I") (.int 6)) (.int (0)), .eq (.elem (.static RX9 "BODIES" "[I") (.int 7)) (.int (21)), .eq (.elem (.static RX9 "BODIES" "[I") (.int 8)) (.int (30)), .eq (.elem (.static RX9 "BODIES" "[I") (.int 9)) (.int (0)), .eq (.elem (.static RX9 "BODIES" "[I") (.int 10)) (.int (31)), .eq (.elem (.static RX9 "BODIES" "[I") (.int 11)) (.int (0)), .eq (.elem (.static RX9 "BODIES" "[I") (.int 12)) (.int (0)), .eq (.elem (.static RX9 "BODIES" "[I") (.int 13)) (.int (0)), .eq (.elem (.static RX9 "BODIES" "[I") (.int 14)) (.int (40)), .eq (.elem (.static RX9 "BODIES" "[I") (.int 15)) (.int (0)), .eq (.elem (.static RX9 "BODIES" "[I") (.int 16)) (.int (50)), .eq (.elem (.static RX9 "BODIES" "[I") (.int 17)) (.int (0)), .eq (.elem (.static RX9 "BODIES" "[I") (.int 18)) (.int (0)), .eq (.elem (.static RX9 "BODIES" "[I") (.int 19)) (.int (51)), .eq (.elem (.static RX9 "BODIES" "[I") (.int 20)) (.int (0)), .eq (.elem (.static RX9 "BODIES" "[I") (.int 21)) (.int (60)), .eq (.elem (.static RX9 "BODIES" "[I") (.int 22)) (.int (61)), .eq (.elem (.static RX9 "BODIES" "[I") (.int 23)) (.int (0)), .arrayOf (.static RX12 "WAY_X" "[I") .int, .eq (.length (.static RX12 "WAY_X" "[I")) (.int 8), .eq (.elem (.static RX12 "WAY_X" "[I") (.int 0)) (.int (1)), .eq (.elem (.static RX12 "WAY_X" "[I") (.int 1)) (.int (1)), .eq (.elem (.static RX12 "WAY_X" "[I") (.int 2)) (.int (0)), .eq (.elem (.static RX12 "WAY_X" "[I") (.int 3)) (.int (-1)), .eq (.elem (.static RX12 "WAY_X" "[I") (.int 4)) (.int (-1)), .eq (.elem (.static RX12 "WAY_X" "[I") (.int 5)) (.int (-1)), .eq (.elem (.static RX12 "WAY_X" "[I") (.int 6)) (.int (0)), .eq (.elem (.static RX12 "WAY_X" "[I") (.int 7)) (.int (1)), .arrayOf (.static RX12 "WAY_Y" "[I") .int, .eq (.length (.static RX12 "WAY_Y" "[I")) (.int 8), .eq (.elem (.static RX12 "WAY_Y" "[I") (.int 0)) (.int (0)), .eq (.elem (.static RX12 "WAY_Y" "[I") (.int 1)) (.int (1)), .eq (.elem (.static RX12 "WAY_Y" "[I") (.int 2)) (.int (1)), .eq (.elem (.static RX12 "WAY_Y" "[I") (.int 3)) (.int (1)), .eq (.elem (.static RX12 "WAY_Y" "[I") (.int 4)) (.int (0)), .eq (.elem (.static RX12 "WAY_Y" "[I") (.int 5)) (.int (-1)), .eq (.elem (.static RX12 "WAY_Y" "[I") (.int 6)) (.int (-1)), .eq (.elem (.static RX12 "WAY_Y" "[I") (.int 7)) (.int (-1)), .exactly (.string RX8 83) "java/lang/String", .eq (.field (.string RX8 83) "java/lang/String" "code\x72" "B") (.int 0), .arrayOf (.field (.string RX8 83) "java/lang/String" "value" "[B") .byte, .eq (.length (.field (.string RX8 83) "java/lang/String" "value" "[B")) (.int 4), .eq (.elem (.field (.string RX8 83) "java/lang/String" "value" "[B") (.int 0)) (.int 102), .eq (.elem (.field (.string RX8 83) "java/lang/String" "value" "[B") (.int 1)) (.int 109), .eq (.elem (.field (.string RX8 83) "java/lang/String" "value" "[B") (.int 2)) (.int 119), .eq (.elem (.field (.string RX8 83) "java/lang/String" "value" "[B") (.int 3)) (.int 116), .exactly (.string RX8 85) "java/lang/String", .eq (.field (.string RX8 85) "java/lang/String" "code\x72" "B") (.int 0), .arrayOf (.field (.string RX8 85) "java/lang/String" "value" "[B") .byte, .eq (.length (.field (.string RX8 85) "java/lang/String" "value" "[B")) (.int 4), .eq (.elem (.field (.string RX8 85) "java/lang/String" "value" "[B") (.int 0)) (.int 115), .eq (.elem (.field (.string RX8 85) "java/lang/String" "value" "[B") (.int 1)) (.int 104), .eq (.elem (.field (.string RX8 85) "java/lang/String" "value" "[B") (.int 2)) (.int 97), .eq (.elem (.field (.string RX8 85) "java/lang/String" "value" "[B") (.int 3)) (.int 110), .exactly (.string RX8 87) "java/lang/String", .eq (.field (.string RX8 87) "java/lang/String" "code\x72" "B") (.int 0), .arrayOf (.field (.string RX8 87) "java/lang/String" "value" "[B") .byte, .eq (.length (.field (.string RX8 87) "java/lang/String" "value" "[B")) (.int 2), .eq (.elem (.field (.string RX8 87) "java/lang/String" "value" "[B") (.int 0)) (.int 100), .eq (.elem (.field (.string RX8 87) "java/lang/String" "value" "[B") (.int 1)) (.int 117), .not (.eq (.string RX8 83) (.string RX8 85)), .not (.eq (.string RX8 83) (.string RX8 87)), .not (.eq (.string RX8 85) (.string RX8 87)), .eq (.static "java/lang/String" "COMPACT_STRINGS" "Z") (.int 1)]
set_option maxRecDepth 100000 in
set_option maxHeartbeats 4000000 in
theorem q_gv_ok : q_gv.all (fun c => decide (c ∈ q_gvF)) = true := by decide +kernel
section QZ
variable {b : Nat} {s : State}
theorem q_gvB (h : (Jvm.Cond.and given_1 narrow_1).before #[Value.ref b] s = true) {c : Jvm.Cond} (i : Nat) (hc : q_gv[i]? = some c) : c.before #[Value.ref b] s = true := flat_of_before _ h c (of_decide_eq_true (List.all_eq_true.mp q_gv_ok c (List.mem_of_getElem? hc)))
theorem q_oA {B : Nat} (hB : B = s.heap.size) : ∀ a : Nat, a < s.heap.size → ¬ B ≤ a := fun a h z => by omega
theorem q_st1 (h : (Jvm.Cond.and given_1 narrow_1).before #[Value.ref b] s = true) (ht : ∀ w ∈ lw_tbl, w.before #[Value.ref b] s = true) (L : Nat) (xs : Nat → Int32) {B : Nat} (hB : B = s.heap.size) : ∃ t : Nat, va_Z (q_sta 1).1 (q_sta 1).2 "[I" (.ref t) (fun q => B ≤ q) s s.heap ∧ va_T .int t (q_ln (q_h0 L xs) (q_M + 1)) (fun i => q_rd (q_h0 L xs) (q_M + 1) i) (fun q => B ≤ q) s s.heap := by
  obtain ⟨t, h1, h2⟩ := va_Tof (args := #[Value.ref b]) (s := s) (tm := .static RX10 "ABOVE" "[I") (ty := .int) (N := 6) (f := fun i => q_rd (q_h0 L xs) (q_M + 1) i) (A := fun q => B ≤ q) (by decide) (q_gvB h 0 rfl) (va_eqt (q_gvB h 1 rfl)) (fun i hi => by
    match i, hi with
    | 0, _ => exact va_eqt (q_gvB h 2 rfl)
    | 1, _ => exact va_eqt (q_gvB h 3 rfl)
    | 2, _ => exact va_eqt (q_gvB h 4 rfl)
    | 3, _ => exact va_eqt (q_gvB h 5 rfl)
    | 4, _ => exact va_eqt (q_gvB h 6 rfl)
    | 5, _ => exact va_eqt (q_gvB h 7 rfl)
    | i + 6, h => exact absurd h (by omega)) (q_oA hB)
  exact ⟨t, va_Zref (ht _ q_wL1) (ht _ q_wN1) h1 (q_oA hB), h2⟩
theorem q_st2 (h : (Jvm.Cond.and given_1 narrow_1).before #[Value.ref b] s = true) (ht : ∀ w ∈ lw_tbl, w.before #[Value.ref b] s = true) (L : Nat) (xs : Nat → Int32) {B : Nat} (hB : B = s.heap.size) : ∃ t : Nat, va_Z (q_sta 2).1 (q_sta 2).2 "[I" (.ref t) (fun q => B ≤ q) s s.heap ∧ va_T .int t (q_ln (q_h0 L xs) (q_M + 2)) (fun i => q_rd (q_h0 L xs) (q_M + 2) i) (fun q => B ≤ q) s s.heap := by
  obtain ⟨t, h1, h2⟩ := va_Tof (args := #[Value.ref b]) (s := s) (tm := .static RX3 "WAY_X" "[I") (ty := .int) (N := 8) (f := fun i => q_rd (q_h0 L xs) (q_M + 2) i) (A := fun q => B ≤ q) (by decide) (q_gvB h 8 rfl) (va_eqt (q_gvB h 9 rfl)) (fun i hi => by
    match i, hi with
    | 0, _ => exact va_eqt (q_gvB h 10 rfl)
    | 1, _ => exact va_eqt (q_gvB h 11 rfl)
    | 2, _ => exact va_eqt (q_gvB h 12 rfl)
    | 3, _ => exact va_eqt (q_gvB h 13 rfl)
    | 4, _ => exact va_eqt (q_gvB h 14 rfl)
    | 5, _ => exact va_eqt (q_gvB h 15 rfl)
    | 6, _ => exact va_eqt (q_gvB h 16 rfl)
    | 7, _ => exact va_eqt (q_gvB h 17 rfl)
    | i + 8, h => exact absurd h (by omega)) (q_oA hB)
  exact ⟨t, va_Zref (ht _ q_wL2) (ht _ q_wN2) h1 (q_oA hB), h2⟩
theorem q_st3 (h : (Jvm.Cond.and given_1 narrow_1).before #[Value.ref b] s = true) (ht : ∀ w ∈ lw_tbl, w.before #[Value.ref b] s = true) (L : Nat) (xs : Nat → Int32) {B : Nat} (hB : B = s.heap.size) : ∃ t : Nat, va_Z (q_sta 3).1 (q_sta 3).2 "[I" (.ref t) (fun q => B ≤ q) s s.heap ∧ va_T .int t (q_ln (q_h0 L xs) (q_M + 3)) (fun i => q_rd (q_h0 L xs) (q_M + 3) i) (fun q => B ≤ q) s s.heap := by
  obtain ⟨t, h1, h2⟩ := va_Tof (args := #[Value.ref b]) (s := s) (tm := .static RX3 "WAY_Y" "[I") (ty := .int) (N := 8) (f := fun i => q_rd (q_h0 L xs) (q_M + 3) i) (A := fun q => B ≤ q) (by decide) (q_gvB h 18 rfl) (va_eqt (q_gvB h 19 rfl)) (fun i hi => by
    match i, hi with
    | 0, _ => exact va_eqt (q_gvB h 20 rfl)
    | 1, _ => exact va_eqt (q_gvB h 21 rfl)
    | 2, _ => exact va_eqt (q_gvB h 22 rfl)
    | 3, _ => exact va_eqt (q_gvB h 23 rfl)
    | 4, _ => exact va_eqt (q_gvB h 24 rfl)
    | 5, _ => exact va_eqt (q_gvB h 25 rfl)
    | 6, _ => exact va_eqt (q_gvB h 26 rfl)
    | 7, _ => exact va_eqt (q_gvB h 27 rfl)
    | i + 8, h => exact absurd h (by omega)) (q_oA hB)
  exact ⟨t, va_Zref (ht _ q_wL3) (ht _ q_wN3) h1 (q_oA hB), h2⟩
theorem q_st4 (h : (Jvm.Cond.and given_1 narrow_1).before #[Value.ref b] s = true) (ht : ∀ w ∈ lw_tbl, w.before #[Value.ref b] s = true) (L : Nat) (xs : Nat → Int32) {B : Nat} (hB : B = s.heap.size) : ∃ t : Nat, va_Z (q_sta 4).1 (q_sta 4).2 "[I" (.ref t) (fun q => B ≤ q) s s.heap ∧ va_T .int t (q_ln (q_h0 L xs) (q_M + 4)) (fun i => q_rd (q_h0 L xs) (q_M + 4) i) (fun q => B ≤ q) s s.heap := by
  obtain ⟨t, h1, h2⟩ := va_Tof (args := #[Value.ref b]) (s := s) (tm := .static RX9 "BODIES" "[I") (ty := .int) (N := 24) (f := fun i => q_rd (q_h0 L xs) (q_M + 4) i) (A := fun q => B ≤ q) (by decide) (q_gvB h 28 rfl) (va_eqt (q_gvB h 29 rfl)) (fun i hi => by
    match i, hi with
    | 0, _ => exact va_eqt (q_gvB h 30 rfl)
    | 1, _ => exact va_eqt (q_gvB h 31 rfl)
    | 2, _ => exact va_eqt (q_gvB h 32 rfl)
    | 3, _ => exact va_eqt (q_gvB h 33 rfl)
    | 4, _ => exact va_eqt (q_gvB h 34 rfl)
    | 5, _ => exact va_eqt (q_gvB h 35 rfl)
    | 6, _ => exact va_eqt (q_gvB h 36 rfl)
    | 7, _ => exact va_eqt (q_gvB h 37 rfl)
    | 8, _ => exact va_eqt (q_gvB h 38 rfl)
    | 9, _ => exact va_eqt (q_gvB h 39 rfl)
    | 10, _ => exact va_eqt (q_gvB h 40 rfl)
    | 11, _ => exact va_eqt (q_gvB h 41 rfl)
    | 12, _ => exact va_eqt (q_gvB h 42 rfl)
    | 13, _ => exact va_eqt (q_gvB h 43 rfl)
    | 14, _ => exact va_eqt (q_gvB h 44 rfl)
    | 15, _ => exact va_eqt (q_gvB h 45 rfl)
    | 16, _ => exact va_eqt (q_gvB h 46 rfl)
    | 17, _ => exact va_eqt (q_gvB h 47 rfl)
    | 18, _ => exact va_eqt (q_gvB h 48 rfl)
    | 19, _ => exact va_eqt (q_gvB h 49 rfl)
    | 20, _ => exact va_eqt (q_gvB h 50 rfl)
    | 21, _ => exact va_eqt (q_gvB h 51 rfl)
    | 22, _ => exact va_eqt (q_gvB h 52 rfl)
    | 23, _ => exact va_eqt (q_gvB h 53 rfl)
    | i + 24, h => exact absurd h (by omega)) (q_oA hB)
  exact ⟨t, va_Zref (ht _ q_wL4) (ht _ q_wN4) h1 (q_oA hB), h2⟩
theorem q_st5 (h : (Jvm.Cond.and given_1 narrow_1).before #[Value.ref b] s = true) (ht : ∀ w ∈ lw_tbl, w.before #[Value.ref b] s = true) (L : Nat) (xs : Nat → Int32) {B : Nat} (hB : B = s.heap.size) : ∃ t : Nat, va_Z (q_sta 5).1 (q_sta 5).2 "[I" (.ref t) (fun q => B ≤ q) s s.heap ∧ va_T .int t (q_ln (q_h0 L xs) (q_M + 5)) (fun i => q_rd (q_h0 L xs) (q_M + 5) i) (fun q => B ≤ q) s s.heap := by
  obtain ⟨t, h1, h2⟩ := va_Tof (args := #[Value.ref b]) (s := s) (tm := .static RX12 "WAY_X" "[I") (ty := .int) (N := 8) (f := fun i => q_rd (q_h0 L xs) (q_M + 5) i) (A := fun q => B ≤ q) (by decide) (q_gvB h 54 rfl) (va_eqt (q_gvB h 55 rfl)) (fun i hi => by
    match i, hi with
    | 0, _ => exact va_eqt (q_gvB h 56 rfl)
    | 1, _ => exact va_eqt (q_gvB h 57 rfl)
    | 2, _ => exact va_eqt (q_gvB h 58 rfl)
    | 3, _ => exact va_eqt (q_gvB h 59 rfl)
    | 4, _ => exact va_eqt (q_gvB h 60 rfl)
    | 5, _ => exact va_eqt (q_gvB h 61 rfl)
    | 6, _ => exact va_eqt (q_gvB h 62 rfl)
    | 7, _ => exact va_eqt (q_gvB h 63 rfl)
    | i + 8, h => exact absurd h (by omega)) (q_oA hB)
  exact ⟨t, va_Zref (ht _ q_wL5) (ht _ q_wN5) h1 (q_oA hB), h2⟩
theorem q_st6 (h : (Jvm.Cond.and given_1 narrow_1).before #[Value.ref b] s = true) (ht : ∀ w ∈ lw_tbl, w.before #[Value.ref b] s = true) (L : Nat) (xs : Nat → Int32) {B : Nat} (hB : B = s.heap.size) : ∃ t : Nat, va_Z (q_sta 6).1 (q_sta 6).2 "[I" (.ref t) (fun q => B ≤ q) s s.heap ∧ va_T .int t (q_ln (q_h0 L xs) (q_M + 6)) (fun i => q_rd (q_h0 L xs) (q_M + 6) i) (fun q => B ≤ q) s s.heap := by
  obtain ⟨t, h1, h2⟩ := va_Tof (args := #[Value.ref b]) (s := s) (tm := .static RX12 "WAY_Y" "[I") (ty := .int) (N := 8) (f := fun i => q_rd (q_h0 L xs) (q_M + 6) i) (A := fun q => B ≤ q) (by decide) (q_gvB h 64 rfl) (va_eqt (q_gvB h 65 rfl)) (fun i hi => by
    match i, hi with
    | 0, _ => exact va_eqt (q_gvB h 66 rfl)
    | 1, _ => exact va_eqt (q_gvB h 67 rfl)
    | 2, _ => exact va_eqt (q_gvB h 68 rfl)
    | 3, _ => exact va_eqt (q_gvB h 69 rfl)
    | 4, _ => exact va_eqt (q_gvB h 70 rfl)
    | 5, _ => exact va_eqt (q_gvB h 71 rfl)
    | 6, _ => exact va_eqt (q_gvB h 72 rfl)
    | 7, _ => exact va_eqt (q_gvB h 73 rfl)
    | i + 8, h => exact absurd h (by omega)) (q_oA hB)
  exact ⟨t, va_Zref (ht _ q_wL6) (ht _ q_wN6) h1 (q_oA hB), h2⟩
theorem q_stS (h : (Jvm.Cond.and given_1 narrow_1).before #[Value.ref b] s = true) {B : Nat} (hB : B = s.heap.size) : ∃ adK adV : Nat → Nat, vk_S 3 [4, 4, 2] [[102, 109, 119, 116], [115, 104, 97, 110], [100, 117]] adK adV (fun q => B ≤ q) s s.heap ∧ ∀ i : Nat, i < 3 → (Term.string RX8 (83 + 2 * i)).eval #[Value.ref b] s none [] s = some (.ref (adK i)) := by
  refine vk_Sof (args := #[Value.ref b]) (s := s) (N := 3) (tm := fun i => .string RX8 (83 + 2 * i)) (fun i hi => by
    match i, hi with
    | 0, _ => exact (by decide)
    | 1, _ => exact (by decide)
    | 2, _ => exact (by decide)
    | i + 3, h => exact absurd h (by omega)) (fun i hi => by
    match i, hi with
    | 0, _ => exact q_gvB h 74 rfl
    | 1, _ => exact q_gvB h 82 rfl
    | 2, _ => exact q_gvB h 90 rfl
    | i + 3, h => exact absurd h (by omega)) (fun i hi => by
    match i, hi with
    | 0, _ => exact q_gvB h 75 rfl
    | 1, _ => exact q_gvB h 83 rfl
    | 2, _ => exact q_gvB h 91 rfl
    | i + 3, h => exact absurd h (by omega)) (fun i hi => by
    match i, hi with
    | 0, _ => exact q_gvB h 76 rfl
    | 1, _ => exact q_gvB h 84 rfl
    | 2, _ => exact q_gvB h 92 rfl
    | i + 3, h => exact absurd h (by omega)) (fun i hi => by
    match i, hi with
    | 0, _ => exact q_gvB h 77 rfl
    | 1, _ => exact q_gvB h 85 rfl
    | 2, _ => exact q_gvB h 93 rfl
    | i + 3, h => exact absurd h (by omega)) ?_ ?_ (q_oA hB)
  · intro i hi j hj
    match i, hi, j, hj with
    | 0, _, 0, _ => exact q_gvB h 78 rfl
    | 0, _, 1, _ => exact q_gvB h 79 rfl
    | 0, _, 2, _ => exact q_gvB h 80 rfl
    | 0, _, 3, _ => exact q_gvB h 81 rfl
    | 0, _, j + 4, h => exact absurd (show j + 4 < 4 from h) (by omega)
    | 1, _, 0, _ => exact q_gvB h 86 rfl
    | 1, _, 1, _ => exact q_gvB h 87 rfl
    | 1, _, 2, _ => exact q_gvB h 88 rfl
    | 1, _, 3, _ => exact q_gvB h 89 rfl
    | 1, _, j + 4, h => exact absurd (show j + 4 < 4 from h) (by omega)
    | 2, _, 0, _ => exact q_gvB h 94 rfl
    | 2, _, 1, _ => exact q_gvB h 95 rfl
    | 2, _, j + 2, h => exact absurd (show j + 2 < 2 from h) (by omega)
    | i + 3, h, _, _ => exact absurd h (by omega)
  · intro i j hi hj hne
    match i, hi, j, hj with
    | 0, _, 0, _ => exact absurd rfl hne
    | 0, _, 1, _ => exact Or.inl (q_gvB h 96 rfl)
    | 0, _, 2, _ => exact Or.inl (q_gvB h 97 rfl)
    | 1, _, 0, _ => exact Or.inr (q_gvB h 96 rfl)
    | 1, _, 1, _ => exact absurd rfl hne
    | 1, _, 2, _ => exact Or.inl (q_gvB h 98 rfl)
    | 2, _, 0, _ => exact Or.inr (q_gvB h 97 rfl)
    | 2, _, 1, _ => exact Or.inr (q_gvB h 98 rfl)
    | 2, _, 2, _ => exact absurd rfl hne
    | i + 3, h, _, _ => exact absurd h (by omega)
    | 0, _, j + 3, h => exact absurd h (by omega)
    | 1, _, j + 3, h => exact absurd h (by omega)
    | 2, _, j + 3, h => exact absurd h (by omega)
theorem q_stC (h : (Jvm.Cond.and given_1 narrow_1).before #[Value.ref b] s = true) (ht : ∀ w ∈ lw_tbl, w.before #[Value.ref b] s = true) {B : Nat} (hB : B = s.heap.size) : va_Z "java/lang/String" "COMPACT_STRINGS" "Z" (.int 1) (fun q => B ≤ q) s s.heap := va_Zof (ht _ q_wLc) (ht _ q_wNc) (va_eqi (q_gvB h 99 rfl)) (q_oA hB)
theorem q_K0 (ht : ∀ w ∈ lw_tbl, w.before #[Value.ref b] s = true) : ∃ (D : va_G) (cI cZ : ClassId), va_K D q_cls [(cI, .int), (cZ, .boolean)] s := by
  have hts : ∀ w ∈ q_tbl, w.before #[Value.ref b] s = true := fun w hw => ht w (List.mem_filter.mp hw).1
  have h1 : ∀ i : Nat, ∃ q : ClassId × (Nat → Nat), i < 11 → u_Kn s (q_clD i).1 (q_clD i).2.1 (q_clD i).2.2 q.1 q.2 := by
    intro i
    by_cases hi : i < 11
    · have hob : (i, ()) ∈ q_objT := by
        have : ∀ i, i < 11 → (i, ()) ∈ q_objT := by decide +kernel
        exact this i hi
      obtain ⟨c, iS, hk⟩ := u_known (C := (q_clD i).1) (T := (q_clD i).2.1) (N := (q_clD i).2.2) (n := (q_clD i).2.2) hts (q_clF hi).1 (ht _ (q_insW_ok _ hob))
      exact ⟨(c, iS), fun _ => hk⟩
    · exact ⟨(0, fun _ => 0), fun h => absurd h hi⟩
  obtain ⟨f, hf⟩ := Classical.axiomOfChoice h1
  obtain ⟨cI, kI, mI, a1, a2, a3⟩ := Cond.arrayClass_spec (ht _ q_wTi)
  obtain ⟨cZ, kZ, mZ, b1, b2, b3⟩ := Cond.arrayClass_spec (ht _ q_wTz)
  refine ⟨(fun i => (f i).1, fun i => (f i).2), cI, cZ, fun c q hq => ?_, fun k q hk => ?_⟩
  · have hc : c < 11 := (List.getElem?_eq_some_iff.mp hq).1
    have e := (q_clF hc).2.2.2
    rw [hq] at e
    rw [Option.some.inj e]
    exact hf c hc
  · match k, hk with
    | 0, hk =>
      cases hk
      exact ⟨fun n z => ⟨fun k h => (by cases h), kI, a2, mI, a3⟩, a1⟩
    | 1, hk =>
      cases hk
      exact ⟨fun n z => ⟨fun k h => (by cases h), kZ, b2, mZ, b3⟩, b1⟩
    | k + 2, hk => simp at hk
theorem q_Ro0 (h : (Jvm.Cond.and given_1 narrow_1).before #[Value.ref b] s = true) (ht : ∀ w ∈ lw_tbl, w.before #[Value.ref b] s = true) {L : Nat} {xs : Nat → Int32} (hX : va_X b L xs s s.heap) (hbl : b < s.heap.size) (hL : L < 2 ^ 31) : ∃ sa : Nat → Nat, sa 0 = b ∧ q_Ro sa s.heap.size (q_h0 L xs) s s.heap := by
  obtain ⟨t1, z1, y1⟩ := q_st1 h ht L xs rfl
  obtain ⟨t2, z2, y2⟩ := q_st2 h ht L xs rfl
  obtain ⟨t3, z3, y3⟩ := q_st3 h ht L xs rfl
  obtain ⟨t4, z4, y4⟩ := q_st4 h ht L xs rfl
  obtain ⟨t5, z5, y5⟩ := q_st5 h ht L xs rfl
  obtain ⟨t6, z6, y6⟩ := q_st6 h ht L xs rfl
  obtain ⟨adK, adV, hS, hev⟩ := q_stS h rfl
  refine ⟨fun k => if k = 0 then b else if k < 7 then ([t1, t2, t3, t4, t5, t6] : List Nat).getD (k - 1) 0 else if k < 10 then adK (k - 7) else adV (k - 10), rfl, fun k hk _ => ?_, fun k h1 h2 => ?_, ⟨fun q hq => va_Nw.of rfl (ht _ (q_mW3_3_ok q hq)), fun q hq => va_Nw.of rfl (ht _ (q_mW4_4_ok q hq))⟩, q_stC h ht rfl, fun k hk => ?_, fun k hk _ => ?_⟩
  · match k, hk with
    | 0, _ =>
      obtain ⟨scr, g1, g2, g3, g4, g5⟩ := hX
      exact ⟨scr, g1, g2, g3, Nat.le_of_eq g4.symm, by rw [g4]; rfl, g5, fun z => absurd hbl (Nat.not_lt.mpr z)⟩
    | 1, _ => exact y1
    | 2, _ => exact y2
    | 3, _ => exact y3
    | 4, _ => exact y4
    | 5, _ => exact y5
    | 6, _ => exact y6
    | k + 7, h => exact absurd h (by omega)
  · match k, h1, h2 with
    | 1, _, _ => exact z1
    | 2, _, _ => exact z2
    | 3, _, _ => exact z3
    | 4, _, _ => exact z4
    | 5, _, _ => exact z5
    | 6, _, _ => exact z6
    | k + 7, _, h => exact absurd h (by omega)
  · match k, hk with
    | 0, hk => exact ⟨vk_R.of (A := #[Value.ref b]) (ht _ q_wR0) (hev 0 hk), hS.1 0 hk |>.1, (hS.1 0 hk).2.1, (hS.1 0 hk).2.2.1⟩
    | 1, hk => exact ⟨vk_R.of (A := #[Value.ref b]) (ht _ q_wR1) (hev 1 hk), hS.1 1 hk |>.1, (hS.1 1 hk).2.1, (hS.1 1 hk).2.2.1⟩
    | 2, hk => exact ⟨vk_R.of (A := #[Value.ref b]) (ht _ q_wR2) (hev 2 hk), hS.1 2 hk |>.1, (hS.1 2 hk).2.1, (hS.1 2 hk).2.2.1⟩
    | k + 3, h => exact absurd h (by omega)
  · match k, hk with
    | 0, hk => exact (hS.1 0 hk).2.2.2
    | 1, hk => exact (hS.1 1 hk).2.2.2
    | 2, hk => exact (hS.1 2 hk).2.2.2
    | k + 3, h => exact absurd h (by omega)
end QZ
/-- the law's run: for every script it comes back with 1, in the room -/
def q_law : Prop := ∀ (L : Nat) (xs : Nat → Int32), L ≤ 3072 → ∃ (n : Nat) (h2 : q_H), q_run n 400 mL_law 0 [.ref q_M, .retAddr 0, .retAddr 0, .retAddr 0] [] (q_h0 L xs) = some (some (.int 1), h2) ∧ h2.1 ≤ 600000 ∧ q_sz h2 ≤ 7302249
theorem q_start (hq : q_law) {p : Program} {e : Env} {s : State} {m : MethodId} {below : List Frame} {meth : Method} {c : Code} (l : Launch) {b L : Nat} {xs : Nat → Int32} (hL : L ≤ 3072) (C0 : lw_At p s m meth c b L xs) : W p l e room_1 s m #[Value.ref b] below meth c s.heap [] 0 0 (lw_Z below #[Value.ref b] s) (entryFrame m ([Value.ref b] : List Value).toArray 4) := by
  obtain ⟨hx, hb, hr, hml, hown, hts, hX, hbl, hlocks, hgv⟩ := id C0
  obtain ⟨n, h2, hrun, hc1, hc2⟩ := hq L xs hL
  obtain ⟨D, cI, cZ, hK⟩ := q_K0 hts
  obtain ⟨sa, hsa, hR⟩ := q_Ro0 hgv hts hX hbl (by omega)
  have hl := lv_entry ([.ref b]) (n := 4) (Nat.le_of_ble_eq_true rfl)
  rw [lg_entry_eq]
  have F : q_Fr p room_1 s m #[Value.ref b] meth c D cI cZ s.heap.size 0 mL_law 400 := ⟨hx, hb, hml, hown, fun w hw => hts w (List.mem_filter.mp hw).1, fun h => absurd h (by decide +kernel), hK, rfl, by decide, by decide, by decide⟩
  have k9 := q_sound l D cI cZ s.heap.size sa n 400 mL_law 0 _ [] (q_h0 L xs) _ h2 hrun (p := p) (e := e) (below := below) (Q := lw_Z below #[Value.ref b] s) (n0 := 0) (z0 := 0) (H := s.heap) (locs := []) F ⟨(by decide : 0 < q_M), fun k q h => by simp [q_ws, q_h0] at h, va_S.rf, hR⟩ (Nat.zero_le _) (Nat.zero_le _)
    (lsC := (lg_sl ([.ref b]) ++ List.replicate (4 - (lg_sl ([.ref b])).length) Slot.unset).toArray)
    ⟨hl.1, hl.2.1, fun q hq => hl.2.2 q (by
      have e : q_la (q_cv s.heap.size sa) 0 [.ref q_M, .retAddr 0, .retAddr 0, .retAddr 0] = [(0, .ref b)] := by
        show [(0, q_cv s.heap.size sa (.ref (q_M + 0)))] = _
        rw [q_cv_hi, hsa]
      rw [e] at hq
      exact hq)⟩ rfl ⟨by show h2.1 - 0 ≤ 600000; omega, by show q_sz h2 - 0 ≤ 7302249; omega⟩
    (fun H1 locs1 pc1 ls1 I1 => ⟨fun v hv _ hdg => by
      cases hv
      refine va_forget (fun q hq => I1.2.2.1.2.2 q hq) ?_
      refine W.widen (k := 600000) (n := 7302249) (by omega) (by omega) ?_
      exact lw_ret hx hb hr hlocks hdg, fun hv => by cases hv⟩)
  exact k9
