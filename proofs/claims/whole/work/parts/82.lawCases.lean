/-! the law: its cases and its loop -/
theorem K_xs {d pc m L : Nat} {ls st : List Value} {xs : Nat → Int32} {g : Nat → Nat → Int32} {v : Int32} (hd : decode mL_law.2.2.1 pc = .ok (.iaload, 1)) (hv : v = nI m) (hm : m < L) (hL : L ≤ 3072) : q_sem d mL_law pc ls (.int v :: .ref q_M :: st) (q_K (q_h0 L xs) g) = q_sem d mL_law (pc + 1) ls (.int (xs m) :: st) (q_K (q_h0 L xs) g) := by
  subst hv
  have h0 : ¬ q_M < 151 := by decide
  have hs : (q_K (q_h0 L xs) g).2.1 q_M = (102, L) := by
    show (if q_M < 151 then q_sh q_M else if q_M < q_M then (0, 0) else if q_M = q_M then (102, L) else ((q_sl2.getD (q_M - q_M) (0, [])).1, (q_sl2.getD (q_M - q_M) (0, [])).2.length)) = _
    rw [if_neg h0, if_neg (Nat.lt_irrefl _), if_pos rfl]
  have hv : q_rd (q_K (q_h0 L xs) g) q_M m = .int (xs m) := by
    have e1 : ∀ p, ¬ p < 151 → q_rd (q_K (q_h0 L xs) g) p m = (q_h0 L xs).2.2 p m := fun p hp => if_neg hp
    have e2 : ∀ p, p = q_M → (q_h0 L xs).2.2 p m = .int (xs m) := fun p hp => if_pos hp
    rw [e1 q_M h0, e2 q_M rfl]
  have hl : q_ln (q_K (q_h0 L xs) g) q_M = L := by unfold q_ln; rw [hs]
  have hk : q_kd (q_K (q_h0 L xs) g) q_M = 102 := by unfold q_kd; rw [hs]
  refine q_s5E hd rfl rfl rfl rfl rfl rfl ?_
  unfold q_s5
  dsimp only
  rw [if_pos rfl, nI_clamp (n := m) (by omega), if_pos ⟨by rw [hl]; exact fun z => z.elim (nI_pos (by omega)) (fun z => by omega), Or.inr ⟨Nat.le_refl _, Nat.lt_add_of_pos_right (Nat.succ_pos 6), hk⟩⟩, hv]
theorem K_xl {d pc L : Nat} {ls st : List Value} {xs : Nat → Int32} {g : Nat → Nat → Int32} (hd : decode mL_law.2.2.1 pc = .ok (.arraylength, 1)) : q_sem d mL_law pc ls (.ref q_M :: st) (q_K (q_h0 L xs) g) = q_sem d mL_law (pc + 1) ls (.int (nI L) :: st) (q_K (q_h0 L xs) g) := by
  have h0 : ¬ q_M < 151 := by decide
  have hs : (q_K (q_h0 L xs) g).2.1 q_M = (102, L) := by
    show (if q_M < 151 then q_sh q_M else if q_M < q_M then (0, 0) else if q_M = q_M then (102, L) else ((q_sl2.getD (q_M - q_M) (0, [])).1, (q_sl2.getD (q_M - q_M) (0, [])).2.length)) = _
    rw [if_neg h0, if_neg (Nat.lt_irrefl _), if_pos rfl]
  have hl : q_ln (q_K (q_h0 L xs) g) q_M = L := by unfold q_ln; rw [hs]
  have hk : q_kd (q_K (q_h0 L xs) g) q_M = 102 := by unfold q_kd; rw [hs]
  refine q_s5E hd rfl rfl rfl rfl rfl rfl ?_
  unfold q_s5
  dsimp only
  rw [if_pos rfl, if_pos (Or.inr (Or.inl ⟨Nat.le_refl _, Nat.lt_add_of_pos_right (Nat.succ_pos 6), hk⟩)), hl]
  rfl
theorem K_bo264 {d : Nat} {ls st : List Value} {h : q_H} (v : Int32) : q_sem d mL_law 264 ls (.int v :: st) h = q_sem d mL_law 272 ls (.int (if v = 0 then 0 else 1) :: st) h := by
  refine (q_blk (Y := mL_law) (q_dcC dL_law_264 q_dcN) (show _ = some ((if q_cc .eq v 0 = true then 271 else 267), ls, st) from rfl)).trans ?_
  by_cases c1 : v = 0
  · rw [if_pos (show q_cc .eq v 0 = true from decide_eq_true c1), if_pos c1]
    exact q_blk (Y := mL_law) (q_dcC dL_law_271 q_dcN) (show _ = some (272, ls, .int 0 :: st) from rfl)
  · rw [if_neg (show ¬ q_cc .eq v 0 = true from fun z => c1 (of_decide_eq_true z)), if_neg c1]
    exact q_blk (Y := mL_law) (q_dcC dL_law_267 (q_dcC dL_law_268 q_dcN)) (show _ = some (272, ls, .int 1 :: st) from rfl)
theorem K_bo286 {d : Nat} {ls st : List Value} {h : q_H} (v : Int32) : q_sem d mL_law 286 ls (.int v :: st) h = q_sem d mL_law 294 ls (.int (if v = 0 then 0 else 1) :: st) h := by
  refine (q_blk (Y := mL_law) (q_dcC dL_law_286 q_dcN) (show _ = some ((if q_cc .eq v 0 = true then 293 else 289), ls, st) from rfl)).trans ?_
  by_cases c1 : v = 0
  · rw [if_pos (show q_cc .eq v 0 = true from decide_eq_true c1), if_pos c1]
    exact q_blk (Y := mL_law) (q_dcC dL_law_293 q_dcN) (show _ = some (294, ls, .int 0 :: st) from rfl)
  · rw [if_neg (show ¬ q_cc .eq v 0 = true from fun z => c1 (of_decide_eq_true z)), if_neg c1]
    exact q_blk (Y := mL_law) (q_dcC dL_law_289 (q_dcC dL_law_290 q_dcN)) (show _ = some (294, ls, .int 1 :: st) from rfl)
theorem K_bo737 {d : Nat} {ls st : List Value} {h : q_H} (v : Int32) : q_sem d mL_law 737 ls (.int v :: st) h = q_sem d mL_law 745 ls (.int (if v = 0 then 0 else 1) :: st) h := by
  refine (q_blk (Y := mL_law) (q_dcC dL_law_737 q_dcN) (show _ = some ((if q_cc .eq v 0 = true then 744 else 740), ls, st) from rfl)).trans ?_
  by_cases c1 : v = 0
  · rw [if_pos (show q_cc .eq v 0 = true from decide_eq_true c1), if_pos c1]
    exact q_blk (Y := mL_law) (q_dcC dL_law_744 q_dcN) (show _ = some (745, ls, .int 0 :: st) from rfl)
  · rw [if_neg (show ¬ q_cc .eq v 0 = true from fun z => c1 (of_decide_eq_true z)), if_neg c1]
    exact q_blk (Y := mL_law) (q_dcC dL_law_740 (q_dcC dL_law_741 q_dcN)) (show _ = some (745, ls, .int 1 :: st) from rfl)
theorem K_bo774 {d : Nat} {ls st : List Value} {h : q_H} (v : Int32) : q_sem d mL_law 774 ls (.int v :: st) h = q_sem d mL_law 782 ls (.int (if v = 0 then 0 else 1) :: st) h := by
  refine (q_blk (Y := mL_law) (q_dcC dL_law_774 q_dcN) (show _ = some ((if q_cc .eq v 0 = true then 781 else 777), ls, st) from rfl)).trans ?_
  by_cases c1 : v = 0
  · rw [if_pos (show q_cc .eq v 0 = true from decide_eq_true c1), if_pos c1]
    exact q_blk (Y := mL_law) (q_dcC dL_law_781 q_dcN) (show _ = some (782, ls, .int 0 :: st) from rfl)
  · rw [if_neg (show ¬ q_cc .eq v 0 = true from fun z => c1 (of_decide_eq_true z)), if_neg c1]
    exact q_blk (Y := mL_law) (q_dcC dL_law_777 (q_dcC dL_law_778 q_dcN)) (show _ = some (782, ls, .int 1 :: st) from rfl)
theorem K_bo867 {d : Nat} {ls st : List Value} {h : q_H} (v : Int32) : q_sem d mL_law 867 ls (.int v :: st) h = q_sem d mL_law 875 ls (.int (if v = 0 then 0 else 1) :: st) h := by
  refine (q_blk (Y := mL_law) (q_dcC dL_law_867 q_dcN) (show _ = some ((if q_cc .eq v 0 = true then 874 else 870), ls, st) from rfl)).trans ?_
  by_cases c1 : v = 0
  · rw [if_pos (show q_cc .eq v 0 = true from decide_eq_true c1), if_pos c1]
    exact q_blk (Y := mL_law) (q_dcC dL_law_874 q_dcN) (show _ = some (875, ls, .int 0 :: st) from rfl)
  · rw [if_neg (show ¬ q_cc .eq v 0 = true from fun z => c1 (of_decide_eq_true z)), if_neg c1]
    exact q_blk (Y := mL_law) (q_dcC dL_law_870 (q_dcC dL_law_871 q_dcN)) (show _ = some (875, ls, .int 1 :: st) from rfl)
theorem K_bo889 {d : Nat} {ls st : List Value} {h : q_H} (v : Int32) : q_sem d mL_law 889 ls (.int v :: st) h = q_sem d mL_law 897 ls (.int (if v = 0 then 0 else 1) :: st) h := by
  refine (q_blk (Y := mL_law) (q_dcC dL_law_889 q_dcN) (show _ = some ((if q_cc .eq v 0 = true then 896 else 892), ls, st) from rfl)).trans ?_
  by_cases c1 : v = 0
  · rw [if_pos (show q_cc .eq v 0 = true from decide_eq_true c1), if_pos c1]
    exact q_blk (Y := mL_law) (q_dcC dL_law_896 q_dcN) (show _ = some (897, ls, .int 0 :: st) from rfl)
  · rw [if_neg (show ¬ q_cc .eq v 0 = true from fun z => c1 (of_decide_eq_true z)), if_neg c1]
    exact q_blk (Y := mL_law) (q_dcC dL_law_892 (q_dcC dL_law_893 q_dcN)) (show _ = some (897, ls, .int 1 :: st) from rfl)
theorem LC_mast {L : Nat} {xs : Nat → Int32} (hL : L ≤ 3072) {r n : Nat} {g : Nat → Nat → Int32} (hr : 6 * r + 6 ≤ L) (hR : q_R n g) (hn : n ≤ 512) : ∃ g2, q_sem 400 mL_law 220 [.ref q_M, .ref 0, .ref 98, .int (nI (6 * r))] [] (q_K (q_h0 L xs) g) = q_sem 400 mL_law 1737 [.ref q_M, .ref 0, .ref 98, .int (nI (6 * r))] [] (q_K (q_h0 L xs) g2) ∧ q_R (n + 1) g2 := by
  obtain ⟨v, g1, g2, e1, e2, h2⟩ := law_mast hR ⟨L, xs, rfl⟩ 369 ((xs (6 * r + 1))) ((xs (6 * r + 2)))
  refine ⟨g2, ?_, R_le h2 (Nat.le_succ n)⟩
  refine (q_blk (Y := mL_law) (q_dcC dL_law_220 (q_dcC dL_law_221 (q_dcC dL_law_222 (q_dcC dL_law_223 (q_dcC dL_law_224 q_dcN))))) (show _ = some (225, [.ref q_M, .ref 0, .ref 98, .int (nI (6 * r))], [.int ((nI (6 * r)) + 1), .ref q_M, .ref 0]) from rfl)).trans ?_
  refine (K_xs (m := 6 * r + 1) dL_law_225 (nI_add (6 * r) 1) (by omega) hL).trans ?_
  refine (q_blk (Y := mL_law) (q_dcC dL_law_226 (q_dcC dL_law_227 (q_dcC dL_law_228 (q_dcC dL_law_229 q_dcN)))) (show _ = some (230, [.ref q_M, .ref 0, .ref 98, .int (nI (6 * r))], [.int ((nI (6 * r)) + 2), .ref q_M, .int (xs (6 * r + 1)), .ref 0]) from rfl)).trans ?_
  refine (K_xs (m := 6 * r + 2) dL_law_230 (nI_add (6 * r) 2) (by omega) hL).trans ?_
  refine (k_calV (d := 399) (Y := mL_law) (Z := mX11_mast) (vs := [.int (xs (6 * r + 1)), .int (xs (6 * r + 2))]) (rest := []) (la := [.ref 0, .int (xs (6 * r + 1)), .int (xs (6 * r + 2)), .retAddr 0]) dL_law_231 rfl rfl rfl rfl ⟨by decide, rfl⟩ (Nat.le_of_ble_eq_true rfl) rfl (Nat.le_of_ble_eq_true rfl) e1).trans ?_
  refine Eq.trans (b := q_sem 400 mL_law 234 [.ref q_M, .ref 0, .ref 98, .int (nI (6 * r))] [.int v] (q_K (q_h0 L xs) g1)) rfl ?_
  refine (q_blk (Y := mL_law) (q_dcC dL_law_234 (q_dcC dL_law_235 (q_dcC dL_law_236 (q_dcC dL_law_237 (q_dcC dL_law_238 q_dcN))))) (show _ = some (239, [.ref q_M, .ref 0, .ref 98, .int (nI (6 * r))], [.int ((nI (6 * r)) + 1), .ref q_M, .ref 98, .int v]) from rfl)).trans ?_
  refine (K_xs (m := 6 * r + 1) dL_law_239 (nI_add (6 * r) 1) (by omega) hL).trans ?_
  refine (q_blk (Y := mL_law) (q_dcC dL_law_240 (q_dcC dL_law_241 (q_dcC dL_law_242 (q_dcC dL_law_243 q_dcN)))) (show _ = some (244, [.ref q_M, .ref 0, .ref 98, .int (nI (6 * r))], [.int ((nI (6 * r)) + 2), .ref q_M, .int (xs (6 * r + 1)), .ref 98, .int v]) from rfl)).trans ?_
  refine (K_xs (m := 6 * r + 2) dL_law_244 (nI_add (6 * r) 2) (by omega) hL).trans ?_
  refine (k_calV (d := 399) (Y := mL_law) (Z := mX12_mast) (vs := [.int (xs (6 * r + 1)), .int (xs (6 * r + 2))]) (rest := [.int v]) (la := [.ref 98, .int (xs (6 * r + 1)), .int (xs (6 * r + 2)), .retAddr 0]) dL_law_245 rfl rfl rfl rfl ⟨by decide, rfl⟩ (Nat.le_of_ble_eq_true rfl) rfl (Nat.le_of_ble_eq_true rfl) e2).trans ?_
  refine Eq.trans (b := q_sem 400 mL_law 248 [.ref q_M, .ref 0, .ref 98, .int (nI (6 * r))] [.int v, .int v] (q_K (q_h0 L xs) g2)) rfl ?_
  refine (q_blk (Y := mL_law) (q_dcC dL_law_248 q_dcN) (show _ = some ((if q_cc .eq v v = true then 1737 else 251), [.ref q_M, .ref 0, .ref 98, .int (nI (6 * r))], []) from rfl)).trans ?_
  rw [if_pos (show q_cc .eq v v = true from decide_eq_true rfl)]
theorem LC_jam {L : Nat} {xs : Nat → Int32} (hL : L ≤ 3072) {r n : Nat} {g : Nat → Nat → Int32} (hr : 6 * r + 6 ≤ L) (hR : q_R n g) (hn : n ≤ 512) : ∃ g2, q_sem 400 mL_law 253 [.ref q_M, .ref 0, .ref 98, .int (nI (6 * r))] [] (q_K (q_h0 L xs) g) = q_sem 400 mL_law 1737 [.ref q_M, .ref 0, .ref 98, .int (nI (6 * r))] [] (q_K (q_h0 L xs) g2) ∧ q_R (n + 1) g2 := by
  obtain ⟨v, g1, g2, e1, e2, h2⟩ := law_jam hR ⟨L, xs, rfl⟩ 369 ((xs (6 * r + 1))) ((if (xs (6 * r + 2)) = 0 then 0 else 1))
  refine ⟨g2, ?_, R_le h2 (Nat.le_succ n)⟩
  refine (q_blk (Y := mL_law) (q_dcC dL_law_253 (q_dcC dL_law_254 (q_dcC dL_law_255 (q_dcC dL_law_256 (q_dcC dL_law_257 q_dcN))))) (show _ = some (258, [.ref q_M, .ref 0, .ref 98, .int (nI (6 * r))], [.int ((nI (6 * r)) + 1), .ref q_M, .ref 0]) from rfl)).trans ?_
  refine (K_xs (m := 6 * r + 1) dL_law_258 (nI_add (6 * r) 1) (by omega) hL).trans ?_
  refine (q_blk (Y := mL_law) (q_dcC dL_law_259 (q_dcC dL_law_260 (q_dcC dL_law_261 (q_dcC dL_law_262 q_dcN)))) (show _ = some (263, [.ref q_M, .ref 0, .ref 98, .int (nI (6 * r))], [.int ((nI (6 * r)) + 2), .ref q_M, .int (xs (6 * r + 1)), .ref 0]) from rfl)).trans ?_
  refine (K_xs (m := 6 * r + 2) dL_law_263 (nI_add (6 * r) 2) (by omega) hL).trans ?_
  refine (K_bo264 _).trans ?_
  refine (k_calV (d := 399) (Y := mL_law) (Z := mX11_jam) (vs := [.int (xs (6 * r + 1)), .int (if (xs (6 * r + 2)) = 0 then 0 else 1)]) (rest := []) (la := [.ref 0, .int (xs (6 * r + 1)), .int (if (xs (6 * r + 2)) = 0 then 0 else 1)]) dL_law_272 rfl rfl rfl rfl ⟨by decide, rfl⟩ (Nat.le_of_ble_eq_true rfl) rfl (Nat.le_of_ble_eq_true rfl) e1).trans ?_
  refine Eq.trans (b := q_sem 400 mL_law 275 [.ref q_M, .ref 0, .ref 98, .int (nI (6 * r))] [.int v] (q_K (q_h0 L xs) g1)) rfl ?_
  refine (q_blk (Y := mL_law) (q_dcC dL_law_275 (q_dcC dL_law_276 (q_dcC dL_law_277 (q_dcC dL_law_278 (q_dcC dL_law_279 q_dcN))))) (show _ = some (280, [.ref q_M, .ref 0, .ref 98, .int (nI (6 * r))], [.int ((nI (6 * r)) + 1), .ref q_M, .ref 98, .int v]) from rfl)).trans ?_
  refine (K_xs (m := 6 * r + 1) dL_law_280 (nI_add (6 * r) 1) (by omega) hL).trans ?_
  refine (q_blk (Y := mL_law) (q_dcC dL_law_281 (q_dcC dL_law_282 (q_dcC dL_law_283 (q_dcC dL_law_284 q_dcN)))) (show _ = some (285, [.ref q_M, .ref 0, .ref 98, .int (nI (6 * r))], [.int ((nI (6 * r)) + 2), .ref q_M, .int (xs (6 * r + 1)), .ref 98, .int v]) from rfl)).trans ?_
  refine (K_xs (m := 6 * r + 2) dL_law_285 (nI_add (6 * r) 2) (by omega) hL).trans ?_
  refine (K_bo286 _).trans ?_
  refine (k_calV (d := 399) (Y := mL_law) (Z := mX12_jam) (vs := [.int (xs (6 * r + 1)), .int (if (xs (6 * r + 2)) = 0 then 0 else 1)]) (rest := [.int v]) (la := [.ref 98, .int (xs (6 * r + 1)), .int (if (xs (6 * r + 2)) = 0 then 0 else 1), .retAddr 0]) dL_law_294 rfl rfl rfl rfl ⟨by decide, rfl⟩ (Nat.le_of_ble_eq_true rfl) rfl (Nat.le_of_ble_eq_true rfl) e2).trans ?_
  refine Eq.trans (b := q_sem 400 mL_law 297 [.ref q_M, .ref 0, .ref 98, .int (nI (6 * r))] [.int v, .int v] (q_K (q_h0 L xs) g2)) rfl ?_
  refine (q_blk (Y := mL_law) (q_dcC dL_law_297 q_dcN) (show _ = some ((if q_cc .eq v v = true then 1737 else 300), [.ref q_M, .ref 0, .ref 98, .int (nI (6 * r))], []) from rfl)).trans ?_
  rw [if_pos (show q_cc .eq v v = true from decide_eq_true rfl)]
theorem LC_post {L : Nat} {xs : Nat → Int32} (hL : L ≤ 3072) {r n : Nat} {g : Nat → Nat → Int32} (hr : 6 * r + 6 ≤ L) (hR : q_R n g) (hn : n ≤ 512) : ∃ g2, q_sem 400 mL_law 302 [.ref q_M, .ref 0, .ref 98, .int (nI (6 * r))] [] (q_K (q_h0 L xs) g) = q_sem 400 mL_law 1737 [.ref q_M, .ref 0, .ref 98, .int (nI (6 * r))] [] (q_K (q_h0 L xs) g2) ∧ q_R (n + 1) g2 := by
  obtain ⟨v, g1, g2, e1, e2, h2⟩ := law_post hR ⟨L, xs, rfl⟩ 369 ((xs (6 * r + 1))) ((xs (6 * r + 2)))
  refine ⟨g2, ?_, R_le h2 (Nat.le_succ n)⟩
  refine (q_blk (Y := mL_law) (q_dcC dL_law_302 (q_dcC dL_law_303 (q_dcC dL_law_304 (q_dcC dL_law_305 (q_dcC dL_law_306 q_dcN))))) (show _ = some (307, [.ref q_M, .ref 0, .ref 98, .int (nI (6 * r))], [.int ((nI (6 * r)) + 1), .ref q_M, .ref 0]) from rfl)).trans ?_
  refine (K_xs (m := 6 * r + 1) dL_law_307 (nI_add (6 * r) 1) (by omega) hL).trans ?_
  refine (q_blk (Y := mL_law) (q_dcC dL_law_308 (q_dcC dL_law_309 (q_dcC dL_law_310 (q_dcC dL_law_311 q_dcN)))) (show _ = some (312, [.ref q_M, .ref 0, .ref 98, .int (nI (6 * r))], [.int ((nI (6 * r)) + 2), .ref q_M, .int (xs (6 * r + 1)), .ref 0]) from rfl)).trans ?_
  refine (K_xs (m := 6 * r + 2) dL_law_312 (nI_add (6 * r) 2) (by omega) hL).trans ?_
  refine (k_calV (d := 399) (Y := mL_law) (Z := mX11_post) (vs := [.int (xs (6 * r + 1)), .int (xs (6 * r + 2))]) (rest := []) (la := [.ref 0, .int (xs (6 * r + 1)), .int (xs (6 * r + 2)), .retAddr 0]) dL_law_313 rfl rfl rfl rfl ⟨by decide, rfl⟩ (Nat.le_of_ble_eq_true rfl) rfl (Nat.le_of_ble_eq_true rfl) e1).trans ?_
  refine Eq.trans (b := q_sem 400 mL_law 316 [.ref q_M, .ref 0, .ref 98, .int (nI (6 * r))] [.int v] (q_K (q_h0 L xs) g1)) rfl ?_
  refine (q_blk (Y := mL_law) (q_dcC dL_law_316 (q_dcC dL_law_317 (q_dcC dL_law_318 (q_dcC dL_law_319 (q_dcC dL_law_320 q_dcN))))) (show _ = some (321, [.ref q_M, .ref 0, .ref 98, .int (nI (6 * r))], [.int ((nI (6 * r)) + 1), .ref q_M, .ref 98, .int v]) from rfl)).trans ?_
  refine (K_xs (m := 6 * r + 1) dL_law_321 (nI_add (6 * r) 1) (by omega) hL).trans ?_
  refine (q_blk (Y := mL_law) (q_dcC dL_law_322 (q_dcC dL_law_323 (q_dcC dL_law_324 (q_dcC dL_law_325 q_dcN)))) (show _ = some (326, [.ref q_M, .ref 0, .ref 98, .int (nI (6 * r))], [.int ((nI (6 * r)) + 2), .ref q_M, .int (xs (6 * r + 1)), .ref 98, .int v]) from rfl)).trans ?_
  refine (K_xs (m := 6 * r + 2) dL_law_326 (nI_add (6 * r) 2) (by omega) hL).trans ?_
  refine (k_calV (d := 399) (Y := mL_law) (Z := mX12_post) (vs := [.int (xs (6 * r + 1)), .int (xs (6 * r + 2))]) (rest := [.int v]) (la := [.ref 98, .int (xs (6 * r + 1)), .int (xs (6 * r + 2))]) dL_law_327 rfl rfl rfl rfl ⟨by decide, rfl⟩ (Nat.le_of_ble_eq_true rfl) rfl (Nat.le_of_ble_eq_true rfl) e2).trans ?_
  refine Eq.trans (b := q_sem 400 mL_law 330 [.ref q_M, .ref 0, .ref 98, .int (nI (6 * r))] [.int v, .int v] (q_K (q_h0 L xs) g2)) rfl ?_
  refine (q_blk (Y := mL_law) (q_dcC dL_law_330 q_dcN) (show _ = some ((if q_cc .eq v v = true then 1737 else 333), [.ref q_M, .ref 0, .ref 98, .int (nI (6 * r))], []) from rfl)).trans ?_
  rw [if_pos (show q_cc .eq v v = true from decide_eq_true rfl)]
theorem LC_set {L : Nat} {xs : Nat → Int32} (hL : L ≤ 3072) {r n : Nat} {g : Nat → Nat → Int32} (hr : 6 * r + 6 ≤ L) (hR : q_R n g) (hn : n ≤ 512) : ∃ g2, q_sem 400 mL_law 335 [.ref q_M, .ref 0, .ref 98, .int (nI (6 * r))] [] (q_K (q_h0 L xs) g) = q_sem 400 mL_law 1737 [.ref q_M, .ref 0, .ref 98, .int (nI (6 * r))] [] (q_K (q_h0 L xs) g2) ∧ q_R (n + 1) g2 := by
  obtain ⟨v, g1, g2, e1, e2, h2⟩ := law_set hR ⟨L, xs, rfl⟩ 369 ((xs (6 * r + 1))) ((xs (6 * r + 2)))
  refine ⟨g2, ?_, R_le h2 (Nat.le_succ n)⟩
  refine (q_blk (Y := mL_law) (q_dcC dL_law_335 (q_dcC dL_law_336 (q_dcC dL_law_337 (q_dcC dL_law_338 (q_dcC dL_law_339 q_dcN))))) (show _ = some (340, [.ref q_M, .ref 0, .ref 98, .int (nI (6 * r))], [.int ((nI (6 * r)) + 1), .ref q_M, .ref 0]) from rfl)).trans ?_
  refine (K_xs (m := 6 * r + 1) dL_law_340 (nI_add (6 * r) 1) (by omega) hL).trans ?_
  refine (q_blk (Y := mL_law) (q_dcC dL_law_341 (q_dcC dL_law_342 (q_dcC dL_law_343 (q_dcC dL_law_344 q_dcN)))) (show _ = some (345, [.ref q_M, .ref 0, .ref 98, .int (nI (6 * r))], [.int ((nI (6 * r)) + 2), .ref q_M, .int (xs (6 * r + 1)), .ref 0]) from rfl)).trans ?_
  refine (K_xs (m := 6 * r + 2) dL_law_345 (nI_add (6 * r) 2) (by omega) hL).trans ?_
  refine (k_calV (d := 399) (Y := mL_law) (Z := mX11_set) (vs := [.int (xs (6 * r + 1)), .int (xs (6 * r + 2))]) (rest := []) (la := [.ref 0, .int (xs (6 * r + 1)), .int (xs (6 * r + 2)), .retAddr 0]) dL_law_346 rfl rfl rfl rfl ⟨by decide, rfl⟩ (Nat.le_of_ble_eq_true rfl) rfl (Nat.le_of_ble_eq_true rfl) e1).trans ?_
  refine Eq.trans (b := q_sem 400 mL_law 349 [.ref q_M, .ref 0, .ref 98, .int (nI (6 * r))] [.int v] (q_K (q_h0 L xs) g1)) rfl ?_
  refine (q_blk (Y := mL_law) (q_dcC dL_law_349 (q_dcC dL_law_350 (q_dcC dL_law_351 (q_dcC dL_law_352 (q_dcC dL_law_353 q_dcN))))) (show _ = some (354, [.ref q_M, .ref 0, .ref 98, .int (nI (6 * r))], [.int ((nI (6 * r)) + 1), .ref q_M, .ref 98, .int v]) from rfl)).trans ?_
  refine (K_xs (m := 6 * r + 1) dL_law_354 (nI_add (6 * r) 1) (by omega) hL).trans ?_
  refine (q_blk (Y := mL_law) (q_dcC dL_law_355 (q_dcC dL_law_356 (q_dcC dL_law_357 (q_dcC dL_law_358 q_dcN)))) (show _ = some (359, [.ref q_M, .ref 0, .ref 98, .int (nI (6 * r))], [.int ((nI (6 * r)) + 2), .ref q_M, .int (xs (6 * r + 1)), .ref 98, .int v]) from rfl)).trans ?_
  refine (K_xs (m := 6 * r + 2) dL_law_359 (nI_add (6 * r) 2) (by omega) hL).trans ?_
  refine (k_calV (d := 399) (Y := mL_law) (Z := mX12_set) (vs := [.int (xs (6 * r + 1)), .int (xs (6 * r + 2))]) (rest := [.int v]) (la := [.ref 98, .int (xs (6 * r + 1)), .int (xs (6 * r + 2)), .retAddr 0]) dL_law_360 rfl rfl rfl rfl ⟨by decide, rfl⟩ (Nat.le_of_ble_eq_true rfl) rfl (Nat.le_of_ble_eq_true rfl) e2).trans ?_
  refine Eq.trans (b := q_sem 400 mL_law 363 [.ref q_M, .ref 0, .ref 98, .int (nI (6 * r))] [.int v, .int v] (q_K (q_h0 L xs) g2)) rfl ?_
  refine (q_blk (Y := mL_law) (q_dcC dL_law_363 q_dcN) (show _ = some ((if q_cc .eq v v = true then 1737 else 366), [.ref q_M, .ref 0, .ref 98, .int (nI (6 * r))], []) from rfl)).trans ?_
  rw [if_pos (show q_cc .eq v v = true from decide_eq_true rfl)]
theorem LC_watched {L : Nat} {xs : Nat → Int32} (hL : L ≤ 3072) {r n : Nat} {g : Nat → Nat → Int32} (hr : 6 * r + 6 ≤ L) (hR : q_R n g) (hn : n ≤ 512) : ∃ g2, q_sem 400 mL_law 368 [.ref q_M, .ref 0, .ref 98, .int (nI (6 * r))] [] (q_K (q_h0 L xs) g) = q_sem 400 mL_law 1737 [.ref q_M, .ref 0, .ref 98, .int (nI (6 * r))] [] (q_K (q_h0 L xs) g2) ∧ q_R (n + 1) g2 := by
  obtain ⟨v, g1, g2, e1, e2, h2⟩ := law_watched hR ⟨L, xs, rfl⟩ 369 ((xs (6 * r + 1)))
  refine ⟨g2, ?_, R_le h2 (Nat.le_succ n)⟩
  refine (q_blk (Y := mL_law) (q_dcC dL_law_368 (q_dcC dL_law_369 (q_dcC dL_law_370 (q_dcC dL_law_371 (q_dcC dL_law_372 q_dcN))))) (show _ = some (373, [.ref q_M, .ref 0, .ref 98, .int (nI (6 * r))], [.int ((nI (6 * r)) + 1), .ref q_M, .ref 0]) from rfl)).trans ?_
  refine (K_xs (m := 6 * r + 1) dL_law_373 (nI_add (6 * r) 1) (by omega) hL).trans ?_
  refine (k_calV (d := 399) (Y := mL_law) (Z := mX11_watched) (vs := [.int (xs (6 * r + 1))]) (rest := []) (la := [.ref 0, .int (xs (6 * r + 1))]) dL_law_374 rfl rfl rfl rfl ⟨by decide, rfl⟩ (Nat.le_of_ble_eq_true rfl) rfl (Nat.le_of_ble_eq_true rfl) e1).trans ?_
  refine Eq.trans (b := q_sem 400 mL_law 377 [.ref q_M, .ref 0, .ref 98, .int (nI (6 * r))] [.int v] (q_K (q_h0 L xs) g1)) rfl ?_
  refine (q_blk (Y := mL_law) (q_dcC dL_law_377 (q_dcC dL_law_378 (q_dcC dL_law_379 (q_dcC dL_law_380 (q_dcC dL_law_381 q_dcN))))) (show _ = some (382, [.ref q_M, .ref 0, .ref 98, .int (nI (6 * r))], [.int ((nI (6 * r)) + 1), .ref q_M, .ref 98, .int v]) from rfl)).trans ?_
  refine (K_xs (m := 6 * r + 1) dL_law_382 (nI_add (6 * r) 1) (by omega) hL).trans ?_
  refine (k_calV (d := 399) (Y := mL_law) (Z := mX12_watched) (vs := [.int (xs (6 * r + 1))]) (rest := [.int v]) (la := [.ref 98, .int (xs (6 * r + 1))]) dL_law_383 rfl rfl rfl rfl ⟨by decide, rfl⟩ (Nat.le_of_ble_eq_true rfl) rfl (Nat.le_of_ble_eq_true rfl) e2).trans ?_
  refine Eq.trans (b := q_sem 400 mL_law 386 [.ref q_M, .ref 0, .ref 98, .int (nI (6 * r))] [.int v, .int v] (q_K (q_h0 L xs) g2)) rfl ?_
  refine (q_blk (Y := mL_law) (q_dcC dL_law_386 q_dcN) (show _ = some ((if q_cc .eq v v = true then 1737 else 389), [.ref q_M, .ref 0, .ref 98, .int (nI (6 * r))], []) from rfl)).trans ?_
  rw [if_pos (show q_cc .eq v v = true from decide_eq_true rfl)]
theorem LC_field {L : Nat} {xs : Nat → Int32} (hL : L ≤ 3072) {r n : Nat} {g : Nat → Nat → Int32} (hr : 6 * r + 6 ≤ L) (hR : q_R n g) (hn : n ≤ 512) : ∃ g2, q_sem 400 mL_law 391 [.ref q_M, .ref 0, .ref 98, .int (nI (6 * r))] [] (q_K (q_h0 L xs) g) = q_sem 400 mL_law 1737 [.ref q_M, .ref 0, .ref 98, .int (nI (6 * r))] [] (q_K (q_h0 L xs) g2) ∧ q_R (n + 1) g2 := by
  obtain ⟨v, g1, g2, e1, e2, h2⟩ := law_field hR ⟨L, xs, rfl⟩ 369 ((xs (6 * r + 1)))
  refine ⟨g2, ?_, R_le h2 (Nat.le_succ n)⟩
  refine (q_blk (Y := mL_law) (q_dcC dL_law_391 (q_dcC dL_law_392 (q_dcC dL_law_393 (q_dcC dL_law_394 (q_dcC dL_law_395 q_dcN))))) (show _ = some (396, [.ref q_M, .ref 0, .ref 98, .int (nI (6 * r))], [.int ((nI (6 * r)) + 1), .ref q_M, .ref 0]) from rfl)).trans ?_
  refine (K_xs (m := 6 * r + 1) dL_law_396 (nI_add (6 * r) 1) (by omega) hL).trans ?_
  refine (k_calV (d := 399) (Y := mL_law) (Z := mX11_field) (vs := [.int (xs (6 * r + 1))]) (rest := []) (la := [.ref 0, .int (xs (6 * r + 1))]) dL_law_397 rfl rfl rfl rfl ⟨by decide, rfl⟩ (Nat.le_of_ble_eq_true rfl) rfl (Nat.le_of_ble_eq_true rfl) e1).trans ?_
  refine Eq.trans (b := q_sem 400 mL_law 400 [.ref q_M, .ref 0, .ref 98, .int (nI (6 * r))] [.int v] (q_K (q_h0 L xs) g1)) rfl ?_
  refine (q_blk (Y := mL_law) (q_dcC dL_law_400 (q_dcC dL_law_401 (q_dcC dL_law_402 (q_dcC dL_law_403 (q_dcC dL_law_404 q_dcN))))) (show _ = some (405, [.ref q_M, .ref 0, .ref 98, .int (nI (6 * r))], [.int ((nI (6 * r)) + 1), .ref q_M, .ref 98, .int v]) from rfl)).trans ?_
  refine (K_xs (m := 6 * r + 1) dL_law_405 (nI_add (6 * r) 1) (by omega) hL).trans ?_
  refine (k_calV (d := 399) (Y := mL_law) (Z := mX12_field) (vs := [.int (xs (6 * r + 1))]) (rest := [.int v]) (la := [.ref 98, .int (xs (6 * r + 1))]) dL_law_406 rfl rfl rfl rfl ⟨by decide, rfl⟩ (Nat.le_of_ble_eq_true rfl) rfl (Nat.le_of_ble_eq_true rfl) e2).trans ?_
  refine Eq.trans (b := q_sem 400 mL_law 409 [.ref q_M, .ref 0, .ref 98, .int (nI (6 * r))] [.int v, .int v] (q_K (q_h0 L xs) g2)) rfl ?_
  refine (q_blk (Y := mL_law) (q_dcC dL_law_409 q_dcN) (show _ = some ((if q_cc .eq v v = true then 1737 else 412), [.ref q_M, .ref 0, .ref 98, .int (nI (6 * r))], []) from rfl)).trans ?_
  rw [if_pos (show q_cc .eq v v = true from decide_eq_true rfl)]
theorem LC_town {L : Nat} {xs : Nat → Int32} (hL : L ≤ 3072) {r n : Nat} {g : Nat → Nat → Int32} (hr : 6 * r + 6 ≤ L) (hR : q_R n g) (hn : n ≤ 512) : ∃ g2, q_sem 400 mL_law 414 [.ref q_M, .ref 0, .ref 98, .int (nI (6 * r))] [] (q_K (q_h0 L xs) g) = q_sem 400 mL_law 1737 [.ref q_M, .ref 0, .ref 98, .int (nI (6 * r))] [] (q_K (q_h0 L xs) g2) ∧ q_R (n + 1) g2 := by
  obtain ⟨v, g1, g2, e1, e2, h2⟩ := law_town hR ⟨L, xs, rfl⟩ 369 ((xs (6 * r + 1)))
  refine ⟨g2, ?_, R_le h2 (Nat.le_succ n)⟩
  refine (q_blk (Y := mL_law) (q_dcC dL_law_414 (q_dcC dL_law_415 (q_dcC dL_law_416 (q_dcC dL_law_417 (q_dcC dL_law_418 q_dcN))))) (show _ = some (419, [.ref q_M, .ref 0, .ref 98, .int (nI (6 * r))], [.int ((nI (6 * r)) + 1), .ref q_M, .ref 0]) from rfl)).trans ?_
  refine (K_xs (m := 6 * r + 1) dL_law_419 (nI_add (6 * r) 1) (by omega) hL).trans ?_
  refine (k_calV (d := 399) (Y := mL_law) (Z := mX11_town) (vs := [.int (xs (6 * r + 1))]) (rest := []) (la := [.ref 0, .int (xs (6 * r + 1))]) dL_law_420 rfl rfl rfl rfl ⟨by decide, rfl⟩ (Nat.le_of_ble_eq_true rfl) rfl (Nat.le_of_ble_eq_true rfl) e1).trans ?_
  refine Eq.trans (b := q_sem 400 mL_law 423 [.ref q_M, .ref 0, .ref 98, .int (nI (6 * r))] [.int v] (q_K (q_h0 L xs) g1)) rfl ?_
  refine (q_blk (Y := mL_law) (q_dcC dL_law_423 (q_dcC dL_law_424 (q_dcC dL_law_425 (q_dcC dL_law_426 (q_dcC dL_law_427 q_dcN))))) (show _ = some (428, [.ref q_M, .ref 0, .ref 98, .int (nI (6 * r))], [.int ((nI (6 * r)) + 1), .ref q_M, .ref 98, .int v]) from rfl)).trans ?_
  refine (K_xs (m := 6 * r + 1) dL_law_428 (nI_add (6 * r) 1) (by omega) hL).trans ?_
  refine (k_calV (d := 399) (Y := mL_law) (Z := mX12_town) (vs := [.int (xs (6 * r + 1))]) (rest := [.int v]) (la := [.ref 98, .int (xs (6 * r + 1)), .retAddr 0]) dL_law_429 rfl rfl rfl rfl ⟨by decide, rfl⟩ (Nat.le_of_ble_eq_true rfl) rfl (Nat.le_of_ble_eq_true rfl) e2).trans ?_
  refine Eq.trans (b := q_sem 400 mL_law 432 [.ref q_M, .ref 0, .ref 98, .int (nI (6 * r))] [.int v, .int v] (q_K (q_h0 L xs) g2)) rfl ?_
  refine (q_blk (Y := mL_law) (q_dcC dL_law_432 q_dcN) (show _ = some ((if q_cc .eq v v = true then 1737 else 435), [.ref q_M, .ref 0, .ref 98, .int (nI (6 * r))], []) from rfl)).trans ?_
  rw [if_pos (show q_cc .eq v v = true from decide_eq_true rfl)]
theorem LC_townIs {L : Nat} {xs : Nat → Int32} (hL : L ≤ 3072) {r n : Nat} {g : Nat → Nat → Int32} (hr : 6 * r + 6 ≤ L) (hR : q_R n g) (hn : n ≤ 512) : ∃ g2, q_sem 400 mL_law 437 [.ref q_M, .ref 0, .ref 98, .int (nI (6 * r))] [] (q_K (q_h0 L xs) g) = q_sem 400 mL_law 1737 [.ref q_M, .ref 0, .ref 98, .int (nI (6 * r))] [] (q_K (q_h0 L xs) g2) ∧ q_R (n + 1) g2 := by
  obtain ⟨v, g1, g2, e1, e2, h2⟩ := law_townIs hR ⟨L, xs, rfl⟩ 369 ((xs (6 * r + 1))) ((xs (6 * r + 2)))
  refine ⟨g2, ?_, R_le h2 (Nat.le_succ n)⟩
  refine (q_blk (Y := mL_law) (q_dcC dL_law_437 (q_dcC dL_law_438 (q_dcC dL_law_439 (q_dcC dL_law_440 (q_dcC dL_law_441 q_dcN))))) (show _ = some (442, [.ref q_M, .ref 0, .ref 98, .int (nI (6 * r))], [.int ((nI (6 * r)) + 1), .ref q_M, .ref 0]) from rfl)).trans ?_
  refine (K_xs (m := 6 * r + 1) dL_law_442 (nI_add (6 * r) 1) (by omega) hL).trans ?_
  refine (q_blk (Y := mL_law) (q_dcC dL_law_443 (q_dcC dL_law_444 (q_dcC dL_law_445 (q_dcC dL_law_446 q_dcN)))) (show _ = some (447, [.ref q_M, .ref 0, .ref 98, .int (nI (6 * r))], [.int ((nI (6 * r)) + 2), .ref q_M, .int (xs (6 * r + 1)), .ref 0]) from rfl)).trans ?_
  refine (K_xs (m := 6 * r + 2) dL_law_447 (nI_add (6 * r) 2) (by omega) hL).trans ?_
  refine (k_calV (d := 399) (Y := mL_law) (Z := mX11_townIs) (vs := [.int (xs (6 * r + 1)), .int (xs (6 * r + 2))]) (rest := []) (la := [.ref 0, .int (xs (6 * r + 1)), .int (xs (6 * r + 2))]) dL_law_448 rfl rfl rfl rfl ⟨by decide, rfl⟩ (Nat.le_of_ble_eq_true rfl) rfl (Nat.le_of_ble_eq_true rfl) e1).trans ?_
  refine Eq.trans (b := q_sem 400 mL_law 451 [.ref q_M, .ref 0, .ref 98, .int (nI (6 * r))] [.int v] (q_K (q_h0 L xs) g1)) rfl ?_
  refine (q_blk (Y := mL_law) (q_dcC dL_law_451 (q_dcC dL_law_452 (q_dcC dL_law_453 (q_dcC dL_law_454 (q_dcC dL_law_455 q_dcN))))) (show _ = some (456, [.ref q_M, .ref 0, .ref 98, .int (nI (6 * r))], [.int ((nI (6 * r)) + 1), .ref q_M, .ref 98, .int v]) from rfl)).trans ?_
  refine (K_xs (m := 6 * r + 1) dL_law_456 (nI_add (6 * r) 1) (by omega) hL).trans ?_
  refine (q_blk (Y := mL_law) (q_dcC dL_law_457 (q_dcC dL_law_458 (q_dcC dL_law_459 (q_dcC dL_law_460 q_dcN)))) (show _ = some (461, [.ref q_M, .ref 0, .ref 98, .int (nI (6 * r))], [.int ((nI (6 * r)) + 2), .ref q_M, .int (xs (6 * r + 1)), .ref 98, .int v]) from rfl)).trans ?_
  refine (K_xs (m := 6 * r + 2) dL_law_461 (nI_add (6 * r) 2) (by omega) hL).trans ?_
  refine (k_calV (d := 399) (Y := mL_law) (Z := mX12_townIs) (vs := [.int (xs (6 * r + 1)), .int (xs (6 * r + 2))]) (rest := [.int v]) (la := [.ref 98, .int (xs (6 * r + 1)), .int (xs (6 * r + 2))]) dL_law_462 rfl rfl rfl rfl ⟨by decide, rfl⟩ (Nat.le_of_ble_eq_true rfl) rfl (Nat.le_of_ble_eq_true rfl) e2).trans ?_
  refine Eq.trans (b := q_sem 400 mL_law 465 [.ref q_M, .ref 0, .ref 98, .int (nI (6 * r))] [.int v, .int v] (q_K (q_h0 L xs) g2)) rfl ?_
  refine (q_blk (Y := mL_law) (q_dcC dL_law_465 q_dcN) (show _ = some ((if q_cc .eq v v = true then 1737 else 468), [.ref q_M, .ref 0, .ref 98, .int (nI (6 * r))], []) from rfl)).trans ?_
  rw [if_pos (show q_cc .eq v v = true from decide_eq_true rfl)]
theorem LC_plot {L : Nat} {xs : Nat → Int32} (hL : L ≤ 3072) {r n : Nat} {g : Nat → Nat → Int32} (hr : 6 * r + 6 ≤ L) (hR : q_R n g) (hn : n ≤ 512) : ∃ g2, q_sem 400 mL_law 470 [.ref q_M, .ref 0, .ref 98, .int (nI (6 * r))] [] (q_K (q_h0 L xs) g) = q_sem 400 mL_law 1737 [.ref q_M, .ref 0, .ref 98, .int (nI (6 * r))] [] (q_K (q_h0 L xs) g2) ∧ q_R (n + 1) g2 := by
  obtain ⟨v, g1, g2, e1, e2, h2⟩ := law_plot hR ⟨L, xs, rfl⟩ 369 ((xs (6 * r + 1))) ((xs (6 * r + 2)))
  refine ⟨g2, ?_, R_le h2 (Nat.le_succ n)⟩
  refine (q_blk (Y := mL_law) (q_dcC dL_law_470 (q_dcC dL_law_471 (q_dcC dL_law_472 (q_dcC dL_law_473 (q_dcC dL_law_474 q_dcN))))) (show _ = some (475, [.ref q_M, .ref 0, .ref 98, .int (nI (6 * r))], [.int ((nI (6 * r)) + 1), .ref q_M, .ref 0]) from rfl)).trans ?_
  refine (K_xs (m := 6 * r + 1) dL_law_475 (nI_add (6 * r) 1) (by omega) hL).trans ?_
  refine (q_blk (Y := mL_law) (q_dcC dL_law_476 (q_dcC dL_law_477 (q_dcC dL_law_478 (q_dcC dL_law_479 q_dcN)))) (show _ = some (480, [.ref q_M, .ref 0, .ref 98, .int (nI (6 * r))], [.int ((nI (6 * r)) + 2), .ref q_M, .int (xs (6 * r + 1)), .ref 0]) from rfl)).trans ?_
  refine (K_xs (m := 6 * r + 2) dL_law_480 (nI_add (6 * r) 2) (by omega) hL).trans ?_
  refine (k_calV (d := 399) (Y := mL_law) (Z := mX11_plot) (vs := [.int (xs (6 * r + 1)), .int (xs (6 * r + 2))]) (rest := []) (la := [.ref 0, .int (xs (6 * r + 1)), .int (xs (6 * r + 2))]) dL_law_481 rfl rfl rfl rfl ⟨by decide, rfl⟩ (Nat.le_of_ble_eq_true rfl) rfl (Nat.le_of_ble_eq_true rfl) e1).trans ?_
  refine Eq.trans (b := q_sem 400 mL_law 484 [.ref q_M, .ref 0, .ref 98, .int (nI (6 * r))] [.int v] (q_K (q_h0 L xs) g1)) rfl ?_
  refine (q_blk (Y := mL_law) (q_dcC dL_law_484 (q_dcC dL_law_485 (q_dcC dL_law_486 (q_dcC dL_law_487 (q_dcC dL_law_488 q_dcN))))) (show _ = some (489, [.ref q_M, .ref 0, .ref 98, .int (nI (6 * r))], [.int ((nI (6 * r)) + 1), .ref q_M, .ref 98, .int v]) from rfl)).trans ?_
  refine (K_xs (m := 6 * r + 1) dL_law_489 (nI_add (6 * r) 1) (by omega) hL).trans ?_
  refine (q_blk (Y := mL_law) (q_dcC dL_law_490 (q_dcC dL_law_491 (q_dcC dL_law_492 (q_dcC dL_law_493 q_dcN)))) (show _ = some (494, [.ref q_M, .ref 0, .ref 98, .int (nI (6 * r))], [.int ((nI (6 * r)) + 2), .ref q_M, .int (xs (6 * r + 1)), .ref 98, .int v]) from rfl)).trans ?_
  refine (K_xs (m := 6 * r + 2) dL_law_494 (nI_add (6 * r) 2) (by omega) hL).trans ?_
  refine (k_calV (d := 399) (Y := mL_law) (Z := mX12_plot) (vs := [.int (xs (6 * r + 1)), .int (xs (6 * r + 2))]) (rest := [.int v]) (la := [.ref 98, .int (xs (6 * r + 1)), .int (xs (6 * r + 2))]) dL_law_495 rfl rfl rfl rfl ⟨by decide, rfl⟩ (Nat.le_of_ble_eq_true rfl) rfl (Nat.le_of_ble_eq_true rfl) e2).trans ?_
  refine Eq.trans (b := q_sem 400 mL_law 498 [.ref q_M, .ref 0, .ref 98, .int (nI (6 * r))] [.int v, .int v] (q_K (q_h0 L xs) g2)) rfl ?_
  refine (q_blk (Y := mL_law) (q_dcC dL_law_498 q_dcN) (show _ = some ((if q_cc .eq v v = true then 1737 else 501), [.ref q_M, .ref 0, .ref 98, .int (nI (6 * r))], []) from rfl)).trans ?_
  rw [if_pos (show q_cc .eq v v = true from decide_eq_true rfl)]
theorem LC_plots {L : Nat} {xs : Nat → Int32} (hL : L ≤ 3072) {r n : Nat} {g : Nat → Nat → Int32} (hr : 6 * r + 6 ≤ L) (hR : q_R n g) (hn : n ≤ 512) : ∃ g2, q_sem 400 mL_law 503 [.ref q_M, .ref 0, .ref 98, .int (nI (6 * r))] [] (q_K (q_h0 L xs) g) = q_sem 400 mL_law 1737 [.ref q_M, .ref 0, .ref 98, .int (nI (6 * r))] [] (q_K (q_h0 L xs) g2) ∧ q_R (n + 1) g2 := by
  obtain ⟨v, g1, g2, e1, e2, h2⟩ := law_plots hR ⟨L, xs, rfl⟩ 369 ((xs (6 * r + 1)))
  refine ⟨g2, ?_, R_le h2 (Nat.le_succ n)⟩
  refine (q_blk (Y := mL_law) (q_dcC dL_law_503 (q_dcC dL_law_504 (q_dcC dL_law_505 (q_dcC dL_law_506 (q_dcC dL_law_507 q_dcN))))) (show _ = some (508, [.ref q_M, .ref 0, .ref 98, .int (nI (6 * r))], [.int ((nI (6 * r)) + 1), .ref q_M, .ref 0]) from rfl)).trans ?_
  refine (K_xs (m := 6 * r + 1) dL_law_508 (nI_add (6 * r) 1) (by omega) hL).trans ?_
  refine (k_calV (d := 399) (Y := mL_law) (Z := mX11_plots) (vs := [.int (xs (6 * r + 1))]) (rest := []) (la := [.ref 0, .int (xs (6 * r + 1)), .retAddr 0, .retAddr 0, .retAddr 0, .retAddr 0]) dL_law_509 rfl rfl rfl rfl ⟨by decide, rfl⟩ (Nat.le_of_ble_eq_true rfl) rfl (Nat.le_of_ble_eq_true rfl) e1).trans ?_
  refine Eq.trans (b := q_sem 400 mL_law 512 [.ref q_M, .ref 0, .ref 98, .int (nI (6 * r))] [.int v] (q_K (q_h0 L xs) g1)) rfl ?_
  refine (q_blk (Y := mL_law) (q_dcC dL_law_512 (q_dcC dL_law_513 (q_dcC dL_law_514 (q_dcC dL_law_515 (q_dcC dL_law_516 q_dcN))))) (show _ = some (517, [.ref q_M, .ref 0, .ref 98, .int (nI (6 * r))], [.int ((nI (6 * r)) + 1), .ref q_M, .ref 98, .int v]) from rfl)).trans ?_
  refine (K_xs (m := 6 * r + 1) dL_law_517 (nI_add (6 * r) 1) (by omega) hL).trans ?_
  refine (k_calV (d := 399) (Y := mL_law) (Z := mX12_plots) (vs := [.int (xs (6 * r + 1))]) (rest := [.int v]) (la := [.ref 98, .int (xs (6 * r + 1)), .retAddr 0, .retAddr 0]) dL_law_518 rfl rfl rfl rfl ⟨by decide, rfl⟩ (Nat.le_of_ble_eq_true rfl) rfl (Nat.le_of_ble_eq_true rfl) e2).trans ?_
  refine Eq.trans (b := q_sem 400 mL_law 521 [.ref q_M, .ref 0, .ref 98, .int (nI (6 * r))] [.int v, .int v] (q_K (q_h0 L xs) g2)) rfl ?_
  refine (q_blk (Y := mL_law) (q_dcC dL_law_521 q_dcN) (show _ = some ((if q_cc .eq v v = true then 1737 else 524), [.ref q_M, .ref 0, .ref 98, .int (nI (6 * r))], []) from rfl)).trans ?_
  rw [if_pos (show q_cc .eq v v = true from decide_eq_true rfl)]
theorem LC_plotIs {L : Nat} {xs : Nat → Int32} (hL : L ≤ 3072) {r n : Nat} {g : Nat → Nat → Int32} (hr : 6 * r + 6 ≤ L) (hR : q_R n g) (hn : n ≤ 512) : ∃ g2, q_sem 400 mL_law 526 [.ref q_M, .ref 0, .ref 98, .int (nI (6 * r))] [] (q_K (q_h0 L xs) g) = q_sem 400 mL_law 1737 [.ref q_M, .ref 0, .ref 98, .int (nI (6 * r))] [] (q_K (q_h0 L xs) g2) ∧ q_R (n + 1) g2 := by
  obtain ⟨v, g1, g2, e1, e2, h2⟩ := law_plotIs hR ⟨L, xs, rfl⟩ 369 ((xs (6 * r + 1))) ((xs (6 * r + 2)))
  refine ⟨g2, ?_, R_le h2 (Nat.le_succ n)⟩
  refine (q_blk (Y := mL_law) (q_dcC dL_law_526 (q_dcC dL_law_527 (q_dcC dL_law_528 (q_dcC dL_law_529 (q_dcC dL_law_530 q_dcN))))) (show _ = some (531, [.ref q_M, .ref 0, .ref 98, .int (nI (6 * r))], [.int ((nI (6 * r)) + 1), .ref q_M, .ref 0]) from rfl)).trans ?_
  refine (K_xs (m := 6 * r + 1) dL_law_531 (nI_add (6 * r) 1) (by omega) hL).trans ?_
  refine (q_blk (Y := mL_law) (q_dcC dL_law_532 (q_dcC dL_law_533 (q_dcC dL_law_534 (q_dcC dL_law_535 q_dcN)))) (show _ = some (536, [.ref q_M, .ref 0, .ref 98, .int (nI (6 * r))], [.int ((nI (6 * r)) + 2), .ref q_M, .int (xs (6 * r + 1)), .ref 0]) from rfl)).trans ?_
  refine (K_xs (m := 6 * r + 2) dL_law_536 (nI_add (6 * r) 2) (by omega) hL).trans ?_
  refine (k_calV (d := 399) (Y := mL_law) (Z := mX11_plotIs) (vs := [.int (xs (6 * r + 1)), .int (xs (6 * r + 2))]) (rest := []) (la := [.ref 0, .int (xs (6 * r + 1)), .int (xs (6 * r + 2))]) dL_law_537 rfl rfl rfl rfl ⟨by decide, rfl⟩ (Nat.le_of_ble_eq_true rfl) rfl (Nat.le_of_ble_eq_true rfl) e1).trans ?_
  refine Eq.trans (b := q_sem 400 mL_law 540 [.ref q_M, .ref 0, .ref 98, .int (nI (6 * r))] [.int v] (q_K (q_h0 L xs) g1)) rfl ?_
  refine (q_blk (Y := mL_law) (q_dcC dL_law_540 (q_dcC dL_law_541 (q_dcC dL_law_542 (q_dcC dL_law_543 (q_dcC dL_law_544 q_dcN))))) (show _ = some (545, [.ref q_M, .ref 0, .ref 98, .int (nI (6 * r))], [.int ((nI (6 * r)) + 1), .ref q_M, .ref 98, .int v]) from rfl)).trans ?_
  refine (K_xs (m := 6 * r + 1) dL_law_545 (nI_add (6 * r) 1) (by omega) hL).trans ?_
  refine (q_blk (Y := mL_law) (q_dcC dL_law_546 (q_dcC dL_law_547 (q_dcC dL_law_548 (q_dcC dL_law_549 q_dcN)))) (show _ = some (550, [.ref q_M, .ref 0, .ref 98, .int (nI (6 * r))], [.int ((nI (6 * r)) + 2), .ref q_M, .int (xs (6 * r + 1)), .ref 98, .int v]) from rfl)).trans ?_
  refine (K_xs (m := 6 * r + 2) dL_law_550 (nI_add (6 * r) 2) (by omega) hL).trans ?_
  refine (k_calV (d := 399) (Y := mL_law) (Z := mX12_plotIs) (vs := [.int (xs (6 * r + 1)), .int (xs (6 * r + 2))]) (rest := [.int v]) (la := [.ref 98, .int (xs (6 * r + 1)), .int (xs (6 * r + 2))]) dL_law_551 rfl rfl rfl rfl ⟨by decide, rfl⟩ (Nat.le_of_ble_eq_true rfl) rfl (Nat.le_of_ble_eq_true rfl) e2).trans ?_
  refine Eq.trans (b := q_sem 400 mL_law 554 [.ref q_M, .ref 0, .ref 98, .int (nI (6 * r))] [.int v, .int v] (q_K (q_h0 L xs) g2)) rfl ?_
  refine (q_blk (Y := mL_law) (q_dcC dL_law_554 q_dcN) (show _ = some ((if q_cc .eq v v = true then 1737 else 557), [.ref q_M, .ref 0, .ref 98, .int (nI (6 * r))], []) from rfl)).trans ?_
  rw [if_pos (show q_cc .eq v v = true from decide_eq_true rfl)]
theorem LC_follows {L : Nat} {xs : Nat → Int32} (hL : L ≤ 3072) {r n : Nat} {g : Nat → Nat → Int32} (hr : 6 * r + 6 ≤ L) (hR : q_R n g) (hn : n ≤ 512) : ∃ g2, q_sem 400 mL_law 559 [.ref q_M, .ref 0, .ref 98, .int (nI (6 * r))] [] (q_K (q_h0 L xs) g) = q_sem 400 mL_law 1737 [.ref q_M, .ref 0, .ref 98, .int (nI (6 * r))] [] (q_K (q_h0 L xs) g2) ∧ q_R (n + 1) g2 := by
  obtain ⟨v, g1, g2, e1, e2, h2⟩ := law_follows hR ⟨L, xs, rfl⟩ 369 ((xs (6 * r + 1))) ((xs (6 * r + 2)))
  refine ⟨g2, ?_, R_le h2 (Nat.le_succ n)⟩
  refine (q_blk (Y := mL_law) (q_dcC dL_law_559 (q_dcC dL_law_560 (q_dcC dL_law_561 (q_dcC dL_law_562 (q_dcC dL_law_563 q_dcN))))) (show _ = some (564, [.ref q_M, .ref 0, .ref 98, .int (nI (6 * r))], [.int ((nI (6 * r)) + 1), .ref q_M, .ref 0]) from rfl)).trans ?_
  refine (K_xs (m := 6 * r + 1) dL_law_564 (nI_add (6 * r) 1) (by omega) hL).trans ?_
  refine (q_blk (Y := mL_law) (q_dcC dL_law_565 (q_dcC dL_law_566 (q_dcC dL_law_567 (q_dcC dL_law_568 q_dcN)))) (show _ = some (569, [.ref q_M, .ref 0, .ref 98, .int (nI (6 * r))], [.int ((nI (6 * r)) + 2), .ref q_M, .int (xs (6 * r + 1)), .ref 0]) from rfl)).trans ?_
  refine (K_xs (m := 6 * r + 2) dL_law_569 (nI_add (6 * r) 2) (by omega) hL).trans ?_
  refine (k_calV (d := 399) (Y := mL_law) (Z := mX11_follows) (vs := [.int (xs (6 * r + 1)), .int (xs (6 * r + 2))]) (rest := []) (la := [.ref 0, .int (xs (6 * r + 1)), .int (xs (6 * r + 2))]) dL_law_570 rfl rfl rfl rfl ⟨by decide, rfl⟩ (Nat.le_of_ble_eq_true rfl) rfl (Nat.le_of_ble_eq_true rfl) e1).trans ?_
  refine Eq.trans (b := q_sem 400 mL_law 573 [.ref q_M, .ref 0, .ref 98, .int (nI (6 * r))] [.int v] (q_K (q_h0 L xs) g1)) rfl ?_
  refine (q_blk (Y := mL_law) (q_dcC dL_law_573 (q_dcC dL_law_574 (q_dcC dL_law_575 (q_dcC dL_law_576 (q_dcC dL_law_577 q_dcN))))) (show _ = some (578, [.ref q_M, .ref 0, .ref 98, .int (nI (6 * r))], [.int ((nI (6 * r)) + 1), .ref q_M, .ref 98, .int v]) from rfl)).trans ?_
  refine (K_xs (m := 6 * r + 1) dL_law_578 (nI_add (6 * r) 1) (by omega) hL).trans ?_
  refine (q_blk (Y := mL_law) (q_dcC dL_law_579 (q_dcC dL_law_580 (q_dcC dL_law_581 (q_dcC dL_law_582 q_dcN)))) (show _ = some (583, [.ref q_M, .ref 0, .ref 98, .int (nI (6 * r))], [.int ((nI (6 * r)) + 2), .ref q_M, .int (xs (6 * r + 1)), .ref 98, .int v]) from rfl)).trans ?_
  refine (K_xs (m := 6 * r + 2) dL_law_583 (nI_add (6 * r) 2) (by omega) hL).trans ?_
  refine (k_calV (d := 399) (Y := mL_law) (Z := mX12_follows) (vs := [.int (xs (6 * r + 1)), .int (xs (6 * r + 2))]) (rest := [.int v]) (la := [.ref 98, .int (xs (6 * r + 1)), .int (xs (6 * r + 2))]) dL_law_584 rfl rfl rfl rfl ⟨by decide, rfl⟩ (Nat.le_of_ble_eq_true rfl) rfl (Nat.le_of_ble_eq_true rfl) e2).trans ?_
  refine Eq.trans (b := q_sem 400 mL_law 587 [.ref q_M, .ref 0, .ref 98, .int (nI (6 * r))] [.int v, .int v] (q_K (q_h0 L xs) g2)) rfl ?_
  refine (q_blk (Y := mL_law) (q_dcC dL_law_587 q_dcN) (show _ = some ((if q_cc .eq v v = true then 1737 else 590), [.ref q_M, .ref 0, .ref 98, .int (nI (6 * r))], []) from rfl)).trans ?_
  rw [if_pos (show q_cc .eq v v = true from decide_eq_true rfl)]
theorem LC_tracking {L : Nat} {xs : Nat → Int32} (hL : L ≤ 3072) {r n : Nat} {g : Nat → Nat → Int32} (hr : 6 * r + 6 ≤ L) (hR : q_R n g) (hn : n ≤ 512) : ∃ g2, q_sem 400 mL_law 592 [.ref q_M, .ref 0, .ref 98, .int (nI (6 * r))] [] (q_K (q_h0 L xs) g) = q_sem 400 mL_law 1737 [.ref q_M, .ref 0, .ref 98, .int (nI (6 * r))] [] (q_K (q_h0 L xs) g2) ∧ q_R (n + 1) g2 := by
  obtain ⟨v, g1, g2, e1, e2, h2⟩ := law_tracking hR ⟨L, xs, rfl⟩ 369 ((xs (6 * r + 1))) ((xs (6 * r + 2)))
  refine ⟨g2, ?_, R_le h2 (Nat.le_succ n)⟩
  refine (q_blk (Y := mL_law) (q_dcC dL_law_592 (q_dcC dL_law_593 (q_dcC dL_law_594 (q_dcC dL_law_595 (q_dcC dL_law_596 q_dcN))))) (show _ = some (597, [.ref q_M, .ref 0, .ref 98, .int (nI (6 * r))], [.int ((nI (6 * r)) + 1), .ref q_M, .ref 0]) from rfl)).trans ?_
  refine (K_xs (m := 6 * r + 1) dL_law_597 (nI_add (6 * r) 1) (by omega) hL).trans ?_
  refine (q_blk (Y := mL_law) (q_dcC dL_law_598 (q_dcC dL_law_599 (q_dcC dL_law_600 (q_dcC dL_law_601 q_dcN)))) (show _ = some (602, [.ref q_M, .ref 0, .ref 98, .int (nI (6 * r))], [.int ((nI (6 * r)) + 2), .ref q_M, .int (xs (6 * r + 1)), .ref 0]) from rfl)).trans ?_
  refine (K_xs (m := 6 * r + 2) dL_law_602 (nI_add (6 * r) 2) (by omega) hL).trans ?_
  refine (k_calV (d := 399) (Y := mL_law) (Z := mX11_tracking) (vs := [.int (xs (6 * r + 1)), .int (xs (6 * r + 2))]) (rest := []) (la := [.ref 0, .int (xs (6 * r + 1)), .int (xs (6 * r + 2))]) dL_law_603 rfl rfl rfl rfl ⟨by decide, rfl⟩ (Nat.le_of_ble_eq_true rfl) rfl (Nat.le_of_ble_eq_true rfl) e1).trans ?_
  refine Eq.trans (b := q_sem 400 mL_law 606 [.ref q_M, .ref 0, .ref 98, .int (nI (6 * r))] [.int v] (q_K (q_h0 L xs) g1)) rfl ?_
  refine (q_blk (Y := mL_law) (q_dcC dL_law_606 (q_dcC dL_law_607 (q_dcC dL_law_608 (q_dcC dL_law_609 (q_dcC dL_law_610 q_dcN))))) (show _ = some (611, [.ref q_M, .ref 0, .ref 98, .int (nI (6 * r))], [.int ((nI (6 * r)) + 1), .ref q_M, .ref 98, .int v]) from rfl)).trans ?_
  refine (K_xs (m := 6 * r + 1) dL_law_611 (nI_add (6 * r) 1) (by omega) hL).trans ?_
  refine (q_blk (Y := mL_law) (q_dcC dL_law_612 (q_dcC dL_law_613 (q_dcC dL_law_614 (q_dcC dL_law_615 q_dcN)))) (show _ = some (616, [.ref q_M, .ref 0, .ref 98, .int (nI (6 * r))], [.int ((nI (6 * r)) + 2), .ref q_M, .int (xs (6 * r + 1)), .ref 98, .int v]) from rfl)).trans ?_
  refine (K_xs (m := 6 * r + 2) dL_law_616 (nI_add (6 * r) 2) (by omega) hL).trans ?_
  refine (k_calV (d := 399) (Y := mL_law) (Z := mX12_tracking) (vs := [.int (xs (6 * r + 1)), .int (xs (6 * r + 2))]) (rest := [.int v]) (la := [.ref 98, .int (xs (6 * r + 1)), .int (xs (6 * r + 2)), .retAddr 0]) dL_law_617 rfl rfl rfl rfl ⟨by decide, rfl⟩ (Nat.le_of_ble_eq_true rfl) rfl (Nat.le_of_ble_eq_true rfl) e2).trans ?_
  refine Eq.trans (b := q_sem 400 mL_law 620 [.ref q_M, .ref 0, .ref 98, .int (nI (6 * r))] [.int v, .int v] (q_K (q_h0 L xs) g2)) rfl ?_
  refine (q_blk (Y := mL_law) (q_dcC dL_law_620 q_dcN) (show _ = some ((if q_cc .eq v v = true then 1737 else 623), [.ref q_M, .ref 0, .ref 98, .int (nI (6 * r))], []) from rfl)).trans ?_
  rw [if_pos (show q_cc .eq v v = true from decide_eq_true rfl)]
theorem LC_judge {L : Nat} {xs : Nat → Int32} (hL : L ≤ 3072) {r n : Nat} {g : Nat → Nat → Int32} (hr : 6 * r + 6 ≤ L) (hR : q_R n g) (hn : n ≤ 512) : ∃ g2, q_sem 400 mL_law 625 [.ref q_M, .ref 0, .ref 98, .int (nI (6 * r))] [] (q_K (q_h0 L xs) g) = q_sem 400 mL_law 1737 [.ref q_M, .ref 0, .ref 98, .int (nI (6 * r))] [] (q_K (q_h0 L xs) g2) ∧ q_R (n + 1) g2 := by
  obtain ⟨v, g1, g2, e1, e2, h2⟩ := law_judge hR ⟨L, xs, rfl⟩ 369 ((xs (6 * r + 1))) ((xs (6 * r + 2)))
  refine ⟨g2, ?_, R_le h2 (Nat.le_succ n)⟩
  refine (q_blk (Y := mL_law) (q_dcC dL_law_625 (q_dcC dL_law_626 (q_dcC dL_law_627 (q_dcC dL_law_628 (q_dcC dL_law_629 q_dcN))))) (show _ = some (630, [.ref q_M, .ref 0, .ref 98, .int (nI (6 * r))], [.int ((nI (6 * r)) + 1), .ref q_M, .ref 0]) from rfl)).trans ?_
  refine (K_xs (m := 6 * r + 1) dL_law_630 (nI_add (6 * r) 1) (by omega) hL).trans ?_
  refine (q_blk (Y := mL_law) (q_dcC dL_law_631 (q_dcC dL_law_632 (q_dcC dL_law_633 (q_dcC dL_law_634 q_dcN)))) (show _ = some (635, [.ref q_M, .ref 0, .ref 98, .int (nI (6 * r))], [.int ((nI (6 * r)) + 2), .ref q_M, .int (xs (6 * r + 1)), .ref 0]) from rfl)).trans ?_
  refine (K_xs (m := 6 * r + 2) dL_law_635 (nI_add (6 * r) 2) (by omega) hL).trans ?_
  refine (k_calV (d := 399) (Y := mL_law) (Z := mX11_judge) (vs := [.int (xs (6 * r + 1)), .int (xs (6 * r + 2))]) (rest := []) (la := [.ref 0, .int (xs (6 * r + 1)), .int (xs (6 * r + 2)), .retAddr 0, .retAddr 0]) dL_law_636 rfl rfl rfl rfl ⟨by decide, rfl⟩ (Nat.le_of_ble_eq_true rfl) rfl (Nat.le_of_ble_eq_true rfl) e1).trans ?_
  refine Eq.trans (b := q_sem 400 mL_law 639 [.ref q_M, .ref 0, .ref 98, .int (nI (6 * r))] [.int v] (q_K (q_h0 L xs) g1)) rfl ?_
  refine (q_blk (Y := mL_law) (q_dcC dL_law_639 (q_dcC dL_law_640 (q_dcC dL_law_641 (q_dcC dL_law_642 (q_dcC dL_law_643 q_dcN))))) (show _ = some (644, [.ref q_M, .ref 0, .ref 98, .int (nI (6 * r))], [.int ((nI (6 * r)) + 1), .ref q_M, .ref 98, .int v]) from rfl)).trans ?_
  refine (K_xs (m := 6 * r + 1) dL_law_644 (nI_add (6 * r) 1) (by omega) hL).trans ?_
  refine (q_blk (Y := mL_law) (q_dcC dL_law_645 (q_dcC dL_law_646 (q_dcC dL_law_647 (q_dcC dL_law_648 q_dcN)))) (show _ = some (649, [.ref q_M, .ref 0, .ref 98, .int (nI (6 * r))], [.int ((nI (6 * r)) + 2), .ref q_M, .int (xs (6 * r + 1)), .ref 98, .int v]) from rfl)).trans ?_
  refine (K_xs (m := 6 * r + 2) dL_law_649 (nI_add (6 * r) 2) (by omega) hL).trans ?_
  refine (k_calV (d := 399) (Y := mL_law) (Z := mX12_judge) (vs := [.int (xs (6 * r + 1)), .int (xs (6 * r + 2))]) (rest := [.int v]) (la := [.ref 98, .int (xs (6 * r + 1)), .int (xs (6 * r + 2)), .retAddr 0, .retAddr 0, .retAddr 0, .retAddr 0]) dL_law_650 rfl rfl rfl rfl ⟨by decide, rfl⟩ (Nat.le_of_ble_eq_true rfl) rfl (Nat.le_of_ble_eq_true rfl) e2).trans ?_
  refine Eq.trans (b := q_sem 400 mL_law 653 [.ref q_M, .ref 0, .ref 98, .int (nI (6 * r))] [.int v, .int v] (q_K (q_h0 L xs) g2)) rfl ?_
  refine (q_blk (Y := mL_law) (q_dcC dL_law_653 q_dcN) (show _ = some ((if q_cc .eq v v = true then 1737 else 656), [.ref q_M, .ref 0, .ref 98, .int (nI (6 * r))], []) from rfl)).trans ?_
  rw [if_pos (show q_cc .eq v v = true from decide_eq_true rfl)]
theorem LC_flyer {L : Nat} {xs : Nat → Int32} (hL : L ≤ 3072) {r n : Nat} {g : Nat → Nat → Int32} (hr : 6 * r + 6 ≤ L) (hR : q_R n g) (hn : n ≤ 512) : ∃ g2, q_sem 400 mL_law 658 [.ref q_M, .ref 0, .ref 98, .int (nI (6 * r))] [] (q_K (q_h0 L xs) g) = q_sem 400 mL_law 1737 [.ref q_M, .ref 0, .ref 98, .int (nI (6 * r))] [] (q_K (q_h0 L xs) g2) ∧ q_R (n + 1) g2 := by
  obtain ⟨v, g1, g2, e1, e2, h2⟩ := law_flyer hR ⟨L, xs, rfl⟩ 369 ((xs (6 * r + 1))) ((xs (6 * r + 2))) ((xs (6 * r + 3))) ((xs (6 * r + 4)))
  refine ⟨g2, ?_, R_le h2 (Nat.le_succ n)⟩
  refine (q_blk (Y := mL_law) (q_dcC dL_law_658 (q_dcC dL_law_659 (q_dcC dL_law_660 (q_dcC dL_law_661 (q_dcC dL_law_662 q_dcN))))) (show _ = some (663, [.ref q_M, .ref 0, .ref 98, .int (nI (6 * r))], [.int ((nI (6 * r)) + 1), .ref q_M, .ref 0]) from rfl)).trans ?_
  refine (K_xs (m := 6 * r + 1) dL_law_663 (nI_add (6 * r) 1) (by omega) hL).trans ?_
  refine (q_blk (Y := mL_law) (q_dcC dL_law_664 (q_dcC dL_law_665 (q_dcC dL_law_666 (q_dcC dL_law_667 q_dcN)))) (show _ = some (668, [.ref q_M, .ref 0, .ref 98, .int (nI (6 * r))], [.int ((nI (6 * r)) + 2), .ref q_M, .int (xs (6 * r + 1)), .ref 0]) from rfl)).trans ?_
  refine (K_xs (m := 6 * r + 2) dL_law_668 (nI_add (6 * r) 2) (by omega) hL).trans ?_
  refine (q_blk (Y := mL_law) (q_dcC dL_law_669 (q_dcC dL_law_670 (q_dcC dL_law_671 (q_dcC dL_law_672 q_dcN)))) (show _ = some (673, [.ref q_M, .ref 0, .ref 98, .int (nI (6 * r))], [.int ((nI (6 * r)) + 3), .ref q_M, .int (xs (6 * r + 2)), .int (xs (6 * r + 1)), .ref 0]) from rfl)).trans ?_
  refine (K_xs (m := 6 * r + 3) dL_law_673 (nI_add (6 * r) 3) (by omega) hL).trans ?_
  refine (q_blk (Y := mL_law) (q_dcC dL_law_674 (q_dcC dL_law_675 (q_dcC dL_law_676 (q_dcC dL_law_677 q_dcN)))) (show _ = some (678, [.ref q_M, .ref 0, .ref 98, .int (nI (6 * r))], [.int ((nI (6 * r)) + 4), .ref q_M, .int (xs (6 * r + 3)), .int (xs (6 * r + 2)), .int (xs (6 * r + 1)), .ref 0]) from rfl)).trans ?_
  refine (K_xs (m := 6 * r + 4) dL_law_678 (nI_add (6 * r) 4) (by omega) hL).trans ?_
  refine (k_calV (d := 399) (Y := mL_law) (Z := mX11_flyer) (vs := [.int (xs (6 * r + 1)), .int (xs (6 * r + 2)), .int (xs (6 * r + 3)), .int (xs (6 * r + 4))]) (rest := []) (la := [.ref 0, .int (xs (6 * r + 1)), .int (xs (6 * r + 2)), .int (xs (6 * r + 3)), .int (xs (6 * r + 4)), .retAddr 0]) dL_law_679 rfl rfl rfl rfl ⟨by decide, rfl⟩ (Nat.le_of_ble_eq_true rfl) rfl (Nat.le_of_ble_eq_true rfl) e1).trans ?_
  refine Eq.trans (b := q_sem 400 mL_law 682 [.ref q_M, .ref 0, .ref 98, .int (nI (6 * r))] [.int v] (q_K (q_h0 L xs) g1)) rfl ?_
  refine (q_blk (Y := mL_law) (q_dcC dL_law_682 (q_dcC dL_law_683 (q_dcC dL_law_684 (q_dcC dL_law_685 (q_dcC dL_law_686 q_dcN))))) (show _ = some (687, [.ref q_M, .ref 0, .ref 98, .int (nI (6 * r))], [.int ((nI (6 * r)) + 1), .ref q_M, .ref 98, .int v]) from rfl)).trans ?_
  refine (K_xs (m := 6 * r + 1) dL_law_687 (nI_add (6 * r) 1) (by omega) hL).trans ?_
  refine (q_blk (Y := mL_law) (q_dcC dL_law_688 (q_dcC dL_law_689 (q_dcC dL_law_690 (q_dcC dL_law_691 q_dcN)))) (show _ = some (692, [.ref q_M, .ref 0, .ref 98, .int (nI (6 * r))], [.int ((nI (6 * r)) + 2), .ref q_M, .int (xs (6 * r + 1)), .ref 98, .int v]) from rfl)).trans ?_
  refine (K_xs (m := 6 * r + 2) dL_law_692 (nI_add (6 * r) 2) (by omega) hL).trans ?_
  refine (q_blk (Y := mL_law) (q_dcC dL_law_693 (q_dcC dL_law_694 (q_dcC dL_law_695 (q_dcC dL_law_696 q_dcN)))) (show _ = some (697, [.ref q_M, .ref 0, .ref 98, .int (nI (6 * r))], [.int ((nI (6 * r)) + 3), .ref q_M, .int (xs (6 * r + 2)), .int (xs (6 * r + 1)), .ref 98, .int v]) from rfl)).trans ?_
  refine (K_xs (m := 6 * r + 3) dL_law_697 (nI_add (6 * r) 3) (by omega) hL).trans ?_
  refine (q_blk (Y := mL_law) (q_dcC dL_law_698 (q_dcC dL_law_699 (q_dcC dL_law_700 (q_dcC dL_law_701 q_dcN)))) (show _ = some (702, [.ref q_M, .ref 0, .ref 98, .int (nI (6 * r))], [.int ((nI (6 * r)) + 4), .ref q_M, .int (xs (6 * r + 3)), .int (xs (6 * r + 2)), .int (xs (6 * r + 1)), .ref 98, .int v]) from rfl)).trans ?_
  refine (K_xs (m := 6 * r + 4) dL_law_702 (nI_add (6 * r) 4) (by omega) hL).trans ?_
  refine (k_calV (d := 399) (Y := mL_law) (Z := mX12_flyer) (vs := [.int (xs (6 * r + 1)), .int (xs (6 * r + 2)), .int (xs (6 * r + 3)), .int (xs (6 * r + 4))]) (rest := [.int v]) (la := [.ref 98, .int (xs (6 * r + 1)), .int (xs (6 * r + 2)), .int (xs (6 * r + 3)), .int (xs (6 * r + 4)), .retAddr 0]) dL_law_703 rfl rfl rfl rfl ⟨by decide, rfl⟩ (Nat.le_of_ble_eq_true rfl) rfl (Nat.le_of_ble_eq_true rfl) e2).trans ?_
  refine Eq.trans (b := q_sem 400 mL_law 706 [.ref q_M, .ref 0, .ref 98, .int (nI (6 * r))] [.int v, .int v] (q_K (q_h0 L xs) g2)) rfl ?_
  refine (q_blk (Y := mL_law) (q_dcC dL_law_706 q_dcN) (show _ = some ((if q_cc .eq v v = true then 1737 else 709), [.ref q_M, .ref 0, .ref 98, .int (nI (6 * r))], []) from rfl)).trans ?_
  rw [if_pos (show q_cc .eq v v = true from decide_eq_true rfl)]
theorem LC_flight {L : Nat} {xs : Nat → Int32} (hL : L ≤ 3072) {r n : Nat} {g : Nat → Nat → Int32} (hr : 6 * r + 6 ≤ L) (hR : q_R n g) (hn : n ≤ 512) : ∃ g2, q_sem 400 mL_law 711 [.ref q_M, .ref 0, .ref 98, .int (nI (6 * r))] [] (q_K (q_h0 L xs) g) = q_sem 400 mL_law 1737 [.ref q_M, .ref 0, .ref 98, .int (nI (6 * r))] [] (q_K (q_h0 L xs) g2) ∧ q_R (n + 1) g2 := by
  obtain ⟨v, g1, g2, e1, e2, h2⟩ := law_flight hR ⟨L, xs, rfl⟩ 369 ((xs (6 * r + 1))) ((xs (6 * r + 2))) ((xs (6 * r + 3))) ((xs (6 * r + 4))) ((if (xs (6 * r + 5)) = 0 then 0 else 1))
  refine ⟨g2, ?_, R_le h2 (Nat.le_succ n)⟩
  refine (q_blk (Y := mL_law) (q_dcC dL_law_711 (q_dcC dL_law_712 (q_dcC dL_law_713 (q_dcC dL_law_714 (q_dcC dL_law_715 q_dcN))))) (show _ = some (716, [.ref q_M, .ref 0, .ref 98, .int (nI (6 * r))], [.int ((nI (6 * r)) + 1), .ref q_M, .ref 0]) from rfl)).trans ?_
  refine (K_xs (m := 6 * r + 1) dL_law_716 (nI_add (6 * r) 1) (by omega) hL).trans ?_
  refine (q_blk (Y := mL_law) (q_dcC dL_law_717 (q_dcC dL_law_718 (q_dcC dL_law_719 (q_dcC dL_law_720 q_dcN)))) (show _ = some (721, [.ref q_M, .ref 0, .ref 98, .int (nI (6 * r))], [.int ((nI (6 * r)) + 2), .ref q_M, .int (xs (6 * r + 1)), .ref 0]) from rfl)).trans ?_
  refine (K_xs (m := 6 * r + 2) dL_law_721 (nI_add (6 * r) 2) (by omega) hL).trans ?_
  refine (q_blk (Y := mL_law) (q_dcC dL_law_722 (q_dcC dL_law_723 (q_dcC dL_law_724 (q_dcC dL_law_725 q_dcN)))) (show _ = some (726, [.ref q_M, .ref 0, .ref 98, .int (nI (6 * r))], [.int ((nI (6 * r)) + 3), .ref q_M, .int (xs (6 * r + 2)), .int (xs (6 * r + 1)), .ref 0]) from rfl)).trans ?_
  refine (K_xs (m := 6 * r + 3) dL_law_726 (nI_add (6 * r) 3) (by omega) hL).trans ?_
  refine (q_blk (Y := mL_law) (q_dcC dL_law_727 (q_dcC dL_law_728 (q_dcC dL_law_729 (q_dcC dL_law_730 q_dcN)))) (show _ = some (731, [.ref q_M, .ref 0, .ref 98, .int (nI (6 * r))], [.int ((nI (6 * r)) + 4), .ref q_M, .int (xs (6 * r + 3)), .int (xs (6 * r + 2)), .int (xs (6 * r + 1)), .ref 0]) from rfl)).trans ?_
  refine (K_xs (m := 6 * r + 4) dL_law_731 (nI_add (6 * r) 4) (by omega) hL).trans ?_
  refine (q_blk (Y := mL_law) (q_dcC dL_law_732 (q_dcC dL_law_733 (q_dcC dL_law_734 (q_dcC dL_law_735 q_dcN)))) (show _ = some (736, [.ref q_M, .ref 0, .ref 98, .int (nI (6 * r))], [.int ((nI (6 * r)) + 5), .ref q_M, .int (xs (6 * r + 4)), .int (xs (6 * r + 3)), .int (xs (6 * r + 2)), .int (xs (6 * r + 1)), .ref 0]) from rfl)).trans ?_
  refine (K_xs (m := 6 * r + 5) dL_law_736 (nI_add (6 * r) 5) (by omega) hL).trans ?_
  refine (K_bo737 _).trans ?_
  refine (k_calV (d := 399) (Y := mL_law) (Z := mX11_flight) (vs := [.int (xs (6 * r + 1)), .int (xs (6 * r + 2)), .int (xs (6 * r + 3)), .int (xs (6 * r + 4)), .int (if (xs (6 * r + 5)) = 0 then 0 else 1)]) (rest := []) (la := [.ref 0, .int (xs (6 * r + 1)), .int (xs (6 * r + 2)), .int (xs (6 * r + 3)), .int (xs (6 * r + 4)), .int (if (xs (6 * r + 5)) = 0 then 0 else 1), .retAddr 0]) dL_law_745 rfl rfl rfl rfl ⟨by decide, rfl⟩ (Nat.le_of_ble_eq_true rfl) rfl (Nat.le_of_ble_eq_true rfl) e1).trans ?_
  refine Eq.trans (b := q_sem 400 mL_law 748 [.ref q_M, .ref 0, .ref 98, .int (nI (6 * r))] [.int v] (q_K (q_h0 L xs) g1)) rfl ?_
  refine (q_blk (Y := mL_law) (q_dcC dL_law_748 (q_dcC dL_law_749 (q_dcC dL_law_750 (q_dcC dL_law_751 (q_dcC dL_law_752 q_dcN))))) (show _ = some (753, [.ref q_M, .ref 0, .ref 98, .int (nI (6 * r))], [.int ((nI (6 * r)) + 1), .ref q_M, .ref 98, .int v]) from rfl)).trans ?_
  refine (K_xs (m := 6 * r + 1) dL_law_753 (nI_add (6 * r) 1) (by omega) hL).trans ?_
  refine (q_blk (Y := mL_law) (q_dcC dL_law_754 (q_dcC dL_law_755 (q_dcC dL_law_756 (q_dcC dL_law_757 q_dcN)))) (show _ = some (758, [.ref q_M, .ref 0, .ref 98, .int (nI (6 * r))], [.int ((nI (6 * r)) + 2), .ref q_M, .int (xs (6 * r + 1)), .ref 98, .int v]) from rfl)).trans ?_
  refine (K_xs (m := 6 * r + 2) dL_law_758 (nI_add (6 * r) 2) (by omega) hL).trans ?_
  refine (q_blk (Y := mL_law) (q_dcC dL_law_759 (q_dcC dL_law_760 (q_dcC dL_law_761 (q_dcC dL_law_762 q_dcN)))) (show _ = some (763, [.ref q_M, .ref 0, .ref 98, .int (nI (6 * r))], [.int ((nI (6 * r)) + 3), .ref q_M, .int (xs (6 * r + 2)), .int (xs (6 * r + 1)), .ref 98, .int v]) from rfl)).trans ?_
  refine (K_xs (m := 6 * r + 3) dL_law_763 (nI_add (6 * r) 3) (by omega) hL).trans ?_
  refine (q_blk (Y := mL_law) (q_dcC dL_law_764 (q_dcC dL_law_765 (q_dcC dL_law_766 (q_dcC dL_law_767 q_dcN)))) (show _ = some (768, [.ref q_M, .ref 0, .ref 98, .int (nI (6 * r))], [.int ((nI (6 * r)) + 4), .ref q_M, .int (xs (6 * r + 3)), .int (xs (6 * r + 2)), .int (xs (6 * r + 1)), .ref 98, .int v]) from rfl)).trans ?_
  refine (K_xs (m := 6 * r + 4) dL_law_768 (nI_add (6 * r) 4) (by omega) hL).trans ?_
  refine (q_blk (Y := mL_law) (q_dcC dL_law_769 (q_dcC dL_law_770 (q_dcC dL_law_771 (q_dcC dL_law_772 q_dcN)))) (show _ = some (773, [.ref q_M, .ref 0, .ref 98, .int (nI (6 * r))], [.int ((nI (6 * r)) + 5), .ref q_M, .int (xs (6 * r + 4)), .int (xs (6 * r + 3)), .int (xs (6 * r + 2)), .int (xs (6 * r + 1)), .ref 98, .int v]) from rfl)).trans ?_
  refine (K_xs (m := 6 * r + 5) dL_law_773 (nI_add (6 * r) 5) (by omega) hL).trans ?_
  refine (K_bo774 _).trans ?_
  refine (k_calV (d := 399) (Y := mL_law) (Z := mX12_flight) (vs := [.int (xs (6 * r + 1)), .int (xs (6 * r + 2)), .int (xs (6 * r + 3)), .int (xs (6 * r + 4)), .int (if (xs (6 * r + 5)) = 0 then 0 else 1)]) (rest := [.int v]) (la := [.ref 98, .int (xs (6 * r + 1)), .int (xs (6 * r + 2)), .int (xs (6 * r + 3)), .int (xs (6 * r + 4)), .int (if (xs (6 * r + 5)) = 0 then 0 else 1), .retAddr 0]) dL_law_782 rfl rfl rfl rfl ⟨by decide, rfl⟩ (Nat.le_of_ble_eq_true rfl) rfl (Nat.le_of_ble_eq_true rfl) e2).trans ?_
  refine Eq.trans (b := q_sem 400 mL_law 785 [.ref q_M, .ref 0, .ref 98, .int (nI (6 * r))] [.int v, .int v] (q_K (q_h0 L xs) g2)) rfl ?_
  refine (q_blk (Y := mL_law) (q_dcC dL_law_785 q_dcN) (show _ = some ((if q_cc .eq v v = true then 1737 else 788), [.ref q_M, .ref 0, .ref 98, .int (nI (6 * r))], []) from rfl)).trans ?_
  rw [if_pos (show q_cc .eq v v = true from decide_eq_true rfl)]
theorem LC_as {L : Nat} {xs : Nat → Int32} (hL : L ≤ 3072) {r n : Nat} {g : Nat → Nat → Int32} (hr : 6 * r + 6 ≤ L) (hR : q_R n g) (hn : n ≤ 512) : ∃ g2, q_sem 400 mL_law 790 [.ref q_M, .ref 0, .ref 98, .int (nI (6 * r))] [] (q_K (q_h0 L xs) g) = q_sem 400 mL_law 1737 [.ref q_M, .ref 0, .ref 98, .int (nI (6 * r))] [] (q_K (q_h0 L xs) g2) ∧ q_R (n + 1) g2 := by
  obtain ⟨v, g1, g2, e1, e2, h2⟩ := law_as hR ⟨L, xs, rfl⟩ 369 ((xs (6 * r + 1))) ((xs (6 * r + 2)))
  refine ⟨g2, ?_, R_le h2 (Nat.le_succ n)⟩
  refine (q_blk (Y := mL_law) (q_dcC dL_law_790 (q_dcC dL_law_791 (q_dcC dL_law_792 (q_dcC dL_law_793 (q_dcC dL_law_794 q_dcN))))) (show _ = some (795, [.ref q_M, .ref 0, .ref 98, .int (nI (6 * r))], [.int ((nI (6 * r)) + 1), .ref q_M, .ref 0]) from rfl)).trans ?_
  refine (K_xs (m := 6 * r + 1) dL_law_795 (nI_add (6 * r) 1) (by omega) hL).trans ?_
  refine (q_blk (Y := mL_law) (q_dcC dL_law_796 (q_dcC dL_law_797 (q_dcC dL_law_798 (q_dcC dL_law_799 q_dcN)))) (show _ = some (800, [.ref q_M, .ref 0, .ref 98, .int (nI (6 * r))], [.int ((nI (6 * r)) + 2), .ref q_M, .int (xs (6 * r + 1)), .ref 0]) from rfl)).trans ?_
  refine (K_xs (m := 6 * r + 2) dL_law_800 (nI_add (6 * r) 2) (by omega) hL).trans ?_
  refine (k_calV (d := 399) (Y := mL_law) (Z := mX11_as) (vs := [.int (xs (6 * r + 1)), .int (xs (6 * r + 2))]) (rest := []) (la := [.ref 0, .int (xs (6 * r + 1)), .int (xs (6 * r + 2))]) dL_law_801 rfl rfl rfl rfl ⟨by decide, rfl⟩ (Nat.le_of_ble_eq_true rfl) rfl (Nat.le_of_ble_eq_true rfl) e1).trans ?_
  refine Eq.trans (b := q_sem 400 mL_law 804 [.ref q_M, .ref 0, .ref 98, .int (nI (6 * r))] [.int v] (q_K (q_h0 L xs) g1)) rfl ?_
  refine (q_blk (Y := mL_law) (q_dcC dL_law_804 (q_dcC dL_law_805 (q_dcC dL_law_806 (q_dcC dL_law_807 (q_dcC dL_law_808 q_dcN))))) (show _ = some (809, [.ref q_M, .ref 0, .ref 98, .int (nI (6 * r))], [.int ((nI (6 * r)) + 1), .ref q_M, .ref 98, .int v]) from rfl)).trans ?_
  refine (K_xs (m := 6 * r + 1) dL_law_809 (nI_add (6 * r) 1) (by omega) hL).trans ?_
  refine (q_blk (Y := mL_law) (q_dcC dL_law_810 (q_dcC dL_law_811 (q_dcC dL_law_812 (q_dcC dL_law_813 q_dcN)))) (show _ = some (814, [.ref q_M, .ref 0, .ref 98, .int (nI (6 * r))], [.int ((nI (6 * r)) + 2), .ref q_M, .int (xs (6 * r + 1)), .ref 98, .int v]) from rfl)).trans ?_
  refine (K_xs (m := 6 * r + 2) dL_law_814 (nI_add (6 * r) 2) (by omega) hL).trans ?_
  refine (k_calV (d := 399) (Y := mL_law) (Z := mX12_as) (vs := [.int (xs (6 * r + 1)), .int (xs (6 * r + 2))]) (rest := [.int v]) (la := [.ref 98, .int (xs (6 * r + 1)), .int (xs (6 * r + 2))]) dL_law_815 rfl rfl rfl rfl ⟨by decide, rfl⟩ (Nat.le_of_ble_eq_true rfl) rfl (Nat.le_of_ble_eq_true rfl) e2).trans ?_
  refine Eq.trans (b := q_sem 400 mL_law 818 [.ref q_M, .ref 0, .ref 98, .int (nI (6 * r))] [.int v, .int v] (q_K (q_h0 L xs) g2)) rfl ?_
  refine (q_blk (Y := mL_law) (q_dcC dL_law_818 q_dcN) (show _ = some ((if q_cc .eq v v = true then 1737 else 821), [.ref q_M, .ref 0, .ref 98, .int (nI (6 * r))], []) from rfl)).trans ?_
  rw [if_pos (show q_cc .eq v v = true from decide_eq_true rfl)]
theorem LC_flyerIs {L : Nat} {xs : Nat → Int32} (hL : L ≤ 3072) {r n : Nat} {g : Nat → Nat → Int32} (hr : 6 * r + 6 ≤ L) (hR : q_R n g) (hn : n ≤ 512) : ∃ g2, q_sem 400 mL_law 823 [.ref q_M, .ref 0, .ref 98, .int (nI (6 * r))] [] (q_K (q_h0 L xs) g) = q_sem 400 mL_law 1737 [.ref q_M, .ref 0, .ref 98, .int (nI (6 * r))] [] (q_K (q_h0 L xs) g2) ∧ q_R (n + 1) g2 := by
  obtain ⟨v, g1, g2, e1, e2, h2⟩ := law_flyerIs hR ⟨L, xs, rfl⟩ 369 ((xs (6 * r + 1))) ((xs (6 * r + 2)))
  refine ⟨g2, ?_, R_le h2 (Nat.le_succ n)⟩
  refine (q_blk (Y := mL_law) (q_dcC dL_law_823 (q_dcC dL_law_824 (q_dcC dL_law_825 (q_dcC dL_law_826 (q_dcC dL_law_827 q_dcN))))) (show _ = some (828, [.ref q_M, .ref 0, .ref 98, .int (nI (6 * r))], [.int ((nI (6 * r)) + 1), .ref q_M, .ref 0]) from rfl)).trans ?_
  refine (K_xs (m := 6 * r + 1) dL_law_828 (nI_add (6 * r) 1) (by omega) hL).trans ?_
  refine (q_blk (Y := mL_law) (q_dcC dL_law_829 (q_dcC dL_law_830 (q_dcC dL_law_831 (q_dcC dL_law_832 q_dcN)))) (show _ = some (833, [.ref q_M, .ref 0, .ref 98, .int (nI (6 * r))], [.int ((nI (6 * r)) + 2), .ref q_M, .int (xs (6 * r + 1)), .ref 0]) from rfl)).trans ?_
  refine (K_xs (m := 6 * r + 2) dL_law_833 (nI_add (6 * r) 2) (by omega) hL).trans ?_
  refine (k_calV (d := 399) (Y := mL_law) (Z := mX11_flyerIs) (vs := [.int (xs (6 * r + 1)), .int (xs (6 * r + 2))]) (rest := []) (la := [.ref 0, .int (xs (6 * r + 1)), .int (xs (6 * r + 2))]) dL_law_834 rfl rfl rfl rfl ⟨by decide, rfl⟩ (Nat.le_of_ble_eq_true rfl) rfl (Nat.le_of_ble_eq_true rfl) e1).trans ?_
  refine Eq.trans (b := q_sem 400 mL_law 837 [.ref q_M, .ref 0, .ref 98, .int (nI (6 * r))] [.int v] (q_K (q_h0 L xs) g1)) rfl ?_
  refine (q_blk (Y := mL_law) (q_dcC dL_law_837 (q_dcC dL_law_838 (q_dcC dL_law_839 (q_dcC dL_law_840 (q_dcC dL_law_841 q_dcN))))) (show _ = some (842, [.ref q_M, .ref 0, .ref 98, .int (nI (6 * r))], [.int ((nI (6 * r)) + 1), .ref q_M, .ref 98, .int v]) from rfl)).trans ?_
  refine (K_xs (m := 6 * r + 1) dL_law_842 (nI_add (6 * r) 1) (by omega) hL).trans ?_
  refine (q_blk (Y := mL_law) (q_dcC dL_law_843 (q_dcC dL_law_844 (q_dcC dL_law_845 (q_dcC dL_law_846 q_dcN)))) (show _ = some (847, [.ref q_M, .ref 0, .ref 98, .int (nI (6 * r))], [.int ((nI (6 * r)) + 2), .ref q_M, .int (xs (6 * r + 1)), .ref 98, .int v]) from rfl)).trans ?_
  refine (K_xs (m := 6 * r + 2) dL_law_847 (nI_add (6 * r) 2) (by omega) hL).trans ?_
  refine (k_calV (d := 399) (Y := mL_law) (Z := mX12_flyerIs) (vs := [.int (xs (6 * r + 1)), .int (xs (6 * r + 2))]) (rest := [.int v]) (la := [.ref 98, .int (xs (6 * r + 1)), .int (xs (6 * r + 2))]) dL_law_848 rfl rfl rfl rfl ⟨by decide, rfl⟩ (Nat.le_of_ble_eq_true rfl) rfl (Nat.le_of_ble_eq_true rfl) e2).trans ?_
  refine Eq.trans (b := q_sem 400 mL_law 851 [.ref q_M, .ref 0, .ref 98, .int (nI (6 * r))] [.int v, .int v] (q_K (q_h0 L xs) g2)) rfl ?_
  refine (q_blk (Y := mL_law) (q_dcC dL_law_851 q_dcN) (show _ = some ((if q_cc .eq v v = true then 1737 else 854), [.ref q_M, .ref 0, .ref 98, .int (nI (6 * r))], []) from rfl)).trans ?_
  rw [if_pos (show q_cc .eq v v = true from decide_eq_true rfl)]
theorem LC_answer {L : Nat} {xs : Nat → Int32} (hL : L ≤ 3072) {r n : Nat} {g : Nat → Nat → Int32} (hr : 6 * r + 6 ≤ L) (hR : q_R n g) (hn : n ≤ 512) : ∃ g2, q_sem 400 mL_law 856 [.ref q_M, .ref 0, .ref 98, .int (nI (6 * r))] [] (q_K (q_h0 L xs) g) = q_sem 400 mL_law 1737 [.ref q_M, .ref 0, .ref 98, .int (nI (6 * r))] [] (q_K (q_h0 L xs) g2) ∧ q_R (n + 1) g2 := by
  obtain ⟨v, g1, g2, e1, e2, h2⟩ := law_answer hR ⟨L, xs, rfl⟩ 369 ((xs (6 * r + 1))) ((if (xs (6 * r + 2)) = 0 then 0 else 1))
  refine ⟨g2, ?_, R_le h2 (Nat.le_succ n)⟩
  refine (q_blk (Y := mL_law) (q_dcC dL_law_856 (q_dcC dL_law_857 (q_dcC dL_law_858 (q_dcC dL_law_859 (q_dcC dL_law_860 q_dcN))))) (show _ = some (861, [.ref q_M, .ref 0, .ref 98, .int (nI (6 * r))], [.int ((nI (6 * r)) + 1), .ref q_M, .ref 0]) from rfl)).trans ?_
  refine (K_xs (m := 6 * r + 1) dL_law_861 (nI_add (6 * r) 1) (by omega) hL).trans ?_
  refine (q_blk (Y := mL_law) (q_dcC dL_law_862 (q_dcC dL_law_863 (q_dcC dL_law_864 (q_dcC dL_law_865 q_dcN)))) (show _ = some (866, [.ref q_M, .ref 0, .ref 98, .int (nI (6 * r))], [.int ((nI (6 * r)) + 2), .ref q_M, .int (xs (6 * r + 1)), .ref 0]) from rfl)).trans ?_
  refine (K_xs (m := 6 * r + 2) dL_law_866 (nI_add (6 * r) 2) (by omega) hL).trans ?_
  refine (K_bo867 _).trans ?_
  refine (k_calV (d := 399) (Y := mL_law) (Z := mX11_answer) (vs := [.int (xs (6 * r + 1)), .int (if (xs (6 * r + 2)) = 0 then 0 else 1)]) (rest := []) (la := [.ref 0, .int (xs (6 * r + 1)), .int (if (xs (6 * r + 2)) = 0 then 0 else 1)]) dL_law_875 rfl rfl rfl rfl ⟨by decide, rfl⟩ (Nat.le_of_ble_eq_true rfl) rfl (Nat.le_of_ble_eq_true rfl) e1).trans ?_
  refine Eq.trans (b := q_sem 400 mL_law 878 [.ref q_M, .ref 0, .ref 98, .int (nI (6 * r))] [.int v] (q_K (q_h0 L xs) g1)) rfl ?_
  refine (q_blk (Y := mL_law) (q_dcC dL_law_878 (q_dcC dL_law_879 (q_dcC dL_law_880 (q_dcC dL_law_881 (q_dcC dL_law_882 q_dcN))))) (show _ = some (883, [.ref q_M, .ref 0, .ref 98, .int (nI (6 * r))], [.int ((nI (6 * r)) + 1), .ref q_M, .ref 98, .int v]) from rfl)).trans ?_
  refine (K_xs (m := 6 * r + 1) dL_law_883 (nI_add (6 * r) 1) (by omega) hL).trans ?_
  refine (q_blk (Y := mL_law) (q_dcC dL_law_884 (q_dcC dL_law_885 (q_dcC dL_law_886 (q_dcC dL_law_887 q_dcN)))) (show _ = some (888, [.ref q_M, .ref 0, .ref 98, .int (nI (6 * r))], [.int ((nI (6 * r)) + 2), .ref q_M, .int (xs (6 * r + 1)), .ref 98, .int v]) from rfl)).trans ?_
  refine (K_xs (m := 6 * r + 2) dL_law_888 (nI_add (6 * r) 2) (by omega) hL).trans ?_
  refine (K_bo889 _).trans ?_
  refine (k_calV (d := 399) (Y := mL_law) (Z := mX12_answer) (vs := [.int (xs (6 * r + 1)), .int (if (xs (6 * r + 2)) = 0 then 0 else 1)]) (rest := [.int v]) (la := [.ref 98, .int (xs (6 * r + 1)), .int (if (xs (6 * r + 2)) = 0 then 0 else 1), .retAddr 0]) dL_law_897 rfl rfl rfl rfl ⟨by decide, rfl⟩ (Nat.le_of_ble_eq_true rfl) rfl (Nat.le_of_ble_eq_true rfl) e2).trans ?_
  refine Eq.trans (b := q_sem 400 mL_law 900 [.ref q_M, .ref 0, .ref 98, .int (nI (6 * r))] [.int v, .int v] (q_K (q_h0 L xs) g2)) rfl ?_
  refine (q_blk (Y := mL_law) (q_dcC dL_law_900 q_dcN) (show _ = some ((if q_cc .eq v v = true then 1737 else 903), [.ref q_M, .ref 0, .ref 98, .int (nI (6 * r))], []) from rfl)).trans ?_
  rw [if_pos (show q_cc .eq v v = true from decide_eq_true rfl)]
theorem LC_send {L : Nat} {xs : Nat → Int32} (hL : L ≤ 3072) {r n : Nat} {g : Nat → Nat → Int32} (hr : 6 * r + 6 ≤ L) (hR : q_R n g) (hn : n ≤ 512) : ∃ g2, q_sem 400 mL_law 905 [.ref q_M, .ref 0, .ref 98, .int (nI (6 * r))] [] (q_K (q_h0 L xs) g) = q_sem 400 mL_law 1737 [.ref q_M, .ref 0, .ref 98, .int (nI (6 * r))] [] (q_K (q_h0 L xs) g2) ∧ q_R (n + 1) g2 := by
  obtain ⟨v, g1, g2, e1, e2, h2⟩ := law_send hR ⟨L, xs, rfl⟩ 369 ((xs (6 * r + 1))) ((xs (6 * r + 2)))
  refine ⟨g2, ?_, R_le h2 (Nat.le_succ n)⟩
  refine (q_blk (Y := mL_law) (q_dcC dL_law_905 (q_dcC dL_law_906 (q_dcC dL_law_907 (q_dcC dL_law_908 (q_dcC dL_law_909 q_dcN))))) (show _ = some (910, [.ref q_M, .ref 0, .ref 98, .int (nI (6 * r))], [.int ((nI (6 * r)) + 1), .ref q_M, .ref 0]) from rfl)).trans ?_
  refine (K_xs (m := 6 * r + 1) dL_law_910 (nI_add (6 * r) 1) (by omega) hL).trans ?_
  refine (q_blk (Y := mL_law) (q_dcC dL_law_911 (q_dcC dL_law_912 (q_dcC dL_law_913 (q_dcC dL_law_914 q_dcN)))) (show _ = some (915, [.ref q_M, .ref 0, .ref 98, .int (nI (6 * r))], [.int ((nI (6 * r)) + 2), .ref q_M, .int (xs (6 * r + 1)), .ref 0]) from rfl)).trans ?_
  refine (K_xs (m := 6 * r + 2) dL_law_915 (nI_add (6 * r) 2) (by omega) hL).trans ?_
  refine (k_calV (d := 399) (Y := mL_law) (Z := mX11_send) (vs := [.int (xs (6 * r + 1)), .int (xs (6 * r + 2))]) (rest := []) (la := [.ref 0, .int (xs (6 * r + 1)), .int (xs (6 * r + 2)), .retAddr 0]) dL_law_916 rfl rfl rfl rfl ⟨by decide, rfl⟩ (Nat.le_of_ble_eq_true rfl) rfl (Nat.le_of_ble_eq_true rfl) e1).trans ?_
  refine Eq.trans (b := q_sem 400 mL_law 919 [.ref q_M, .ref 0, .ref 98, .int (nI (6 * r))] [.int v] (q_K (q_h0 L xs) g1)) rfl ?_
  refine (q_blk (Y := mL_law) (q_dcC dL_law_919 (q_dcC dL_law_920 (q_dcC dL_law_921 (q_dcC dL_law_922 (q_dcC dL_law_923 q_dcN))))) (show _ = some (924, [.ref q_M, .ref 0, .ref 98, .int (nI (6 * r))], [.int ((nI (6 * r)) + 1), .ref q_M, .ref 98, .int v]) from rfl)).trans ?_
  refine (K_xs (m := 6 * r + 1) dL_law_924 (nI_add (6 * r) 1) (by omega) hL).trans ?_
  refine (q_blk (Y := mL_law) (q_dcC dL_law_925 (q_dcC dL_law_926 (q_dcC dL_law_927 (q_dcC dL_law_928 q_dcN)))) (show _ = some (929, [.ref q_M, .ref 0, .ref 98, .int (nI (6 * r))], [.int ((nI (6 * r)) + 2), .ref q_M, .int (xs (6 * r + 1)), .ref 98, .int v]) from rfl)).trans ?_
  refine (K_xs (m := 6 * r + 2) dL_law_929 (nI_add (6 * r) 2) (by omega) hL).trans ?_
  refine (k_calV (d := 399) (Y := mL_law) (Z := mX12_send) (vs := [.int (xs (6 * r + 1)), .int (xs (6 * r + 2))]) (rest := [.int v]) (la := [.ref 98, .int (xs (6 * r + 1)), .int (xs (6 * r + 2))]) dL_law_930 rfl rfl rfl rfl ⟨by decide, rfl⟩ (Nat.le_of_ble_eq_true rfl) rfl (Nat.le_of_ble_eq_true rfl) e2).trans ?_
  refine Eq.trans (b := q_sem 400 mL_law 933 [.ref q_M, .ref 0, .ref 98, .int (nI (6 * r))] [.int v, .int v] (q_K (q_h0 L xs) g2)) rfl ?_
  refine (q_blk (Y := mL_law) (q_dcC dL_law_933 q_dcN) (show _ = some ((if q_cc .eq v v = true then 1737 else 936), [.ref q_M, .ref 0, .ref 98, .int (nI (6 * r))], []) from rfl)).trans ?_
  rw [if_pos (show q_cc .eq v v = true from decide_eq_true rfl)]
theorem LC_back {L : Nat} {xs : Nat → Int32} (hL : L ≤ 3072) {r n : Nat} {g : Nat → Nat → Int32} (hr : 6 * r + 6 ≤ L) (hR : q_R n g) (hn : n ≤ 512) : ∃ g2, q_sem 400 mL_law 938 [.ref q_M, .ref 0, .ref 98, .int (nI (6 * r))] [] (q_K (q_h0 L xs) g) = q_sem 400 mL_law 1737 [.ref q_M, .ref 0, .ref 98, .int (nI (6 * r))] [] (q_K (q_h0 L xs) g2) ∧ q_R (n + 1) g2 := by
  obtain ⟨v, g1, g2, e1, e2, h2⟩ := law_back hR ⟨L, xs, rfl⟩ 369 ((xs (6 * r + 1)))
  refine ⟨g2, ?_, R_le h2 (Nat.le_succ n)⟩
  refine (q_blk (Y := mL_law) (q_dcC dL_law_938 (q_dcC dL_law_939 (q_dcC dL_law_940 (q_dcC dL_law_941 (q_dcC dL_law_942 q_dcN))))) (show _ = some (943, [.ref q_M, .ref 0, .ref 98, .int (nI (6 * r))], [.int ((nI (6 * r)) + 1), .ref q_M, .ref 0]) from rfl)).trans ?_
  refine (K_xs (m := 6 * r + 1) dL_law_943 (nI_add (6 * r) 1) (by omega) hL).trans ?_
  refine (k_calV (d := 399) (Y := mL_law) (Z := mX11_back) (vs := [.int (xs (6 * r + 1))]) (rest := []) (la := [.ref 0, .int (xs (6 * r + 1)), .retAddr 0]) dL_law_944 rfl rfl rfl rfl ⟨by decide, rfl⟩ (Nat.le_of_ble_eq_true rfl) rfl (Nat.le_of_ble_eq_true rfl) e1).trans ?_
  refine Eq.trans (b := q_sem 400 mL_law 947 [.ref q_M, .ref 0, .ref 98, .int (nI (6 * r))] [.int v] (q_K (q_h0 L xs) g1)) rfl ?_
  refine (q_blk (Y := mL_law) (q_dcC dL_law_947 (q_dcC dL_law_948 (q_dcC dL_law_949 (q_dcC dL_law_950 (q_dcC dL_law_951 q_dcN))))) (show _ = some (952, [.ref q_M, .ref 0, .ref 98, .int (nI (6 * r))], [.int ((nI (6 * r)) + 1), .ref q_M, .ref 98, .int v]) from rfl)).trans ?_
  refine (K_xs (m := 6 * r + 1) dL_law_952 (nI_add (6 * r) 1) (by omega) hL).trans ?_
  refine (k_calV (d := 399) (Y := mL_law) (Z := mX12_back) (vs := [.int (xs (6 * r + 1))]) (rest := [.int v]) (la := [.ref 98, .int (xs (6 * r + 1)), .retAddr 0]) dL_law_953 rfl rfl rfl rfl ⟨by decide, rfl⟩ (Nat.le_of_ble_eq_true rfl) rfl (Nat.le_of_ble_eq_true rfl) e2).trans ?_
  refine Eq.trans (b := q_sem 400 mL_law 956 [.ref q_M, .ref 0, .ref 98, .int (nI (6 * r))] [.int v, .int v] (q_K (q_h0 L xs) g2)) rfl ?_
  refine (q_blk (Y := mL_law) (q_dcC dL_law_956 q_dcN) (show _ = some ((if q_cc .eq v v = true then 1737 else 959), [.ref q_M, .ref 0, .ref 98, .int (nI (6 * r))], []) from rfl)).trans ?_
  rw [if_pos (show q_cc .eq v v = true from decide_eq_true rfl)]
theorem LC_fill {L : Nat} {xs : Nat → Int32} (hL : L ≤ 3072) {r n : Nat} {g : Nat → Nat → Int32} (hr : 6 * r + 6 ≤ L) (hR : q_R n g) (hn : n ≤ 512) : ∃ g2, q_sem 400 mL_law 961 [.ref q_M, .ref 0, .ref 98, .int (nI (6 * r))] [] (q_K (q_h0 L xs) g) = q_sem 400 mL_law 1737 [.ref q_M, .ref 0, .ref 98, .int (nI (6 * r))] [] (q_K (q_h0 L xs) g2) ∧ q_R (n + 1) g2 := by
  obtain ⟨v, g1, g2, e1, e2, h2⟩ := law_fill hR ⟨L, xs, rfl⟩ 369 ((xs (6 * r + 1))) ((xs (6 * r + 2))) ((xs (6 * r + 3)))
  refine ⟨g2, ?_, R_le h2 (Nat.le_succ n)⟩
  refine (q_blk (Y := mL_law) (q_dcC dL_law_961 (q_dcC dL_law_962 (q_dcC dL_law_963 (q_dcC dL_law_964 (q_dcC dL_law_965 q_dcN))))) (show _ = some (966, [.ref q_M, .ref 0, .ref 98, .int (nI (6 * r))], [.int ((nI (6 * r)) + 1), .ref q_M, .ref 0]) from rfl)).trans ?_
  refine (K_xs (m := 6 * r + 1) dL_law_966 (nI_add (6 * r) 1) (by omega) hL).trans ?_
  refine (q_blk (Y := mL_law) (q_dcC dL_law_967 (q_dcC dL_law_968 (q_dcC dL_law_969 (q_dcC dL_law_970 q_dcN)))) (show _ = some (971, [.ref q_M, .ref 0, .ref 98, .int (nI (6 * r))], [.int ((nI (6 * r)) + 2), .ref q_M, .int (xs (6 * r + 1)), .ref 0]) from rfl)).trans ?_
  refine (K_xs (m := 6 * r + 2) dL_law_971 (nI_add (6 * r) 2) (by omega) hL).trans ?_
  refine (q_blk (Y := mL_law) (q_dcC dL_law_972 (q_dcC dL_law_973 (q_dcC dL_law_974 (q_dcC dL_law_975 q_dcN)))) (show _ = some (976, [.ref q_M, .ref 0, .ref 98, .int (nI (6 * r))], [.int ((nI (6 * r)) + 3), .ref q_M, .int (xs (6 * r + 2)), .int (xs (6 * r + 1)), .ref 0]) from rfl)).trans ?_
  refine (K_xs (m := 6 * r + 3) dL_law_976 (nI_add (6 * r) 3) (by omega) hL).trans ?_
  refine (k_calV (d := 399) (Y := mL_law) (Z := mX11_fill) (vs := [.int (xs (6 * r + 1)), .int (xs (6 * r + 2)), .int (xs (6 * r + 3))]) (rest := []) (la := [.ref 0, .int (xs (6 * r + 1)), .int (xs (6 * r + 2)), .int (xs (6 * r + 3))]) dL_law_977 rfl rfl rfl rfl ⟨by decide, rfl⟩ (Nat.le_of_ble_eq_true rfl) rfl (Nat.le_of_ble_eq_true rfl) e1).trans ?_
  refine Eq.trans (b := q_sem 400 mL_law 980 [.ref q_M, .ref 0, .ref 98, .int (nI (6 * r))] [.int v] (q_K (q_h0 L xs) g1)) rfl ?_
  refine (q_blk (Y := mL_law) (q_dcC dL_law_980 (q_dcC dL_law_981 (q_dcC dL_law_982 (q_dcC dL_law_983 (q_dcC dL_law_984 q_dcN))))) (show _ = some (985, [.ref q_M, .ref 0, .ref 98, .int (nI (6 * r))], [.int ((nI (6 * r)) + 1), .ref q_M, .ref 98, .int v]) from rfl)).trans ?_
  refine (K_xs (m := 6 * r + 1) dL_law_985 (nI_add (6 * r) 1) (by omega) hL).trans ?_
  refine (q_blk (Y := mL_law) (q_dcC dL_law_986 (q_dcC dL_law_987 (q_dcC dL_law_988 (q_dcC dL_law_989 q_dcN)))) (show _ = some (990, [.ref q_M, .ref 0, .ref 98, .int (nI (6 * r))], [.int ((nI (6 * r)) + 2), .ref q_M, .int (xs (6 * r + 1)), .ref 98, .int v]) from rfl)).trans ?_
  refine (K_xs (m := 6 * r + 2) dL_law_990 (nI_add (6 * r) 2) (by omega) hL).trans ?_
  refine (q_blk (Y := mL_law) (q_dcC dL_law_991 (q_dcC dL_law_992 (q_dcC dL_law_993 (q_dcC dL_law_994 q_dcN)))) (show _ = some (995, [.ref q_M, .ref 0, .ref 98, .int (nI (6 * r))], [.int ((nI (6 * r)) + 3), .ref q_M, .int (xs (6 * r + 2)), .int (xs (6 * r + 1)), .ref 98, .int v]) from rfl)).trans ?_
  refine (K_xs (m := 6 * r + 3) dL_law_995 (nI_add (6 * r) 3) (by omega) hL).trans ?_
  refine (k_calV (d := 399) (Y := mL_law) (Z := mX12_fill) (vs := [.int (xs (6 * r + 1)), .int (xs (6 * r + 2)), .int (xs (6 * r + 3))]) (rest := [.int v]) (la := [.ref 98, .int (xs (6 * r + 1)), .int (xs (6 * r + 2)), .int (xs (6 * r + 3))]) dL_law_996 rfl rfl rfl rfl ⟨by decide, rfl⟩ (Nat.le_of_ble_eq_true rfl) rfl (Nat.le_of_ble_eq_true rfl) e2).trans ?_
  refine Eq.trans (b := q_sem 400 mL_law 999 [.ref q_M, .ref 0, .ref 98, .int (nI (6 * r))] [.int v, .int v] (q_K (q_h0 L xs) g2)) rfl ?_
  refine (q_blk (Y := mL_law) (q_dcC dL_law_999 q_dcN) (show _ = some ((if q_cc .eq v v = true then 1737 else 1002), [.ref q_M, .ref 0, .ref 98, .int (nI (6 * r))], []) from rfl)).trans ?_
  rw [if_pos (show q_cc .eq v v = true from decide_eq_true rfl)]
theorem LC_feed {L : Nat} {xs : Nat → Int32} (hL : L ≤ 3072) {r n : Nat} {g : Nat → Nat → Int32} (hr : 6 * r + 6 ≤ L) (hR : q_R n g) (hn : n ≤ 512) : ∃ g2, q_sem 400 mL_law 1004 [.ref q_M, .ref 0, .ref 98, .int (nI (6 * r))] [] (q_K (q_h0 L xs) g) = q_sem 400 mL_law 1737 [.ref q_M, .ref 0, .ref 98, .int (nI (6 * r))] [] (q_K (q_h0 L xs) g2) ∧ q_R (n + 1) g2 := by
  obtain ⟨v, g1, g2, e1, e2, h2⟩ := law_feed hR ⟨L, xs, rfl⟩ 369 (((((xs (6 * r + 1)) : Int32).toInt64 <<< ((32 : Int32).toInt64 &&& 63)) ||| (((xs (6 * r + 2)) : Int32).toInt64 &&& 4294967295))) ((xs (6 * r + 3)))
  refine ⟨g2, ?_, R_le h2 (Nat.le_succ n)⟩
  refine (q_blk (Y := mL_law) (q_dcC dL_law_1004 (q_dcC dL_law_1005 (q_dcC dL_law_1006 (q_dcC dL_law_1007 (q_dcC dL_law_1008 q_dcN))))) (show _ = some (1009, [.ref q_M, .ref 0, .ref 98, .int (nI (6 * r))], [.int ((nI (6 * r)) + 1), .ref q_M, .ref 0]) from rfl)).trans ?_
  refine (K_xs (m := 6 * r + 1) dL_law_1009 (nI_add (6 * r) 1) (by omega) hL).trans ?_
  refine (q_blk (Y := mL_law) (q_dcC dL_law_1010 (q_dcC dL_law_1011 (q_dcC dL_law_1013 (q_dcC dL_law_1014 (q_dcC dL_law_1015 (q_dcC dL_law_1016 (q_dcC dL_law_1017 q_dcN))))))) (show _ = some (1018, [.ref q_M, .ref 0, .ref 98, .int (nI (6 * r))], [.int ((nI (6 * r)) + 2), .ref q_M, .long (((xs (6 * r + 1)) : Int32).toInt64 <<< ((32 : Int32).toInt64 &&& 63)), .ref 0]) from rfl)).trans ?_
  refine (K_xs (m := 6 * r + 2) dL_law_1018 (nI_add (6 * r) 2) (by omega) hL).trans ?_
  refine (q_blk (Y := mL_law) (q_dcC dL_law_1019 q_dcN) (show _ = some (1020, [.ref q_M, .ref 0, .ref 98, .int (nI (6 * r))], [.long ((xs (6 * r + 2)) : Int32).toInt64, .long (((xs (6 * r + 1)) : Int32).toInt64 <<< ((32 : Int32).toInt64 &&& 63)), .ref 0]) from rfl)).trans ?_
  refine (k_ldc2 (Y := mL_law) (v := 4294967295) dL_law_1020 rfl).trans ?_
  refine (q_blk (Y := mL_law) (q_dcC dL_law_1023 (q_dcC dL_law_1024 (q_dcC dL_law_1025 (q_dcC dL_law_1026 (q_dcC dL_law_1027 (q_dcC dL_law_1028 q_dcN)))))) (show _ = some (1029, [.ref q_M, .ref 0, .ref 98, .int (nI (6 * r))], [.int ((nI (6 * r)) + 3), .ref q_M, .long ((((xs (6 * r + 1)) : Int32).toInt64 <<< ((32 : Int32).toInt64 &&& 63)) ||| (((xs (6 * r + 2)) : Int32).toInt64 &&& 4294967295)), .ref 0]) from rfl)).trans ?_
  refine (K_xs (m := 6 * r + 3) dL_law_1029 (nI_add (6 * r) 3) (by omega) hL).trans ?_
  refine (k_calV (d := 399) (Y := mL_law) (Z := mX11_feed) (vs := [.long ((((xs (6 * r + 1)) : Int32).toInt64 <<< ((32 : Int32).toInt64 &&& 63)) ||| (((xs (6 * r + 2)) : Int32).toInt64 &&& 4294967295)), .int (xs (6 * r + 3))]) (rest := []) (la := [.ref 0, .long ((((xs (6 * r + 1)) : Int32).toInt64 <<< ((32 : Int32).toInt64 &&& 63)) ||| (((xs (6 * r + 2)) : Int32).toInt64 &&& 4294967295)), .retAddr 0, .int (xs (6 * r + 3)), .retAddr 0, .retAddr 0]) dL_law_1030 rfl rfl rfl rfl ⟨by decide, rfl⟩ (Nat.le_of_ble_eq_true rfl) rfl (Nat.le_of_ble_eq_true rfl) e1).trans ?_
  refine Eq.trans (b := q_sem 400 mL_law 1033 [.ref q_M, .ref 0, .ref 98, .int (nI (6 * r))] [.int v] (q_K (q_h0 L xs) g1)) rfl ?_
  refine (q_blk (Y := mL_law) (q_dcC dL_law_1033 (q_dcC dL_law_1034 (q_dcC dL_law_1035 (q_dcC dL_law_1036 (q_dcC dL_law_1037 q_dcN))))) (show _ = some (1038, [.ref q_M, .ref 0, .ref 98, .int (nI (6 * r))], [.int ((nI (6 * r)) + 1), .ref q_M, .ref 98, .int v]) from rfl)).trans ?_
  refine (K_xs (m := 6 * r + 1) dL_law_1038 (nI_add (6 * r) 1) (by omega) hL).trans ?_
  refine (q_blk (Y := mL_law) (q_dcC dL_law_1039 (q_dcC dL_law_1040 (q_dcC dL_law_1042 (q_dcC dL_law_1043 (q_dcC dL_law_1044 (q_dcC dL_law_1045 (q_dcC dL_law_1046 q_dcN))))))) (show _ = some (1047, [.ref q_M, .ref 0, .ref 98, .int (nI (6 * r))], [.int ((nI (6 * r)) + 2), .ref q_M, .long (((xs (6 * r + 1)) : Int32).toInt64 <<< ((32 : Int32).toInt64 &&& 63)), .ref 98, .int v]) from rfl)).trans ?_
  refine (K_xs (m := 6 * r + 2) dL_law_1047 (nI_add (6 * r) 2) (by omega) hL).trans ?_
  refine (q_blk (Y := mL_law) (q_dcC dL_law_1048 q_dcN) (show _ = some (1049, [.ref q_M, .ref 0, .ref 98, .int (nI (6 * r))], [.long ((xs (6 * r + 2)) : Int32).toInt64, .long (((xs (6 * r + 1)) : Int32).toInt64 <<< ((32 : Int32).toInt64 &&& 63)), .ref 98, .int v]) from rfl)).trans ?_
  refine (k_ldc2 (Y := mL_law) (v := 4294967295) dL_law_1049 rfl).trans ?_
  refine (q_blk (Y := mL_law) (q_dcC dL_law_1052 (q_dcC dL_law_1053 (q_dcC dL_law_1054 (q_dcC dL_law_1055 (q_dcC dL_law_1056 (q_dcC dL_law_1057 q_dcN)))))) (show _ = some (1058, [.ref q_M, .ref 0, .ref 98, .int (nI (6 * r))], [.int ((nI (6 * r)) + 3), .ref q_M, .long ((((xs (6 * r + 1)) : Int32).toInt64 <<< ((32 : Int32).toInt64 &&& 63)) ||| (((xs (6 * r + 2)) : Int32).toInt64 &&& 4294967295)), .ref 98, .int v]) from rfl)).trans ?_
  refine (K_xs (m := 6 * r + 3) dL_law_1058 (nI_add (6 * r) 3) (by omega) hL).trans ?_
  refine (k_calV (d := 399) (Y := mL_law) (Z := mX12_feed) (vs := [.long ((((xs (6 * r + 1)) : Int32).toInt64 <<< ((32 : Int32).toInt64 &&& 63)) ||| (((xs (6 * r + 2)) : Int32).toInt64 &&& 4294967295)), .int (xs (6 * r + 3))]) (rest := [.int v]) (la := [.ref 98, .long ((((xs (6 * r + 1)) : Int32).toInt64 <<< ((32 : Int32).toInt64 &&& 63)) ||| (((xs (6 * r + 2)) : Int32).toInt64 &&& 4294967295)), .retAddr 0, .int (xs (6 * r + 3)), .retAddr 0]) dL_law_1059 rfl rfl rfl rfl ⟨by decide, rfl⟩ (Nat.le_of_ble_eq_true rfl) rfl (Nat.le_of_ble_eq_true rfl) e2).trans ?_
  refine Eq.trans (b := q_sem 400 mL_law 1062 [.ref q_M, .ref 0, .ref 98, .int (nI (6 * r))] [.int v, .int v] (q_K (q_h0 L xs) g2)) rfl ?_
  refine (q_blk (Y := mL_law) (q_dcC dL_law_1062 q_dcN) (show _ = some ((if q_cc .eq v v = true then 1737 else 1065), [.ref q_M, .ref 0, .ref 98, .int (nI (6 * r))], []) from rfl)).trans ?_
  rw [if_pos (show q_cc .eq v v = true from decide_eq_true rfl)]
theorem LC_rule {L : Nat} {xs : Nat → Int32} (hL : L ≤ 3072) {r n : Nat} {g : Nat → Nat → Int32} (hr : 6 * r + 6 ≤ L) (hR : q_R n g) (hn : n ≤ 512) : ∃ g2, q_sem 400 mL_law 1067 [.ref q_M, .ref 0, .ref 98, .int (nI (6 * r))] [] (q_K (q_h0 L xs) g) = q_sem 400 mL_law 1737 [.ref q_M, .ref 0, .ref 98, .int (nI (6 * r))] [] (q_K (q_h0 L xs) g2) ∧ q_R (n + 1) g2 := by
  obtain ⟨v, g1, g2, e1, e2, h2⟩ := law_rule hR ⟨L, xs, rfl⟩ 299 ((xs (6 * r + 1))) ((xs (6 * r + 2)))
  refine ⟨g2, ?_, R_le h2 (Nat.le_succ n)⟩
  refine (q_blk (Y := mL_law) (q_dcC dL_law_1067 (q_dcC dL_law_1068 (q_dcC dL_law_1069 (q_dcC dL_law_1070 (q_dcC dL_law_1071 q_dcN))))) (show _ = some (1072, [.ref q_M, .ref 0, .ref 98, .int (nI (6 * r))], [.int ((nI (6 * r)) + 1), .ref q_M, .ref 0]) from rfl)).trans ?_
  refine (K_xs (m := 6 * r + 1) dL_law_1072 (nI_add (6 * r) 1) (by omega) hL).trans ?_
  refine (q_blk (Y := mL_law) (q_dcC dL_law_1073 (q_dcC dL_law_1074 (q_dcC dL_law_1075 (q_dcC dL_law_1076 q_dcN)))) (show _ = some (1077, [.ref q_M, .ref 0, .ref 98, .int (nI (6 * r))], [.int ((nI (6 * r)) + 2), .ref q_M, .int (xs (6 * r + 1)), .ref 0]) from rfl)).trans ?_
  refine (K_xs (m := 6 * r + 2) dL_law_1077 (nI_add (6 * r) 2) (by omega) hL).trans ?_
  refine (k_calV (d := 399) (Y := mL_law) (Z := mX11_rule) (vs := [.int (xs (6 * r + 1)), .int (xs (6 * r + 2))]) (rest := []) (la := [.ref 0, .int (xs (6 * r + 1)), .int (xs (6 * r + 2)), .retAddr 0]) dL_law_1078 rfl rfl rfl rfl ⟨by decide, rfl⟩ (Nat.le_of_ble_eq_true rfl) rfl (Nat.le_of_ble_eq_true rfl) e1).trans ?_
  refine Eq.trans (b := q_sem 400 mL_law 1081 [.ref q_M, .ref 0, .ref 98, .int (nI (6 * r))] [.int v] (q_K (q_h0 L xs) g1)) rfl ?_
  refine (q_blk (Y := mL_law) (q_dcC dL_law_1081 (q_dcC dL_law_1082 (q_dcC dL_law_1083 (q_dcC dL_law_1084 (q_dcC dL_law_1085 q_dcN))))) (show _ = some (1086, [.ref q_M, .ref 0, .ref 98, .int (nI (6 * r))], [.int ((nI (6 * r)) + 1), .ref q_M, .ref 98, .int v]) from rfl)).trans ?_
  refine (K_xs (m := 6 * r + 1) dL_law_1086 (nI_add (6 * r) 1) (by omega) hL).trans ?_
  refine (q_blk (Y := mL_law) (q_dcC dL_law_1087 (q_dcC dL_law_1088 (q_dcC dL_law_1089 (q_dcC dL_law_1090 q_dcN)))) (show _ = some (1091, [.ref q_M, .ref 0, .ref 98, .int (nI (6 * r))], [.int ((nI (6 * r)) + 2), .ref q_M, .int (xs (6 * r + 1)), .ref 98, .int v]) from rfl)).trans ?_
  refine (K_xs (m := 6 * r + 2) dL_law_1091 (nI_add (6 * r) 2) (by omega) hL).trans ?_
  refine (k_calV (d := 399) (Y := mL_law) (Z := mX12_rule) (vs := [.int (xs (6 * r + 1)), .int (xs (6 * r + 2))]) (rest := [.int v]) (la := [.ref 98, .int (xs (6 * r + 1)), .int (xs (6 * r + 2)), .retAddr 0, .retAddr 0]) dL_law_1092 rfl rfl rfl rfl ⟨by decide, rfl⟩ (Nat.le_of_ble_eq_true rfl) rfl (Nat.le_of_ble_eq_true rfl) e2).trans ?_
  refine Eq.trans (b := q_sem 400 mL_law 1095 [.ref q_M, .ref 0, .ref 98, .int (nI (6 * r))] [.int v, .int v] (q_K (q_h0 L xs) g2)) rfl ?_
  refine (q_blk (Y := mL_law) (q_dcC dL_law_1095 q_dcN) (show _ = some ((if q_cc .eq v v = true then 1737 else 1098), [.ref q_M, .ref 0, .ref 98, .int (nI (6 * r))], []) from rfl)).trans ?_
  rw [if_pos (show q_cc .eq v v = true from decide_eq_true rfl)]
theorem LC_force {L : Nat} {xs : Nat → Int32} (hL : L ≤ 3072) {r n : Nat} {g : Nat → Nat → Int32} (hr : 6 * r + 6 ≤ L) (hR : q_R n g) (hn : n ≤ 512) : ∃ g2, q_sem 400 mL_law 1100 [.ref q_M, .ref 0, .ref 98, .int (nI (6 * r))] [] (q_K (q_h0 L xs) g) = q_sem 400 mL_law 1737 [.ref q_M, .ref 0, .ref 98, .int (nI (6 * r))] [] (q_K (q_h0 L xs) g2) ∧ q_R (n + 1) g2 := by
  obtain ⟨v, g1, g2, e1, e2, h2⟩ := law_force hR ⟨L, xs, rfl⟩ 369 ((xs (6 * r + 1))) ((xs (6 * r + 2)))
  refine ⟨g2, ?_, R_le h2 (Nat.le_succ n)⟩
  refine (q_blk (Y := mL_law) (q_dcC dL_law_1100 (q_dcC dL_law_1101 (q_dcC dL_law_1102 (q_dcC dL_law_1103 (q_dcC dL_law_1104 q_dcN))))) (show _ = some (1105, [.ref q_M, .ref 0, .ref 98, .int (nI (6 * r))], [.int ((nI (6 * r)) + 1), .ref q_M, .ref 0]) from rfl)).trans ?_
  refine (K_xs (m := 6 * r + 1) dL_law_1105 (nI_add (6 * r) 1) (by omega) hL).trans ?_
  refine (q_blk (Y := mL_law) (q_dcC dL_law_1106 (q_dcC dL_law_1107 (q_dcC dL_law_1108 (q_dcC dL_law_1109 q_dcN)))) (show _ = some (1110, [.ref q_M, .ref 0, .ref 98, .int (nI (6 * r))], [.int ((nI (6 * r)) + 2), .ref q_M, .int (xs (6 * r + 1)), .ref 0]) from rfl)).trans ?_
  refine (K_xs (m := 6 * r + 2) dL_law_1110 (nI_add (6 * r) 2) (by omega) hL).trans ?_
  refine (k_calV (d := 399) (Y := mL_law) (Z := mX11_force) (vs := [.int (xs (6 * r + 1)), .int (xs (6 * r + 2))]) (rest := []) (la := [.ref 0, .int (xs (6 * r + 1)), .int (xs (6 * r + 2)), .retAddr 0]) dL_law_1111 rfl rfl rfl rfl ⟨by decide, rfl⟩ (Nat.le_of_ble_eq_true rfl) rfl (Nat.le_of_ble_eq_true rfl) e1).trans ?_
  refine Eq.trans (b := q_sem 400 mL_law 1114 [.ref q_M, .ref 0, .ref 98, .int (nI (6 * r))] [.int v] (q_K (q_h0 L xs) g1)) rfl ?_
  refine (q_blk (Y := mL_law) (q_dcC dL_law_1114 (q_dcC dL_law_1115 (q_dcC dL_law_1116 (q_dcC dL_law_1117 (q_dcC dL_law_1118 q_dcN))))) (show _ = some (1119, [.ref q_M, .ref 0, .ref 98, .int (nI (6 * r))], [.int ((nI (6 * r)) + 1), .ref q_M, .ref 98, .int v]) from rfl)).trans ?_
  refine (K_xs (m := 6 * r + 1) dL_law_1119 (nI_add (6 * r) 1) (by omega) hL).trans ?_
  refine (q_blk (Y := mL_law) (q_dcC dL_law_1120 (q_dcC dL_law_1121 (q_dcC dL_law_1122 (q_dcC dL_law_1123 q_dcN)))) (show _ = some (1124, [.ref q_M, .ref 0, .ref 98, .int (nI (6 * r))], [.int ((nI (6 * r)) + 2), .ref q_M, .int (xs (6 * r + 1)), .ref 98, .int v]) from rfl)).trans ?_
  refine (K_xs (m := 6 * r + 2) dL_law_1124 (nI_add (6 * r) 2) (by omega) hL).trans ?_
  refine (k_calV (d := 399) (Y := mL_law) (Z := mX12_force) (vs := [.int (xs (6 * r + 1)), .int (xs (6 * r + 2))]) (rest := [.int v]) (la := [.ref 98, .int (xs (6 * r + 1)), .int (xs (6 * r + 2)), .retAddr 0]) dL_law_1125 rfl rfl rfl rfl ⟨by decide, rfl⟩ (Nat.le_of_ble_eq_true rfl) rfl (Nat.le_of_ble_eq_true rfl) e2).trans ?_
  refine Eq.trans (b := q_sem 400 mL_law 1128 [.ref q_M, .ref 0, .ref 98, .int (nI (6 * r))] [.int v, .int v] (q_K (q_h0 L xs) g2)) rfl ?_
  refine (q_blk (Y := mL_law) (q_dcC dL_law_1128 q_dcN) (show _ = some ((if q_cc .eq v v = true then 1737 else 1131), [.ref q_M, .ref 0, .ref 98, .int (nI (6 * r))], []) from rfl)).trans ?_
  rw [if_pos (show q_cc .eq v v = true from decide_eq_true rfl)]
theorem LC_says {L : Nat} {xs : Nat → Int32} (hL : L ≤ 3072) {r n : Nat} {g : Nat → Nat → Int32} (hr : 6 * r + 6 ≤ L) (hR : q_R n g) (hn : n ≤ 512) : ∃ g2, q_sem 400 mL_law 1133 [.ref q_M, .ref 0, .ref 98, .int (nI (6 * r))] [] (q_K (q_h0 L xs) g) = q_sem 400 mL_law 1737 [.ref q_M, .ref 0, .ref 98, .int (nI (6 * r))] [] (q_K (q_h0 L xs) g2) ∧ q_R (n + 1) g2 := by
  obtain ⟨v, g1, g2, e1, e2, h2⟩ := law_says hR ⟨L, xs, rfl⟩ 369 ((xs (6 * r + 1))) ((xs (6 * r + 2))) ((xs (6 * r + 3))) ((xs (6 * r + 4))) ((xs (6 * r + 5)))
  refine ⟨g2, ?_, R_le h2 (Nat.le_succ n)⟩
  refine (q_blk (Y := mL_law) (q_dcC dL_law_1133 (q_dcC dL_law_1134 (q_dcC dL_law_1135 (q_dcC dL_law_1136 (q_dcC dL_law_1137 q_dcN))))) (show _ = some (1138, [.ref q_M, .ref 0, .ref 98, .int (nI (6 * r))], [.int ((nI (6 * r)) + 1), .ref q_M, .ref 0]) from rfl)).trans ?_
  refine (K_xs (m := 6 * r + 1) dL_law_1138 (nI_add (6 * r) 1) (by omega) hL).trans ?_
  refine (q_blk (Y := mL_law) (q_dcC dL_law_1139 (q_dcC dL_law_1140 (q_dcC dL_law_1141 (q_dcC dL_law_1142 q_dcN)))) (show _ = some (1143, [.ref q_M, .ref 0, .ref 98, .int (nI (6 * r))], [.int ((nI (6 * r)) + 2), .ref q_M, .int (xs (6 * r + 1)), .ref 0]) from rfl)).trans ?_
  refine (K_xs (m := 6 * r + 2) dL_law_1143 (nI_add (6 * r) 2) (by omega) hL).trans ?_
  refine (q_blk (Y := mL_law) (q_dcC dL_law_1144 (q_dcC dL_law_1145 (q_dcC dL_law_1146 (q_dcC dL_law_1147 q_dcN)))) (show _ = some (1148, [.ref q_M, .ref 0, .ref 98, .int (nI (6 * r))], [.int ((nI (6 * r)) + 3), .ref q_M, .int (xs (6 * r + 2)), .int (xs (6 * r + 1)), .ref 0]) from rfl)).trans ?_
  refine (K_xs (m := 6 * r + 3) dL_law_1148 (nI_add (6 * r) 3) (by omega) hL).trans ?_
  refine (q_blk (Y := mL_law) (q_dcC dL_law_1149 (q_dcC dL_law_1150 (q_dcC dL_law_1151 (q_dcC dL_law_1152 q_dcN)))) (show _ = some (1153, [.ref q_M, .ref 0, .ref 98, .int (nI (6 * r))], [.int ((nI (6 * r)) + 4), .ref q_M, .int (xs (6 * r + 3)), .int (xs (6 * r + 2)), .int (xs (6 * r + 1)), .ref 0]) from rfl)).trans ?_
  refine (K_xs (m := 6 * r + 4) dL_law_1153 (nI_add (6 * r) 4) (by omega) hL).trans ?_
  refine (q_blk (Y := mL_law) (q_dcC dL_law_1154 (q_dcC dL_law_1155 (q_dcC dL_law_1156 (q_dcC dL_law_1157 q_dcN)))) (show _ = some (1158, [.ref q_M, .ref 0, .ref 98, .int (nI (6 * r))], [.int ((nI (6 * r)) + 5), .ref q_M, .int (xs (6 * r + 4)), .int (xs (6 * r + 3)), .int (xs (6 * r + 2)), .int (xs (6 * r + 1)), .ref 0]) from rfl)).trans ?_
  refine (K_xs (m := 6 * r + 5) dL_law_1158 (nI_add (6 * r) 5) (by omega) hL).trans ?_
  refine (k_calV (d := 399) (Y := mL_law) (Z := mX11_says) (vs := [.int (xs (6 * r + 1)), .int (xs (6 * r + 2)), .int (xs (6 * r + 3)), .int (xs (6 * r + 4)), .int (xs (6 * r + 5))]) (rest := []) (la := [.ref 0, .int (xs (6 * r + 1)), .int (xs (6 * r + 2)), .int (xs (6 * r + 3)), .int (xs (6 * r + 4)), .int (xs (6 * r + 5))]) dL_law_1159 rfl rfl rfl rfl ⟨by decide, rfl⟩ (Nat.le_of_ble_eq_true rfl) rfl (Nat.le_of_ble_eq_true rfl) e1).trans ?_
  refine Eq.trans (b := q_sem 400 mL_law 1162 [.ref q_M, .ref 0, .ref 98, .int (nI (6 * r))] [.int v] (q_K (q_h0 L xs) g1)) rfl ?_
  refine (q_blk (Y := mL_law) (q_dcC dL_law_1162 (q_dcC dL_law_1163 (q_dcC dL_law_1164 (q_dcC dL_law_1165 (q_dcC dL_law_1166 q_dcN))))) (show _ = some (1167, [.ref q_M, .ref 0, .ref 98, .int (nI (6 * r))], [.int ((nI (6 * r)) + 1), .ref q_M, .ref 98, .int v]) from rfl)).trans ?_
  refine (K_xs (m := 6 * r + 1) dL_law_1167 (nI_add (6 * r) 1) (by omega) hL).trans ?_
  refine (q_blk (Y := mL_law) (q_dcC dL_law_1168 (q_dcC dL_law_1169 (q_dcC dL_law_1170 (q_dcC dL_law_1171 q_dcN)))) (show _ = some (1172, [.ref q_M, .ref 0, .ref 98, .int (nI (6 * r))], [.int ((nI (6 * r)) + 2), .ref q_M, .int (xs (6 * r + 1)), .ref 98, .int v]) from rfl)).trans ?_
  refine (K_xs (m := 6 * r + 2) dL_law_1172 (nI_add (6 * r) 2) (by omega) hL).trans ?_
  refine (q_blk (Y := mL_law) (q_dcC dL_law_1173 (q_dcC dL_law_1174 (q_dcC dL_law_1175 (q_dcC dL_law_1176 q_dcN)))) (show _ = some (1177, [.ref q_M, .ref 0, .ref 98, .int (nI (6 * r))], [.int ((nI (6 * r)) + 3), .ref q_M, .int (xs (6 * r + 2)), .int (xs (6 * r + 1)), .ref 98, .int v]) from rfl)).trans ?_
  refine (K_xs (m := 6 * r + 3) dL_law_1177 (nI_add (6 * r) 3) (by omega) hL).trans ?_
  refine (q_blk (Y := mL_law) (q_dcC dL_law_1178 (q_dcC dL_law_1179 (q_dcC dL_law_1180 (q_dcC dL_law_1181 q_dcN)))) (show _ = some (1182, [.ref q_M, .ref 0, .ref 98, .int (nI (6 * r))], [.int ((nI (6 * r)) + 4), .ref q_M, .int (xs (6 * r + 3)), .int (xs (6 * r + 2)), .int (xs (6 * r + 1)), .ref 98, .int v]) from rfl)).trans ?_
  refine (K_xs (m := 6 * r + 4) dL_law_1182 (nI_add (6 * r) 4) (by omega) hL).trans ?_
  refine (q_blk (Y := mL_law) (q_dcC dL_law_1183 (q_dcC dL_law_1184 (q_dcC dL_law_1185 (q_dcC dL_law_1186 q_dcN)))) (show _ = some (1187, [.ref q_M, .ref 0, .ref 98, .int (nI (6 * r))], [.int ((nI (6 * r)) + 5), .ref q_M, .int (xs (6 * r + 4)), .int (xs (6 * r + 3)), .int (xs (6 * r + 2)), .int (xs (6 * r + 1)), .ref 98, .int v]) from rfl)).trans ?_
  refine (K_xs (m := 6 * r + 5) dL_law_1187 (nI_add (6 * r) 5) (by omega) hL).trans ?_
  refine (k_calV (d := 399) (Y := mL_law) (Z := mX12_says) (vs := [.int (xs (6 * r + 1)), .int (xs (6 * r + 2)), .int (xs (6 * r + 3)), .int (xs (6 * r + 4)), .int (xs (6 * r + 5))]) (rest := [.int v]) (la := [.ref 98, .int (xs (6 * r + 1)), .int (xs (6 * r + 2)), .int (xs (6 * r + 3)), .int (xs (6 * r + 4)), .int (xs (6 * r + 5))]) dL_law_1188 rfl rfl rfl rfl ⟨by decide, rfl⟩ (Nat.le_of_ble_eq_true rfl) rfl (Nat.le_of_ble_eq_true rfl) e2).trans ?_
  refine Eq.trans (b := q_sem 400 mL_law 1191 [.ref q_M, .ref 0, .ref 98, .int (nI (6 * r))] [.int v, .int v] (q_K (q_h0 L xs) g2)) rfl ?_
  refine (q_blk (Y := mL_law) (q_dcC dL_law_1191 q_dcN) (show _ = some ((if q_cc .eq v v = true then 1737 else 1194), [.ref q_M, .ref 0, .ref 98, .int (nI (6 * r))], []) from rfl)).trans ?_
  rw [if_pos (show q_cc .eq v v = true from decide_eq_true rfl)]
theorem LC_meeting {L : Nat} {xs : Nat → Int32} (hL : L ≤ 3072) {r n : Nat} {g : Nat → Nat → Int32} (hr : 6 * r + 6 ≤ L) (hR : q_R n g) (hn : n ≤ 512) : ∃ g2, q_sem 400 mL_law 1196 [.ref q_M, .ref 0, .ref 98, .int (nI (6 * r))] [] (q_K (q_h0 L xs) g) = q_sem 400 mL_law 1737 [.ref q_M, .ref 0, .ref 98, .int (nI (6 * r))] [] (q_K (q_h0 L xs) g2) ∧ q_R (n + 1) g2 := by
  obtain ⟨v, g1, g2, e1, e2, h2⟩ := law_meeting hR ⟨L, xs, rfl⟩ 369 ((xs (6 * r + 1))) ((xs (6 * r + 2)))
  refine ⟨g2, ?_, R_le h2 (Nat.le_succ n)⟩
  refine (q_blk (Y := mL_law) (q_dcC dL_law_1196 (q_dcC dL_law_1197 (q_dcC dL_law_1198 (q_dcC dL_law_1199 (q_dcC dL_law_1200 q_dcN))))) (show _ = some (1201, [.ref q_M, .ref 0, .ref 98, .int (nI (6 * r))], [.int ((nI (6 * r)) + 1), .ref q_M, .ref 0]) from rfl)).trans ?_
  refine (K_xs (m := 6 * r + 1) dL_law_1201 (nI_add (6 * r) 1) (by omega) hL).trans ?_
  refine (q_blk (Y := mL_law) (q_dcC dL_law_1202 (q_dcC dL_law_1203 (q_dcC dL_law_1204 (q_dcC dL_law_1205 q_dcN)))) (show _ = some (1206, [.ref q_M, .ref 0, .ref 98, .int (nI (6 * r))], [.int ((nI (6 * r)) + 2), .ref q_M, .int (xs (6 * r + 1)), .ref 0]) from rfl)).trans ?_
  refine (K_xs (m := 6 * r + 2) dL_law_1206 (nI_add (6 * r) 2) (by omega) hL).trans ?_
  refine (k_calV (d := 399) (Y := mL_law) (Z := mX11_meeting) (vs := [.int (xs (6 * r + 1)), .int (xs (6 * r + 2))]) (rest := []) (la := [.ref 0, .int (xs (6 * r + 1)), .int (xs (6 * r + 2)), .retAddr 0, .retAddr 0]) dL_law_1207 rfl rfl rfl rfl ⟨by decide, rfl⟩ (Nat.le_of_ble_eq_true rfl) rfl (Nat.le_of_ble_eq_true rfl) e1).trans ?_
  refine Eq.trans (b := q_sem 400 mL_law 1210 [.ref q_M, .ref 0, .ref 98, .int (nI (6 * r))] [.int v] (q_K (q_h0 L xs) g1)) rfl ?_
  refine (q_blk (Y := mL_law) (q_dcC dL_law_1210 (q_dcC dL_law_1211 (q_dcC dL_law_1212 (q_dcC dL_law_1213 (q_dcC dL_law_1214 q_dcN))))) (show _ = some (1215, [.ref q_M, .ref 0, .ref 98, .int (nI (6 * r))], [.int ((nI (6 * r)) + 1), .ref q_M, .ref 98, .int v]) from rfl)).trans ?_
  refine (K_xs (m := 6 * r + 1) dL_law_1215 (nI_add (6 * r) 1) (by omega) hL).trans ?_
  refine (q_blk (Y := mL_law) (q_dcC dL_law_1216 (q_dcC dL_law_1217 (q_dcC dL_law_1218 (q_dcC dL_law_1219 q_dcN)))) (show _ = some (1220, [.ref q_M, .ref 0, .ref 98, .int (nI (6 * r))], [.int ((nI (6 * r)) + 2), .ref q_M, .int (xs (6 * r + 1)), .ref 98, .int v]) from rfl)).trans ?_
  refine (K_xs (m := 6 * r + 2) dL_law_1220 (nI_add (6 * r) 2) (by omega) hL).trans ?_
  refine (k_calV (d := 399) (Y := mL_law) (Z := mX12_meeting) (vs := [.int (xs (6 * r + 1)), .int (xs (6 * r + 2))]) (rest := [.int v]) (la := [.ref 98, .int (xs (6 * r + 1)), .int (xs (6 * r + 2)), .retAddr 0]) dL_law_1221 rfl rfl rfl rfl ⟨by decide, rfl⟩ (Nat.le_of_ble_eq_true rfl) rfl (Nat.le_of_ble_eq_true rfl) e2).trans ?_
  refine Eq.trans (b := q_sem 400 mL_law 1224 [.ref q_M, .ref 0, .ref 98, .int (nI (6 * r))] [.int v, .int v] (q_K (q_h0 L xs) g2)) rfl ?_
  refine (q_blk (Y := mL_law) (q_dcC dL_law_1224 q_dcN) (show _ = some ((if q_cc .eq v v = true then 1737 else 1227), [.ref q_M, .ref 0, .ref 98, .int (nI (6 * r))], []) from rfl)).trans ?_
  rw [if_pos (show q_cc .eq v v = true from decide_eq_true rfl)]
theorem LC_sending {L : Nat} {xs : Nat → Int32} (hL : L ≤ 3072) {r n : Nat} {g : Nat → Nat → Int32} (hr : 6 * r + 6 ≤ L) (hR : q_R n g) (hn : n ≤ 512) : ∃ g2, q_sem 400 mL_law 1229 [.ref q_M, .ref 0, .ref 98, .int (nI (6 * r))] [] (q_K (q_h0 L xs) g) = q_sem 400 mL_law 1737 [.ref q_M, .ref 0, .ref 98, .int (nI (6 * r))] [] (q_K (q_h0 L xs) g2) ∧ q_R (n + 1) g2 := by
  obtain ⟨v, g1, g2, e1, e2, h2⟩ := law_sending hR ⟨L, xs, rfl⟩ 369 ((xs (6 * r + 1))) ((xs (6 * r + 2)))
  refine ⟨g2, ?_, R_le h2 (Nat.le_succ n)⟩
  refine (q_blk (Y := mL_law) (q_dcC dL_law_1229 (q_dcC dL_law_1230 (q_dcC dL_law_1231 (q_dcC dL_law_1232 (q_dcC dL_law_1233 q_dcN))))) (show _ = some (1234, [.ref q_M, .ref 0, .ref 98, .int (nI (6 * r))], [.int ((nI (6 * r)) + 1), .ref q_M, .ref 0]) from rfl)).trans ?_
  refine (K_xs (m := 6 * r + 1) dL_law_1234 (nI_add (6 * r) 1) (by omega) hL).trans ?_
  refine (q_blk (Y := mL_law) (q_dcC dL_law_1235 (q_dcC dL_law_1236 (q_dcC dL_law_1237 (q_dcC dL_law_1238 q_dcN)))) (show _ = some (1239, [.ref q_M, .ref 0, .ref 98, .int (nI (6 * r))], [.int ((nI (6 * r)) + 2), .ref q_M, .int (xs (6 * r + 1)), .ref 0]) from rfl)).trans ?_
  refine (K_xs (m := 6 * r + 2) dL_law_1239 (nI_add (6 * r) 2) (by omega) hL).trans ?_
  refine (k_calV (d := 399) (Y := mL_law) (Z := mX11_sending) (vs := [.int (xs (6 * r + 1)), .int (xs (6 * r + 2))]) (rest := []) (la := [.ref 0, .int (xs (6 * r + 1)), .int (xs (6 * r + 2))]) dL_law_1240 rfl rfl rfl rfl ⟨by decide, rfl⟩ (Nat.le_of_ble_eq_true rfl) rfl (Nat.le_of_ble_eq_true rfl) e1).trans ?_
  refine Eq.trans (b := q_sem 400 mL_law 1243 [.ref q_M, .ref 0, .ref 98, .int (nI (6 * r))] [.int v] (q_K (q_h0 L xs) g1)) rfl ?_
  refine (q_blk (Y := mL_law) (q_dcC dL_law_1243 (q_dcC dL_law_1244 (q_dcC dL_law_1245 (q_dcC dL_law_1246 (q_dcC dL_law_1247 q_dcN))))) (show _ = some (1248, [.ref q_M, .ref 0, .ref 98, .int (nI (6 * r))], [.int ((nI (6 * r)) + 1), .ref q_M, .ref 98, .int v]) from rfl)).trans ?_
  refine (K_xs (m := 6 * r + 1) dL_law_1248 (nI_add (6 * r) 1) (by omega) hL).trans ?_
  refine (q_blk (Y := mL_law) (q_dcC dL_law_1249 (q_dcC dL_law_1250 (q_dcC dL_law_1251 (q_dcC dL_law_1252 q_dcN)))) (show _ = some (1253, [.ref q_M, .ref 0, .ref 98, .int (nI (6 * r))], [.int ((nI (6 * r)) + 2), .ref q_M, .int (xs (6 * r + 1)), .ref 98, .int v]) from rfl)).trans ?_
  refine (K_xs (m := 6 * r + 2) dL_law_1253 (nI_add (6 * r) 2) (by omega) hL).trans ?_
  refine (k_calV (d := 399) (Y := mL_law) (Z := mX12_sending) (vs := [.int (xs (6 * r + 1)), .int (xs (6 * r + 2))]) (rest := [.int v]) (la := [.ref 98, .int (xs (6 * r + 1)), .int (xs (6 * r + 2))]) dL_law_1254 rfl rfl rfl rfl ⟨by decide, rfl⟩ (Nat.le_of_ble_eq_true rfl) rfl (Nat.le_of_ble_eq_true rfl) e2).trans ?_
  refine Eq.trans (b := q_sem 400 mL_law 1257 [.ref q_M, .ref 0, .ref 98, .int (nI (6 * r))] [.int v, .int v] (q_K (q_h0 L xs) g2)) rfl ?_
  refine (q_blk (Y := mL_law) (q_dcC dL_law_1257 q_dcN) (show _ = some ((if q_cc .eq v v = true then 1737 else 1260), [.ref q_M, .ref 0, .ref 98, .int (nI (6 * r))], []) from rfl)).trans ?_
  rw [if_pos (show q_cc .eq v v = true from decide_eq_true rfl)]
theorem LC_pilots {L : Nat} {xs : Nat → Int32} (hL : L ≤ 3072) {r n : Nat} {g : Nat → Nat → Int32} (hr : 6 * r + 6 ≤ L) (hR : q_R n g) (hn : n ≤ 512) : ∃ g2, q_sem 400 mL_law 1262 [.ref q_M, .ref 0, .ref 98, .int (nI (6 * r))] [] (q_K (q_h0 L xs) g) = q_sem 400 mL_law 1737 [.ref q_M, .ref 0, .ref 98, .int (nI (6 * r))] [] (q_K (q_h0 L xs) g2) ∧ q_R (n + 1) g2 := by
  obtain ⟨v, g1, g2, e1, e2, h2⟩ := law_pilots hR ⟨L, xs, rfl⟩ 369 ((xs (6 * r + 1))) ((xs (6 * r + 2)))
  refine ⟨g2, ?_, R_le h2 (Nat.le_succ n)⟩
  refine (q_blk (Y := mL_law) (q_dcC dL_law_1262 (q_dcC dL_law_1263 (q_dcC dL_law_1264 (q_dcC dL_law_1265 (q_dcC dL_law_1266 q_dcN))))) (show _ = some (1267, [.ref q_M, .ref 0, .ref 98, .int (nI (6 * r))], [.int ((nI (6 * r)) + 1), .ref q_M, .ref 0]) from rfl)).trans ?_
  refine (K_xs (m := 6 * r + 1) dL_law_1267 (nI_add (6 * r) 1) (by omega) hL).trans ?_
  refine (q_blk (Y := mL_law) (q_dcC dL_law_1268 (q_dcC dL_law_1269 (q_dcC dL_law_1270 (q_dcC dL_law_1271 q_dcN)))) (show _ = some (1272, [.ref q_M, .ref 0, .ref 98, .int (nI (6 * r))], [.int ((nI (6 * r)) + 2), .ref q_M, .int (xs (6 * r + 1)), .ref 0]) from rfl)).trans ?_
  refine (K_xs (m := 6 * r + 2) dL_law_1272 (nI_add (6 * r) 2) (by omega) hL).trans ?_
  refine (k_calV (d := 399) (Y := mL_law) (Z := mX11_pilots) (vs := [.int (xs (6 * r + 1)), .int (xs (6 * r + 2))]) (rest := []) (la := [.ref 0, .int (xs (6 * r + 1)), .int (xs (6 * r + 2)), .retAddr 0]) dL_law_1273 rfl rfl rfl rfl ⟨by decide, rfl⟩ (Nat.le_of_ble_eq_true rfl) rfl (Nat.le_of_ble_eq_true rfl) e1).trans ?_
  refine Eq.trans (b := q_sem 400 mL_law 1276 [.ref q_M, .ref 0, .ref 98, .int (nI (6 * r))] [.int v] (q_K (q_h0 L xs) g1)) rfl ?_
  refine (q_blk (Y := mL_law) (q_dcC dL_law_1276 (q_dcC dL_law_1277 (q_dcC dL_law_1278 (q_dcC dL_law_1279 (q_dcC dL_law_1280 q_dcN))))) (show _ = some (1281, [.ref q_M, .ref 0, .ref 98, .int (nI (6 * r))], [.int ((nI (6 * r)) + 1), .ref q_M, .ref 98, .int v]) from rfl)).trans ?_
  refine (K_xs (m := 6 * r + 1) dL_law_1281 (nI_add (6 * r) 1) (by omega) hL).trans ?_
  refine (q_blk (Y := mL_law) (q_dcC dL_law_1282 (q_dcC dL_law_1283 (q_dcC dL_law_1284 (q_dcC dL_law_1285 q_dcN)))) (show _ = some (1286, [.ref q_M, .ref 0, .ref 98, .int (nI (6 * r))], [.int ((nI (6 * r)) + 2), .ref q_M, .int (xs (6 * r + 1)), .ref 98, .int v]) from rfl)).trans ?_
  refine (K_xs (m := 6 * r + 2) dL_law_1286 (nI_add (6 * r) 2) (by omega) hL).trans ?_
  refine (k_calV (d := 399) (Y := mL_law) (Z := mX12_pilots) (vs := [.int (xs (6 * r + 1)), .int (xs (6 * r + 2))]) (rest := [.int v]) (la := [.ref 98, .int (xs (6 * r + 1)), .int (xs (6 * r + 2)), .retAddr 0, .retAddr 0]) dL_law_1287 rfl rfl rfl rfl ⟨by decide, rfl⟩ (Nat.le_of_ble_eq_true rfl) rfl (Nat.le_of_ble_eq_true rfl) e2).trans ?_
  refine Eq.trans (b := q_sem 400 mL_law 1290 [.ref q_M, .ref 0, .ref 98, .int (nI (6 * r))] [.int v, .int v] (q_K (q_h0 L xs) g2)) rfl ?_
  refine (q_blk (Y := mL_law) (q_dcC dL_law_1290 q_dcN) (show _ = some ((if q_cc .eq v v = true then 1737 else 1293), [.ref q_M, .ref 0, .ref 98, .int (nI (6 * r))], []) from rfl)).trans ?_
  rw [if_pos (show q_cc .eq v v = true from decide_eq_true rfl)]
theorem LC_laying {L : Nat} {xs : Nat → Int32} (hL : L ≤ 3072) {r n : Nat} {g : Nat → Nat → Int32} (hr : 6 * r + 6 ≤ L) (hR : q_R n g) (hn : n ≤ 512) : ∃ g2, q_sem 400 mL_law 1295 [.ref q_M, .ref 0, .ref 98, .int (nI (6 * r))] [] (q_K (q_h0 L xs) g) = q_sem 400 mL_law 1737 [.ref q_M, .ref 0, .ref 98, .int (nI (6 * r))] [] (q_K (q_h0 L xs) g2) ∧ q_R (n + 1) g2 := by
  obtain ⟨v, g1, g2, e1, e2, h2⟩ := law_laying hR ⟨L, xs, rfl⟩ 369 ((xs (6 * r + 1))) ((xs (6 * r + 2))) ((xs (6 * r + 3))) ((xs (6 * r + 4)))
  refine ⟨g2, ?_, R_le h2 (Nat.le_succ n)⟩
  refine (q_blk (Y := mL_law) (q_dcC dL_law_1295 (q_dcC dL_law_1296 (q_dcC dL_law_1297 (q_dcC dL_law_1298 (q_dcC dL_law_1299 q_dcN))))) (show _ = some (1300, [.ref q_M, .ref 0, .ref 98, .int (nI (6 * r))], [.int ((nI (6 * r)) + 1), .ref q_M, .ref 0]) from rfl)).trans ?_
  refine (K_xs (m := 6 * r + 1) dL_law_1300 (nI_add (6 * r) 1) (by omega) hL).trans ?_
  refine (q_blk (Y := mL_law) (q_dcC dL_law_1301 (q_dcC dL_law_1302 (q_dcC dL_law_1303 (q_dcC dL_law_1304 q_dcN)))) (show _ = some (1305, [.ref q_M, .ref 0, .ref 98, .int (nI (6 * r))], [.int ((nI (6 * r)) + 2), .ref q_M, .int (xs (6 * r + 1)), .ref 0]) from rfl)).trans ?_
  refine (K_xs (m := 6 * r + 2) dL_law_1305 (nI_add (6 * r) 2) (by omega) hL).trans ?_
  refine (q_blk (Y := mL_law) (q_dcC dL_law_1306 (q_dcC dL_law_1307 (q_dcC dL_law_1308 (q_dcC dL_law_1309 q_dcN)))) (show _ = some (1310, [.ref q_M, .ref 0, .ref 98, .int (nI (6 * r))], [.int ((nI (6 * r)) + 3), .ref q_M, .int (xs (6 * r + 2)), .int (xs (6 * r + 1)), .ref 0]) from rfl)).trans ?_
  refine (K_xs (m := 6 * r + 3) dL_law_1310 (nI_add (6 * r) 3) (by omega) hL).trans ?_
  refine (q_blk (Y := mL_law) (q_dcC dL_law_1311 (q_dcC dL_law_1312 (q_dcC dL_law_1313 (q_dcC dL_law_1314 q_dcN)))) (show _ = some (1315, [.ref q_M, .ref 0, .ref 98, .int (nI (6 * r))], [.int ((nI (6 * r)) + 4), .ref q_M, .int (xs (6 * r + 3)), .int (xs (6 * r + 2)), .int (xs (6 * r + 1)), .ref 0]) from rfl)).trans ?_
  refine (K_xs (m := 6 * r + 4) dL_law_1315 (nI_add (6 * r) 4) (by omega) hL).trans ?_
  refine (k_calV (d := 399) (Y := mL_law) (Z := mX11_laying) (vs := [.int (xs (6 * r + 1)), .int (xs (6 * r + 2)), .int (xs (6 * r + 3)), .int (xs (6 * r + 4))]) (rest := []) (la := [.ref 0, .int (xs (6 * r + 1)), .int (xs (6 * r + 2)), .int (xs (6 * r + 3)), .int (xs (6 * r + 4))]) dL_law_1316 rfl rfl rfl rfl ⟨by decide, rfl⟩ (Nat.le_of_ble_eq_true rfl) rfl (Nat.le_of_ble_eq_true rfl) e1).trans ?_
  refine Eq.trans (b := q_sem 400 mL_law 1319 [.ref q_M, .ref 0, .ref 98, .int (nI (6 * r))] [.int v] (q_K (q_h0 L xs) g1)) rfl ?_
  refine (q_blk (Y := mL_law) (q_dcC dL_law_1319 (q_dcC dL_law_1320 (q_dcC dL_law_1321 (q_dcC dL_law_1322 (q_dcC dL_law_1323 q_dcN))))) (show _ = some (1324, [.ref q_M, .ref 0, .ref 98, .int (nI (6 * r))], [.int ((nI (6 * r)) + 1), .ref q_M, .ref 98, .int v]) from rfl)).trans ?_
  refine (K_xs (m := 6 * r + 1) dL_law_1324 (nI_add (6 * r) 1) (by omega) hL).trans ?_
  refine (q_blk (Y := mL_law) (q_dcC dL_law_1325 (q_dcC dL_law_1326 (q_dcC dL_law_1327 (q_dcC dL_law_1328 q_dcN)))) (show _ = some (1329, [.ref q_M, .ref 0, .ref 98, .int (nI (6 * r))], [.int ((nI (6 * r)) + 2), .ref q_M, .int (xs (6 * r + 1)), .ref 98, .int v]) from rfl)).trans ?_
  refine (K_xs (m := 6 * r + 2) dL_law_1329 (nI_add (6 * r) 2) (by omega) hL).trans ?_
  refine (q_blk (Y := mL_law) (q_dcC dL_law_1330 (q_dcC dL_law_1331 (q_dcC dL_law_1332 (q_dcC dL_law_1333 q_dcN)))) (show _ = some (1334, [.ref q_M, .ref 0, .ref 98, .int (nI (6 * r))], [.int ((nI (6 * r)) + 3), .ref q_M, .int (xs (6 * r + 2)), .int (xs (6 * r + 1)), .ref 98, .int v]) from rfl)).trans ?_
  refine (K_xs (m := 6 * r + 3) dL_law_1334 (nI_add (6 * r) 3) (by omega) hL).trans ?_
  refine (q_blk (Y := mL_law) (q_dcC dL_law_1335 (q_dcC dL_law_1336 (q_dcC dL_law_1337 (q_dcC dL_law_1338 q_dcN)))) (show _ = some (1339, [.ref q_M, .ref 0, .ref 98, .int (nI (6 * r))], [.int ((nI (6 * r)) + 4), .ref q_M, .int (xs (6 * r + 3)), .int (xs (6 * r + 2)), .int (xs (6 * r + 1)), .ref 98, .int v]) from rfl)).trans ?_
  refine (K_xs (m := 6 * r + 4) dL_law_1339 (nI_add (6 * r) 4) (by omega) hL).trans ?_
  refine (k_calV (d := 399) (Y := mL_law) (Z := mX12_laying) (vs := [.int (xs (6 * r + 1)), .int (xs (6 * r + 2)), .int (xs (6 * r + 3)), .int (xs (6 * r + 4))]) (rest := [.int v]) (la := [.ref 98, .int (xs (6 * r + 1)), .int (xs (6 * r + 2)), .int (xs (6 * r + 3)), .int (xs (6 * r + 4)), .retAddr 0, .retAddr 0, .retAddr 0, .retAddr 0, .retAddr 0, .retAddr 0]) dL_law_1340 rfl rfl rfl rfl ⟨by decide, rfl⟩ (Nat.le_of_ble_eq_true rfl) rfl (Nat.le_of_ble_eq_true rfl) e2).trans ?_
  refine Eq.trans (b := q_sem 400 mL_law 1343 [.ref q_M, .ref 0, .ref 98, .int (nI (6 * r))] [.int v, .int v] (q_K (q_h0 L xs) g2)) rfl ?_
  refine (q_blk (Y := mL_law) (q_dcC dL_law_1343 q_dcN) (show _ = some ((if q_cc .eq v v = true then 1737 else 1346), [.ref q_M, .ref 0, .ref 98, .int (nI (6 * r))], []) from rfl)).trans ?_
  rw [if_pos (show q_cc .eq v v = true from decide_eq_true rfl)]
theorem LC_minutes {L : Nat} {xs : Nat → Int32} (hL : L ≤ 3072) {r n : Nat} {g : Nat → Nat → Int32} (hr : 6 * r + 6 ≤ L) (hR : q_R n g) (hn : n ≤ 512) : ∃ g2, q_sem 400 mL_law 1348 [.ref q_M, .ref 0, .ref 98, .int (nI (6 * r))] [] (q_K (q_h0 L xs) g) = q_sem 400 mL_law 1737 [.ref q_M, .ref 0, .ref 98, .int (nI (6 * r))] [] (q_K (q_h0 L xs) g2) ∧ q_R (n + 1) g2 := by
  obtain ⟨v, g1, g2, e1, e2, h2⟩ := law_minutes hR ⟨L, xs, rfl⟩ 369 ((xs (6 * r + 1)))
  refine ⟨g2, ?_, R_le h2 (Nat.le_succ n)⟩
  refine (q_blk (Y := mL_law) (q_dcC dL_law_1348 (q_dcC dL_law_1349 (q_dcC dL_law_1350 (q_dcC dL_law_1351 (q_dcC dL_law_1352 q_dcN))))) (show _ = some (1353, [.ref q_M, .ref 0, .ref 98, .int (nI (6 * r))], [.int ((nI (6 * r)) + 1), .ref q_M, .ref 0]) from rfl)).trans ?_
  refine (K_xs (m := 6 * r + 1) dL_law_1353 (nI_add (6 * r) 1) (by omega) hL).trans ?_
  refine (k_calV (d := 399) (Y := mL_law) (Z := mX11_minutes) (vs := [.int (xs (6 * r + 1))]) (rest := []) (la := [.ref 0, .int (xs (6 * r + 1)), .retAddr 0]) dL_law_1354 rfl rfl rfl rfl ⟨by decide, rfl⟩ (Nat.le_of_ble_eq_true rfl) rfl (Nat.le_of_ble_eq_true rfl) e1).trans ?_
  refine Eq.trans (b := q_sem 400 mL_law 1357 [.ref q_M, .ref 0, .ref 98, .int (nI (6 * r))] [.int v] (q_K (q_h0 L xs) g1)) rfl ?_
  refine (q_blk (Y := mL_law) (q_dcC dL_law_1357 (q_dcC dL_law_1358 (q_dcC dL_law_1359 (q_dcC dL_law_1360 (q_dcC dL_law_1361 q_dcN))))) (show _ = some (1362, [.ref q_M, .ref 0, .ref 98, .int (nI (6 * r))], [.int ((nI (6 * r)) + 1), .ref q_M, .ref 98, .int v]) from rfl)).trans ?_
  refine (K_xs (m := 6 * r + 1) dL_law_1362 (nI_add (6 * r) 1) (by omega) hL).trans ?_
  refine (k_calV (d := 399) (Y := mL_law) (Z := mX12_minutes) (vs := [.int (xs (6 * r + 1))]) (rest := [.int v]) (la := [.ref 98, .int (xs (6 * r + 1)), .retAddr 0]) dL_law_1363 rfl rfl rfl rfl ⟨by decide, rfl⟩ (Nat.le_of_ble_eq_true rfl) rfl (Nat.le_of_ble_eq_true rfl) e2).trans ?_
  refine Eq.trans (b := q_sem 400 mL_law 1366 [.ref q_M, .ref 0, .ref 98, .int (nI (6 * r))] [.int v, .int v] (q_K (q_h0 L xs) g2)) rfl ?_
  refine (q_blk (Y := mL_law) (q_dcC dL_law_1366 q_dcN) (show _ = some ((if q_cc .eq v v = true then 1737 else 1369), [.ref q_M, .ref 0, .ref 98, .int (nI (6 * r))], []) from rfl)).trans ?_
  rw [if_pos (show q_cc .eq v v = true from decide_eq_true rfl)]
theorem LC_ahead {L : Nat} {xs : Nat → Int32} (hL : L ≤ 3072) {r n : Nat} {g : Nat → Nat → Int32} (hr : 6 * r + 6 ≤ L) (hR : q_R n g) (hn : n ≤ 512) : ∃ g2, q_sem 400 mL_law 1371 [.ref q_M, .ref 0, .ref 98, .int (nI (6 * r))] [] (q_K (q_h0 L xs) g) = q_sem 400 mL_law 1737 [.ref q_M, .ref 0, .ref 98, .int (nI (6 * r))] [] (q_K (q_h0 L xs) g2) ∧ q_R (n + 1) g2 := by
  obtain ⟨v, g1, g2, e1, e2, h2⟩ := law_ahead hR ⟨L, xs, rfl⟩ 369 ((xs (6 * r + 1))) ((xs (6 * r + 2))) ((xs (6 * r + 3)))
  refine ⟨g2, ?_, R_le h2 (Nat.le_succ n)⟩
  refine (q_blk (Y := mL_law) (q_dcC dL_law_1371 (q_dcC dL_law_1372 (q_dcC dL_law_1373 (q_dcC dL_law_1374 (q_dcC dL_law_1375 q_dcN))))) (show _ = some (1376, [.ref q_M, .ref 0, .ref 98, .int (nI (6 * r))], [.int ((nI (6 * r)) + 1), .ref q_M, .ref 0]) from rfl)).trans ?_
  refine (K_xs (m := 6 * r + 1) dL_law_1376 (nI_add (6 * r) 1) (by omega) hL).trans ?_
  refine (q_blk (Y := mL_law) (q_dcC dL_law_1377 (q_dcC dL_law_1378 (q_dcC dL_law_1379 (q_dcC dL_law_1380 q_dcN)))) (show _ = some (1381, [.ref q_M, .ref 0, .ref 98, .int (nI (6 * r))], [.int ((nI (6 * r)) + 2), .ref q_M, .int (xs (6 * r + 1)), .ref 0]) from rfl)).trans ?_
  refine (K_xs (m := 6 * r + 2) dL_law_1381 (nI_add (6 * r) 2) (by omega) hL).trans ?_
  refine (q_blk (Y := mL_law) (q_dcC dL_law_1382 (q_dcC dL_law_1383 (q_dcC dL_law_1384 (q_dcC dL_law_1385 q_dcN)))) (show _ = some (1386, [.ref q_M, .ref 0, .ref 98, .int (nI (6 * r))], [.int ((nI (6 * r)) + 3), .ref q_M, .int (xs (6 * r + 2)), .int (xs (6 * r + 1)), .ref 0]) from rfl)).trans ?_
  refine (K_xs (m := 6 * r + 3) dL_law_1386 (nI_add (6 * r) 3) (by omega) hL).trans ?_
  refine (k_calV (d := 399) (Y := mL_law) (Z := mX11_ahead) (vs := [.int (xs (6 * r + 1)), .int (xs (6 * r + 2)), .int (xs (6 * r + 3))]) (rest := []) (la := [.ref 0, .int (xs (6 * r + 1)), .int (xs (6 * r + 2)), .int (xs (6 * r + 3)), .retAddr 0]) dL_law_1387 rfl rfl rfl rfl ⟨by decide, rfl⟩ (Nat.le_of_ble_eq_true rfl) rfl (Nat.le_of_ble_eq_true rfl) e1).trans ?_
  refine Eq.trans (b := q_sem 400 mL_law 1390 [.ref q_M, .ref 0, .ref 98, .int (nI (6 * r))] [.int v] (q_K (q_h0 L xs) g1)) rfl ?_
  refine (q_blk (Y := mL_law) (q_dcC dL_law_1390 (q_dcC dL_law_1391 (q_dcC dL_law_1392 (q_dcC dL_law_1393 (q_dcC dL_law_1394 q_dcN))))) (show _ = some (1395, [.ref q_M, .ref 0, .ref 98, .int (nI (6 * r))], [.int ((nI (6 * r)) + 1), .ref q_M, .ref 98, .int v]) from rfl)).trans ?_
  refine (K_xs (m := 6 * r + 1) dL_law_1395 (nI_add (6 * r) 1) (by omega) hL).trans ?_
  refine (q_blk (Y := mL_law) (q_dcC dL_law_1396 (q_dcC dL_law_1397 (q_dcC dL_law_1398 (q_dcC dL_law_1399 q_dcN)))) (show _ = some (1400, [.ref q_M, .ref 0, .ref 98, .int (nI (6 * r))], [.int ((nI (6 * r)) + 2), .ref q_M, .int (xs (6 * r + 1)), .ref 98, .int v]) from rfl)).trans ?_
  refine (K_xs (m := 6 * r + 2) dL_law_1400 (nI_add (6 * r) 2) (by omega) hL).trans ?_
  refine (q_blk (Y := mL_law) (q_dcC dL_law_1401 (q_dcC dL_law_1402 (q_dcC dL_law_1403 (q_dcC dL_law_1404 q_dcN)))) (show _ = some (1405, [.ref q_M, .ref 0, .ref 98, .int (nI (6 * r))], [.int ((nI (6 * r)) + 3), .ref q_M, .int (xs (6 * r + 2)), .int (xs (6 * r + 1)), .ref 98, .int v]) from rfl)).trans ?_
  refine (K_xs (m := 6 * r + 3) dL_law_1405 (nI_add (6 * r) 3) (by omega) hL).trans ?_
  refine (k_calV (d := 399) (Y := mL_law) (Z := mX12_ahead) (vs := [.int (xs (6 * r + 1)), .int (xs (6 * r + 2)), .int (xs (6 * r + 3))]) (rest := [.int v]) (la := [.ref 98, .int (xs (6 * r + 1)), .int (xs (6 * r + 2)), .int (xs (6 * r + 3)), .retAddr 0]) dL_law_1406 rfl rfl rfl rfl ⟨by decide, rfl⟩ (Nat.le_of_ble_eq_true rfl) rfl (Nat.le_of_ble_eq_true rfl) e2).trans ?_
  refine Eq.trans (b := q_sem 400 mL_law 1409 [.ref q_M, .ref 0, .ref 98, .int (nI (6 * r))] [.int v, .int v] (q_K (q_h0 L xs) g2)) rfl ?_
  refine (q_blk (Y := mL_law) (q_dcC dL_law_1409 q_dcN) (show _ = some ((if q_cc .eq v v = true then 1737 else 1412), [.ref q_M, .ref 0, .ref 98, .int (nI (6 * r))], []) from rfl)).trans ?_
  rw [if_pos (show q_cc .eq v v = true from decide_eq_true rfl)]
theorem LC_voice {L : Nat} {xs : Nat → Int32} (hL : L ≤ 3072) {r n : Nat} {g : Nat → Nat → Int32} (hr : 6 * r + 6 ≤ L) (hR : q_R n g) (hn : n ≤ 512) : ∃ g2, q_sem 400 mL_law 1414 [.ref q_M, .ref 0, .ref 98, .int (nI (6 * r))] [] (q_K (q_h0 L xs) g) = q_sem 400 mL_law 1737 [.ref q_M, .ref 0, .ref 98, .int (nI (6 * r))] [] (q_K (q_h0 L xs) g2) ∧ q_R (n + 1) g2 := by
  obtain ⟨v, g1, g2, e1, e2, h2⟩ := law_voice hR ⟨L, xs, rfl⟩ 369 ((xs (6 * r + 1))) ((xs (6 * r + 2))) ((xs (6 * r + 3)))
  refine ⟨g2, ?_, R_le h2 (Nat.le_succ n)⟩
  refine (q_blk (Y := mL_law) (q_dcC dL_law_1414 (q_dcC dL_law_1415 (q_dcC dL_law_1416 (q_dcC dL_law_1417 (q_dcC dL_law_1418 q_dcN))))) (show _ = some (1419, [.ref q_M, .ref 0, .ref 98, .int (nI (6 * r))], [.int ((nI (6 * r)) + 1), .ref q_M, .ref 0]) from rfl)).trans ?_
  refine (K_xs (m := 6 * r + 1) dL_law_1419 (nI_add (6 * r) 1) (by omega) hL).trans ?_
  refine (q_blk (Y := mL_law) (q_dcC dL_law_1420 (q_dcC dL_law_1421 (q_dcC dL_law_1422 (q_dcC dL_law_1423 q_dcN)))) (show _ = some (1424, [.ref q_M, .ref 0, .ref 98, .int (nI (6 * r))], [.int ((nI (6 * r)) + 2), .ref q_M, .int (xs (6 * r + 1)), .ref 0]) from rfl)).trans ?_
  refine (K_xs (m := 6 * r + 2) dL_law_1424 (nI_add (6 * r) 2) (by omega) hL).trans ?_
  refine (q_blk (Y := mL_law) (q_dcC dL_law_1425 (q_dcC dL_law_1426 (q_dcC dL_law_1427 (q_dcC dL_law_1428 q_dcN)))) (show _ = some (1429, [.ref q_M, .ref 0, .ref 98, .int (nI (6 * r))], [.int ((nI (6 * r)) + 3), .ref q_M, .int (xs (6 * r + 2)), .int (xs (6 * r + 1)), .ref 0]) from rfl)).trans ?_
  refine (K_xs (m := 6 * r + 3) dL_law_1429 (nI_add (6 * r) 3) (by omega) hL).trans ?_
  refine (k_calV (d := 399) (Y := mL_law) (Z := mX11_voice) (vs := [.int (xs (6 * r + 1)), .int (xs (6 * r + 2)), .int (xs (6 * r + 3))]) (rest := []) (la := [.ref 0, .int (xs (6 * r + 1)), .int (xs (6 * r + 2)), .int (xs (6 * r + 3))]) dL_law_1430 rfl rfl rfl rfl ⟨by decide, rfl⟩ (Nat.le_of_ble_eq_true rfl) rfl (Nat.le_of_ble_eq_true rfl) e1).trans ?_
  refine Eq.trans (b := q_sem 400 mL_law 1433 [.ref q_M, .ref 0, .ref 98, .int (nI (6 * r))] [.int v] (q_K (q_h0 L xs) g1)) rfl ?_
  refine (q_blk (Y := mL_law) (q_dcC dL_law_1433 (q_dcC dL_law_1434 (q_dcC dL_law_1435 (q_dcC dL_law_1436 (q_dcC dL_law_1437 q_dcN))))) (show _ = some (1438, [.ref q_M, .ref 0, .ref 98, .int (nI (6 * r))], [.int ((nI (6 * r)) + 1), .ref q_M, .ref 98, .int v]) from rfl)).trans ?_
  refine (K_xs (m := 6 * r + 1) dL_law_1438 (nI_add (6 * r) 1) (by omega) hL).trans ?_
  refine (q_blk (Y := mL_law) (q_dcC dL_law_1439 (q_dcC dL_law_1440 (q_dcC dL_law_1441 (q_dcC dL_law_1442 q_dcN)))) (show _ = some (1443, [.ref q_M, .ref 0, .ref 98, .int (nI (6 * r))], [.int ((nI (6 * r)) + 2), .ref q_M, .int (xs (6 * r + 1)), .ref 98, .int v]) from rfl)).trans ?_
  refine (K_xs (m := 6 * r + 2) dL_law_1443 (nI_add (6 * r) 2) (by omega) hL).trans ?_
  refine (q_blk (Y := mL_law) (q_dcC dL_law_1444 (q_dcC dL_law_1445 (q_dcC dL_law_1446 (q_dcC dL_law_1447 q_dcN)))) (show _ = some (1448, [.ref q_M, .ref 0, .ref 98, .int (nI (6 * r))], [.int ((nI (6 * r)) + 3), .ref q_M, .int (xs (6 * r + 2)), .int (xs (6 * r + 1)), .ref 98, .int v]) from rfl)).trans ?_
  refine (K_xs (m := 6 * r + 3) dL_law_1448 (nI_add (6 * r) 3) (by omega) hL).trans ?_
  refine (k_calV (d := 399) (Y := mL_law) (Z := mX12_voice) (vs := [.int (xs (6 * r + 1)), .int (xs (6 * r + 2)), .int (xs (6 * r + 3))]) (rest := [.int v]) (la := [.ref 98, .int (xs (6 * r + 1)), .int (xs (6 * r + 2)), .int (xs (6 * r + 3))]) dL_law_1449 rfl rfl rfl rfl ⟨by decide, rfl⟩ (Nat.le_of_ble_eq_true rfl) rfl (Nat.le_of_ble_eq_true rfl) e2).trans ?_
  refine Eq.trans (b := q_sem 400 mL_law 1452 [.ref q_M, .ref 0, .ref 98, .int (nI (6 * r))] [.int v, .int v] (q_K (q_h0 L xs) g2)) rfl ?_
  refine (q_blk (Y := mL_law) (q_dcC dL_law_1452 q_dcN) (show _ = some ((if q_cc .eq v v = true then 1737 else 1455), [.ref q_M, .ref 0, .ref 98, .int (nI (6 * r))], []) from rfl)).trans ?_
  rw [if_pos (show q_cc .eq v v = true from decide_eq_true rfl)]
theorem LC_trace {L : Nat} {xs : Nat → Int32} (hL : L ≤ 3072) {r n : Nat} {g : Nat → Nat → Int32} (hr : 6 * r + 6 ≤ L) (hR : q_R n g) (hn : n ≤ 512) : ∃ g2, q_sem 400 mL_law 1457 [.ref q_M, .ref 0, .ref 98, .int (nI (6 * r))] [] (q_K (q_h0 L xs) g) = q_sem 400 mL_law 1737 [.ref q_M, .ref 0, .ref 98, .int (nI (6 * r))] [] (q_K (q_h0 L xs) g2) ∧ q_R (n + 1) g2 := by
  obtain ⟨v, g1, g2, e1, e2, h2⟩ := law_trace hR ⟨L, xs, rfl⟩ 369 ((xs (6 * r + 1)))
  refine ⟨g2, ?_, R_le h2 (Nat.le_succ n)⟩
  refine (q_blk (Y := mL_law) (q_dcC dL_law_1457 (q_dcC dL_law_1458 (q_dcC dL_law_1459 (q_dcC dL_law_1460 (q_dcC dL_law_1461 q_dcN))))) (show _ = some (1462, [.ref q_M, .ref 0, .ref 98, .int (nI (6 * r))], [.int ((nI (6 * r)) + 1), .ref q_M, .ref 0]) from rfl)).trans ?_
  refine (K_xs (m := 6 * r + 1) dL_law_1462 (nI_add (6 * r) 1) (by omega) hL).trans ?_
  refine (k_calV (d := 399) (Y := mL_law) (Z := mX11_trace) (vs := [.int (xs (6 * r + 1))]) (rest := []) (la := [.ref 0, .int (xs (6 * r + 1))]) dL_law_1463 rfl rfl rfl rfl ⟨by decide, rfl⟩ (Nat.le_of_ble_eq_true rfl) rfl (Nat.le_of_ble_eq_true rfl) e1).trans ?_
  refine Eq.trans (b := q_sem 400 mL_law 1466 [.ref q_M, .ref 0, .ref 98, .int (nI (6 * r))] [.int v] (q_K (q_h0 L xs) g1)) rfl ?_
  refine (q_blk (Y := mL_law) (q_dcC dL_law_1466 (q_dcC dL_law_1467 (q_dcC dL_law_1468 (q_dcC dL_law_1469 (q_dcC dL_law_1470 q_dcN))))) (show _ = some (1471, [.ref q_M, .ref 0, .ref 98, .int (nI (6 * r))], [.int ((nI (6 * r)) + 1), .ref q_M, .ref 98, .int v]) from rfl)).trans ?_
  refine (K_xs (m := 6 * r + 1) dL_law_1471 (nI_add (6 * r) 1) (by omega) hL).trans ?_
  refine (k_calV (d := 399) (Y := mL_law) (Z := mX12_trace) (vs := [.int (xs (6 * r + 1))]) (rest := [.int v]) (la := [.ref 98, .int (xs (6 * r + 1))]) dL_law_1472 rfl rfl rfl rfl ⟨by decide, rfl⟩ (Nat.le_of_ble_eq_true rfl) rfl (Nat.le_of_ble_eq_true rfl) e2).trans ?_
  refine Eq.trans (b := q_sem 400 mL_law 1475 [.ref q_M, .ref 0, .ref 98, .int (nI (6 * r))] [.int v, .int v] (q_K (q_h0 L xs) g2)) rfl ?_
  refine (q_blk (Y := mL_law) (q_dcC dL_law_1475 q_dcN) (show _ = some ((if q_cc .eq v v = true then 1737 else 1478), [.ref q_M, .ref 0, .ref 98, .int (nI (6 * r))], []) from rfl)).trans ?_
  rw [if_pos (show q_cc .eq v v = true from decide_eq_true rfl)]
theorem LC_sheet {L : Nat} {xs : Nat → Int32} (hL : L ≤ 3072) {r n : Nat} {g : Nat → Nat → Int32} (hr : 6 * r + 6 ≤ L) (hR : q_R n g) (hn : n ≤ 512) : ∃ g2, q_sem 400 mL_law 1480 [.ref q_M, .ref 0, .ref 98, .int (nI (6 * r))] [] (q_K (q_h0 L xs) g) = q_sem 400 mL_law 1737 [.ref q_M, .ref 0, .ref 98, .int (nI (6 * r))] [] (q_K (q_h0 L xs) g2) ∧ q_R (n + 1) g2 := by
  obtain ⟨v, g1, g2, e1, e2, h2⟩ := law_sheet hR ⟨L, xs, rfl⟩ 369 ((xs (6 * r + 1))) ((xs (6 * r + 2))) ((xs (6 * r + 3)))
  refine ⟨g2, ?_, R_le h2 (Nat.le_succ n)⟩
  refine (q_blk (Y := mL_law) (q_dcC dL_law_1480 (q_dcC dL_law_1481 (q_dcC dL_law_1482 (q_dcC dL_law_1483 (q_dcC dL_law_1484 q_dcN))))) (show _ = some (1485, [.ref q_M, .ref 0, .ref 98, .int (nI (6 * r))], [.int ((nI (6 * r)) + 1), .ref q_M, .ref 0]) from rfl)).trans ?_
  refine (K_xs (m := 6 * r + 1) dL_law_1485 (nI_add (6 * r) 1) (by omega) hL).trans ?_
  refine (q_blk (Y := mL_law) (q_dcC dL_law_1486 (q_dcC dL_law_1487 (q_dcC dL_law_1488 (q_dcC dL_law_1489 q_dcN)))) (show _ = some (1490, [.ref q_M, .ref 0, .ref 98, .int (nI (6 * r))], [.int ((nI (6 * r)) + 2), .ref q_M, .int (xs (6 * r + 1)), .ref 0]) from rfl)).trans ?_
  refine (K_xs (m := 6 * r + 2) dL_law_1490 (nI_add (6 * r) 2) (by omega) hL).trans ?_
  refine (q_blk (Y := mL_law) (q_dcC dL_law_1491 (q_dcC dL_law_1492 (q_dcC dL_law_1493 (q_dcC dL_law_1494 q_dcN)))) (show _ = some (1495, [.ref q_M, .ref 0, .ref 98, .int (nI (6 * r))], [.int ((nI (6 * r)) + 3), .ref q_M, .int (xs (6 * r + 2)), .int (xs (6 * r + 1)), .ref 0]) from rfl)).trans ?_
  refine (K_xs (m := 6 * r + 3) dL_law_1495 (nI_add (6 * r) 3) (by omega) hL).trans ?_
  refine (k_calV (d := 399) (Y := mL_law) (Z := mX11_sheet) (vs := [.int (xs (6 * r + 1)), .int (xs (6 * r + 2)), .int (xs (6 * r + 3))]) (rest := []) (la := [.ref 0, .int (xs (6 * r + 1)), .int (xs (6 * r + 2)), .int (xs (6 * r + 3))]) dL_law_1496 rfl rfl rfl rfl ⟨by decide, rfl⟩ (Nat.le_of_ble_eq_true rfl) rfl (Nat.le_of_ble_eq_true rfl) e1).trans ?_
  refine Eq.trans (b := q_sem 400 mL_law 1499 [.ref q_M, .ref 0, .ref 98, .int (nI (6 * r))] [.int v] (q_K (q_h0 L xs) g1)) rfl ?_
  refine (q_blk (Y := mL_law) (q_dcC dL_law_1499 (q_dcC dL_law_1500 (q_dcC dL_law_1501 (q_dcC dL_law_1502 (q_dcC dL_law_1503 q_dcN))))) (show _ = some (1504, [.ref q_M, .ref 0, .ref 98, .int (nI (6 * r))], [.int ((nI (6 * r)) + 1), .ref q_M, .ref 98, .int v]) from rfl)).trans ?_
  refine (K_xs (m := 6 * r + 1) dL_law_1504 (nI_add (6 * r) 1) (by omega) hL).trans ?_
  refine (q_blk (Y := mL_law) (q_dcC dL_law_1505 (q_dcC dL_law_1506 (q_dcC dL_law_1507 (q_dcC dL_law_1508 q_dcN)))) (show _ = some (1509, [.ref q_M, .ref 0, .ref 98, .int (nI (6 * r))], [.int ((nI (6 * r)) + 2), .ref q_M, .int (xs (6 * r + 1)), .ref 98, .int v]) from rfl)).trans ?_
  refine (K_xs (m := 6 * r + 2) dL_law_1509 (nI_add (6 * r) 2) (by omega) hL).trans ?_
  refine (q_blk (Y := mL_law) (q_dcC dL_law_1510 (q_dcC dL_law_1511 (q_dcC dL_law_1512 (q_dcC dL_law_1513 q_dcN)))) (show _ = some (1514, [.ref q_M, .ref 0, .ref 98, .int (nI (6 * r))], [.int ((nI (6 * r)) + 3), .ref q_M, .int (xs (6 * r + 2)), .int (xs (6 * r + 1)), .ref 98, .int v]) from rfl)).trans ?_
  refine (K_xs (m := 6 * r + 3) dL_law_1514 (nI_add (6 * r) 3) (by omega) hL).trans ?_
  refine (k_calV (d := 399) (Y := mL_law) (Z := mX12_sheet) (vs := [.int (xs (6 * r + 1)), .int (xs (6 * r + 2)), .int (xs (6 * r + 3))]) (rest := [.int v]) (la := [.ref 98, .int (xs (6 * r + 1)), .int (xs (6 * r + 2)), .int (xs (6 * r + 3)), .retAddr 0]) dL_law_1515 rfl rfl rfl rfl ⟨by decide, rfl⟩ (Nat.le_of_ble_eq_true rfl) rfl (Nat.le_of_ble_eq_true rfl) e2).trans ?_
  refine Eq.trans (b := q_sem 400 mL_law 1518 [.ref q_M, .ref 0, .ref 98, .int (nI (6 * r))] [.int v, .int v] (q_K (q_h0 L xs) g2)) rfl ?_
  refine (q_blk (Y := mL_law) (q_dcC dL_law_1518 q_dcN) (show _ = some ((if q_cc .eq v v = true then 1737 else 1521), [.ref q_M, .ref 0, .ref 98, .int (nI (6 * r))], []) from rfl)).trans ?_
  rw [if_pos (show q_cc .eq v v = true from decide_eq_true rfl)]
theorem LC_put {L : Nat} {xs : Nat → Int32} (hL : L ≤ 3072) {r n : Nat} {g : Nat → Nat → Int32} (hr : 6 * r + 6 ≤ L) (hR : q_R n g) (hn : n ≤ 512) : ∃ g2, q_sem 400 mL_law 1523 [.ref q_M, .ref 0, .ref 98, .int (nI (6 * r))] [] (q_K (q_h0 L xs) g) = q_sem 400 mL_law 1737 [.ref q_M, .ref 0, .ref 98, .int (nI (6 * r))] [] (q_K (q_h0 L xs) g2) ∧ q_R (n + 1) g2 := by
  obtain ⟨v, g1, g2, e1, e2, h2⟩ := law_put hR ⟨L, xs, rfl⟩ 369 ((xs (6 * r + 1))) ((xs (6 * r + 2))) ((xs (6 * r + 3)))
  refine ⟨g2, ?_, R_le h2 (Nat.le_succ n)⟩
  refine (q_blk (Y := mL_law) (q_dcC dL_law_1523 (q_dcC dL_law_1524 (q_dcC dL_law_1525 (q_dcC dL_law_1526 (q_dcC dL_law_1527 q_dcN))))) (show _ = some (1528, [.ref q_M, .ref 0, .ref 98, .int (nI (6 * r))], [.int ((nI (6 * r)) + 1), .ref q_M, .ref 0]) from rfl)).trans ?_
  refine (K_xs (m := 6 * r + 1) dL_law_1528 (nI_add (6 * r) 1) (by omega) hL).trans ?_
  refine (q_blk (Y := mL_law) (q_dcC dL_law_1529 (q_dcC dL_law_1530 (q_dcC dL_law_1531 (q_dcC dL_law_1532 q_dcN)))) (show _ = some (1533, [.ref q_M, .ref 0, .ref 98, .int (nI (6 * r))], [.int ((nI (6 * r)) + 2), .ref q_M, .int (xs (6 * r + 1)), .ref 0]) from rfl)).trans ?_
  refine (K_xs (m := 6 * r + 2) dL_law_1533 (nI_add (6 * r) 2) (by omega) hL).trans ?_
  refine (q_blk (Y := mL_law) (q_dcC dL_law_1534 (q_dcC dL_law_1535 (q_dcC dL_law_1536 (q_dcC dL_law_1537 q_dcN)))) (show _ = some (1538, [.ref q_M, .ref 0, .ref 98, .int (nI (6 * r))], [.int ((nI (6 * r)) + 3), .ref q_M, .int (xs (6 * r + 2)), .int (xs (6 * r + 1)), .ref 0]) from rfl)).trans ?_
  refine (K_xs (m := 6 * r + 3) dL_law_1538 (nI_add (6 * r) 3) (by omega) hL).trans ?_
  refine (k_calV (d := 399) (Y := mL_law) (Z := mX11_put) (vs := [.int (xs (6 * r + 1)), .int (xs (6 * r + 2)), .int (xs (6 * r + 3))]) (rest := []) (la := [.ref 0, .int (xs (6 * r + 1)), .int (xs (6 * r + 2)), .int (xs (6 * r + 3)), .retAddr 0]) dL_law_1539 rfl rfl rfl rfl ⟨by decide, rfl⟩ (Nat.le_of_ble_eq_true rfl) rfl (Nat.le_of_ble_eq_true rfl) e1).trans ?_
  refine Eq.trans (b := q_sem 400 mL_law 1542 [.ref q_M, .ref 0, .ref 98, .int (nI (6 * r))] [.int v] (q_K (q_h0 L xs) g1)) rfl ?_
  refine (q_blk (Y := mL_law) (q_dcC dL_law_1542 (q_dcC dL_law_1543 (q_dcC dL_law_1544 (q_dcC dL_law_1545 (q_dcC dL_law_1546 q_dcN))))) (show _ = some (1547, [.ref q_M, .ref 0, .ref 98, .int (nI (6 * r))], [.int ((nI (6 * r)) + 1), .ref q_M, .ref 98, .int v]) from rfl)).trans ?_
  refine (K_xs (m := 6 * r + 1) dL_law_1547 (nI_add (6 * r) 1) (by omega) hL).trans ?_
  refine (q_blk (Y := mL_law) (q_dcC dL_law_1548 (q_dcC dL_law_1549 (q_dcC dL_law_1550 (q_dcC dL_law_1551 q_dcN)))) (show _ = some (1552, [.ref q_M, .ref 0, .ref 98, .int (nI (6 * r))], [.int ((nI (6 * r)) + 2), .ref q_M, .int (xs (6 * r + 1)), .ref 98, .int v]) from rfl)).trans ?_
  refine (K_xs (m := 6 * r + 2) dL_law_1552 (nI_add (6 * r) 2) (by omega) hL).trans ?_
  refine (q_blk (Y := mL_law) (q_dcC dL_law_1553 (q_dcC dL_law_1554 (q_dcC dL_law_1555 (q_dcC dL_law_1556 q_dcN)))) (show _ = some (1557, [.ref q_M, .ref 0, .ref 98, .int (nI (6 * r))], [.int ((nI (6 * r)) + 3), .ref q_M, .int (xs (6 * r + 2)), .int (xs (6 * r + 1)), .ref 98, .int v]) from rfl)).trans ?_
  refine (K_xs (m := 6 * r + 3) dL_law_1557 (nI_add (6 * r) 3) (by omega) hL).trans ?_
  refine (k_calV (d := 399) (Y := mL_law) (Z := mX12_put) (vs := [.int (xs (6 * r + 1)), .int (xs (6 * r + 2)), .int (xs (6 * r + 3))]) (rest := [.int v]) (la := [.ref 98, .int (xs (6 * r + 1)), .int (xs (6 * r + 2)), .int (xs (6 * r + 3))]) dL_law_1558 rfl rfl rfl rfl ⟨by decide, rfl⟩ (Nat.le_of_ble_eq_true rfl) rfl (Nat.le_of_ble_eq_true rfl) e2).trans ?_
  refine Eq.trans (b := q_sem 400 mL_law 1561 [.ref q_M, .ref 0, .ref 98, .int (nI (6 * r))] [.int v, .int v] (q_K (q_h0 L xs) g2)) rfl ?_
  refine (q_blk (Y := mL_law) (q_dcC dL_law_1561 q_dcN) (show _ = some ((if q_cc .eq v v = true then 1737 else 1564), [.ref q_M, .ref 0, .ref 98, .int (nI (6 * r))], []) from rfl)).trans ?_
  rw [if_pos (show q_cc .eq v v = true from decide_eq_true rfl)]
theorem LC_move {L : Nat} {xs : Nat → Int32} (hL : L ≤ 3072) {r n : Nat} {g : Nat → Nat → Int32} (hr : 6 * r + 6 ≤ L) (hR : q_R n g) (hn : n ≤ 512) : ∃ g2, q_sem 400 mL_law 1566 [.ref q_M, .ref 0, .ref 98, .int (nI (6 * r))] [] (q_K (q_h0 L xs) g) = q_sem 400 mL_law 1737 [.ref q_M, .ref 0, .ref 98, .int (nI (6 * r))] [] (q_K (q_h0 L xs) g2) ∧ q_R (n + 1) g2 := by
  obtain ⟨v, g1, g2, e1, e2, h2⟩ := law_move hR ⟨L, xs, rfl⟩ 369 ((xs (6 * r + 1))) ((xs (6 * r + 2))) ((xs (6 * r + 3))) ((xs (6 * r + 4))) ((xs (6 * r + 5)))
  refine ⟨g2, ?_, R_le h2 (Nat.le_succ n)⟩
  refine (q_blk (Y := mL_law) (q_dcC dL_law_1566 (q_dcC dL_law_1567 (q_dcC dL_law_1568 (q_dcC dL_law_1569 (q_dcC dL_law_1570 q_dcN))))) (show _ = some (1571, [.ref q_M, .ref 0, .ref 98, .int (nI (6 * r))], [.int ((nI (6 * r)) + 1), .ref q_M, .ref 0]) from rfl)).trans ?_
  refine (K_xs (m := 6 * r + 1) dL_law_1571 (nI_add (6 * r) 1) (by omega) hL).trans ?_
  refine (q_blk (Y := mL_law) (q_dcC dL_law_1572 (q_dcC dL_law_1573 (q_dcC dL_law_1574 (q_dcC dL_law_1575 q_dcN)))) (show _ = some (1576, [.ref q_M, .ref 0, .ref 98, .int (nI (6 * r))], [.int ((nI (6 * r)) + 2), .ref q_M, .int (xs (6 * r + 1)), .ref 0]) from rfl)).trans ?_
  refine (K_xs (m := 6 * r + 2) dL_law_1576 (nI_add (6 * r) 2) (by omega) hL).trans ?_
  refine (q_blk (Y := mL_law) (q_dcC dL_law_1577 (q_dcC dL_law_1578 (q_dcC dL_law_1579 (q_dcC dL_law_1580 q_dcN)))) (show _ = some (1581, [.ref q_M, .ref 0, .ref 98, .int (nI (6 * r))], [.int ((nI (6 * r)) + 3), .ref q_M, .int (xs (6 * r + 2)), .int (xs (6 * r + 1)), .ref 0]) from rfl)).trans ?_
  refine (K_xs (m := 6 * r + 3) dL_law_1581 (nI_add (6 * r) 3) (by omega) hL).trans ?_
  refine (q_blk (Y := mL_law) (q_dcC dL_law_1582 (q_dcC dL_law_1583 (q_dcC dL_law_1584 (q_dcC dL_law_1585 q_dcN)))) (show _ = some (1586, [.ref q_M, .ref 0, .ref 98, .int (nI (6 * r))], [.int ((nI (6 * r)) + 4), .ref q_M, .int (xs (6 * r + 3)), .int (xs (6 * r + 2)), .int (xs (6 * r + 1)), .ref 0]) from rfl)).trans ?_
  refine (K_xs (m := 6 * r + 4) dL_law_1586 (nI_add (6 * r) 4) (by omega) hL).trans ?_
  refine (q_blk (Y := mL_law) (q_dcC dL_law_1587 (q_dcC dL_law_1588 (q_dcC dL_law_1589 (q_dcC dL_law_1590 q_dcN)))) (show _ = some (1591, [.ref q_M, .ref 0, .ref 98, .int (nI (6 * r))], [.int ((nI (6 * r)) + 5), .ref q_M, .int (xs (6 * r + 4)), .int (xs (6 * r + 3)), .int (xs (6 * r + 2)), .int (xs (6 * r + 1)), .ref 0]) from rfl)).trans ?_
  refine (K_xs (m := 6 * r + 5) dL_law_1591 (nI_add (6 * r) 5) (by omega) hL).trans ?_
  refine (k_calV (d := 399) (Y := mL_law) (Z := mX11_move) (vs := [.int (xs (6 * r + 1)), .int (xs (6 * r + 2)), .int (xs (6 * r + 3)), .int (xs (6 * r + 4)), .int (xs (6 * r + 5))]) (rest := []) (la := [.ref 0, .int (xs (6 * r + 1)), .int (xs (6 * r + 2)), .int (xs (6 * r + 3)), .int (xs (6 * r + 4)), .int (xs (6 * r + 5))]) dL_law_1592 rfl rfl rfl rfl ⟨by decide, rfl⟩ (Nat.le_of_ble_eq_true rfl) rfl (Nat.le_of_ble_eq_true rfl) e1).trans ?_
  refine Eq.trans (b := q_sem 400 mL_law 1595 [.ref q_M, .ref 0, .ref 98, .int (nI (6 * r))] [.int v] (q_K (q_h0 L xs) g1)) rfl ?_
  refine (q_blk (Y := mL_law) (q_dcC dL_law_1595 (q_dcC dL_law_1596 (q_dcC dL_law_1597 (q_dcC dL_law_1598 (q_dcC dL_law_1599 q_dcN))))) (show _ = some (1600, [.ref q_M, .ref 0, .ref 98, .int (nI (6 * r))], [.int ((nI (6 * r)) + 1), .ref q_M, .ref 98, .int v]) from rfl)).trans ?_
  refine (K_xs (m := 6 * r + 1) dL_law_1600 (nI_add (6 * r) 1) (by omega) hL).trans ?_
  refine (q_blk (Y := mL_law) (q_dcC dL_law_1601 (q_dcC dL_law_1602 (q_dcC dL_law_1603 (q_dcC dL_law_1604 q_dcN)))) (show _ = some (1605, [.ref q_M, .ref 0, .ref 98, .int (nI (6 * r))], [.int ((nI (6 * r)) + 2), .ref q_M, .int (xs (6 * r + 1)), .ref 98, .int v]) from rfl)).trans ?_
  refine (K_xs (m := 6 * r + 2) dL_law_1605 (nI_add (6 * r) 2) (by omega) hL).trans ?_
  refine (q_blk (Y := mL_law) (q_dcC dL_law_1606 (q_dcC dL_law_1607 (q_dcC dL_law_1608 (q_dcC dL_law_1609 q_dcN)))) (show _ = some (1610, [.ref q_M, .ref 0, .ref 98, .int (nI (6 * r))], [.int ((nI (6 * r)) + 3), .ref q_M, .int (xs (6 * r + 2)), .int (xs (6 * r + 1)), .ref 98, .int v]) from rfl)).trans ?_
  refine (K_xs (m := 6 * r + 3) dL_law_1610 (nI_add (6 * r) 3) (by omega) hL).trans ?_
  refine (q_blk (Y := mL_law) (q_dcC dL_law_1611 (q_dcC dL_law_1612 (q_dcC dL_law_1613 (q_dcC dL_law_1614 q_dcN)))) (show _ = some (1615, [.ref q_M, .ref 0, .ref 98, .int (nI (6 * r))], [.int ((nI (6 * r)) + 4), .ref q_M, .int (xs (6 * r + 3)), .int (xs (6 * r + 2)), .int (xs (6 * r + 1)), .ref 98, .int v]) from rfl)).trans ?_
  refine (K_xs (m := 6 * r + 4) dL_law_1615 (nI_add (6 * r) 4) (by omega) hL).trans ?_
  refine (q_blk (Y := mL_law) (q_dcC dL_law_1616 (q_dcC dL_law_1617 (q_dcC dL_law_1618 (q_dcC dL_law_1619 q_dcN)))) (show _ = some (1620, [.ref q_M, .ref 0, .ref 98, .int (nI (6 * r))], [.int ((nI (6 * r)) + 5), .ref q_M, .int (xs (6 * r + 4)), .int (xs (6 * r + 3)), .int (xs (6 * r + 2)), .int (xs (6 * r + 1)), .ref 98, .int v]) from rfl)).trans ?_
  refine (K_xs (m := 6 * r + 5) dL_law_1620 (nI_add (6 * r) 5) (by omega) hL).trans ?_
  refine (k_calV (d := 399) (Y := mL_law) (Z := mX12_move) (vs := [.int (xs (6 * r + 1)), .int (xs (6 * r + 2)), .int (xs (6 * r + 3)), .int (xs (6 * r + 4)), .int (xs (6 * r + 5))]) (rest := [.int v]) (la := [.ref 98, .int (xs (6 * r + 1)), .int (xs (6 * r + 2)), .int (xs (6 * r + 3)), .int (xs (6 * r + 4)), .int (xs (6 * r + 5)), .retAddr 0]) dL_law_1621 rfl rfl rfl rfl ⟨by decide, rfl⟩ (Nat.le_of_ble_eq_true rfl) rfl (Nat.le_of_ble_eq_true rfl) e2).trans ?_
  refine Eq.trans (b := q_sem 400 mL_law 1624 [.ref q_M, .ref 0, .ref 98, .int (nI (6 * r))] [.int v, .int v] (q_K (q_h0 L xs) g2)) rfl ?_
  refine (q_blk (Y := mL_law) (q_dcC dL_law_1624 q_dcN) (show _ = some ((if q_cc .eq v v = true then 1737 else 1627), [.ref q_M, .ref 0, .ref 98, .int (nI (6 * r))], []) from rfl)).trans ?_
  rw [if_pos (show q_cc .eq v v = true from decide_eq_true rfl)]
theorem LC_image {L : Nat} {xs : Nat → Int32} (hL : L ≤ 3072) {r n : Nat} {g : Nat → Nat → Int32} (hr : 6 * r + 6 ≤ L) (hR : q_R n g) (hn : n ≤ 512) : ∃ g2, q_sem 400 mL_law 1629 [.ref q_M, .ref 0, .ref 98, .int (nI (6 * r))] [] (q_K (q_h0 L xs) g) = q_sem 400 mL_law 1737 [.ref q_M, .ref 0, .ref 98, .int (nI (6 * r))] [] (q_K (q_h0 L xs) g2) ∧ q_R (n + 1) g2 := by
  obtain ⟨v, g1, g2, e1, e2, h2⟩ := law_image hR ⟨L, xs, rfl⟩ 369
  refine ⟨g2, ?_, h2⟩
  refine (q_blk (Y := mL_law) (q_dcC dL_law_1629 q_dcN) (show _ = some (1630, [.ref q_M, .ref 0, .ref 98, .int (nI (6 * r))], [.ref 0]) from rfl)).trans ?_
  refine (k_calV (d := 399) (Y := mL_law) (Z := mX11_image) (vs := []) (rest := []) (la := [.ref 0]) dL_law_1630 rfl rfl rfl rfl ⟨by decide, rfl⟩ (Nat.le_of_ble_eq_true rfl) rfl (Nat.le_of_ble_eq_true rfl) e1).trans ?_
  refine Eq.trans (b := q_sem 400 mL_law 1633 [.ref q_M, .ref 0, .ref 98, .int (nI (6 * r))] [.int v] (q_K (q_h0 L xs) g1)) rfl ?_
  refine (q_blk (Y := mL_law) (q_dcC dL_law_1633 q_dcN) (show _ = some (1634, [.ref q_M, .ref 0, .ref 98, .int (nI (6 * r))], [.ref 98, .int v]) from rfl)).trans ?_
  refine (k_calV (d := 399) (Y := mL_law) (Z := mX12_image) (vs := []) (rest := [.int v]) (la := [.ref 98]) dL_law_1634 rfl rfl rfl rfl ⟨by decide, rfl⟩ (Nat.le_of_ble_eq_true rfl) rfl (Nat.le_of_ble_eq_true rfl) e2).trans ?_
  refine Eq.trans (b := q_sem 400 mL_law 1637 [.ref q_M, .ref 0, .ref 98, .int (nI (6 * r))] [.int v, .int v] (q_K (q_h0 L xs) g2)) rfl ?_
  refine (q_blk (Y := mL_law) (q_dcC dL_law_1637 q_dcN) (show _ = some ((if q_cc .eq v v = true then 1737 else 1640), [.ref q_M, .ref 0, .ref 98, .int (nI (6 * r))], []) from rfl)).trans ?_
  rw [if_pos (show q_cc .eq v v = true from decide_eq_true rfl)]
theorem LC_restore {L : Nat} {xs : Nat → Int32} (hL : L ≤ 3072) {r n : Nat} {g : Nat → Nat → Int32} (hr : 6 * r + 6 ≤ L) (hR : q_R n g) (hn : n ≤ 512) : ∃ g2, q_sem 400 mL_law 1642 [.ref q_M, .ref 0, .ref 98, .int (nI (6 * r))] [] (q_K (q_h0 L xs) g) = q_sem 400 mL_law 1737 [.ref q_M, .ref 0, .ref 98, .int (nI (6 * r))] [] (q_K (q_h0 L xs) g2) ∧ q_R (n + 1) g2 := by
  obtain ⟨v, g1, g2, e1, e2, h2⟩ := law_restore hR ⟨L, xs, rfl⟩ 369 hn
  refine ⟨g2, ?_, R_le h2 (Nat.le_succ n)⟩
  refine (q_blk (Y := mL_law) (q_dcC dL_law_1642 q_dcN) (show _ = some (1643, [.ref q_M, .ref 0, .ref 98, .int (nI (6 * r))], [.ref 0]) from rfl)).trans ?_
  refine (k_calV (d := 399) (Y := mL_law) (Z := mX11_restore) (vs := []) (rest := []) (la := [.ref 0]) dL_law_1643 rfl rfl rfl rfl ⟨by decide, rfl⟩ (Nat.le_of_ble_eq_true rfl) rfl (Nat.le_of_ble_eq_true rfl) e1).trans ?_
  refine Eq.trans (b := q_sem 400 mL_law 1646 [.ref q_M, .ref 0, .ref 98, .int (nI (6 * r))] [.int v] (q_K (q_h0 L xs) g1)) rfl ?_
  refine (q_blk (Y := mL_law) (q_dcC dL_law_1646 q_dcN) (show _ = some (1647, [.ref q_M, .ref 0, .ref 98, .int (nI (6 * r))], [.ref 98, .int v]) from rfl)).trans ?_
  refine (k_calV (d := 399) (Y := mL_law) (Z := mX12_restore) (vs := []) (rest := [.int v]) (la := [.ref 98]) dL_law_1647 rfl rfl rfl rfl ⟨by decide, rfl⟩ (Nat.le_of_ble_eq_true rfl) rfl (Nat.le_of_ble_eq_true rfl) e2).trans ?_
  refine Eq.trans (b := q_sem 400 mL_law 1650 [.ref q_M, .ref 0, .ref 98, .int (nI (6 * r))] [.int v, .int v] (q_K (q_h0 L xs) g2)) rfl ?_
  refine (q_blk (Y := mL_law) (q_dcC dL_law_1650 q_dcN) (show _ = some ((if q_cc .eq v v = true then 1737 else 1653), [.ref q_M, .ref 0, .ref 98, .int (nI (6 * r))], []) from rfl)).trans ?_
  rw [if_pos (show q_cc .eq v v = true from decide_eq_true rfl)]
theorem LC_tell {L : Nat} {xs : Nat → Int32} (hL : L ≤ 3072) {r n : Nat} {g : Nat → Nat → Int32} (hr : 6 * r + 6 ≤ L) (hR : q_R n g) (hn : n ≤ 512) : ∃ g2, q_sem 400 mL_law 1655 [.ref q_M, .ref 0, .ref 98, .int (nI (6 * r))] [] (q_K (q_h0 L xs) g) = q_sem 400 mL_law 1737 [.ref q_M, .ref 0, .ref 98, .int (nI (6 * r))] [] (q_K (q_h0 L xs) g2) ∧ q_R (n + 1) g2 := by
  obtain ⟨v, g1, g2, e1, e2, h2⟩ := law_tell hR ⟨L, xs, rfl⟩ 369 ((xs (6 * r + 1)))
  refine ⟨g2, ?_, R_le h2 (Nat.le_succ n)⟩
  refine (q_blk (Y := mL_law) (q_dcC dL_law_1655 (q_dcC dL_law_1656 (q_dcC dL_law_1657 (q_dcC dL_law_1658 (q_dcC dL_law_1659 q_dcN))))) (show _ = some (1660, [.ref q_M, .ref 0, .ref 98, .int (nI (6 * r))], [.int ((nI (6 * r)) + 1), .ref q_M, .ref 0]) from rfl)).trans ?_
  refine (K_xs (m := 6 * r + 1) dL_law_1660 (nI_add (6 * r) 1) (by omega) hL).trans ?_
  refine (k_calV (d := 399) (Y := mL_law) (Z := mX11_tell) (vs := [.int (xs (6 * r + 1))]) (rest := []) (la := [.ref 0, .int (xs (6 * r + 1))]) dL_law_1661 rfl rfl rfl rfl ⟨by decide, rfl⟩ (Nat.le_of_ble_eq_true rfl) rfl (Nat.le_of_ble_eq_true rfl) e1).trans ?_
  refine Eq.trans (b := q_sem 400 mL_law 1664 [.ref q_M, .ref 0, .ref 98, .int (nI (6 * r))] [.int v] (q_K (q_h0 L xs) g1)) rfl ?_
  refine (q_blk (Y := mL_law) (q_dcC dL_law_1664 (q_dcC dL_law_1665 (q_dcC dL_law_1666 (q_dcC dL_law_1667 (q_dcC dL_law_1668 q_dcN))))) (show _ = some (1669, [.ref q_M, .ref 0, .ref 98, .int (nI (6 * r))], [.int ((nI (6 * r)) + 1), .ref q_M, .ref 98, .int v]) from rfl)).trans ?_
  refine (K_xs (m := 6 * r + 1) dL_law_1669 (nI_add (6 * r) 1) (by omega) hL).trans ?_
  refine (k_calV (d := 399) (Y := mL_law) (Z := mX12_tell) (vs := [.int (xs (6 * r + 1))]) (rest := [.int v]) (la := [.ref 98, .int (xs (6 * r + 1))]) dL_law_1670 rfl rfl rfl rfl ⟨by decide, rfl⟩ (Nat.le_of_ble_eq_true rfl) rfl (Nat.le_of_ble_eq_true rfl) e2).trans ?_
  refine Eq.trans (b := q_sem 400 mL_law 1673 [.ref q_M, .ref 0, .ref 98, .int (nI (6 * r))] [.int v, .int v] (q_K (q_h0 L xs) g2)) rfl ?_
  refine (q_blk (Y := mL_law) (q_dcC dL_law_1673 q_dcN) (show _ = some ((if q_cc .eq v v = true then 1737 else 1676), [.ref q_M, .ref 0, .ref 98, .int (nI (6 * r))], []) from rfl)).trans ?_
  rw [if_pos (show q_cc .eq v v = true from decide_eq_true rfl)]
theorem LC_check {L : Nat} {xs : Nat → Int32} (hL : L ≤ 3072) {r n : Nat} {g : Nat → Nat → Int32} (hr : 6 * r + 6 ≤ L) (hR : q_R n g) (hn : n ≤ 512) : ∃ g2, q_sem 400 mL_law 1678 [.ref q_M, .ref 0, .ref 98, .int (nI (6 * r))] [] (q_K (q_h0 L xs) g) = q_sem 400 mL_law 1737 [.ref q_M, .ref 0, .ref 98, .int (nI (6 * r))] [] (q_K (q_h0 L xs) g2) ∧ q_R (n + 1) g2 := by
  obtain ⟨v, g1, g2, e1, e2, h2⟩ := law_check hR ⟨L, xs, rfl⟩ 369
  refine ⟨g2, ?_, R_le h2 (Nat.le_succ n)⟩
  refine (q_blk (Y := mL_law) (q_dcC dL_law_1678 q_dcN) (show _ = some (1679, [.ref q_M, .ref 0, .ref 98, .int (nI (6 * r))], [.ref 0]) from rfl)).trans ?_
  refine (k_calV (d := 399) (Y := mL_law) (Z := mX11_check) (vs := []) (rest := []) (la := [.ref 0, .retAddr 0]) dL_law_1679 rfl rfl rfl rfl ⟨by decide, rfl⟩ (Nat.le_of_ble_eq_true rfl) rfl (Nat.le_of_ble_eq_true rfl) e1).trans ?_
  refine Eq.trans (b := q_sem 400 mL_law 1682 [.ref q_M, .ref 0, .ref 98, .int (nI (6 * r))] [.int v] (q_K (q_h0 L xs) g1)) rfl ?_
  refine (q_blk (Y := mL_law) (q_dcC dL_law_1682 q_dcN) (show _ = some (1683, [.ref q_M, .ref 0, .ref 98, .int (nI (6 * r))], [.ref 98, .int v]) from rfl)).trans ?_
  refine (k_calV (d := 399) (Y := mL_law) (Z := mX12_check) (vs := []) (rest := [.int v]) (la := [.ref 98, .retAddr 0, .retAddr 0]) dL_law_1683 rfl rfl rfl rfl ⟨by decide, rfl⟩ (Nat.le_of_ble_eq_true rfl) rfl (Nat.le_of_ble_eq_true rfl) e2).trans ?_
  refine Eq.trans (b := q_sem 400 mL_law 1686 [.ref q_M, .ref 0, .ref 98, .int (nI (6 * r))] [.int v, .int v] (q_K (q_h0 L xs) g2)) rfl ?_
  refine (q_blk (Y := mL_law) (q_dcC dL_law_1686 q_dcN) (show _ = some ((if q_cc .eq v v = true then 1737 else 1689), [.ref q_M, .ref 0, .ref 98, .int (nI (6 * r))], []) from rfl)).trans ?_
  rw [if_pos (show q_cc .eq v v = true from decide_eq_true rfl)]
theorem LC_count {L : Nat} {xs : Nat → Int32} (hL : L ≤ 3072) {r n : Nat} {g : Nat → Nat → Int32} (hr : 6 * r + 6 ≤ L) (hR : q_R n g) (hn : n ≤ 512) : ∃ g2, q_sem 400 mL_law 1691 [.ref q_M, .ref 0, .ref 98, .int (nI (6 * r))] [] (q_K (q_h0 L xs) g) = q_sem 400 mL_law 1737 [.ref q_M, .ref 0, .ref 98, .int (nI (6 * r))] [] (q_K (q_h0 L xs) g2) ∧ q_R (n + 1) g2 := by
  obtain ⟨v, g1, g2, e1, e2, h2⟩ := law_count hR ⟨L, xs, rfl⟩ 369 ((xs (6 * r + 1)))
  refine ⟨g2, ?_, R_le h2 (Nat.le_succ n)⟩
  refine (q_blk (Y := mL_law) (q_dcC dL_law_1691 (q_dcC dL_law_1692 (q_dcC dL_law_1693 (q_dcC dL_law_1694 (q_dcC dL_law_1695 q_dcN))))) (show _ = some (1696, [.ref q_M, .ref 0, .ref 98, .int (nI (6 * r))], [.int ((nI (6 * r)) + 1), .ref q_M, .ref 0]) from rfl)).trans ?_
  refine (K_xs (m := 6 * r + 1) dL_law_1696 (nI_add (6 * r) 1) (by omega) hL).trans ?_
  refine (k_calV (d := 399) (Y := mL_law) (Z := mX11_count) (vs := [.int (xs (6 * r + 1))]) (rest := []) (la := [.ref 0, .int (xs (6 * r + 1))]) dL_law_1697 rfl rfl rfl rfl ⟨by decide, rfl⟩ (Nat.le_of_ble_eq_true rfl) rfl (Nat.le_of_ble_eq_true rfl) e1).trans ?_
  refine Eq.trans (b := q_sem 400 mL_law 1700 [.ref q_M, .ref 0, .ref 98, .int (nI (6 * r))] [.int v] (q_K (q_h0 L xs) g1)) rfl ?_
  refine (q_blk (Y := mL_law) (q_dcC dL_law_1700 (q_dcC dL_law_1701 (q_dcC dL_law_1702 (q_dcC dL_law_1703 (q_dcC dL_law_1704 q_dcN))))) (show _ = some (1705, [.ref q_M, .ref 0, .ref 98, .int (nI (6 * r))], [.int ((nI (6 * r)) + 1), .ref q_M, .ref 98, .int v]) from rfl)).trans ?_
  refine (K_xs (m := 6 * r + 1) dL_law_1705 (nI_add (6 * r) 1) (by omega) hL).trans ?_
  refine (k_calV (d := 399) (Y := mL_law) (Z := mX12_count) (vs := [.int (xs (6 * r + 1))]) (rest := [.int v]) (la := [.ref 98, .int (xs (6 * r + 1))]) dL_law_1706 rfl rfl rfl rfl ⟨by decide, rfl⟩ (Nat.le_of_ble_eq_true rfl) rfl (Nat.le_of_ble_eq_true rfl) e2).trans ?_
  refine Eq.trans (b := q_sem 400 mL_law 1709 [.ref q_M, .ref 0, .ref 98, .int (nI (6 * r))] [.int v, .int v] (q_K (q_h0 L xs) g2)) rfl ?_
  refine (q_blk (Y := mL_law) (q_dcC dL_law_1709 q_dcN) (show _ = some ((if q_cc .eq v v = true then 1737 else 1712), [.ref q_M, .ref 0, .ref 98, .int (nI (6 * r))], []) from rfl)).trans ?_
  rw [if_pos (show q_cc .eq v v = true from decide_eq_true rfl)]
theorem LC_found {L : Nat} {xs : Nat → Int32} (hL : L ≤ 3072) {r n : Nat} {g : Nat → Nat → Int32} (hr : 6 * r + 6 ≤ L) (hR : q_R n g) (hn : n ≤ 512) : ∃ g2, q_sem 400 mL_law 1714 [.ref q_M, .ref 0, .ref 98, .int (nI (6 * r))] [] (q_K (q_h0 L xs) g) = q_sem 400 mL_law 1737 [.ref q_M, .ref 0, .ref 98, .int (nI (6 * r))] [] (q_K (q_h0 L xs) g2) ∧ q_R (n + 1) g2 := by
  obtain ⟨v, g1, g2, e1, e2, h2⟩ := law_found hR ⟨L, xs, rfl⟩ 369 ((xs (6 * r + 1)))
  refine ⟨g2, ?_, R_le h2 (Nat.le_succ n)⟩
  refine (q_blk (Y := mL_law) (q_dcC dL_law_1714 (q_dcC dL_law_1715 (q_dcC dL_law_1716 (q_dcC dL_law_1717 (q_dcC dL_law_1718 q_dcN))))) (show _ = some (1719, [.ref q_M, .ref 0, .ref 98, .int (nI (6 * r))], [.int ((nI (6 * r)) + 1), .ref q_M, .ref 0]) from rfl)).trans ?_
  refine (K_xs (m := 6 * r + 1) dL_law_1719 (nI_add (6 * r) 1) (by omega) hL).trans ?_
  refine (k_calV (d := 399) (Y := mL_law) (Z := mX11_found) (vs := [.int (xs (6 * r + 1))]) (rest := []) (la := [.ref 0, .int (xs (6 * r + 1))]) dL_law_1720 rfl rfl rfl rfl ⟨by decide, rfl⟩ (Nat.le_of_ble_eq_true rfl) rfl (Nat.le_of_ble_eq_true rfl) e1).trans ?_
  refine Eq.trans (b := q_sem 400 mL_law 1723 [.ref q_M, .ref 0, .ref 98, .int (nI (6 * r))] [.int v] (q_K (q_h0 L xs) g1)) rfl ?_
  refine (q_blk (Y := mL_law) (q_dcC dL_law_1723 (q_dcC dL_law_1724 (q_dcC dL_law_1725 (q_dcC dL_law_1726 (q_dcC dL_law_1727 q_dcN))))) (show _ = some (1728, [.ref q_M, .ref 0, .ref 98, .int (nI (6 * r))], [.int ((nI (6 * r)) + 1), .ref q_M, .ref 98, .int v]) from rfl)).trans ?_
  refine (K_xs (m := 6 * r + 1) dL_law_1728 (nI_add (6 * r) 1) (by omega) hL).trans ?_
  refine (k_calV (d := 399) (Y := mL_law) (Z := mX12_found) (vs := [.int (xs (6 * r + 1))]) (rest := [.int v]) (la := [.ref 98, .int (xs (6 * r + 1))]) dL_law_1729 rfl rfl rfl rfl ⟨by decide, rfl⟩ (Nat.le_of_ble_eq_true rfl) rfl (Nat.le_of_ble_eq_true rfl) e2).trans ?_
  refine Eq.trans (b := q_sem 400 mL_law 1732 [.ref q_M, .ref 0, .ref 98, .int (nI (6 * r))] [.int v, .int v] (q_K (q_h0 L xs) g2)) rfl ?_
  refine (q_blk (Y := mL_law) (q_dcC dL_law_1732 q_dcN) (show _ = some ((if q_cc .eq v v = true then 1737 else 1735), [.ref q_M, .ref 0, .ref 98, .int (nI (6 * r))], []) from rfl)).trans ?_
  rw [if_pos (show q_cc .eq v v = true from decide_eq_true rfl)]
theorem LC_end {L : Nat} {xs : Nat → Int32} {r : Nat} {g : Nat → Nat → Int32} : q_sem 400 mL_law 1737 [.ref q_M, .ref 0, .ref 98, .int (nI (6 * r))] [] (q_K (q_h0 L xs) g) = q_sem 400 mL_law 18 [.ref q_M, .ref 0, .ref 98, .int (nI (6 * (r + 1)))] [] (q_K (q_h0 L xs) g) := by
  refine (q_blk (Y := mL_law) (q_dcC dL_law_1737 (q_dcC dL_law_1740 q_dcN)) (show _ = some (18, [.ref q_M, .ref 0, .ref 98, .int (nI (6 * r) + 6)], []) from rfl)).trans ?_
  rw [show nI (6 * r) + 6 = nI (6 * (r + 1)) from nI_add (6 * r) 6]
theorem LC_op {L : Nat} {xs : Nat → Int32} (hL : L ≤ 3072) {r n : Nat} {g : Nat → Nat → Int32} (hr : 6 * r + 6 ≤ L) (hR : q_R n g) (hn : n ≤ 512) (op : Int32) : ∃ g2, q_sem 400 mL_law 33 [.ref q_M, .ref 0, .ref 98, .int (nI (6 * r))] [.int op] (q_K (q_h0 L xs) g) = q_sem 400 mL_law 1737 [.ref q_M, .ref 0, .ref 98, .int (nI (6 * r))] [] (q_K (q_h0 L xs) g2) ∧ q_R (n + 1) g2 := by
  by_cases c0 : op = 0
  · obtain ⟨g2, e, h2⟩ := LC_mast (xs := xs) hL hr hR hn
    exact ⟨g2, (k_sw (Y := mL_law) (t := 220) dL_law_33 rfl ⟨rfl, rfl⟩ (by rw [c0]; rfl)).trans e, h2⟩
  by_cases c1 : op = 1
  · obtain ⟨g2, e, h2⟩ := LC_jam (xs := xs) hL hr hR hn
    exact ⟨g2, (k_sw (Y := mL_law) (t := 253) dL_law_33 rfl ⟨rfl, rfl⟩ (by rw [c1]; rfl)).trans e, h2⟩
  by_cases c2 : op = 2
  · obtain ⟨g2, e, h2⟩ := LC_post (xs := xs) hL hr hR hn
    exact ⟨g2, (k_sw (Y := mL_law) (t := 302) dL_law_33 rfl ⟨rfl, rfl⟩ (by rw [c2]; rfl)).trans e, h2⟩
  by_cases c3 : op = 3
  · obtain ⟨g2, e, h2⟩ := LC_set (xs := xs) hL hr hR hn
    exact ⟨g2, (k_sw (Y := mL_law) (t := 335) dL_law_33 rfl ⟨rfl, rfl⟩ (by rw [c3]; rfl)).trans e, h2⟩
  by_cases c4 : op = 4
  · obtain ⟨g2, e, h2⟩ := LC_watched (xs := xs) hL hr hR hn
    exact ⟨g2, (k_sw (Y := mL_law) (t := 368) dL_law_33 rfl ⟨rfl, rfl⟩ (by rw [c4]; rfl)).trans e, h2⟩
  by_cases c5 : op = 5
  · obtain ⟨g2, e, h2⟩ := LC_field (xs := xs) hL hr hR hn
    exact ⟨g2, (k_sw (Y := mL_law) (t := 391) dL_law_33 rfl ⟨rfl, rfl⟩ (by rw [c5]; rfl)).trans e, h2⟩
  by_cases c6 : op = 6
  · obtain ⟨g2, e, h2⟩ := LC_town (xs := xs) hL hr hR hn
    exact ⟨g2, (k_sw (Y := mL_law) (t := 414) dL_law_33 rfl ⟨rfl, rfl⟩ (by rw [c6]; rfl)).trans e, h2⟩
  by_cases c7 : op = 7
  · obtain ⟨g2, e, h2⟩ := LC_townIs (xs := xs) hL hr hR hn
    exact ⟨g2, (k_sw (Y := mL_law) (t := 437) dL_law_33 rfl ⟨rfl, rfl⟩ (by rw [c7]; rfl)).trans e, h2⟩
  by_cases c8 : op = 8
  · obtain ⟨g2, e, h2⟩ := LC_plot (xs := xs) hL hr hR hn
    exact ⟨g2, (k_sw (Y := mL_law) (t := 470) dL_law_33 rfl ⟨rfl, rfl⟩ (by rw [c8]; rfl)).trans e, h2⟩
  by_cases c9 : op = 9
  · obtain ⟨g2, e, h2⟩ := LC_plots (xs := xs) hL hr hR hn
    exact ⟨g2, (k_sw (Y := mL_law) (t := 503) dL_law_33 rfl ⟨rfl, rfl⟩ (by rw [c9]; rfl)).trans e, h2⟩
  by_cases c10 : op = 10
  · obtain ⟨g2, e, h2⟩ := LC_plotIs (xs := xs) hL hr hR hn
    exact ⟨g2, (k_sw (Y := mL_law) (t := 526) dL_law_33 rfl ⟨rfl, rfl⟩ (by rw [c10]; rfl)).trans e, h2⟩
  by_cases c11 : op = 11
  · obtain ⟨g2, e, h2⟩ := LC_follows (xs := xs) hL hr hR hn
    exact ⟨g2, (k_sw (Y := mL_law) (t := 559) dL_law_33 rfl ⟨rfl, rfl⟩ (by rw [c11]; rfl)).trans e, h2⟩
  by_cases c12 : op = 12
  · obtain ⟨g2, e, h2⟩ := LC_tracking (xs := xs) hL hr hR hn
    exact ⟨g2, (k_sw (Y := mL_law) (t := 592) dL_law_33 rfl ⟨rfl, rfl⟩ (by rw [c12]; rfl)).trans e, h2⟩
  by_cases c13 : op = 13
  · obtain ⟨g2, e, h2⟩ := LC_judge (xs := xs) hL hr hR hn
    exact ⟨g2, (k_sw (Y := mL_law) (t := 625) dL_law_33 rfl ⟨rfl, rfl⟩ (by rw [c13]; rfl)).trans e, h2⟩
  by_cases c14 : op = 14
  · obtain ⟨g2, e, h2⟩ := LC_flyer (xs := xs) hL hr hR hn
    exact ⟨g2, (k_sw (Y := mL_law) (t := 658) dL_law_33 rfl ⟨rfl, rfl⟩ (by rw [c14]; rfl)).trans e, h2⟩
  by_cases c15 : op = 15
  · obtain ⟨g2, e, h2⟩ := LC_flight (xs := xs) hL hr hR hn
    exact ⟨g2, (k_sw (Y := mL_law) (t := 711) dL_law_33 rfl ⟨rfl, rfl⟩ (by rw [c15]; rfl)).trans e, h2⟩
  by_cases c16 : op = 16
  · obtain ⟨g2, e, h2⟩ := LC_as (xs := xs) hL hr hR hn
    exact ⟨g2, (k_sw (Y := mL_law) (t := 790) dL_law_33 rfl ⟨rfl, rfl⟩ (by rw [c16]; rfl)).trans e, h2⟩
  by_cases c17 : op = 17
  · obtain ⟨g2, e, h2⟩ := LC_flyerIs (xs := xs) hL hr hR hn
    exact ⟨g2, (k_sw (Y := mL_law) (t := 823) dL_law_33 rfl ⟨rfl, rfl⟩ (by rw [c17]; rfl)).trans e, h2⟩
  by_cases c18 : op = 18
  · obtain ⟨g2, e, h2⟩ := LC_answer (xs := xs) hL hr hR hn
    exact ⟨g2, (k_sw (Y := mL_law) (t := 856) dL_law_33 rfl ⟨rfl, rfl⟩ (by rw [c18]; rfl)).trans e, h2⟩
  by_cases c19 : op = 19
  · obtain ⟨g2, e, h2⟩ := LC_send (xs := xs) hL hr hR hn
    exact ⟨g2, (k_sw (Y := mL_law) (t := 905) dL_law_33 rfl ⟨rfl, rfl⟩ (by rw [c19]; rfl)).trans e, h2⟩
  by_cases c20 : op = 20
  · obtain ⟨g2, e, h2⟩ := LC_back (xs := xs) hL hr hR hn
    exact ⟨g2, (k_sw (Y := mL_law) (t := 938) dL_law_33 rfl ⟨rfl, rfl⟩ (by rw [c20]; rfl)).trans e, h2⟩
  by_cases c21 : op = 21
  · obtain ⟨g2, e, h2⟩ := LC_fill (xs := xs) hL hr hR hn
    exact ⟨g2, (k_sw (Y := mL_law) (t := 961) dL_law_33 rfl ⟨rfl, rfl⟩ (by rw [c21]; rfl)).trans e, h2⟩
  by_cases c22 : op = 22
  · obtain ⟨g2, e, h2⟩ := LC_feed (xs := xs) hL hr hR hn
    exact ⟨g2, (k_sw (Y := mL_law) (t := 1004) dL_law_33 rfl ⟨rfl, rfl⟩ (by rw [c22]; rfl)).trans e, h2⟩
  by_cases c23 : op = 23
  · obtain ⟨g2, e, h2⟩ := LC_rule (xs := xs) hL hr hR hn
    exact ⟨g2, (k_sw (Y := mL_law) (t := 1067) dL_law_33 rfl ⟨rfl, rfl⟩ (by rw [c23]; rfl)).trans e, h2⟩
  by_cases c24 : op = 24
  · obtain ⟨g2, e, h2⟩ := LC_force (xs := xs) hL hr hR hn
    exact ⟨g2, (k_sw (Y := mL_law) (t := 1100) dL_law_33 rfl ⟨rfl, rfl⟩ (by rw [c24]; rfl)).trans e, h2⟩
  by_cases c25 : op = 25
  · obtain ⟨g2, e, h2⟩ := LC_says (xs := xs) hL hr hR hn
    exact ⟨g2, (k_sw (Y := mL_law) (t := 1133) dL_law_33 rfl ⟨rfl, rfl⟩ (by rw [c25]; rfl)).trans e, h2⟩
  by_cases c26 : op = 26
  · obtain ⟨g2, e, h2⟩ := LC_meeting (xs := xs) hL hr hR hn
    exact ⟨g2, (k_sw (Y := mL_law) (t := 1196) dL_law_33 rfl ⟨rfl, rfl⟩ (by rw [c26]; rfl)).trans e, h2⟩
  by_cases c27 : op = 27
  · obtain ⟨g2, e, h2⟩ := LC_sending (xs := xs) hL hr hR hn
    exact ⟨g2, (k_sw (Y := mL_law) (t := 1229) dL_law_33 rfl ⟨rfl, rfl⟩ (by rw [c27]; rfl)).trans e, h2⟩
  by_cases c28 : op = 28
  · obtain ⟨g2, e, h2⟩ := LC_pilots (xs := xs) hL hr hR hn
    exact ⟨g2, (k_sw (Y := mL_law) (t := 1262) dL_law_33 rfl ⟨rfl, rfl⟩ (by rw [c28]; rfl)).trans e, h2⟩
  by_cases c29 : op = 29
  · obtain ⟨g2, e, h2⟩ := LC_laying (xs := xs) hL hr hR hn
    exact ⟨g2, (k_sw (Y := mL_law) (t := 1295) dL_law_33 rfl ⟨rfl, rfl⟩ (by rw [c29]; rfl)).trans e, h2⟩
  by_cases c30 : op = 30
  · obtain ⟨g2, e, h2⟩ := LC_minutes (xs := xs) hL hr hR hn
    exact ⟨g2, (k_sw (Y := mL_law) (t := 1348) dL_law_33 rfl ⟨rfl, rfl⟩ (by rw [c30]; rfl)).trans e, h2⟩
  by_cases c31 : op = 31
  · obtain ⟨g2, e, h2⟩ := LC_ahead (xs := xs) hL hr hR hn
    exact ⟨g2, (k_sw (Y := mL_law) (t := 1371) dL_law_33 rfl ⟨rfl, rfl⟩ (by rw [c31]; rfl)).trans e, h2⟩
  by_cases c32 : op = 32
  · obtain ⟨g2, e, h2⟩ := LC_voice (xs := xs) hL hr hR hn
    exact ⟨g2, (k_sw (Y := mL_law) (t := 1414) dL_law_33 rfl ⟨rfl, rfl⟩ (by rw [c32]; rfl)).trans e, h2⟩
  by_cases c33 : op = 33
  · obtain ⟨g2, e, h2⟩ := LC_trace (xs := xs) hL hr hR hn
    exact ⟨g2, (k_sw (Y := mL_law) (t := 1457) dL_law_33 rfl ⟨rfl, rfl⟩ (by rw [c33]; rfl)).trans e, h2⟩
  by_cases c34 : op = 34
  · obtain ⟨g2, e, h2⟩ := LC_sheet (xs := xs) hL hr hR hn
    exact ⟨g2, (k_sw (Y := mL_law) (t := 1480) dL_law_33 rfl ⟨rfl, rfl⟩ (by rw [c34]; rfl)).trans e, h2⟩
  by_cases c35 : op = 35
  · obtain ⟨g2, e, h2⟩ := LC_put (xs := xs) hL hr hR hn
    exact ⟨g2, (k_sw (Y := mL_law) (t := 1523) dL_law_33 rfl ⟨rfl, rfl⟩ (by rw [c35]; rfl)).trans e, h2⟩
  by_cases c36 : op = 36
  · obtain ⟨g2, e, h2⟩ := LC_move (xs := xs) hL hr hR hn
    exact ⟨g2, (k_sw (Y := mL_law) (t := 1566) dL_law_33 rfl ⟨rfl, rfl⟩ (by rw [c36]; rfl)).trans e, h2⟩
  by_cases c37 : op = 37
  · obtain ⟨g2, e, h2⟩ := LC_image (xs := xs) hL hr hR hn
    exact ⟨g2, (k_sw (Y := mL_law) (t := 1629) dL_law_33 rfl ⟨rfl, rfl⟩ (by rw [c37]; rfl)).trans e, h2⟩
  by_cases c38 : op = 38
  · obtain ⟨g2, e, h2⟩ := LC_restore (xs := xs) hL hr hR hn
    exact ⟨g2, (k_sw (Y := mL_law) (t := 1642) dL_law_33 rfl ⟨rfl, rfl⟩ (by rw [c38]; rfl)).trans e, h2⟩
  by_cases c39 : op = 39
  · obtain ⟨g2, e, h2⟩ := LC_tell (xs := xs) hL hr hR hn
    exact ⟨g2, (k_sw (Y := mL_law) (t := 1655) dL_law_33 rfl ⟨rfl, rfl⟩ (by rw [c39]; rfl)).trans e, h2⟩
  by_cases c40 : op = 40
  · obtain ⟨g2, e, h2⟩ := LC_check (xs := xs) hL hr hR hn
    exact ⟨g2, (k_sw (Y := mL_law) (t := 1678) dL_law_33 rfl ⟨rfl, rfl⟩ (by rw [c40]; rfl)).trans e, h2⟩
  by_cases c41 : op = 41
  · obtain ⟨g2, e, h2⟩ := LC_count (xs := xs) hL hr hR hn
    exact ⟨g2, (k_sw (Y := mL_law) (t := 1691) dL_law_33 rfl ⟨rfl, rfl⟩ (by rw [c41]; rfl)).trans e, h2⟩
  by_cases c42 : op = 42
  · obtain ⟨g2, e, h2⟩ := LC_found (xs := xs) hL hr hR hn
    exact ⟨g2, (k_sw (Y := mL_law) (t := 1714) dL_law_33 rfl ⟨rfl, rfl⟩ (by rw [c42]; rfl)).trans e, h2⟩
  refine ⟨g, ?_, R_le hR (Nat.le_succ n)⟩
  exact k_swD (Y := mL_law) (t := 1737) dL_law_33 (q_tso op 0 43 (fun k hk => by rcases k with _ | _ | _ | _ | _ | _ | _ | _ | _ | _ | _ | _ | _ | _ | _ | _ | _ | _ | _ | _ | _ | _ | _ | _ | _ | _ | _ | _ | _ | _ | _ | _ | _ | _ | _ | _ | _ | _ | _ | _ | _ | _ | _ | k; exact c0; exact c1; exact c2; exact c3; exact c4; exact c5; exact c6; exact c7; exact c8; exact c9; exact c10; exact c11; exact c12; exact c13; exact c14; exact c15; exact c16; exact c17; exact c18; exact c19; exact c20; exact c21; exact c22; exact c23; exact c24; exact c25; exact c26; exact c27; exact c28; exact c29; exact c30; exact c31; exact c32; exact c33; exact c34; exact c35; exact c36; exact c37; exact c38; exact c39; exact c40; exact c41; exact c42; exact absurd hk (by omega))) rfl
theorem LC_loop {L : Nat} {xs : Nat → Int32} (hL : L ≤ 3072) : ∀ (m r : Nat) (g : Nat → Nat → Int32), L ≤ 6 * (r + m) + 5 → q_R r g → 6 * r ≤ 3072 → ∃ g2, q_sem 400 mL_law 18 [.ref q_M, .ref 0, .ref 98, .int (nI (6 * r))] [] (q_K (q_h0 L xs) g) = some (some (.int 1), q_K (q_h0 L xs) g2) := by
  intro m
  induction m with
  | zero =>
    intro r g hm hR hr
    have hx : (nI L - 6 : Int32) < nI (6 * r) := (nI_subN (b := 6) (by omega) (by omega) (by omega)).mpr (by omega)
    refine ⟨g, ?_⟩
    refine (q_blk (Y := mL_law) (q_dcC dL_law_18 (q_dcC dL_law_19 q_dcN)) (show _ = some (20, [.ref q_M, .ref 0, .ref 98, .int (nI (6 * r))], [.ref q_M, .int (nI (6 * r))]) from rfl)).trans ?_
    refine (K_xl dL_law_20).trans ?_
    refine (q_blk (Y := mL_law) (q_dcC dL_law_21 (q_dcC dL_law_23 (q_dcC dL_law_24 q_dcN))) (show _ = some ((if q_cc .gt (nI (6 * r)) (nI L - 6) = true then 1743 else 27), [.ref q_M, .ref 0, .ref 98, .int (nI (6 * r))], []) from rfl)).trans ?_
    rw [if_pos (show q_cc .gt (nI (6 * r)) (nI L - 6) = true from decide_eq_true hx)]
    refine (q_blk (Y := mL_law) (q_dcC dL_law_1743 q_dcN) (show _ = some (1744, [.ref q_M, .ref 0, .ref 98, .int (nI (6 * r))], [.int 1]) from rfl)).trans ?_
    exact k_iret (Y := mL_law) dL_law_1744 rfl
  | succ m ih =>
    intro r g hm hR hr
    by_cases hl : 6 * r + 6 ≤ L
    · have hx : ¬ (nI L - 6 : Int32) < nI (6 * r) := fun z => absurd ((nI_subN (b := 6) (by omega) (by omega) (by omega)).mp z) (by omega)
      obtain ⟨g1, e1, h1⟩ := LC_op (xs := xs) hL hl hR (show r ≤ 512 by omega) (xs (6 * r) &&& 63)
      obtain ⟨g2, e2⟩ := ih (r + 1) g1 (by omega) h1 (by omega)
      refine ⟨g2, ?_⟩
      refine (q_blk (Y := mL_law) (q_dcC dL_law_18 (q_dcC dL_law_19 q_dcN)) (show _ = some (20, [.ref q_M, .ref 0, .ref 98, .int (nI (6 * r))], [.ref q_M, .int (nI (6 * r))]) from rfl)).trans ?_
      refine (K_xl dL_law_20).trans ?_
      refine (q_blk (Y := mL_law) (q_dcC dL_law_21 (q_dcC dL_law_23 (q_dcC dL_law_24 q_dcN))) (show _ = some ((if q_cc .gt (nI (6 * r)) (nI L - 6) = true then 1743 else 27), [.ref q_M, .ref 0, .ref 98, .int (nI (6 * r))], []) from rfl)).trans ?_
      rw [if_neg (show ¬ q_cc .gt (nI (6 * r)) (nI L - 6) = true from fun z => hx (of_decide_eq_true z))]
      refine (q_blk (Y := mL_law) (q_dcC dL_law_27 (q_dcC dL_law_28 q_dcN)) (show _ = some (29, [.ref q_M, .ref 0, .ref 98, .int (nI (6 * r))], [.int (nI (6 * r)), .ref q_M]) from rfl)).trans ?_
      refine (K_xs (m := 6 * r) dL_law_29 rfl (by omega) hL).trans ?_
      refine (q_blk (Y := mL_law) (q_dcC dL_law_30 (q_dcC dL_law_32 q_dcN)) (show _ = some (33, [.ref q_M, .ref 0, .ref 98, .int (nI (6 * r))], [.int (xs (6 * r) &&& 63)]) from rfl)).trans ?_
      exact e1.trans (LC_end.trans e2)
    · have hx : (nI L - 6 : Int32) < nI (6 * r) := (nI_subN (b := 6) (by omega) (by omega) (by omega)).mpr (by omega)
      refine ⟨g, ?_⟩
      refine (q_blk (Y := mL_law) (q_dcC dL_law_18 (q_dcC dL_law_19 q_dcN)) (show _ = some (20, [.ref q_M, .ref 0, .ref 98, .int (nI (6 * r))], [.ref q_M, .int (nI (6 * r))]) from rfl)).trans ?_
      refine (K_xl dL_law_20).trans ?_
      refine (q_blk (Y := mL_law) (q_dcC dL_law_21 (q_dcC dL_law_23 (q_dcC dL_law_24 q_dcN))) (show _ = some ((if q_cc .gt (nI (6 * r)) (nI L - 6) = true then 1743 else 27), [.ref q_M, .ref 0, .ref 98, .int (nI (6 * r))], []) from rfl)).trans ?_
      rw [if_pos (show q_cc .gt (nI (6 * r)) (nI L - 6) = true from decide_eq_true hx)]
      refine (q_blk (Y := mL_law) (q_dcC dL_law_1743 q_dcN) (show _ = some (1744, [.ref q_M, .ref 0, .ref 98, .int (nI (6 * r))], [.int 1]) from rfl)).trans ?_
      exact k_iret (Y := mL_law) dL_law_1744 rfl
