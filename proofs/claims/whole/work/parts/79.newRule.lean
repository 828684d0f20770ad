/-! a new rule -/
def q_nru (S : Nat → Nat → Int32) (r : Nat) (u fr : Int32) (cs : List Int32) : Nat → Nat → Int32 := fun f k => if f = 26 ∧ k = r then u else if f = 27 ∧ k = r then fr else if f = 28 ∧ k = r then nI cs.length else if f = 29 ∧ 50 * r ≤ k ∧ k < 50 * r + 50 then cs.getD (k - 50 * r) 0 else S f k
theorem nr_ne {S : Nat → Nat → Int32} {r : Nat} {u fr : Int32} {cs : List Int32} {f k : Nat} (h : (f < 26 ∨ 29 < f) ∨ (f < 29 ∧ k ≠ r) ∨ (f = 29 ∧ (k < 50 * r ∨ 50 * r + 50 ≤ k))) : q_nru S r u fr cs f k = S f k := by
  unfold q_nru
  rw [if_neg (by omega), if_neg (by omega), if_neg (by omega), if_neg (by omega)]
theorem nr_26 {S : Nat → Nat → Int32} {r : Nat} {u fr : Int32} {cs : List Int32} : q_nru S r u fr cs 26 r = u ∧ q_nru S r u fr cs 27 r = fr ∧ q_nru S r u fr cs 28 r = nI cs.length := by
  unfold q_nru
  refine ⟨?_, ?_, ?_⟩
  · rw [if_pos ⟨rfl, rfl⟩]
  · rw [if_neg (by omega), if_pos ⟨rfl, rfl⟩]
  · rw [if_neg (by omega), if_neg (by omega), if_pos ⟨rfl, rfl⟩]
theorem nr_29 {S : Nat → Nat → Int32} {r : Nat} {u fr : Int32} {cs : List Int32} {i : Nat} (hi : i < 50) : q_nru S r u fr cs 29 (50 * r + i) = cs.getD i 0 := by
  unfold q_nru
  rw [if_neg (by omega), if_neg (by omega), if_neg (by omega), if_pos ⟨rfl, by omega, by omega⟩, show 50 * r + i - 50 * r = i by omega]
def q_nrN (N : Nat → Nat) : Nat → Nat := q_nu (q_nu N 6 (N 6 + 1)) 8 0
theorem nrN_6 (N : Nat → Nat) : q_nrN N 6 = N 6 + 1 := by unfold q_nrN; rw [q_nu_ne (by decide), q_nu_eq]
theorem nrN_8 (N : Nat → Nat) : q_nrN N 8 = 0 := by unfold q_nrN; rw [q_nu_eq]
theorem nrN_ne (N : Nat → Nat) {j : Nat} (h : j ≠ 6) (h2 : j ≠ 8) : q_nrN N j = N j := by unfold q_nrN; rw [q_nu_ne h2, q_nu_ne h]
theorem ok_nr {S : Nat → Nat → Int32} {N : Nat → Nat} {u fr : Int32} {cs : List Int32} (hk : q_ok S N) (hlen : cs.length ≤ 50) (hrk : q_rk cs) : q_ok (q_nru S (N 6) u fr cs) (q_nrN N) := by
  refine ⟨⟨?_, ?_, ?_, ?_, ?_, ?_, ?_⟩, ?_⟩
  · intro i hi
    rw [nrN_ne _ (by decide) (by decide)] at hi
    rw [nr_ne (by omega)]; exact hk.1.1 i hi
  · intro i hi
    rw [nrN_ne _ (by decide) (by decide)] at hi
    rw [nr_ne (by omega)]; exact hk.1.2.1 i hi
  · intro i hi
    rw [nrN_ne _ (by decide) (by decide)] at hi
    rw [nr_ne (by omega)]; exact hk.1.2.2.1 i hi
  · intro i hi
    rw [nrN_ne _ (by decide) (by decide)] at hi
    rw [nr_ne (by omega)]; exact hk.1.2.2.2.1 i hi
  · intro i hi
    rw [nrN_ne _ (by decide) (by decide)] at hi
    rw [nr_ne (by omega)]; exact hk.1.2.2.2.2.1 i hi
  · intro i hi
    rw [nrN_ne _ (by decide) (by decide)] at hi
    exact fw_gr (hk.1.2.2.2.2.2.1 i hi) (fun f a b => nr_ne (by omega)) (by rw [nrN_ne _ (by decide) (by decide)]; omega) (by rw [nrN_ne _ (by decide) (by decide)]; omega) (fun j _ => nr_ne (by omega))
  · rw [nr_ne (by omega)]; exact hk.1.2.2.2.2.2.2
  · intro r hr
    rw [nrN_6] at hr
    by_cases q : r = N 6
    · subst q
      have e28 : q_nru S (N 6) u fr cs 28 (N 6) = nI cs.length := nr_26.2.2
      have ec : q_cl2 (nI cs.length) = cs.length := nI_clamp (by omega)
      have ecs : q_cs (q_nru S (N 6) u fr cs) (N 6) = cs := by
        unfold q_cs
        rw [e28, ec]
        apply List.ext_getElem
        · simp
        · intro i h1 h2
          simp only [List.getElem_map, List.getElem_range]
          rw [nr_29 (by omega), List.getD_eq_getElem?_getD, List.getElem?_eq_getElem h2]
          rfl
      rw [e28, ec, ecs]
      exact ⟨hlen, rfl, hrk⟩
    · obtain ⟨h1, h2, h3⟩ := hk.2 r (by omega)
      have e28 : q_nru S (N 6) u fr cs 28 r = S 28 r := nr_ne (by omega)
      have ecs : q_cs (q_nru S (N 6) u fr cs) r = q_cs S r := by
        unfold q_cs
        rw [e28]
        apply List.map_congr_left
        intro i hi
        have := List.mem_range.mp hi
        exact nr_ne (by omega)
      rw [e28, ecs]
      exact ⟨h1, h2, h3⟩
theorem repC_nr {g g2 S : Nat → Nat → Int32} {N : Nat → Nat} {u fr : Int32} {cs : List Int32} (h : repC 1 g S N) (hlen : cs.length ≤ 50) (hf : ∀ p j, 1 ≤ p → p < 23 → p ≠ 17 → p ≠ 18 → p ≠ 19 → g2 p j = g p j) (h19 : q_ti g2 19 50 1 0) (h17 : q_ti g2 17 12 53 (N 6 + 1)) (hold : ∀ r c, r < N 6 → c < 53 → g2 18 (r * 53 + c) = g 18 (r * 53 + c)) (e0 : g2 18 (N 6 * 53) = u) (e1 : g2 18 (N 6 * 53 + 1) = fr) (e2 : g2 18 (N 6 * 53 + 2) = nI cs.length) (e3 : ∀ i (hi : i < cs.length), g2 18 (N 6 * 53 + 3 + i) = cs[i]) : repC 1 g2 (q_nru S (N 6) u fr cs) (q_nrN N) := by
  refine ⟨h.1, ?_, ?_, ?_, ?_, ?_⟩
  · intro q hq
    have hh := h.2.1 q hq
    simp only [q_tbs, List.mem_cons, List.not_mem_nil, or_false] at hq
    have keep : ∀ t M W C b j : Nat, (t = 1 ∨ t = 3 ∨ t = 5 ∨ t = 7 ∨ t = 9 ∨ t = 11 ∨ t = 13) → j ≠ 6 → j ≠ 8 → (b + C ≤ 26 ∨ 30 ≤ b) → q_tr g (1 + t) M W C (N j) b S → q_tr g2 (1 + t) M W C (q_nrN N j) b (q_nru S (N 6) u fr cs) := by
      intro t M W C b j ht h6 h8 hb hh
      rw [nrN_ne _ h6 h8]
      refine ⟨ti_fr hh.1 (fun k => hf _ _ (by omega) (by omega) (by omega) (by omega) (by omega)), fun c r hc hr => ?_⟩
      rw [hf _ _ (by omega) (by omega) (by omega) (by omega) (by omega), nr_ne (by omega)]
      exact hh.2 c r hc hr
    rcases hq with rfl | rfl | rfl | rfl | rfl | rfl | rfl | rfl | rfl
    · exact keep 1 _ _ _ _ _ (by omega) (by decide) (by decide) (by decide) hh
    · exact keep 3 _ _ _ _ _ (by omega) (by decide) (by decide) (by decide) hh
    · exact keep 5 _ _ _ _ _ (by omega) (by decide) (by decide) (by decide) hh
    · exact keep 7 _ _ _ _ _ (by omega) (by decide) (by decide) (by decide) hh
    · exact keep 9 _ _ _ _ _ (by omega) (by decide) (by decide) (by decide) hh
    · exact keep 11 _ _ _ _ _ (by omega) (by decide) (by decide) (by decide) hh
    · exact keep 13 _ _ _ _ _ (by omega) (by decide) (by decide) (by decide) hh
    · refine ⟨?_, fun c r hc hr => ?_⟩
      · show q_ti g2 17 12 53 (q_nrN N 6)
        rw [nrN_6]; exact h17
      · show g2 18 (r * 53 + c) = q_nru S (N 6) u fr cs (26 + c) r
        have hr' : r < N 6 + 1 := by rw [← nrN_6]; exact hr
        have hc' : c < 3 := hc
        by_cases q : r = N 6
        · subst q
          obtain ⟨x0, x1, x2⟩ := nr_26 (S := S) (r := N 6) (u := u) (fr := fr) (cs := cs)
          rcases c with _ | _ | _ | c
          · rw [x0]; exact e0
          · rw [x1]; exact e1
          · rw [x2]; exact e2
          · omega
        · rw [hold r c (by omega) (by omega), nr_ne (by omega)]
          exact hh.2 c r hc (show r < N 6 by omega)
    · refine ⟨?_, fun c r hc hr => ?_⟩
      · show q_ti g2 19 50 1 (q_nrN N 8)
        rw [nrN_8]; exact h19
      · have : r < q_nrN N 8 := hr
        rw [nrN_8] at this; omega
  · intro r hr i hi hlt
    show g2 18 (r * 53 + 3 + i) = _
    rw [nrN_6] at hr
    by_cases q : r = N 6
    · subst q
      rw [nr_26.2.2] at hlt
      have hil : i < cs.length := (nI_ltI (by omega) (by omega)).mp hlt
      rw [e3 i hil, nr_29 hi, List.getD_eq_getElem?_getD, List.getElem?_eq_getElem hil]
      rfl
    · rw [nr_ne (by omega)] at hlt
      rw [Nat.add_assoc, hold r (3 + i) (by omega) (by omega), ← Nat.add_assoc, nr_ne (by omega)]
      exact h.2.2.1 r (by omega) i hi hlt
  · rw [hf 1 8 (by decide) (by decide) (by decide) (by decide) (by decide), nr_ne (by omega)]; exact h.2.2.2.1
  · rw [hf 1 9 (by decide) (by decide) (by decide) (by decide) (by decide), nr_ne (by omega)]; exact h.2.2.2.2.1
  · rw [hf 1 10 (by decide) (by decide) (by decide) (by decide) (by decide), nr_ne (by omega)]; exact h.2.2.2.2.2
theorem f_mps : ∀ q ∈ q_mps, (q.2.2.1 = 6 → q = (26, 126, 6, 12) ∨ q = (27, 127, 6, 12) ∨ q = (28, 128, 6, 12)) ∧ (q.2.2.1 ≠ 6 → q.1 < 26 ∨ 29 < q.1) ∧ (q.2.2.1 ≠ 6 → q.2.1 < 126 ∨ 130 < q.2.1) ∧ 100 < q.2.1 ∧ q.2.1 < 133 := by decide
theorem f_nms : ∀ j ∈ q_nms, j = 6 ∨ j = 8 ∨ (j ≠ 6 ∧ j ≠ 8) := fun j _ => by omega
theorem repM_nr {h h2 S : Nat → Nat → Int32} {N : Nat → Nat} {u fr : Int32} {cs : List Int32} (hm : repM h S N) (hN : N 6 < 12) (hlen : cs.length ≤ 50) (hf : ∀ p j, 100 ≤ p → p < 133 → ¬ (p = 100 ∧ (j = 6 ∨ j = 8)) → ¬ ((p = 126 ∨ p = 127 ∨ p = 128) ∧ j = N 6) → ¬ ((p = 129 ∨ p = 130) ∧ 50 * N 6 ≤ j) → h2 p j = h p j) (h6 : h2 100 6 = nI (N 6 + 1)) (h8 : h2 100 8 = 0) (e0 : h2 126 (N 6) = u) (e1 : h2 127 (N 6) = fr) (e2 : h2 128 (N 6) = nI cs.length) (e3 : ∀ i (hi : i < cs.length), q_cdM (h2 129 (50 * N 6 + i)) (h2 130 (50 * N 6 + i)) cs[i]) : repM h2 (q_nru S (N 6) u fr cs) (q_nrN N) := by
  refine ⟨?_, ?_, ?_, ?_, ?_, ?_, ?_, ?_⟩
  · intro q hq
    obtain ⟨f1, f2, f3, f4, f5⟩ := f_mps q hq
    obtain ⟨m1, m2⟩ := hm.1 q hq
    by_cases c6 : q.2.2.1 = 6
    · obtain ⟨x0, x1, x2⟩ := nr_26 (S := S) (r := N 6) (u := u) (fr := fr) (cs := cs)
      rcases f1 c6 with rfl | rfl | rfl
      · refine ⟨by show q_nrN N 6 ≤ 12; rw [nrN_6]; omega, fun i hi => ?_⟩
        have hi' : i < q_nrN N 6 := hi
        rw [nrN_6] at hi'
        by_cases q : i = N 6
        · subst q; exact e0.trans x0.symm
        · rw [show h2 126 i = _ from hf 126 i (by decide) (by decide) (by omega) (by omega) (by omega), nr_ne (by omega)]
          exact m2 i (show i < N 6 by omega)
      · refine ⟨by show q_nrN N 6 ≤ 12; rw [nrN_6]; omega, fun i hi => ?_⟩
        have hi' : i < q_nrN N 6 := hi
        rw [nrN_6] at hi'
        by_cases q : i = N 6
        · subst q; exact e1.trans x1.symm
        · rw [show h2 127 i = _ from hf 127 i (by decide) (by decide) (by omega) (by omega) (by omega), nr_ne (by omega)]
          exact m2 i (show i < N 6 by omega)
      · refine ⟨by show q_nrN N 6 ≤ 12; rw [nrN_6]; omega, fun i hi => ?_⟩
        have hi' : i < q_nrN N 6 := hi
        rw [nrN_6] at hi'
        by_cases q : i = N 6
        · subst q; exact e2.trans x2.symm
        · rw [show h2 128 i = _ from hf 128 i (by decide) (by decide) (by omega) (by omega) (by omega), nr_ne (by omega)]
          exact m2 i (show i < N 6 by omega)
    · by_cases c8 : q.2.2.1 = 8
      · rw [c8, nrN_8]
        exact ⟨Nat.zero_le _, fun i hi => by omega⟩
      · rw [nrN_ne _ c6 c8]
        refine ⟨m1, fun i hi => ?_⟩
        have g2 := f2 c6
        have g3 := f3 c6
        rw [hf _ _ (by omega) f5 (by omega) (by omega) (by omega), nr_ne (by omega)]
        exact m2 i hi
  · intro i hi h3
    rw [nrN_ne _ (by decide) (by decide)] at hi
    rw [nr_ne (by omega)] at h3
    rw [hf _ _ (by decide) (by decide) (by omega) (by omega) (by omega), nr_ne (by omega)]
    exact hm.2.1 i hi h3
  · intro r hr i hi hlt
    rw [nrN_6] at hr
    by_cases q : r = N 6
    · subst q
      rw [nr_26.2.2] at hlt
      have hil : i < cs.length := (nI_ltI (by omega) (by omega)).mp hlt
      rw [nr_29 hi, List.getD_eq_getElem?_getD, List.getElem?_eq_getElem hil]
      exact e3 i hil
    · rw [nr_ne (by omega)] at hlt
      rw [hf 129 _ (by decide) (by decide) (by omega) (by omega) (by omega), hf 130 _ (by decide) (by decide) (by omega) (by omega) (by omega), nr_ne (by omega)]
      exact hm.2.2.1 r (by omega) i hi hlt
  · intro j hj
    rcases f_nms j hj with rfl | rfl | ⟨a, b⟩
    · rw [nrN_6]; exact h6
    · rw [nrN_8]; exact h8
    · rw [nrN_ne _ a b, hf _ _ (by decide) (by decide) (by omega) (by omega) (by omega)]; exact hm.2.2.2.1 j hj
  · rw [hf _ _ (by decide) (by decide) (by omega) (by omega) (by omega), nr_ne (by omega)]; exact hm.2.2.2.2.1
  · rw [hf _ _ (by decide) (by decide) (by omega) (by omega) (by omega), nr_ne (by omega)]; exact hm.2.2.2.2.2.1
  · rw [hf _ _ (by decide) (by decide) (by omega) (by omega) (by omega), nr_ne (by omega)]; exact hm.2.2.2.2.2.2.1
  · intro i hi
    rw [nrN_8] at hi; omega
