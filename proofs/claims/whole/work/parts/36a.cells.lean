/-! heaps as a base and cells laid on top of it: (class or kind, places, what was put); for the constructors -/
abbrev q_cel : Type := Nat × Nat × List (Nat × Value)
def q_dv (c k : Nat) : Value := if 100 ≤ c then .int 0 else defaultValue (q_ty c k)
def q_ceV (c : q_cel) (k : Nat) : Value := match c.2.2.find? (fun q => q.1 == k) with
  | some q => q.2
  | none => q_dv c.1 k
def q_C (b : q_H) (cs : List q_cel) : q_H := (b.1 + cs.length, (fun p => if p < b.1 then b.2.1 p else match cs[p - b.1]? with
  | some c => (c.1, c.2.1)
  | none => b.2.1 p), fun p k => if p < b.1 then b.2.2 p k else match cs[p - b.1]? with
  | some c => q_ceV c k
  | none => b.2.2 p k)
theorem q_C_nil (b : q_H) : q_C b [] = b := by
  obtain ⟨n, f, v⟩ := b
  unfold q_C
  simp
theorem q_C_app (b : q_H) (xs ys : List q_cel) : q_C (q_C b xs) ys = q_C b (xs ++ ys) := by
  unfold q_C
  dsimp only
  refine Prod.ext (by simp [Nat.add_assoc]) (Prod.ext ?_ ?_)
  · funext p
    dsimp only
    by_cases h1 : p < b.1
    · rw [if_pos (show p < b.1 + xs.length by omega), if_pos h1, if_pos h1]
    · by_cases h2 : p < b.1 + xs.length
      · rw [if_pos h2, if_neg h1, if_neg h1, List.getElem?_append_left (by omega)]
      · rw [if_neg h2, if_neg h1, List.getElem?_append_right (by omega), Nat.sub_add_eq]
        cases ys[p - b.1 - xs.length]? with
        | some c => exact (if_neg h1).symm
        | none => dsimp only; rw [if_neg h1, List.getElem?_eq_none (by omega)]
  · funext p k
    dsimp only
    by_cases h1 : p < b.1
    · rw [if_pos (show p < b.1 + xs.length by omega), if_pos h1, if_pos h1]
    · by_cases h2 : p < b.1 + xs.length
      · rw [if_pos h2, if_neg h1, if_neg h1, List.getElem?_append_left (by omega)]
      · rw [if_neg h2, if_neg h1, List.getElem?_append_right (by omega), Nat.sub_add_eq]
        cases ys[p - b.1 - xs.length]? with
        | some c => exact (if_neg h1).symm
        | none => dsimp only; rw [if_neg h1, List.getElem?_eq_none (by omega)]
theorem q_C_sh {b : q_H} {cs : List q_cel} {i : Nat} {c : q_cel} (hi : cs[i]? = some c) : (q_C b cs).2.1 (b.1 + i) = (c.1, c.2.1) := by
  show (if b.1 + i < b.1 then _ else match cs[b.1 + i - b.1]? with
    | some c => (c.1, c.2.1)
    | none => b.2.1 (b.1 + i)) = _
  rw [if_neg (by omega), show b.1 + i - b.1 = i by omega, hi]
theorem q_C_rd {b : q_H} {cs : List q_cel} {i k : Nat} {c : q_cel} (hi : cs[i]? = some c) : q_rd (q_C b cs) (b.1 + i) k = q_ceV c k := by
  show (if b.1 + i < b.1 then _ else match cs[b.1 + i - b.1]? with
    | some c => q_ceV c k
    | none => b.2.2 (b.1 + i) k) = _
  rw [if_neg (by omega), show b.1 + i - b.1 = i by omega, hi]
theorem q_C_lt {b : q_H} {cs : List q_cel} {i : Nat} {c : q_cel} (hi : cs[i]? = some c) : b.1 + i < (q_C b cs).1 := by
  have : i < cs.length := (List.getElem?_eq_some_iff.mp hi).1
  show b.1 + i < b.1 + cs.length
  omega
theorem q_C_nw {b : q_H} {cs : List q_cel} {c n : Nat} {f : Nat → Value} (hf : ∀ k, f k = q_dv c k) : q_nw (q_C b cs) c n f = q_C b (cs ++ [(c, n, [])]) := by
  have e : f = q_dv c := funext hf
  subst e
  rw [← q_C_app]
  unfold q_nw
  refine Prod.ext rfl (Prod.ext ?_ ?_)
  · funext p
    show (if p = (q_C b cs).1 then (c, n) else (q_C b cs).2.1 p) = (if p < (q_C b cs).1 then (q_C b cs).2.1 p else match ([(c, n, [])] : List q_cel)[p - (q_C b cs).1]? with
      | some c => (c.1, c.2.1)
      | none => (q_C b cs).2.1 p)
    by_cases h1 : p = (q_C b cs).1
    · rw [if_pos h1, if_neg (by omega), h1, Nat.sub_self]; rfl
    · rw [if_neg h1]
      split
      · rfl
      · rw [List.getElem?_eq_none (by simp; omega)]
  · funext p k
    show (if p = (q_C b cs).1 then q_dv c k else (q_C b cs).2.2 p k) = (if p < (q_C b cs).1 then (q_C b cs).2.2 p k else match ([(c, n, [])] : List q_cel)[p - (q_C b cs).1]? with
      | some c => q_ceV c k
      | none => (q_C b cs).2.2 p k)
    by_cases h1 : p = (q_C b cs).1
    · rw [if_pos h1, if_neg (by omega), h1, Nat.sub_self]; rfl
    · rw [if_neg h1]
      split
      · rfl
      · rw [List.getElem?_eq_none (by simp; omega)]
theorem q_C_wr {b : q_H} {cs : List q_cel} {i f c n : Nat} {u : List (Nat × Value)} {v : Value} (hi : cs[i]? = some (c, n, u)) : q_wr (q_C b cs) (b.1 + i) f v = q_C b (cs.set i (c, n, (f, v) :: u)) := by
  have hl : i < cs.length := (List.getElem?_eq_some_iff.mp hi).1
  unfold q_wr
  refine Prod.ext (by show b.1 + cs.length = b.1 + (cs.set i _).length; rw [List.length_set]) (Prod.ext ?_ ?_)
  · funext p
    show (if p < b.1 then b.2.1 p else match cs[p - b.1]? with
      | some c => (c.1, c.2.1)
      | none => b.2.1 p) = (if p < b.1 then b.2.1 p else match (cs.set i (c, n, (f, v) :: u))[p - b.1]? with
      | some c => (c.1, c.2.1)
      | none => b.2.1 p)
    by_cases h1 : p < b.1
    · rw [if_pos h1, if_pos h1]
    · rw [if_neg h1, if_neg h1]
      by_cases h2 : p - b.1 = i
      · rw [h2, hi, List.getElem?_set_self hl]
      · rw [List.getElem?_set_ne (fun z => h2 z.symm)]
  · funext p k
    show (if p = b.1 + i ∧ k = f then v else (if p < b.1 then b.2.2 p k else match cs[p - b.1]? with
      | some c => q_ceV c k
      | none => b.2.2 p k)) = (if p < b.1 then b.2.2 p k else match (cs.set i (c, n, (f, v) :: u))[p - b.1]? with
      | some c => q_ceV c k
      | none => b.2.2 p k)
    by_cases h1 : p < b.1
    · rw [if_pos h1, if_pos h1, if_neg (by omega)]
    · rw [if_neg h1, if_neg h1]
      by_cases h2 : p - b.1 = i
      · rw [h2, hi, List.getElem?_set_self hl]
        dsimp only
        by_cases h3 : k = f
        · rw [if_pos ⟨by omega, h3⟩]
          unfold q_ceV
          rw [List.find?_cons_of_pos (by simp [h3])]
        · rw [if_neg (fun z => h3 z.2)]
          unfold q_ceV
          rw [List.find?_cons_of_neg (by simp; omega)]
      · rw [List.getElem?_set_ne (fun z => h2 z.symm), if_neg (by omega)]
theorem q_C_w0 {b : q_H} {cs : List q_cel} {i f n : Nat} (hi : cs[i]? = some (100, n, [])) : q_wr (q_C b cs) (b.1 + i) f (.int 0) = q_C b cs := by
  unfold q_wr
  refine Prod.ext rfl (Prod.ext rfl ?_)
  funext p k
  show (if p = b.1 + i ∧ k = f then Value.int 0 else (q_C b cs).2.2 p k) = (q_C b cs).2.2 p k
  split
  · rename_i h
    obtain ⟨rfl, rfl⟩ := h
    exact (q_C_rd (b := b) (k := k) hi).symm
  · rfl
section QCS
variable {d : Nat} {Y : q_MI} {pc : Nat} {ls st : List Value} {b : q_H} {x : Nat}
theorem C_new {c p : Nat} {cs cs2 : List q_cel} (hd : decode Y.2.2.1 pc = .ok (.new x, 3)) (hf : q_f2 q_newT Y.1 x = some c) (hc : c < 100) (hb : b.1 ≤ 1000) (hl : cs.length ≤ 1000) (hp : b.1 + cs.length = p) (hcs : cs ++ [(c, (q_clD c).2.2, [])] = cs2) : q_sem d Y pc ls st (q_C b cs) = q_sem d Y (pc + 3) ls (.ref p :: st) (q_C b cs2) := by
  subst hcs; subst hp
  refine q_s5E hd rfl rfl rfl rfl rfl rfl ?_
  unfold q_s5
  dsimp only
  rw [if_pos rfl, hf]
  dsimp only
  rw [if_pos (show (q_C b cs).1 + 1 < q_M from (by omega : b.1 + cs.length + 1 < 1000000)), q_C_nw (fun k => by unfold q_dv; rw [if_neg (by omega)])]
  rfl
theorem C_arr {n : Int32} {m p : Nat} {cs cs2 : List q_cel} (hd : decode Y.2.2.1 pc = .ok (.newarray .int, 2)) (hn : ¬ n < 0 ∧ n.toNatClampNeg = m ∧ m ≤ 100000) (hb : b.1 ≤ 1000) (hl : cs.length ≤ 1000) (hp : b.1 + cs.length = p) (hcs : cs ++ [(100, m, [])] = cs2) : q_sem d Y pc ls (.int n :: st) (q_C b cs) = q_sem d Y (pc + 2) ls (.ref p :: st) (q_C b cs2) := by
  obtain ⟨h1, h2, h3⟩ := hn
  subst hcs; subst hp; subst h2
  refine q_s5E hd rfl rfl rfl rfl rfl rfl ?_
  unfold q_s5
  dsimp only
  rw [if_pos rfl, if_pos ⟨show (q_C b cs).1 + 1 < q_M from (by omega : b.1 + cs.length + 1 < 1000000), h1, h3⟩, q_C_nw (f := fun _ => Value.int 0) (fun k => rfl)]
  rfl
theorem C_boo {n : Int32} {m p : Nat} {cs cs2 : List q_cel} (hd : decode Y.2.2.1 pc = .ok (.newarray .boolean, 2)) (hn : ¬ n < 0 ∧ n.toNatClampNeg = m ∧ m ≤ 100000) (hb : b.1 ≤ 1000) (hl : cs.length ≤ 1000) (hp : b.1 + cs.length = p) (hcs : cs ++ [(101, m, [])] = cs2) : q_sem d Y pc ls (.int n :: st) (q_C b cs) = q_sem d Y (pc + 2) ls (.ref p :: st) (q_C b cs2) := by
  obtain ⟨h1, h2, h3⟩ := hn
  subst hcs; subst hp; subst h2
  refine q_s5E hd rfl rfl rfl rfl rfl rfl ?_
  unfold q_s5
  dsimp only
  rw [if_pos rfl, if_pos ⟨show (q_C b cs).1 + 1 < q_M from (by omega : b.1 + cs.length + 1 < 1000000), h1, h3⟩, q_C_nw (f := fun _ => Value.int 0) (fun k => rfl)]
  rfl
theorem C_put {c n f i : Nat} {u : List (Nat × Value)} {v : Value} {cs cs2 : List q_cel} (hd : decode Y.2.2.1 pc = .ok (.putfield x, 3)) (hf : q_f2 q_fldT Y.1 x = some (c, f)) (hi : cs[i]? = some (c, n, u)) (hl : f < n) (hn : narrow (q_ty c f) v = v) (hfit : fits (q_ty c f) v = true) (hfin : ((q_clD c).2.1 f).2.2.2 = false ∨ (Y.2.1.name = "<init>" ∧ q_oc Y.1 = c)) (hcs : cs.set i (c, n, (f, v) :: u) = cs2) : q_sem d Y pc ls (v :: .ref (b.1 + i) :: st) (q_C b cs) = q_sem d Y (pc + 3) ls st (q_C b cs2) := by
  subst hcs
  rw [← q_C_wr hi]
  have hs := q_C_sh (b := b) hi
  refine q_s5E hd rfl rfl rfl rfl rfl rfl ?_
  unfold q_s5
  dsimp only
  rw [if_pos rfl, hf]
  dsimp only
  rw [if_pos ⟨⟨q_C_lt hi, by unfold q_kd; rw [hs], by unfold q_ln; rw [hs]; exact hl⟩, hn, hfit, hfin⟩]
theorem C_get {c n f i : Nat} {u : List (Nat × Value)} {v : Value} {cs : List q_cel} (hd : decode Y.2.2.1 pc = .ok (.getfield x, 3)) (hf : q_f2 q_fldT Y.1 x = some (c, f)) (hs : q_f2 q_sfT Y.1 x = none) (hi : cs[i]? = some (c, n, u)) (hl : f < n) (hv : q_ceV (c, n, u) f = v) : q_sem d Y pc ls (.ref (b.1 + i) :: st) (q_C b cs) = q_sem d Y (pc + 3) ls (v :: st) (q_C b cs) := by
  subst hv
  have h2 := q_C_sh (b := b) hi
  refine q_s5E hd rfl rfl rfl rfl rfl (by unfold q_s4; dsimp only; rw [if_pos rfl, hs]) ?_
  unfold q_s5
  dsimp only
  rw [if_pos rfl, hf]
  dsimp only
  rw [if_pos ⟨q_C_lt hi, by unfold q_kd; rw [h2], by unfold q_ln; rw [h2]; exact hl⟩, q_C_rd hi]
theorem C_ast {n i : Nat} {u : List (Nat × Value)} {j v : Int32} {cs cs2 : List q_cel} (hd : decode Y.2.2.1 pc = .ok (.iastore, 1)) (hi : cs[i]? = some (100, n, u)) (hj : ¬ (j < 0 ∨ n ≤ j.toNatClampNeg)) (hcs : cs.set i (100, n, (j.toNatClampNeg, .int v) :: u) = cs2) : q_sem d Y pc ls (.int v :: .int j :: .ref (b.1 + i) :: st) (q_C b cs) = q_sem d Y (pc + 1) ls st (q_C b cs2) := by
  subst hcs
  rw [← q_C_wr hi]
  have hs := q_C_sh (b := b) hi
  refine q_s5E hd rfl rfl rfl rfl rfl rfl ?_
  unfold q_s5
  dsimp only
  rw [if_pos rfl, if_pos ⟨by unfold q_ln; rw [hs]; exact hj, q_C_lt hi, by unfold q_kd; rw [hs]⟩]
theorem C_as0 {n i : Nat} {j : Int32} {cs : List q_cel} (hd : decode Y.2.2.1 pc = .ok (.iastore, 1)) (hi : cs[i]? = some (100, n, [])) (hj : ¬ (j < 0 ∨ n ≤ j.toNatClampNeg)) : q_sem d Y pc ls (.int 0 :: .int j :: .ref (b.1 + i) :: st) (q_C b cs) = q_sem d Y (pc + 1) ls st (q_C b cs) := by
  have e := q_C_w0 (b := b) (f := j.toNatClampNeg) hi
  have hs := q_C_sh (b := b) hi
  refine (q_s5E (h2 := q_wr (q_C b cs) (b.1 + i) j.toNatClampNeg (.int 0)) hd rfl rfl rfl rfl rfl rfl ?_).trans (by rw [e])
  unfold q_s5
  dsimp only
  rw [if_pos rfl, if_pos ⟨by unfold q_ln; rw [hs]; exact hj, q_C_lt hi, by unfold q_kd; rw [hs]⟩]
theorem C_obj {p : Nat} {h : q_H} (hd : decode Y.2.2.1 pc = .ok (.invokespecial x, 3)) (h2 : q_f2 q_mT2 Y.1 x = none) (h4 : q_f2 q_mT4 Y.1 x = none) (ho : (Y.1, x) ∈ q_oT) (hr : q_ns st ≤ 8) : q_sem d Y pc ls (.ref p :: st) h = q_sem d Y (pc + 3) ls st h :=
  q_s4E hd rfl (by unfold q_kall; dsimp only; rw [if_pos rfl, h2, h4]; rfl) rfl rfl rfl (by unfold q_s4; dsimp only; rw [if_pos rfl, if_pos ⟨ho, hr⟩])
theorem C_kV {n j i : Nat} {vs rest : List Value} {t : Option (Nat × Nat)} {cs : List q_cel} {c m : Nat} {u : List (Nat × Value)} (hf : t = some (n, j)) {Z : q_MI} (hZ : q_mi j = Z) (hst : st = vs.reverse ++ .ref (b.1 + i) :: rest) (hn : vs.length = n) (hi : cs[i]? = some (c, m, u)) (hc : c = q_oc Z.1) (hr : q_ns rest ≤ 8) : q_kV t st (q_C b cs) = some (Z, .ref (b.1 + i) :: vs, rest) := by
  subst hf
  have e1 : st.drop n = .ref (b.1 + i) :: rest := by rw [hst, ← hn, ← List.length_reverse]; exact List.drop_left
  have e2 : st.take n = vs.reverse := by rw [hst, ← hn, ← List.length_reverse]; exact List.take_left
  have hs := q_C_sh (b := b) hi
  unfold q_kV
  dsimp only
  rw [e1]
  dsimp only
  rw [hZ, if_pos ⟨q_C_lt hi, by unfold q_kd; rw [hs]; exact hc, hr⟩, e2, List.reverse_reverse]
theorem C_ini {n j i : Nat} {vs rest : List Value} {cs cs2 : List q_cel} {c m : Nat} {u : List (Nat × Value)} (hd : decode Y.2.2.1 pc = .ok (.invokespecial x, 3)) (hf : q_f2 q_mT2 Y.1 x = some (n, j)) {Z : q_MI} (hZ : q_mi j = Z) (hst : st = vs.reverse ++ .ref (b.1 + i) :: rest) (hn : vs.length = n) (hi : cs[i]? = some (c, m, u)) (hc : c = q_oc Z.1) (hr : q_ns rest ≤ 8) {la : List Value} (hla : q_en Z.2.2.2.1 (.ref (b.1 + i) :: vs) = la) (hl : (q_sl (.ref (b.1 + i) :: vs)).length ≤ Z.2.2.2.1) (hcc : q_sem d Z 0 la [] (q_C b cs) = some (none, q_C b cs2)) : q_sem (d + 1) Y pc ls st (q_C b cs) = q_sem (d + 1) Y (pc + 3) ls rest (q_C b cs2) := by
  subst hla
  refine q_calE hd rfl ?_ hl hcc
  unfold q_kall
  dsimp only
  rw [if_pos rfl, C_kV hf hZ hst hn hi hc hr]
theorem C_inN {n j i : Nat} {vs rest : List Value} {cs cs2 : List q_cel} {c m : Nat} {u : List (Nat × Value)} (hd : decode Y.2.2.1 pc = .ok (.invokespecial x, 3)) (h2 : q_f2 q_mT2 Y.1 x = none) (hf : q_f2 q_mT4 Y.1 x = some (n, j)) {Z : q_MI} (hZ : q_mi j = Z) (hst : st = vs.reverse ++ .ref (b.1 + i) :: rest) (hn : vs.length = n) (hi : cs[i]? = some (c, m, u)) (hc : c = q_oc Z.1) (hr : q_ns rest ≤ 8) {la : List Value} (hla : q_en Z.2.2.2.1 (.ref (b.1 + i) :: vs) = la) (hl : (q_sl (.ref (b.1 + i) :: vs)).length ≤ Z.2.2.2.1) (hcc : q_sem d Z 0 la [] (q_C b cs) = some (none, q_C b cs2)) : q_sem (d + 1) Y pc ls st (q_C b cs) = q_sem (d + 1) Y (pc + 3) ls rest (q_C b cs2) := by
  subst hla
  refine q_calE hd rfl ?_ hl hcc
  unfold q_kall
  dsimp only
  rw [if_pos rfl, h2, C_kV hf hZ hst hn hi hc hr]
  rfl
theorem C_vir {n j i : Nat} {vs rest : List Value} {cs cs2 : List q_cel} {c m : Nat} {u : List (Nat × Value)} {r : Option Value} (hd : decode Y.2.2.1 pc = .ok (.invokevirtual x, 3)) (hf : q_f2 q_mT1 Y.1 x = some (n, j)) {Z : q_MI} (hZ : q_mi j = Z) (hst : st = vs.reverse ++ .ref (b.1 + i) :: rest) (hn : vs.length = n) (hi : cs[i]? = some (c, m, u)) (hc : c = q_oc Z.1) (hr : q_ns rest ≤ 8) {la : List Value} (hla : q_en Z.2.2.2.1 (.ref (b.1 + i) :: vs) = la) (hl : (q_sl (.ref (b.1 + i) :: vs)).length ≤ Z.2.2.2.1) (hcc : q_sem d Z 0 la [] (q_C b cs) = some (r, q_C b cs2)) : q_sem (d + 1) Y pc ls st (q_C b cs) = q_sem (d + 1) Y (pc + 3) ls (r.toList ++ rest) (q_C b cs2) := by
  subst hla
  refine q_calE hd rfl ?_ hl hcc
  unfold q_kall
  dsimp only
  rw [if_pos rfl, C_kV hf hZ hst hn hi hc hr]
end QCS
