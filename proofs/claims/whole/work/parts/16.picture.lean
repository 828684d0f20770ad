/-! the heap behind the two constructors: 151 places; what is a reference there never changes -/
def q_shp : List (Nat × Nat) := [(9, 11), (8, 11), (5, 4), (100, 18), (5, 4), (100, 16), (5, 4), (100, 72), (5, 4), (100, 5), (5, 4), (100, 24), (5, 4), (100, 192), (5, 4), (100, 20), (3, 4), (5, 4), (100, 636), (5, 4), (100, 50), (100, 4), (100, 50), (8, 11), (5, 4), (100, 18), (5, 4), (100, 16), (5, 4), (100, 72), (5, 4), (100, 5), (5, 4), (100, 24), (5, 4), (100, 192), (5, 4), (100, 20), (3, 4), (5, 4), (100, 636), (5, 4), (100, 50), (100, 4), (100, 50), (8, 11), (5, 4), (100, 18), (5, 4), (100, 16), (5, 4), (100, 72), (5, 4), (100, 5), (5, 4), (100, 24), (5, 4), (100, 192), (5, 4), (100, 20), (3, 4), (5, 4), (100, 636), (5, 4), (100, 50), (100, 4), (100, 50), (6, 5), (100, 50), (4, 1), (5, 4), (100, 104), (1, 9), (5, 4), (100, 9), (5, 4), (100, 9), (5, 4), (100, 81), (5, 4), (100, 9), (5, 4), (100, 10), (100, 5120), (2, 3), (5, 4), (100, 10), (5, 4), (100, 10), (5, 4), (100, 77), (0, 3), (5, 4), (100, 8), (7, 4), (5, 4), (100, 40), (100, 6), (10, 71), (100, 6), (100, 12), (100, 6), (100, 6), (100, 6), (100, 8), (100, 8), (100, 24), (100, 24), (100, 24), (100, 5), (100, 6), (100, 6), (100, 6), (100, 6), (100, 16), (100, 16), (100, 16), (100, 16), (100, 16), (100, 16), (100, 16), (100, 16), (100, 16), (100, 16), (100, 16), (100, 16), (100, 12), (100, 12), (100, 12), (100, 600), (100, 600), (100, 50), (100, 20), (100, 2000), (100, 2000), (100, 4), (100, 4), (100, 96), (100, 9), (100, 9), (100, 9), (100, 50), (100, 6), (100, 6), (100, 6), (100, 6), (100, 36), (100, 10), (101, 40960), (100, 40), (100, 24)]
def q_rfT : List (List (Option Nat)) := [[some 1, some 23, some 45, some 67, some 69, some 72, some 84, some 91, some 94, some 97], [some 2, some 4, some 6, some 8, some 10, some 12, some 14, some 16], [none, none, some 3], [], [none, none, some 5], [], [none, none, some 7], [], [none, none, some 9], [], [none, none, some 11], [], [none, none, some 13], [], [none, none, some 15], [], [some 17, some 19, some 21, some 22], [none, none, some 18], [], [none, none, some 20], [], [], [], [some 24, some 26, some 28, some 30, some 32, some 34, some 36, some 38], [none, none, some 25], [], [none, none, some 27], [], [none, none, some 29], [], [none, none, some 31], [], [none, none, some 33], [], [none, none, some 35], [], [none, none, some 37], [], [some 39, some 41, some 43, some 44], [none, none, some 40], [], [none, none, some 42], [], [], [], [some 46, some 48, some 50, some 52, some 54, some 56, some 58, some 60], [none, none, some 47], [], [none, none, some 49], [], [none, none, some 51], [], [none, none, some 53], [], [none, none, some 55], [], [none, none, some 57], [], [none, none, some 59], [], [some 61, some 63, some 65, some 66], [none, none, some 62], [], [none, none, some 64], [], [], [], [some 19, some 68], [], [some 70], [none, none, some 71], [], [some 73, some 75, some 77, some 79, some 81, some 83], [none, none, some 74], [], [none, none, some 76], [], [none, none, some 78], [], [none, none, some 80], [], [none, none, some 82], [], [], [some 85, some 87, some 89], [none, none, some 86], [], [none, none, some 88], [], [none, none, some 90], [], [some 92], [none, none, some 93], [], [some 95], [none, none, some 96], [], [], [some 99, some 100, some 101, some 102, some 103, some 104, some 105, some 106, some 107, some 108, some 109, some 110, some 111, some 112, some 113, some 114, some 115, some 116, some 117, some 118, some 119, some 120, some 121, some 122, some 123, some 124, some 125, some 126, some 127, some 128, some 129, some 130, some 131, some 132, some 133, some 134, none, none, none, some 135, some 136, some 137, some 138, some 139, some 140, none, none, none, none, none, none, none, none, some 141, some 142, some 143, some 144, some 145, some 146, none, none, none, none, none, none, some 147, some 148, some 149, none, none, some 150], [], [], [], [], [], [], [], [], [], [], [], [], [], [], [], [], [], [], [], [], [], [], [], [], [], [], [], [], [], [], [], [], [], [], [], [], [], [], [], [], [], [], [], [], [], [], [], [], [], [], [], []]
def q_sh (p : Nat) : Nat × Nat := q_shp.getD p (0, 0)
def q_ref (p k : Nat) : Option Nat := (q_rfT.getD p []).getD k none
def q_K (o : q_H) (g : Nat → Nat → Int32) : q_H := (151, (fun p => if p < 151 then q_sh p else o.2.1 p), fun p k => if p < 151 then (match q_ref p k with
  | some q => .ref q
  | none => .int (g p k)) else o.2.2 p k)
/-- a whole number put -/
def q_up (g : Nat → Nat → Int32) (p k : Nat) (x : Int32) : Nat → Nat → Int32 := fun q j => if q = p ∧ j = k then x else g q j
theorem q_K_kd {o : q_H} {g : Nat → Nat → Int32} {p : Nat} (hp : p < 151) : q_kd (q_K o g) p = (q_sh p).1 := by show (if p < 151 then q_sh p else o.2.1 p).1 = _; rw [if_pos hp]
theorem q_K_ln {o : q_H} {g : Nat → Nat → Int32} {p : Nat} (hp : p < 151) : q_ln (q_K o g) p = (q_sh p).2 := by show (if p < 151 then q_sh p else o.2.1 p).2 = _; rw [if_pos hp]
theorem q_K_ri {o : q_H} {g : Nat → Nat → Int32} {p k : Nat} (hp : p < 151) (hr : q_ref p k = none) : q_rd (q_K o g) p k = .int (g p k) := by
  show (if p < 151 then (match q_ref p k with
    | some q => Value.ref q
    | none => .int (g p k)) else o.2.2 p k) = _
  rw [if_pos hp, hr]
theorem q_K_rr {o : q_H} {g : Nat → Nat → Int32} {p k q : Nat} (hp : p < 151) (hr : q_ref p k = some q) : q_rd (q_K o g) p k = .ref q := by
  show (if p < 151 then (match q_ref p k with
    | some q => Value.ref q
    | none => .int (g p k)) else o.2.2 p k) = _
  rw [if_pos hp, hr]
theorem q_K_wr {o : q_H} {g : Nat → Nat → Int32} {p k : Nat} {x : Int32} (hp : p < 151) (hr : q_ref p k = none) : q_wr (q_K o g) p k (.int x) = q_K o (q_up g p k x) := by
  unfold q_wr
  refine congrArg (fun f => ((151, (fun p => if p < 151 then q_sh p else o.2.1 p), f) : q_H)) ?_
  funext q j
  show (if q = p ∧ j = k then Value.int x else (if q < 151 then (match q_ref q j with
    | some r => Value.ref r
    | none => .int (g q j)) else o.2.2 q j)) = (if q < 151 then (match q_ref q j with
    | some r => Value.ref r
    | none => .int (if q = p ∧ j = k then x else g q j)) else o.2.2 q j)
  by_cases hc : q = p ∧ j = k
  · obtain ⟨rfl, rfl⟩ := hc
    rw [if_pos ⟨rfl, rfl⟩, if_pos hp, hr]
    simp
  · rw [if_neg hc]
    simp only [if_neg hc]
/-- an object of class c -/
def q_is (p c : Nat) : Prop := p < 151 ∧ q_sh p = (c, (q_clD c).2.2)
/-- a row of n whole numbers -/
def q_ar (p n : Nat) : Prop := p < 151 ∧ q_sh p = (100, n) ∧ q_rfT.getD p [] = []
theorem q_ar_ref {p n k : Nat} (h : q_ar p n) : q_ref p k = none := by unfold q_ref; rw [h.2.2]; rfl
section QKS
variable {d : Nat} {Y : q_MI} {pc : Nat} {ls st : List Value} {o : q_H} {g : Nat → Nat → Int32} {x : Nat} {p : Nat}
theorem q_s5E {i : Instr} {k pc2 : Nat} {st2 : List Value} {h h2 : q_H} (hd : decode Y.2.2.1 pc = .ok (i, k)) (hr : q_ret Y i k st = none) (hk : q_kall Y i k st h = none) (h1 : q_s1 i k pc ls st = none) (h2e : q_s2 i k pc st = none) (h3 : q_s3 i k pc st = none) (h4 : q_s4 Y i k pc st = none) (h5 : q_s5 Y i k pc st h = some (pc2, st2, h2)) : q_sem d Y pc ls st h = q_sem d Y pc2 ls st2 h2 :=
  q_stpE hd hr hk (by unfold q_stp; rw [h1]; dsimp only; rw [h2e]; dsimp only; rw [h3]; dsimp only; rw [h4]; dsimp only; rw [h5])
theorem q_s4E {i : Instr} {k pc2 : Nat} {st2 : List Value} {h : q_H} (hd : decode Y.2.2.1 pc = .ok (i, k)) (hr : q_ret Y i k st = none) (hk : q_kall Y i k st h = none) (h1 : q_s1 i k pc ls st = none) (h2e : q_s2 i k pc st = none) (h3 : q_s3 i k pc st = none) (h4 : q_s4 Y i k pc st = some (pc2, st2)) : q_sem d Y pc ls st h = q_sem d Y pc2 ls st2 h :=
  q_stpE hd hr hk (by unfold q_stp; rw [h1]; dsimp only; rw [h2e]; dsimp only; rw [h3]; dsimp only; rw [h4])
theorem k_geti {c f : Nat} (hd : decode Y.2.2.1 pc = .ok (.getfield x, 3)) (hf : q_f2 q_fldT Y.1 x = some (c, f)) (hs : q_f2 q_sfT Y.1 x = none) (hp : q_is p c) (hl : f < (q_clD c).2.2) (hr : q_ref p f = none) : q_sem d Y pc ls (.ref p :: st) (q_K o g) = q_sem d Y (pc + 3) ls (.int (g p f) :: st) (q_K o g) := by
  refine q_s5E hd rfl rfl rfl rfl rfl (by unfold q_s4; dsimp only; rw [if_pos rfl, hs]) ?_
  unfold q_s5
  dsimp only
  rw [if_pos rfl, hf]
  dsimp only
  rw [if_pos ⟨hp.1, by rw [q_K_kd hp.1, hp.2], by rw [q_K_ln hp.1, hp.2]; exact hl⟩, q_K_ri hp.1 hr]
theorem k_getr {c f q : Nat} (hd : decode Y.2.2.1 pc = .ok (.getfield x, 3)) (hf : q_f2 q_fldT Y.1 x = some (c, f)) (hs : q_f2 q_sfT Y.1 x = none) (hp : q_is p c) (hl : f < (q_clD c).2.2) (hr : q_ref p f = some q) : q_sem d Y pc ls (.ref p :: st) (q_K o g) = q_sem d Y (pc + 3) ls (.ref q :: st) (q_K o g) := by
  refine q_s5E hd rfl rfl rfl rfl rfl (by unfold q_s4; dsimp only; rw [if_pos rfl, hs]) ?_
  unfold q_s5
  dsimp only
  rw [if_pos rfl, hf]
  dsimp only
  rw [if_pos ⟨hp.1, by rw [q_K_kd hp.1, hp.2], by rw [q_K_ln hp.1, hp.2]; exact hl⟩, q_K_rr hp.1 hr]
theorem k_puti {c f : Nat} {v : Int32} (hd : decode Y.2.2.1 pc = .ok (.putfield x, 3)) (hf : q_f2 q_fldT Y.1 x = some (c, f)) (hp : q_is p c) (hl : f < (q_clD c).2.2) (hr : q_ref p f = none) (hn : narrow (q_ty c f) (.int v) = .int v) (hfit : fits (q_ty c f) (.int v) = true) (hfin : ((q_clD c).2.1 f).2.2.2 = false) : q_sem d Y pc ls (.int v :: .ref p :: st) (q_K o g) = q_sem d Y (pc + 3) ls st (q_K o (q_up g p f v)) := by
  rw [← q_K_wr hp.1 hr]
  refine q_s5E hd rfl rfl rfl rfl rfl rfl ?_
  unfold q_s5
  dsimp only
  rw [if_pos rfl, hf]
  dsimp only
  rw [if_pos ⟨⟨hp.1, by rw [q_K_kd hp.1, hp.2], by rw [q_K_ln hp.1, hp.2]; exact hl⟩, hn, hfit, Or.inl hfin⟩]
theorem k_iald {n : Nat} {i : Int32} (hd : decode Y.2.2.1 pc = .ok (.iaload, 1)) (hp : q_ar p n) (hi : vp_in i n) : q_sem d Y pc ls (.int i :: .ref p :: st) (q_K o g) = q_sem d Y (pc + 1) ls (.int (g p i.toNatClampNeg) :: st) (q_K o g) := by
  refine q_s5E hd rfl rfl rfl rfl rfl rfl ?_
  unfold q_s5
  dsimp only
  rw [if_pos rfl, if_pos ⟨by rw [q_K_ln hp.1, hp.2.1]; exact hi, Or.inl ⟨hp.1, by rw [q_K_kd hp.1, hp.2.1]⟩⟩, q_K_ri hp.1 (q_ar_ref hp)]
theorem k_iast {n : Nat} {i v : Int32} (hd : decode Y.2.2.1 pc = .ok (.iastore, 1)) (hp : q_ar p n) (hi : vp_in i n) : q_sem d Y pc ls (.int v :: .int i :: .ref p :: st) (q_K o g) = q_sem d Y (pc + 1) ls st (q_K o (q_up g p i.toNatClampNeg v)) := by
  rw [← q_K_wr hp.1 (q_ar_ref hp)]
  refine q_s5E hd rfl rfl rfl rfl rfl rfl ?_
  unfold q_s5
  dsimp only
  rw [if_pos rfl, if_pos ⟨by rw [q_K_ln hp.1, hp.2.1]; exact hi, hp.1, by rw [q_K_kd hp.1, hp.2.1]⟩]
theorem k_alen {n : Nat} (hd : decode Y.2.2.1 pc = .ok (.arraylength, 1)) (hp : q_ar p n) : q_sem d Y pc ls (.ref p :: st) (q_K o g) = q_sem d Y (pc + 1) ls (.int (Int32.ofNat n) :: st) (q_K o g) := by
  refine q_s5E hd rfl rfl rfl rfl rfl rfl ?_
  unfold q_s5
  dsimp only
  rw [if_pos rfl, if_pos (Or.inl ⟨hp.1, Or.inl (by rw [q_K_kd hp.1, hp.2.1])⟩), q_K_ln hp.1, hp.2.1]
theorem k_ldc {v : Int32} {h : q_H} (hd : decode Y.2.2.1 pc = .ok (.ldc x, 2)) (hf : q_f2 q_cstT Y.1 x = some v) : q_sem d Y pc ls st h = q_sem d Y (pc + 2) ls (.int v :: st) h :=
  q_s4E hd rfl rfl rfl rfl (by unfold q_s3; rfl) (by unfold q_s4; dsimp only; rw [if_pos rfl, hf])
theorem k_ldcw {v : Int32} {h : q_H} (hd : decode Y.2.2.1 pc = .ok (.ldc_w x, 3)) (hf : q_f2 q_cstT Y.1 x = some v) : q_sem d Y pc ls st h = q_sem d Y (pc + 3) ls (.int v :: st) h :=
  q_s4E hd rfl rfl rfl rfl (by unfold q_s3; rfl) (by unfold q_s4; dsimp only; rw [if_pos rfl, hf]; rfl)
theorem k_max {a b : Int32} {h : q_H} (hd : decode Y.2.2.1 pc = .ok (.invokestatic x, 3)) (h0 : q_f2 q_mT0 Y.1 x = none) (h3 : q_f2 q_mT3 Y.1 x = none) (ha : (Y.1, x) ∉ q_aT) (hm : (Y.1, x) ∈ q_xT) (hl : q_ns st ≤ 8) : q_sem d Y pc ls (.int b :: .int a :: st) h = q_sem d Y (pc + 3) ls (.int (if a < b then b else a) :: st) h :=
  q_s4E hd rfl (by unfold q_kall; dsimp only; rw [if_pos rfl, h0, h3]; rfl) rfl rfl (by unfold q_s3; rfl) (by unfold q_s4; dsimp only; rw [if_pos rfl, if_neg ha, if_pos hl, if_pos hm])
theorem k_min {a b : Int32} {h : q_H} (hd : decode Y.2.2.1 pc = .ok (.invokestatic x, 3)) (h0 : q_f2 q_mT0 Y.1 x = none) (h3 : q_f2 q_mT3 Y.1 x = none) (ha : (Y.1, x) ∉ q_aT) (hm : (Y.1, x) ∉ q_xT) (hm2 : (Y.1, x) ∈ q_nT) (hl : q_ns st ≤ 8) : q_sem d Y pc ls (.int b :: .int a :: st) h = q_sem d Y (pc + 3) ls (.int (if b < a then b else a) :: st) h :=
  q_s4E hd rfl (by unfold q_kall; dsimp only; rw [if_pos rfl, h0, h3]; rfl) rfl rfl (by unfold q_s3; rfl) (by unfold q_s4; dsimp only; rw [if_pos rfl, if_neg ha, if_pos hl, if_neg hm, if_pos hm2])
theorem k_abs {b : Int32} {h : q_H} (hd : decode Y.2.2.1 pc = .ok (.invokestatic x, 3)) (h0 : q_f2 q_mT0 Y.1 x = none) (h3 : q_f2 q_mT3 Y.1 x = none) (ha : (Y.1, x) ∈ q_aT) (hl : q_ns st ≤ 8) : q_sem d Y pc ls (.int b :: st) h = q_sem d Y (pc + 3) ls (.int (if 0 ≤ b then b else 0 - b) :: st) h :=
  q_s4E hd rfl (by unfold q_kall; dsimp only; rw [if_pos rfl, h0, h3]; rfl) rfl rfl (by unfold q_s3; rfl) (by unfold q_s4; dsimp only; rw [if_pos rfl, if_pos ha, if_pos hl])
/-- calls -/
theorem k_calV {n j : Nat} {r : Option Value} {vs rest : List Value} {g2 : Nat → Nat → Int32} (hd : decode Y.2.2.1 pc = .ok (.invokevirtual x, 3)) (hf : q_f2 q_mT1 Y.1 x = some (n, j)) {Z : q_MI} (hZ : q_mi j = Z) (hst : st = vs.reverse ++ .ref p :: rest) (hn : vs.length = n) (hp : q_is p (q_oc Z.1)) (hr : q_ns rest ≤ 8) {la : List Value} (hla : q_en Z.2.2.2.1 (.ref p :: vs) = la) (hl : (q_sl (.ref p :: vs)).length ≤ Z.2.2.2.1) (hc : q_sem d Z 0 la [] (q_K o g) = some (r, q_K o g2)) : q_sem (d + 1) Y pc ls st (q_K o g) = q_sem (d + 1) Y (pc + 3) ls (r.toList ++ rest) (q_K o g2) := by
  subst hla
  refine q_calE hd rfl ?_ hl hc
  unfold q_kall
  dsimp only
  rw [if_pos rfl, hf]
  have e1 : st.drop n = .ref p :: rest := by rw [hst, ← hn, ← List.length_reverse]; exact List.drop_left
  have e2 : st.take n = vs.reverse := by rw [hst, ← hn, ← List.length_reverse]; exact List.take_left
  unfold q_kV
  dsimp only
  rw [e1]
  dsimp only
  rw [hZ, if_pos ⟨hp.1, by rw [q_K_kd hp.1, hp.2], hr⟩, e2, List.reverse_reverse]
theorem k_calS {n j : Nat} {r : Option Value} {vs rest : List Value} {h h2 : q_H} (hd : decode Y.2.2.1 pc = .ok (.invokestatic x, 3)) (hf : q_f2 q_mT0 Y.1 x = some (n, j)) {Z : q_MI} (hZ : q_mi j = Z) (hst : st = vs.reverse ++ rest) (hn : vs.length = n) (hr : q_ns rest ≤ 8) {la : List Value} (hla : q_en Z.2.2.2.1 vs = la) (hl : (q_sl vs).length ≤ Z.2.2.2.1) (hc : q_sem d Z 0 la [] h = some (r, h2)) : q_sem (d + 1) Y pc ls st h = q_sem (d + 1) Y (pc + 3) ls (r.toList ++ rest) h2 := by
  subst hla
  refine q_calE hd rfl ?_ hl hc
  unfold q_kall
  dsimp only
  rw [if_pos rfl, hf]
  have e1 : st.drop n = rest := by rw [hst, ← hn, ← List.length_reverse]; exact List.drop_left
  have e2 : st.take n = vs.reverse := by rw [hst, ← hn, ← List.length_reverse]; exact List.take_left
  unfold q_kS
  dsimp only
  rw [e1, e2, hZ, if_pos ⟨by rw [hst, List.length_append, List.length_reverse]; omega, hr⟩, List.reverse_reverse]
theorem k_calN {n j : Nat} {r : Option Value} {vs rest : List Value} {h h2 : q_H} (hd : decode Y.2.2.1 pc = .ok (.invokestatic x, 3)) (h0 : q_f2 q_mT0 Y.1 x = none) (hf : q_f2 q_mT3 Y.1 x = some (n, j)) {Z : q_MI} (hZ : q_mi j = Z) (hst : st = vs.reverse ++ rest) (hn : vs.length = n) (hr : q_ns rest ≤ 8) {la : List Value} (hla : q_en Z.2.2.2.1 vs = la) (hl : (q_sl vs).length ≤ Z.2.2.2.1) (hc : q_sem d Z 0 la [] h = some (r, h2)) : q_sem (d + 1) Y pc ls st h = q_sem (d + 1) Y (pc + 3) ls (r.toList ++ rest) h2 := by
  subst hla
  refine q_calE hd rfl ?_ hl hc
  unfold q_kall
  dsimp only
  rw [if_pos rfl, h0, hf]
  have e1 : st.drop n = rest := by rw [hst, ← hn, ← List.length_reverse]; exact List.drop_left
  have e2 : st.take n = vs.reverse := by rw [hst, ← hn, ← List.length_reverse]; exact List.take_left
  unfold q_kS
  dsimp only
  rw [e1, e2, hZ, if_pos ⟨by rw [hst, List.length_append, List.length_reverse]; omega, hr⟩, List.reverse_reverse]
theorem k_iret {v : Int32} {h : q_H} (hd : decode Y.2.2.1 pc = .ok (.ireturn, 1)) (hn : q_nar Y.2.2.2.2 v = true) : q_sem d Y pc ls [.int v] h = some (some (.int v), h) :=
  q_retE hd (by unfold q_ret; dsimp only; rw [if_pos rfl, if_pos hn])
theorem k_vret {h : q_H} (hd : decode Y.2.2.1 pc = .ok (.return_, 1)) (hn : Y.2.2.2.2 = none) : q_sem d Y pc ls [] h = some (none, h) :=
  q_retE hd (by unfold q_ret; dsimp only; rw [if_pos ⟨rfl, hn⟩])
end QKS
theorem q_narB {P : Prop} [Decidable P] : q_nar (some .boolean) (if P then 1 else 0) = true := by split <;> rfl
