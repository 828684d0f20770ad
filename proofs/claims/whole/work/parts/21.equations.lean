/-! steps and calls as equations, also where they come to nothing -/
abbrev q_inn (i : Int32) (n : Nat) : Prop := ¬ (i < 0 ∨ n ≤ i.toNatClampNeg)
def q_rg {α : Type} (i : Int32) (n : Nat) (k : Nat → Option α) : Option α := if q_inn i n then k i.toNatClampNeg else none
theorem q_rgT {α : Type} {i : Int32} {n : Nat} {k : Nat → Option α} (h : q_inn i n) : q_rg i n k = k i.toNatClampNeg := if_pos h
theorem q_rgF {α : Type} {i : Int32} {n : Nat} {k : Nat → Option α} (h : ¬ q_inn i n) : q_rg i n k = none := if_neg h
theorem q_rgN {α : Type} {j n : Nat} {k : Nat → Option α} (h : j < n) (hn : n < 2 ^ 31) : q_rg (nI j) n k = k j := by
  rw [q_rgT (nI_in h hn), nI_clamp (Nat.lt_trans h hn)]
def q_rB (v : Int32) (h : q_H) : Option (Option Value × q_H) := if q_nar (some .boolean) v = true then some (some (.int v), h) else none
theorem q_rB_ite {P : Prop} [Decidable P] {h : q_H} : q_rB (if P then 1 else 0) h = some (some (.int (if P then 1 else 0)), h) := if_pos q_narB
theorem q_rB_0 {h : q_H} : q_rB 0 h = some (some (.int 0), h) := rfl
theorem q_rB_1 {h : q_H} : q_rB 1 h = some (some (.int 1), h) := rfl
def q_W (w : Nat) : Prop := w = 1 ∨ w = 23 ∨ w = 45
section QEQ
variable {d : Nat} {Y : q_MI} {pc : Nat} {ls st : List Value} {o : q_H} {g : Nat → Nat → Int32} {x : Nat} {p : Nat}
theorem q_stuck {i : Instr} {k : Nat} {h : q_H} (hd : decode Y.2.2.1 pc = .ok (i, k)) (h1 : q_ret Y i k st = none) (h2e : q_kall Y i k st h = none) (h3 : q_stp Y i k pc ls st h = none) : q_sem d Y pc ls st h = none := by
  cases hs : q_sem d Y pc ls st h with
  | none => rfl
  | some r =>
    obtain ⟨n, hn⟩ := q_sem_iff.mp hs
    cases n with
    | zero => cases hn
    | succ n =>
      unfold q_run at hn
      rw [hd] at hn
      dsimp only at hn
      rw [h1] at hn
      dsimp only at hn
      rw [h2e] at hn
      dsimp only at hn
      rw [h3] at hn
      cases hn
theorem q_s5X {i : Instr} {k : Nat} {h : q_H} (hd : decode Y.2.2.1 pc = .ok (i, k)) (hr : q_ret Y i k st = none) (hk : q_kall Y i k st h = none) (h1 : q_s1 i k pc ls st = none) (h2e : q_s2 i k pc st = none) (h3 : q_s3 i k pc st = none) (h4 : q_s4 Y i k pc st = none) (h5 : q_s5 Y i k pc st h = none) : q_sem d Y pc ls st h = none :=
  q_stuck hd hr hk (by unfold q_stp; rw [h1]; dsimp only; rw [h2e]; dsimp only; rw [h3]; dsimp only; rw [h4]; dsimp only; rw [h5])
theorem q_calF {i : Instr} {k : Nat} {h : q_H} {Z : q_MI} {vs rest : List Value} (hd : decode Y.2.2.1 pc = .ok (i, k)) (h1 : q_ret Y i k st = none) (hk : q_kall Y i k st h = some (Z, vs, rest)) (hl : (q_sl vs).length ≤ Z.2.2.2.1) : q_sem (d + 1) Y pc ls st h = (q_sem d Z 0 (q_en Z.2.2.2.1 vs) [] h).bind (fun r => q_sem (d + 1) Y (pc + 3) ls (r.1.toList ++ rest) r.2) := by
  cases hz : q_sem d Z 0 (q_en Z.2.2.2.1 vs) [] h with
  | some r =>
    obtain ⟨r, h1b⟩ := r
    exact q_calE hd h1 hk hl hz
  | none =>
    show q_sem (d + 1) Y pc ls st h = none
    cases hs : q_sem (d + 1) Y pc ls st h with
    | none => rfl
    | some r =>
      exfalso
      obtain ⟨n, hn⟩ := q_sem_iff.mp hs
      cases n with
      | zero => cases hn
      | succ n =>
        unfold q_run at hn
        rw [hd] at hn
        dsimp only at hn
        rw [h1] at hn
        dsimp only at hn
        rw [hk] at hn
        dsimp only at hn
        rw [if_pos hl] at hn
        cases hq : q_run n d Z 0 (q_en Z.2.2.2.1 vs) [] h with
        | none => rw [hq] at hn; cases hn
        | some z =>
          have e := q_sem_iff.mpr (⟨n, hq⟩ : q_Ev d Z 0 (q_en Z.2.2.2.1 vs) [] h z)
          rw [hz] at e
          cases e
theorem K_calV {n j : Nat} {vs rest : List Value} (hd : decode Y.2.2.1 pc = .ok (.invokevirtual x, 3)) (hf : q_f2 q_mT1 Y.1 x = some (n, j)) {Z : q_MI} (hZ : q_mi j = Z) (hst : st = vs.reverse ++ .ref p :: rest) (hn : vs.length = n) (hp : q_is p (q_oc Z.1)) (hr : q_ns rest ≤ 8) {la : List Value} (hla : q_en Z.2.2.2.1 (.ref p :: vs) = la) (hl : (q_sl (.ref p :: vs)).length ≤ Z.2.2.2.1) : q_sem (d + 1) Y pc ls st (q_K o g) = (q_sem d Z 0 la [] (q_K o g)).bind (fun r => q_sem (d + 1) Y (pc + 3) ls (r.1.toList ++ rest) r.2) := by
  subst hla
  refine q_calF hd rfl ?_ hl
  unfold q_kall
  dsimp only
  rw [if_pos rfl, hf]
  have e1 : st.drop n = .ref p :: rest := by rw [hst, ← hn, ← List.length_reverse]; exact List.drop_left
  have e2 : st.take n = vs.reverse := by rw [hst, ← hn, ← List.length_reverse]; exact List.take_left
  unfold q_kV
  dsimp only
  rw [e1]
  dsimp only
  rw [hZ, if_pos ⟨hp.1, by rw [q_K_kd hp.1, hp.2], hr⟩, e2, List.reverse_reverse]
theorem K_calW {n j : Nat} {vs rest : List Value} {h : q_H} (hd : decode Y.2.2.1 pc = .ok (.invokevirtual x, 3)) (h1 : q_f2 q_mT1 Y.1 x = none) (hf : q_f2 q_mT5 Y.1 x = some (n, j)) {Z : q_MI} (hZ : q_mi j = Z) (hst : st = vs.reverse ++ .ref p :: rest) (hn : vs.length = n) (hp1 : q_M + 7 ≤ p) (hp2 : p < q_M + 10) (hr : q_ns rest ≤ 8) {la : List Value} (hla : q_en Z.2.2.2.1 (.ref p :: vs) = la) (hl : (q_sl (.ref p :: vs)).length ≤ Z.2.2.2.1) : q_sem (d + 1) Y pc ls st h = (q_sem d Z 0 la [] h).bind (fun r => q_sem (d + 1) Y (pc + 3) ls (r.1.toList ++ rest) r.2) := by
  subst hla
  refine q_calF hd rfl ?_ hl
  unfold q_kall
  dsimp only
  rw [if_pos rfl, h1, hf]
  have e1 : st.drop n = .ref p :: rest := by rw [hst, ← hn, ← List.length_reverse]; exact List.drop_left
  have e2 : st.take n = vs.reverse := by rw [hst, ← hn, ← List.length_reverse]; exact List.take_left
  unfold q_kV q_kW
  dsimp only
  rw [e1]
  dsimp only
  rw [hZ, if_pos ⟨hp1, hp2, hr⟩, e2, List.reverse_reverse]
theorem K_calS {n j : Nat} {vs rest : List Value} {h : q_H} (hd : decode Y.2.2.1 pc = .ok (.invokestatic x, 3)) (hf : q_f2 q_mT0 Y.1 x = some (n, j)) {Z : q_MI} (hZ : q_mi j = Z) (hst : st = vs.reverse ++ rest) (hn : vs.length = n) (hr : q_ns rest ≤ 8) {la : List Value} (hla : q_en Z.2.2.2.1 vs = la) (hl : (q_sl vs).length ≤ Z.2.2.2.1) : q_sem (d + 1) Y pc ls st h = (q_sem d Z 0 la [] h).bind (fun r => q_sem (d + 1) Y (pc + 3) ls (r.1.toList ++ rest) r.2) := by
  subst hla
  refine q_calF hd rfl ?_ hl
  unfold q_kall
  dsimp only
  rw [if_pos rfl, hf]
  have e1 : st.drop n = rest := by rw [hst, ← hn, ← List.length_reverse]; exact List.drop_left
  have e2 : st.take n = vs.reverse := by rw [hst, ← hn, ← List.length_reverse]; exact List.take_left
  unfold q_kS
  dsimp only
  rw [e1, e2, hZ, if_pos ⟨by rw [hst, List.length_append, List.length_reverse]; omega, hr⟩, List.reverse_reverse]
theorem K_calN {n j : Nat} {vs rest : List Value} {h : q_H} (hd : decode Y.2.2.1 pc = .ok (.invokestatic x, 3)) (h0 : q_f2 q_mT0 Y.1 x = none) (hf : q_f2 q_mT3 Y.1 x = some (n, j)) {Z : q_MI} (hZ : q_mi j = Z) (hst : st = vs.reverse ++ rest) (hn : vs.length = n) (hr : q_ns rest ≤ 8) {la : List Value} (hla : q_en Z.2.2.2.1 vs = la) (hl : (q_sl vs).length ≤ Z.2.2.2.1) : q_sem (d + 1) Y pc ls st h = (q_sem d Z 0 la [] h).bind (fun r => q_sem (d + 1) Y (pc + 3) ls (r.1.toList ++ rest) r.2) := by
  subst hla
  refine q_calF hd rfl ?_ hl
  unfold q_kall
  dsimp only
  rw [if_pos rfl, h0, hf]
  have e1 : st.drop n = rest := by rw [hst, ← hn, ← List.length_reverse]; exact List.drop_left
  have e2 : st.take n = vs.reverse := by rw [hst, ← hn, ← List.length_reverse]; exact List.take_left
  unfold q_kS
  dsimp only
  rw [e1, e2, hZ, if_pos ⟨by rw [hst, List.length_append, List.length_reverse]; omega, hr⟩, List.reverse_reverse]
theorem K_iald {n : Nat} {i : Int32} (hd : decode Y.2.2.1 pc = .ok (.iaload, 1)) (hp : q_ar p n) (hi : q_inn i n) : q_sem d Y pc ls (.int i :: .ref p :: st) (q_K o g) = q_sem d Y (pc + 1) ls (.int (g p i.toNatClampNeg) :: st) (q_K o g) := k_iald hd hp hi
theorem K_iast {n : Nat} {i v : Int32} (hd : decode Y.2.2.1 pc = .ok (.iastore, 1)) (hp : q_ar p n) (hi : q_inn i n) : q_sem d Y pc ls (.int v :: .int i :: .ref p :: st) (q_K o g) = q_sem d Y (pc + 1) ls st (q_K o (q_up g p i.toNatClampNeg v)) := k_iast hd hp hi
theorem K_ialdX {n : Nat} {i : Int32} (hd : decode Y.2.2.1 pc = .ok (.iaload, 1)) (hp : q_ar p n) (hi : ¬ q_inn i n) : q_sem d Y pc ls (.int i :: .ref p :: st) (q_K o g) = none := by
  refine q_s5X hd rfl rfl rfl rfl rfl rfl ?_
  unfold q_s5
  dsimp only
  rw [if_pos rfl, if_neg (fun z => hi (by have := z.1; rw [q_K_ln hp.1, hp.2.1] at this; exact this))]
theorem K_iastX {n : Nat} {i v : Int32} (hd : decode Y.2.2.1 pc = .ok (.iastore, 1)) (hp : q_ar p n) (hi : ¬ q_inn i n) : q_sem d Y pc ls (.int v :: .int i :: .ref p :: st) (q_K o g) = none := by
  refine q_s5X hd rfl rfl rfl rfl rfl rfl ?_
  unfold q_s5
  dsimp only
  rw [if_pos rfl, if_neg (fun z => hi (by have := z.1; rw [q_K_ln hp.1, hp.2.1] at this; exact this))]
/-- a row of n truth values -/
def q_arB (p n : Nat) : Prop := p < 151 ∧ q_sh p = (101, n) ∧ q_rfT.getD p [] = []
theorem q_arB_ref {k n : Nat} (h : q_arB p n) : q_ref p k = none := by unfold q_ref; rw [h.2.2]; rfl
theorem K_ialdb {n : Nat} {i : Int32} (hd : decode Y.2.2.1 pc = .ok (.baload, 1)) (hp : q_arB p n) (hi : q_inn i n) : q_sem d Y pc ls (.int i :: .ref p :: st) (q_K o g) = q_sem d Y (pc + 1) ls (.int (g p i.toNatClampNeg) :: st) (q_K o g) := by
  refine q_s5E hd rfl rfl rfl rfl rfl rfl ?_
  unfold q_s5
  dsimp only
  rw [if_pos rfl, if_pos ⟨by rw [q_K_ln hp.1, hp.2.1]; exact hi, Or.inl ⟨hp.1, by rw [q_K_kd hp.1, hp.2.1]⟩⟩, q_K_ri hp.1 (q_arB_ref hp)]
theorem K_ialdbX {n : Nat} {i : Int32} (hd : decode Y.2.2.1 pc = .ok (.baload, 1)) (hp : q_arB p n) (hi : ¬ q_inn i n) : q_sem d Y pc ls (.int i :: .ref p :: st) (q_K o g) = none := by
  refine q_s5X hd rfl rfl rfl rfl rfl rfl ?_
  unfold q_s5
  dsimp only
  rw [if_pos rfl, if_neg (fun z => hi (by have := z.1; rw [q_K_ln hp.1, hp.2.1] at this; exact this))]
theorem K_iastb {n : Nat} {i v : Int32} (hd : decode Y.2.2.1 pc = .ok (.bastore, 1)) (hp : q_arB p n) (hi : q_inn i n) (hv : v = 0 ∨ v = 1) : q_sem d Y pc ls (.int v :: .int i :: .ref p :: st) (q_K o g) = q_sem d Y (pc + 1) ls st (q_K o (q_up g p i.toNatClampNeg v)) := by
  rw [← q_K_wr hp.1 (q_arB_ref hp)]
  refine q_s5E hd rfl rfl rfl rfl rfl rfl ?_
  unfold q_s5
  dsimp only
  rw [if_pos rfl, if_pos ⟨⟨by rw [q_K_ln hp.1, hp.2.1]; exact hi, hp.1, by rw [q_K_kd hp.1, hp.2.1]⟩, hv⟩]
theorem K_iastbX {n : Nat} {i v : Int32} (hd : decode Y.2.2.1 pc = .ok (.bastore, 1)) (hp : q_arB p n) (hi : ¬ q_inn i n) : q_sem d Y pc ls (.int v :: .int i :: .ref p :: st) (q_K o g) = none := by
  refine q_s5X hd rfl rfl rfl rfl rfl rfl ?_
  unfold q_s5
  dsimp only
  rw [if_pos rfl, if_neg (fun z => hi (by have := z.1.1; rw [q_K_ln hp.1, hp.2.1] at this; exact this))]
theorem K_roald {k : Nat} {i : Int32} (ho : q_oR o) (hk : 1 ≤ k ∧ k < 7) (hd : decode Y.2.2.1 pc = .ok (.iaload, 1)) (hi : q_inn i (q_sl2.getD k (0, [])).2.length) : q_sem d Y pc ls (.int i :: .ref (q_M + k) :: st) (q_K o g) = q_sem d Y (pc + 1) ls (.int (q_way k i.toNatClampNeg) :: st) (q_K o g) := by
  have hs := q_o_sh (g := g) ho hk
  refine q_s5E hd rfl rfl rfl rfl rfl rfl ?_
  unfold q_s5
  dsimp only
  have h1 : q_ln (q_K o g) (q_M + k) = (q_sl2.getD k (0, [])).2.length := by unfold q_ln; rw [hs]
  have h2 : q_kd (q_K o g) (q_M + k) = 102 := by unfold q_kd; rw [hs]; exact q_o_kd k hk.2 hk.1
  rw [if_pos rfl, if_pos ⟨by rw [h1]; exact hi, Or.inr ⟨Nat.le_add_right _ _, Nat.add_lt_add_left hk.2 _, h2⟩⟩, q_o_rd ho hk]
theorem K_roaldX {k : Nat} {i : Int32} (ho : q_oR o) (hk : 1 ≤ k ∧ k < 7) (hd : decode Y.2.2.1 pc = .ok (.iaload, 1)) (hi : ¬ q_inn i (q_sl2.getD k (0, [])).2.length) : q_sem d Y pc ls (.int i :: .ref (q_M + k) :: st) (q_K o g) = none := by
  have hs := q_o_sh (g := g) ho hk
  refine q_s5X hd rfl rfl rfl rfl rfl rfl ?_
  unfold q_s5
  dsimp only
  have h1 : q_ln (q_K o g) (q_M + k) = (q_sl2.getD k (0, [])).2.length := by unfold q_ln; rw [hs]
  rw [if_pos rfl, if_neg (fun z => hi (by have := z.1; rw [h1] at this; exact this))]
theorem k_iretB {v : Int32} {h : q_H} (hd : decode Y.2.2.1 pc = .ok (.ireturn, 1)) (hY : Y.2.2.2.2 = some .boolean) : q_sem d Y pc ls [.int v] h = q_rB v h := by
  unfold q_rB
  by_cases c : q_nar (some .boolean) v = true
  · rw [if_pos c]
    exact k_iret hd (by rw [hY]; exact c)
  · rw [if_neg c]
    exact q_stuck hd (by unfold q_ret; dsimp only; rw [if_pos rfl, hY, if_neg c]) rfl (by unfold q_stp; rfl)
theorem k_ldcs {j : Nat} {h : q_H} (hd : decode Y.2.2.1 pc = .ok (.ldc x, 2)) (hf : q_f2 q_cstT Y.1 x = none) (hj : q_f2 q_strT Y.1 x = some j) : q_sem d Y pc ls st h = q_sem d Y (pc + 2) ls (.ref (q_M + (7 + j)) :: st) h :=
  q_s4E hd rfl rfl rfl rfl (by unfold q_s3; rfl) (by unfold q_s4; dsimp only; rw [if_pos rfl, hf, hj]; rfl)
theorem k_ldc2 {v : Int64} {h : q_H} (hd : decode Y.2.2.1 pc = .ok (.ldc2_w x, 3)) (hf : q_f2 q_lcsT Y.1 x = some v) : q_sem d Y pc ls st h = q_sem d Y (pc + 3) ls (.long v :: st) h :=
  q_s4E hd rfl rfl rfl rfl (by unfold q_s3; rfl) (by unfold q_s4; dsimp only; rw [if_pos rfl, hf]; rfl)
/-- a switch -/
theorem k_sw {i : Instr} {k t : Nat} {h : q_H} {st2 : List Value} {v : Int32} (hd : decode Y.2.2.1 pc = .ok (i, k)) (hr : q_ret Y i k (.int v :: st) = none) (hk : q_kall Y i k (.int v :: st) h = none ∧ q_s1 i k pc ls (.int v :: st) = none) (h2e : q_s2 i k pc (.int v :: st) = some (t, st2)) : q_sem d Y pc ls (.int v :: st) h = q_sem d Y t ls st2 h :=
  q_stpE hd hr hk.1 (by unfold q_stp; rw [hk.2]; dsimp only; rw [h2e])
theorem k_swD {k t : Nat} {h : q_H} {v : Int32} {e lo hi : Int} {offs : Array Int} (hd : decode Y.2.2.1 pc = .ok (.tableswitch e lo hi offs, k)) (hx : v.toInt < lo ∨ hi < v.toInt) (ht : q_tg pc e = some t) : q_sem d Y pc ls (.int v :: st) h = q_sem d Y t ls st h :=
  q_stpE hd rfl rfl (by
    have e1 : q_s2 (.tableswitch e lo hi offs) k pc (.int v :: st) = some (t, st) := by
      unfold q_s2
      dsimp only
      rw [if_pos hx, ht]
      rfl
    unfold q_stp
    rw [show q_s1 (.tableswitch e lo hi offs) k pc ls (.int v :: st) = none from rfl]
    dsimp only
    rw [e1])
theorem k_lsD {k t : Nat} {h : q_H} {v : Int32} {e : Int} {ps : Array (Int × Int)} (hd : decode Y.2.2.1 pc = .ok (.lookupswitch e ps, k)) (hs : (ps.toList.zip (ps.toList.drop 1)).all (fun (a, next) => a.1 < next.1) = true) (hx : Op.lookupswitch.offset ps.toList e v.toInt = e) (ht : q_tg pc e = some t) : q_sem d Y pc ls (.int v :: st) h = q_sem d Y t ls st h :=
  q_stpE hd rfl rfl (by
    have e1 : q_s2 (.lookupswitch e ps) k pc (.int v :: st) = some (t, st) := by
      unfold q_s2
      dsimp only
      rw [if_pos hs, hx, ht]
      rfl
    unfold q_stp
    rw [show q_s1 (.lookupswitch e ps) k pc ls (.int v :: st) = none from rfl]
    dsimp only
    rw [e1])
end QEQ
theorem q_tsE {v : Int32} {a : Int} (h : v.toInt = a) : v = Int32.ofInt a := by
  rw [← h]
  exact (Int32.ofInt_toInt v).symm
theorem q_tso (v : Int32) (lo : Int) (n : Nat) (h : ∀ k, k < n → ¬ v = Int32.ofInt (lo + (k : Nat))) : v.toInt < lo ∨ lo + n - 1 < v.toInt := by
  rcases Int.lt_or_le v.toInt lo with q | q
  · exact Or.inl q
  · rcases Int.lt_or_le (lo + n - 1) v.toInt with q2 | q2
    · exact Or.inr q2
    · exact absurd (q_tsE (show v.toInt = lo + ((v.toInt - lo).toNat : Nat) by omega)) (h _ (by omega))
theorem q_lso {v : Int32} {e : Int} : ∀ {ps : List (Int × Int)}, (∀ q ∈ ps, ¬ v = Int32.ofInt q.1) → Op.lookupswitch.offset ps e v.toInt = e
  | [], _ => rfl
  | q :: ps, h => by
    obtain ⟨a, b⟩ := q
    rw [Op.lookupswitch.offset_cons, if_neg (fun z => h (a, b) (List.mem_cons_self ..) (q_tsE z.symm))]
    exact q_lso (fun q hq => h q (List.mem_cons_of_mem _ hq))
