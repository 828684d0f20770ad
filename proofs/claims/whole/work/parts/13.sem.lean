/-! what a run comes to, without its number of steps -/
theorem q_run_mono : ∀ (n d : Nat) (Y : q_MI) (pc : Nat) (ls st : List Value) (h : q_H) (r : Option Value × q_H), q_run n d Y pc ls st h = some r → q_run (n + 1) d Y pc ls st h = some r := by
  intro n
  induction n with
  | zero => intro d Y pc ls st h r hr; cases hr
  | succ n ih =>
    intro d Y pc ls st h r hr
    unfold q_run at hr ⊢
    cases hd : decode Y.2.2.1 pc with
    | error x => rw [hd] at hr; cases hr
    | ok q =>
      obtain ⟨i, k⟩ := q
      rw [hd] at hr
      dsimp only at hr ⊢
      cases hq : q_ret Y i k st with
      | some r0 => rw [hq] at hr; exact hr
      | none =>
        rw [hq] at hr
        dsimp only at hr ⊢
        cases hk : q_kall Y i k st h with
        | some z =>
          obtain ⟨Z, vs, rest⟩ := z
          rw [hk] at hr
          dsimp only at hr ⊢
          cases d with
          | zero => exact hr
          | succ d =>
            dsimp only at hr ⊢
            split at hr
            · rename_i hl
              rw [if_pos hl]
              cases h1 : q_run n d Z 0 (q_en Z.2.2.2.1 vs) [] h with
              | none => rw [h1] at hr; cases hr
              | some z =>
                rw [ih _ _ _ _ _ _ _ h1]
                rw [h1] at hr
                dsimp only at hr ⊢
                exact ih _ _ _ _ _ _ _ hr
            · cases hr
        | none =>
          rw [hk] at hr
          dsimp only at hr ⊢
          cases hs : q_stp Y i k pc ls st h with
          | none => rw [hs] at hr; cases hr
          | some z =>
            rw [hs] at hr
            dsimp only at hr ⊢
            exact ih _ _ _ _ _ _ _ hr
theorem q_run_le {n m d : Nat} {Y : q_MI} {pc : Nat} {ls st : List Value} {h : q_H} {r : Option Value × q_H} (hnm : n ≤ m) (hr : q_run n d Y pc ls st h = some r) : q_run m d Y pc ls st h = some r := by
  obtain ⟨k, rfl⟩ := Nat.exists_eq_add_of_le hnm
  induction k with
  | zero => exact hr
  | succ k ih => exact q_run_mono _ _ _ _ _ _ _ _ (ih (Nat.le_add_right _ _))
def q_Ev (d : Nat) (Y : q_MI) (pc : Nat) (ls st : List Value) (h : q_H) (r : Option Value × q_H) : Prop := ∃ n, q_run n d Y pc ls st h = some r
theorem q_Ev_one {d : Nat} {Y : q_MI} {pc : Nat} {ls st : List Value} {h : q_H} {r r2 : Option Value × q_H} (h1 : q_Ev d Y pc ls st h r) (h2 : q_Ev d Y pc ls st h r2) : r = r2 := by
  obtain ⟨n, h1⟩ := h1
  obtain ⟨m, h2⟩ := h2
  have a := q_run_le (Nat.le_max_left n m) h1
  have b := q_run_le (Nat.le_max_right n m) h2
  exact Option.some.inj (a.symm.trans b)
noncomputable def q_sem (d : Nat) (Y : q_MI) (pc : Nat) (ls st : List Value) (h : q_H) : Option (Option Value × q_H) := by
  classical
  exact if hh : ∃ r, q_Ev d Y pc ls st h r then some hh.choose else none
theorem q_sem_iff {d : Nat} {Y : q_MI} {pc : Nat} {ls st : List Value} {h : q_H} {r : Option Value × q_H} : q_sem d Y pc ls st h = some r ↔ q_Ev d Y pc ls st h r := by
  unfold q_sem
  constructor
  · intro hs
    split at hs
    · rename_i hh
      rw [← Option.some.inj hs]
      exact hh.choose_spec
    · cases hs
  · intro he
    have hh : ∃ r, q_Ev d Y pc ls st h r := ⟨r, he⟩
    rw [dif_pos hh]
    exact congrArg some (q_Ev_one hh.choose_spec he)
theorem q_sem_ext {d d2 : Nat} {Y Y2 : q_MI} {pc pc2 : Nat} {ls st ls2 st2 : List Value} {h h2 : q_H} (he : ∀ r, q_Ev d Y pc ls st h r ↔ q_Ev d2 Y2 pc2 ls2 st2 h2 r) : q_sem d Y pc ls st h = q_sem d2 Y2 pc2 ls2 st2 h2 := by
  cases h1 : q_sem d2 Y2 pc2 ls2 st2 h2 with
  | some r => exact q_sem_iff.mpr ((he r).mpr (q_sem_iff.mp h1))
  | none =>
    cases h3 : q_sem d Y pc ls st h with
    | none => rfl
    | some r => rw [q_sem_iff.mpr ((he r).mp (q_sem_iff.mp h3))] at h1; cases h1
section QS2
variable {d : Nat} {Y : q_MI} {pc pc2 : Nat} {ls st ls2 st2 : List Value} {h h2 : q_H} {i : Instr} {k : Nat}
theorem q_stpE (hd : decode Y.2.2.1 pc = .ok (i, k)) (h1 : q_ret Y i k st = none) (h2e : q_kall Y i k st h = none) (h3 : q_stp Y i k pc ls st h = some (pc2, ls2, st2, h2)) : q_sem d Y pc ls st h = q_sem d Y pc2 ls2 st2 h2 := by
  refine q_sem_ext (fun r => ⟨fun ⟨n, hn⟩ => ?_, fun ⟨n, hn⟩ => ⟨n + 1, ?_⟩⟩)
  · cases n with
    | zero => cases hn
    | succ n =>
      unfold q_run at hn
      rw [hd] at hn
      dsimp only at hn
      rw [h1] at hn
      dsimp only at hn
      rw [h2e] at hn
      dsimp only at hn
      rw [h3] at hn
      exact ⟨n, hn⟩
  · unfold q_run
    rw [hd]
    dsimp only
    rw [h1]
    dsimp only
    rw [h2e]
    dsimp only
    rw [h3]
    exact hn
theorem q_retE {r : Option Value} (hd : decode Y.2.2.1 pc = .ok (i, k)) (h1 : q_ret Y i k st = some r) : q_sem d Y pc ls st h = some (r, h) := by
  refine q_sem_iff.mpr ⟨1, ?_⟩
  unfold q_run
  rw [hd]
  dsimp only
  rw [h1]
theorem q_calE {Z : q_MI} {vs rest : List Value} (hd : decode Y.2.2.1 pc = .ok (i, k)) (h1 : q_ret Y i k st = none) (hk : q_kall Y i k st h = some (Z, vs, rest)) (hl : (q_sl vs).length ≤ Z.2.2.2.1) {r : Option Value} {h1b : q_H} (hc : q_sem d Z 0 (q_en Z.2.2.2.1 vs) [] h = some (r, h1b)) : q_sem (d + 1) Y pc ls st h = q_sem (d + 1) Y (pc + 3) ls (r.toList ++ rest) h1b := by
  obtain ⟨m, hm⟩ := q_sem_iff.mp hc
  refine q_sem_ext (fun r2 => ⟨fun ⟨n, hn⟩ => ?_, fun ⟨n, hn⟩ => ⟨max n m + 1, ?_⟩⟩)
  · cases n with
    | zero => cases hn
    | succ n =>
      unfold q_run at hn
      rw [hd] at hn
      dsimp only at hn
      rw [h1] at hn
      dsimp only at hn
      rw [hk] at hn
      dsimp only at hn
      rw [if_pos hl] at hn
      cases hz : q_run n d Z 0 (q_en Z.2.2.2.1 vs) [] h with
      | none => rw [hz] at hn; cases hn
      | some z =>
        rw [hz] at hn
        have e : z = (r, h1b) := q_Ev_one ⟨n, hz⟩ ⟨m, hm⟩
        subst e
        exact ⟨n, hn⟩
  · unfold q_run
    rw [hd]
    dsimp only
    rw [h1]
    dsimp only
    rw [hk]
    dsimp only
    rw [if_pos hl, q_run_le (Nat.le_max_right n m) hm]
    dsimp only
    exact q_run_le (Nat.le_max_left n m) hn
end QS2
/-! blocks of instructions that the locals and the stack alone decide -/
def q_p1 (q : Instr × Nat) (pc : Nat) (ls st : List Value) : Option (Nat × List Value × List Value) := match q_s1 q.1 q.2 pc ls st with
  | some x => some x
  | none => (match q_s2 q.1 q.2 pc st with
    | some (a, c) => some (a, ls, c)
    | none => (match q_s3 q.1 q.2 pc st with
      | some (a, c) => some (a, ls, c)
      | none => none))
def q_bx : List (Nat × Instr × Nat) → Nat → List Value → List Value → Option (Nat × List Value × List Value)
  | [], pc, ls, st => some (pc, ls, st)
  | q :: qs, pc, ls, st => if pc = q.1 then (match q_p1 q.2 pc ls st with
    | some (pc2, ls2, st2) => q_bx qs pc2 ls2 st2
    | none => none) else none
def q_dcs (c : ByteArray) : List (Nat × Instr × Nat) → Prop
  | [] => True
  | q :: qs => decode c q.1 = .ok q.2 ∧ q_dcs c qs
theorem q_p1_no {Y : q_MI} {h : q_H} {i : Instr} {k pc : Nat} {ls st : List Value} {x : Nat × List Value × List Value} (hx : q_p1 (i, k) pc ls st = some x) : q_ret Y i k st = none ∧ q_kall Y i k st h = none := by
  cases i <;> first
    | exact ⟨rfl, rfl⟩
    | (exfalso; simp [q_p1, q_s1, q_s2, q_s3, q_bin, q_lsh] at hx; done)
theorem q_p1_st {Y : q_MI} {h : q_H} {i : Instr} {k pc pc2 : Nat} {ls st ls2 st2 : List Value} (hx : q_p1 (i, k) pc ls st = some (pc2, ls2, st2)) : q_stp Y i k pc ls st h = some (pc2, ls2, st2, h) := by
  unfold q_p1 at hx
  dsimp only at hx
  unfold q_stp
  split at hx
  · rename_i h1
    cases hx
    rw [h1]
  · rename_i h1
    rw [h1]
    dsimp only
    split at hx
    · rename_i h2
      cases hx
      rw [h2]
    · rename_i h2
      rw [h2]
      dsimp only
      split at hx
      · rename_i h3
        cases hx
        rw [h3]
      · cases hx
theorem q_blk {d : Nat} {Y : q_MI} {h : q_H} : ∀ {is : List (Nat × Instr × Nat)} {pc pc2 : Nat} {ls st ls2 st2 : List Value}, q_dcs Y.2.2.1 is → q_bx is pc ls st = some (pc2, ls2, st2) → q_sem d Y pc ls st h = q_sem d Y pc2 ls2 st2 h
  | [], pc, pc2, ls, st, ls2, st2, _, hx => by cases hx; rfl
  | q :: qs, pc, pc2, ls, st, ls2, st2, hd, hx => by
    obtain ⟨p0, i, k⟩ := q
    unfold q_bx at hx
    split at hx
    · rename_i hp
      dsimp only at hp
      subst hp
      split at hx
      · rename_i a b c0 h1
        have h2 := q_p1_no (Y := Y) (h := h) h1
        exact (q_stpE hd.1 h2.1 h2.2 (q_p1_st h1)).trans (q_blk hd.2 hx)
      · cases hx
    · cases hx
