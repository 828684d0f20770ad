/-! two heaps that agree where they can be read -/
def q_ag (h g : q_H) : Prop := g.1 = h.1 ∧ h.1 < q_M ∧ (∀ p, p < h.1 → g.2.1 p = h.2.1 p) ∧ (∀ p, p < h.1 → ∀ k, k < q_ln h p → q_rd g p k = q_rd h p k) ∧ ∀ p, q_M ≤ p → q_kd h p = 0 ∨ (g.2.1 p = h.2.1 p ∧ ∀ k, q_rd g p k = q_rd h p k)
theorem q_ag_kd {h g : q_H} (a : q_ag h g) {p : Nat} (hp : p < h.1) : q_kd g p = q_kd h p := by unfold q_kd; rw [a.2.2.1 p hp]
theorem q_ag_ln {h g : q_H} (a : q_ag h g) {p : Nat} (hp : p < h.1) : q_ln g p = q_ln h p := by unfold q_ln; rw [a.2.2.1 p hp]
theorem q_ag_ro {h g : q_H} (a : q_ag h g) {p : Nat} (hp : q_M ≤ p) (h0 : q_kd h p ≠ 0) : q_kd g p = q_kd h p ∧ q_ln g p = q_ln h p ∧ ∀ k, q_rd g p k = q_rd h p k := by
  rcases a.2.2.2.2 p hp with z | ⟨z1, z2⟩
  · exact absurd z h0
  · exact ⟨by unfold q_kd; rw [z1], by unfold q_ln; rw [z1], z2⟩
theorem q_ag_wr {h g : q_H} (a : q_ag h g) {p f : Nat} {v : Value} (hp : p < h.1) : q_ag (q_wr h p f v) (q_wr g p f v) := by
  refine ⟨a.1, a.2.1, a.2.2.1, fun q hq k hk => ?_, fun q hq => ?_⟩
  · show (if q = p ∧ k = f then v else g.2.2 q k) = (if q = p ∧ k = f then v else h.2.2 q k)
    split
    · rfl
    · exact a.2.2.2.1 q hq k hk
  · rcases a.2.2.2.2 q hq with z | ⟨z1, z2⟩
    · exact Or.inl z
    · refine Or.inr ⟨z1, fun k => ?_⟩
      show (if q = p ∧ k = f then v else g.2.2 q k) = (if q = p ∧ k = f then v else h.2.2 q k)
      split
      · rfl
      · exact z2 k
theorem q_ag_cp {h g : q_H} (a : q_ag h g) {x y sp dp n : Nat} (hx : x < h.1) (hy : y < h.1) (h1 : sp + n ≤ q_ln h x) : q_ag (q_cp h x y sp dp n) (q_cp g x y sp dp n) := by
  refine ⟨a.1, a.2.1, a.2.2.1, fun q hq k hk => ?_, fun q hq => ?_⟩
  · show (if q = y then (if dp ≤ k ∧ k < dp + n then g.2.2 x (sp + (k - dp)) else g.2.2 y k) else g.2.2 q k) = (if q = y then (if dp ≤ k ∧ k < dp + n then h.2.2 x (sp + (k - dp)) else h.2.2 y k) else h.2.2 q k)
    by_cases hqy : q = y
    · subst hqy
      rw [if_pos rfl, if_pos rfl]
      by_cases hk2 : dp ≤ k ∧ k < dp + n
      · rw [if_pos hk2, if_pos hk2]
        exact a.2.2.2.1 x hx _ (by omega)
      · rw [if_neg hk2, if_neg hk2]
        exact a.2.2.2.1 q hq k hk
    · rw [if_neg hqy, if_neg hqy]
      exact a.2.2.2.1 q hq k hk
  · have hqy : ¬ q = y := by have := a.2.1; omega
    rcases a.2.2.2.2 q hq with z | ⟨z1, z2⟩
    · exact Or.inl z
    · refine Or.inr ⟨z1, fun k => ?_⟩
      show (if q = y then _ else g.2.2 q k) = (if q = y then _ else h.2.2 q k)
      rw [if_neg hqy, if_neg hqy]
      exact z2 k
theorem q_ag_nw {h g : q_H} (a : q_ag h g) {kd ln : Nat} {f : Nat → Value} (hM : h.1 + 1 < q_M) : q_ag (q_nw h kd ln f) (q_nw g kd ln f) := by
  obtain ⟨a1, a2, a3, a4, a5⟩ := a
  refine ⟨by show g.1 + 1 = h.1 + 1; rw [a1], hM, fun p hp => ?_, fun p hp k hk => ?_, fun p hp => ?_⟩
  · show (if p = g.1 then (kd, ln) else g.2.1 p) = (if p = h.1 then (kd, ln) else h.2.1 p)
    rw [a1]
    split
    · rfl
    · exact a3 p (by have : p < h.1 + 1 := hp; omega)
  · show (if p = g.1 then f k else g.2.2 p k) = (if p = h.1 then f k else h.2.2 p k)
    rw [a1]
    split
    · rfl
    · rename_i hne
      refine a4 p (by have : p < h.1 + 1 := hp; omega) k ?_
      have e : q_ln (q_nw h kd ln f) p = q_ln h p := by simp [q_ln, q_nw, hne]
      rw [← e]
      exact hk
  · have hne : ¬ p = h.1 := by omega
    have e1 : q_kd (q_nw h kd ln f) p = q_kd h p := by simp [q_kd, q_nw, hne]
    rw [e1]
    rcases a5 p hp with z | ⟨z1, z2⟩
    · exact Or.inl z
    · refine Or.inr ⟨?_, fun k => ?_⟩
      · show (if p = g.1 then (kd, ln) else g.2.1 p) = (if p = h.1 then (kd, ln) else h.2.1 p)
        rw [a1, if_neg hne, if_neg hne]
        exact z1
      · show (if p = g.1 then f k else g.2.2 p k) = (if p = h.1 then f k else h.2.2 p k)
        rw [a1, if_neg hne, if_neg hne]
        exact z2 k
theorem q_s5_ag {Y : q_MI} {i : Instr} {k pc pc2 : Nat} {st st2 : List Value} {h h2 g : q_H} (a : q_ag h g) (h5 : q_s5 Y i k pc st h = some (pc2, st2, h2)) : ∃ g2, q_s5 Y i k pc st g = some (pc2, st2, g2) ∧ q_ag h2 g2 := by
  have hM := a.2.1
  have a1 := a.1
  unfold q_s5 at h5
  split at h5
  · split at h5
    · rename_i hk; subst hk
      split at h5
      · rename_i c0 f p0 r hf2
        split at h5
        · rename_i hc
          cases h5
          refine ⟨g, ?_, a⟩
          unfold q_s5
          dsimp only
          rw [if_pos rfl, hf2]
          dsimp only
          rw [if_pos ⟨by rw [a1]; exact hc.1, by rw [q_ag_kd a hc.1]; exact hc.2.1, by rw [q_ag_ln a hc.1]; exact hc.2.2⟩, a.2.2.2.1 _ hc.1 _ hc.2.2]
        · cases h5
      · cases h5
    · cases h5
  · split at h5
    · rename_i hk; subst hk
      split at h5
      · rename_i c0 f v p0 r hf2
        split at h5
        · rename_i hc
          cases h5
          refine ⟨_, ?_, q_ag_wr a hc.1.1⟩
          unfold q_s5
          dsimp only
          rw [if_pos rfl, hf2]
          dsimp only
          rw [if_pos ⟨⟨by rw [a1]; exact hc.1.1, by rw [q_ag_kd a hc.1.1]; exact hc.1.2.1, by rw [q_ag_ln a hc.1.1]; exact hc.1.2.2⟩, hc.2⟩]
        · cases h5
      · cases h5
    · cases h5
  · split at h5
    · rename_i hk; subst hk
      split at h5
      · rename_i i0 p0 r
        split at h5
        · rename_i hc
          obtain ⟨hin, hc⟩ := hc
          split at h5
          · rename_i x hrd
            cases h5
            refine ⟨g, ?_, a⟩
            unfold q_s5
            dsimp only
            rw [if_pos rfl]
            rcases hc with hc | ⟨hc1, hc2, hc3⟩
            · rw [if_pos ⟨by rw [q_ag_ln a hc.1]; exact hin, Or.inl ⟨by rw [a1]; exact hc.1, by rw [q_ag_kd a hc.1]; exact hc.2⟩⟩, a.2.2.2.1 _ hc.1 _ (Nat.not_le.mp fun z => hin (Or.inr z)), hrd]
            · obtain ⟨z1, z2, z3⟩ := q_ag_ro a hc1 (by rw [hc3]; decide)
              rw [if_pos ⟨by rw [z2]; exact hin, Or.inr ⟨hc1, hc2, by rw [z1]; exact hc3⟩⟩, z3, hrd]
          · cases h5
        · cases h5
      · cases h5
    · cases h5
  · split at h5
    · rename_i hk; subst hk
      split at h5
      · rename_i i0 p0 r
        split at h5
        · rename_i hc
          obtain ⟨hin, hc⟩ := hc
          split at h5
          · rename_i x hrd
            cases h5
            refine ⟨g, ?_, a⟩
            unfold q_s5
            dsimp only
            rw [if_pos rfl]
            rcases hc with hc | ⟨hc1, hc2, hc3⟩
            · rw [if_pos ⟨by rw [q_ag_ln a hc.1]; exact hin, Or.inl ⟨by rw [a1]; exact hc.1, by rw [q_ag_kd a hc.1]; exact hc.2⟩⟩, a.2.2.2.1 _ hc.1 _ (Nat.not_le.mp fun z => hin (Or.inr z)), hrd]
            · obtain ⟨z1, z2, z3⟩ := q_ag_ro a (Nat.le_trans (Nat.le_add_right _ _) hc1) (by rw [hc3]; decide)
              rw [if_pos ⟨by rw [z2]; exact hin, Or.inr ⟨hc1, hc2, by rw [z1]; exact hc3⟩⟩, z3, hrd]
          · cases h5
        · cases h5
      · cases h5
    · cases h5
  · split at h5
    · rename_i hk; subst hk
      split at h5
      · rename_i x0 i0 p0 r
        split at h5
        · rename_i hc
          cases h5
          refine ⟨_, ?_, q_ag_wr a hc.2.1⟩
          unfold q_s5
          dsimp only
          rw [if_pos rfl, if_pos ⟨by rw [q_ag_ln a hc.2.1]; exact hc.1, by rw [a1]; exact hc.2.1, by rw [q_ag_kd a hc.2.1]; exact hc.2.2⟩]
        · cases h5
      · cases h5
    · cases h5
  · split at h5
    · rename_i hk; subst hk
      split at h5
      · rename_i x0 i0 p0 r
        split at h5
        · rename_i hc
          cases h5
          refine ⟨_, ?_, q_ag_wr a hc.1.2.1⟩
          unfold q_s5
          dsimp only
          rw [if_pos rfl, if_pos ⟨⟨by rw [q_ag_ln a hc.1.2.1]; exact hc.1.1, by rw [a1]; exact hc.1.2.1, by rw [q_ag_kd a hc.1.2.1]; exact hc.1.2.2⟩, hc.2⟩]
        · cases h5
      · cases h5
    · cases h5
  · split at h5
    · rename_i hk; subst hk
      split at h5
      · rename_i p0 r
        split at h5
        · rename_i hc
          cases h5
          refine ⟨g, ?_, a⟩
          unfold q_s5
          dsimp only
          rw [if_pos rfl]
          rcases hc with ⟨hc1, hc2⟩ | ⟨hc1, hc2, hc3⟩ | ⟨hc1, hc2, hc3⟩
          · rw [if_pos (Or.inl ⟨by rw [a1]; exact hc1, by rw [q_ag_kd a hc1]; exact hc2⟩), q_ag_ln a hc1]
          · obtain ⟨z1, z2, z3⟩ := q_ag_ro a hc1 (by rw [hc3]; decide)
            rw [if_pos (Or.inr (Or.inl ⟨hc1, hc2, by rw [z1]; exact hc3⟩)), z2]
          · obtain ⟨z1, z2, z3⟩ := q_ag_ro a (Nat.le_trans (Nat.le_add_right _ _) hc1) (by rw [hc3]; decide)
            rw [if_pos (Or.inr (Or.inr ⟨hc1, hc2, by rw [z1]; exact hc3⟩)), z2]
        · cases h5
      · cases h5
    · cases h5
  · split at h5
    · rename_i hk; subst hk
      split at h5
      · rename_i c0 hf2
        split at h5
        · rename_i hc
          cases h5
          refine ⟨_, ?_, q_ag_nw a hc⟩
          unfold q_s5
          dsimp only
          rw [if_pos rfl, hf2]
          dsimp only
          rw [a1, if_pos hc]
        · cases h5
      · cases h5
    · cases h5
  · split at h5
    · rename_i hk; subst hk
      split at h5
      · rename_i x0 r
        split at h5
        · rename_i hc
          cases h5
          refine ⟨_, ?_, q_ag_nw a hc.1⟩
          unfold q_s5
          dsimp only
          rw [a1, if_pos rfl, if_pos hc]
        · cases h5
      · cases h5
    · cases h5
  · split at h5
    · rename_i hk; subst hk
      split at h5
      · rename_i x0 r
        split at h5
        · rename_i hc
          cases h5
          refine ⟨_, ?_, q_ag_nw a hc.1⟩
          unfold q_s5
          dsimp only
          rw [a1, if_pos rfl, if_pos hc]
        · cases h5
      · cases h5
    · cases h5
  · split at h5
    · rename_i hk; subst hk
      split at h5
      · rename_i n1 dp b1 sp a2 r
        split at h5
        · rename_i hc
          cases h5
          obtain ⟨hl, hr, ha, hb1, q1, q2, q3, q4, q5⟩ := hc
          refine ⟨_, ?_, q_ag_cp a ha.1 hb1.1 q4⟩
          unfold q_s5
          dsimp only
          rw [if_pos rfl, if_pos ⟨hl, hr, ⟨by rw [a1]; exact ha.1, by rw [q_ag_kd a ha.1]; exact ha.2⟩, ⟨by rw [a1]; exact hb1.1, by rw [q_ag_kd a hb1.1]; exact hb1.2⟩, q1, q2, q3, by rw [q_ag_ln a ha.1]; exact q4, by rw [q_ag_ln a hb1.1]; exact q5⟩]
        · cases h5
      · cases h5
    · cases h5
  · cases h5
/-- what only the heap can refuse: an instruction of the heap's isn't one of the others -/
theorem q_stp_ag {Y : q_MI} {i : Instr} {k pc pc2 : Nat} {ls st ls2 st2 : List Value} {h h2 g : q_H} (a : q_ag h g) (hs : q_stp Y i k pc ls st h = some (pc2, ls2, st2, h2)) : ∃ g2, q_stp Y i k pc ls st g = some (pc2, ls2, st2, g2) ∧ q_ag h2 g2 := by
  unfold q_stp at hs
  split at hs
  · rename_i h1
    cases hs
    exact ⟨g, by unfold q_stp; rw [h1], a⟩
  · rename_i h1
    split at hs
    · rename_i h2
      cases hs
      exact ⟨g, by unfold q_stp; rw [h1]; dsimp only; rw [h2], a⟩
    · rename_i h2
      split at hs
      · rename_i h3
        cases hs
        exact ⟨g, by unfold q_stp; rw [h1]; dsimp only; rw [h2]; dsimp only; rw [h3], a⟩
      · rename_i h3
        split at hs
        · rename_i h4
          cases hs
          exact ⟨g, by unfold q_stp; rw [h1]; dsimp only; rw [h2]; dsimp only; rw [h3]; dsimp only; rw [h4], a⟩
        · rename_i h4
          split at hs
          · rename_i h5
            cases hs
            obtain ⟨g2, e1, e2⟩ := q_s5_ag a h5
            exact ⟨g2, by unfold q_stp; rw [h1]; dsimp only; rw [h2]; dsimp only; rw [h3]; dsimp only; rw [h4]; dsimp only; rw [e1], e2⟩
          · cases hs
theorem q_kV_ag {t : Option (Nat × Nat)} {st : List Value} {h g : q_H} (a : q_ag h g) : q_kV t st g = q_kV t st h := by
  unfold q_kV
  split
  · split
    · rename_i p rest _
      by_cases hp : p < h.1
      · rw [a.1, q_ag_kd a hp]
      · rw [if_neg (fun z => hp (a.1 ▸ z.1)), if_neg (fun z => hp z.1)]
    · rfl
  · rfl
theorem q_kall_ag {Y : q_MI} {i : Instr} {k : Nat} {st : List Value} {h g : q_H} (a : q_ag h g) : q_kall Y i k st g = q_kall Y i k st h := by
  unfold q_kall
  simp only [q_kV_ag a]
theorem q_run_ag : ∀ (n d : Nat) (Y : q_MI) (pc : Nat) (ls st : List Value) (h : q_H) (r : Option Value) (h2 g : q_H), q_ag h g → q_run n d Y pc ls st h = some (r, h2) → ∃ g2, q_run n d Y pc ls st g = some (r, g2) ∧ q_ag h2 g2 := by
  intro n
  induction n with
  | zero => intro d Y pc ls st h r h2 g a hr; cases hr
  | succ n ih =>
    intro d Y pc ls st h r h2 g a hr
    unfold q_run at hr ⊢
    cases hd : decode Y.2.2.1 pc with
    | error x => rw [hd] at hr; cases hr
    | ok q =>
      obtain ⟨i, k⟩ := q
      rw [hd] at hr
      dsimp only at hr ⊢
      cases hq : q_ret Y i k st with
      | some r0 =>
        rw [hq] at hr
        cases hr
        exact ⟨g, rfl, a⟩
      | none =>
        rw [hq] at hr
        dsimp only at hr ⊢
        rw [q_kall_ag a]
        cases hk : q_kall Y i k st h with
        | some z =>
          obtain ⟨Z, vs, rest⟩ := z
          rw [hk] at hr
          dsimp only at hr ⊢
          cases d with
          | zero => cases hr
          | succ d =>
            dsimp only at hr ⊢
            split at hr
            · rename_i hl
              rw [if_pos hl]
              cases h1 : q_run n d Z 0 (q_en Z.2.2.2.1 vs) [] h with
              | none => rw [h1] at hr; cases hr
              | some z =>
                obtain ⟨r1, h3⟩ := z
                rw [h1] at hr
                dsimp only at hr
                obtain ⟨g3, e1, e2⟩ := ih _ _ _ _ _ _ _ _ _ a h1
                rw [e1]
                exact ih _ _ _ _ _ _ _ _ _ e2 hr
            · cases hr
        | none =>
          rw [hk] at hr
          dsimp only at hr ⊢
          cases hs : q_stp Y i k pc ls st h with
          | none => rw [hs] at hr; cases hr
          | some z =>
            obtain ⟨pc2, ls2, st2, h3⟩ := z
            rw [hs] at hr
            dsimp only at hr
            obtain ⟨g3, e1, e2⟩ := q_stp_ag a hs
            rw [e1]
            exact ih _ _ _ _ _ _ _ _ _ e2 hr
theorem q_ag_sz {h g : q_H} (a : q_ag h g) : q_sz g = q_sz h := by
  unfold q_sz
  rw [a.1]
  congr 1
  exact List.map_congr_left (fun p hp => q_ag_ln a (List.mem_range.mp hp))
/-- array places hold whole numbers -/
def q_ai (h : q_H) : Prop := ∀ p, p < h.1 → (q_kd h p = 100 ∨ q_kd h p = 101) → ∀ k, ∃ x : Int32, q_rd h p k = .int x
theorem q_s5_ai {Y : q_MI} {i : Instr} {k pc pc2 : Nat} {st st2 : List Value} {h h2 : q_H} (a : q_ai h) (h5 : q_s5 Y i k pc st h = some (pc2, st2, h2)) : q_ai h2 := by
  have wrI : ∀ (p f : Nat) (x : Int32), q_ai (q_wr h p f (.int x)) := fun p f x q hq hk j => by
    show ∃ y, (if q = p ∧ j = f then Value.int x else h.2.2 q j) = .int y
    split
    · exact ⟨x, rfl⟩
    · exact a q hq hk j
  have wrO : ∀ (p f : Nat) (v : Value), ¬ (q_kd h p = 100 ∨ q_kd h p = 101) → q_ai (q_wr h p f v) := fun p f v hno q hq hk j => by
    show ∃ y, (if q = p ∧ j = f then v else h.2.2 q j) = .int y
    split
    · rename_i hc
      rw [hc.1] at hk
      exact absurd hk hno
    · exact a q hq hk j
  have nwA : ∀ (kd ln : Nat), q_ai (q_nw h kd ln (fun _ => .int 0)) := fun kd ln q hq hk j => by
    show ∃ y, (if q = h.1 then Value.int 0 else h.2.2 q j) = .int y
    split
    · exact ⟨0, rfl⟩
    · rename_i hne
      have e : q_kd (q_nw h kd ln (fun _ => .int 0)) q = q_kd h q := by simp [q_kd, q_nw, hne]
      rw [e] at hk
      exact a q (by have : q < h.1 + 1 := hq; omega) hk j
  have nwO : ∀ (kd ln : Nat) (f : Nat → Value), kd < 11 → q_ai (q_nw h kd ln f) := fun kd ln f hk11 q hq hk j => by
    show ∃ y, (if q = h.1 then f j else h.2.2 q j) = .int y
    by_cases hne : q = h.1
    · have e : q_kd (q_nw h kd ln f) q = kd := by simp [q_kd, q_nw, hne]
      rw [e] at hk
      omega
    · have e : q_kd (q_nw h kd ln f) q = q_kd h q := by simp [q_kd, q_nw, hne]
      rw [e] at hk
      rw [if_neg hne]
      exact a q (by have : q < h.1 + 1 := hq; omega) hk j
  unfold q_s5 at h5
  split at h5 <;> (repeat' split at h5) <;> first
    | (cases h5; done)
    | (cases h5; exact a)
    | (cases h5; rename_i hf2 hc; exact wrO _ _ _ (by
        have hB := List.all_eq_true.mp q_fB_ok _ (q_f2_mem hf2)
        simp only [q_fB, Bool.and_eq_true, decide_eq_true_eq] at hB
        have := hc.1.2.1
        omega))
    | (cases h5; exact wrI _ _ _)
    | (cases h5; rename_i hf2 hc; exact nwO _ _ _ (of_decide_eq_true (List.all_eq_true.mp q_nB_ok _ (q_f2_mem hf2))))
    | (cases h5; exact nwA _ _)
    | (cases h5; rename_i hc; intro q hq hk j
       show ∃ y, (if q = _ then (if _ ≤ j ∧ j < _ then h.2.2 _ _ else h.2.2 _ j) else h.2.2 q j) = .int y
       split
       · split
         · exact a _ hc.2.2.1.1 (Or.inl hc.2.2.1.2) _
         · exact a _ hc.2.2.2.1.1 (Or.inl hc.2.2.2.1.2) _
       · exact a q hq hk j)
theorem q_stp_ai {Y : q_MI} {i : Instr} {k pc pc2 : Nat} {ls st ls2 st2 : List Value} {h h2 : q_H} (a : q_ai h) (hs : q_stp Y i k pc ls st h = some (pc2, ls2, st2, h2)) : q_ai h2 := by
  unfold q_stp at hs
  split at hs
  · cases hs; exact a
  · split at hs
    · cases hs; exact a
    · split at hs
      · cases hs; exact a
      · split at hs
        · cases hs; exact a
        · split at hs
          · rename_i h5
            cases hs
            exact q_s5_ai a h5
          · cases hs
theorem q_run_ai : ∀ (n d : Nat) (Y : q_MI) (pc : Nat) (ls st : List Value) (h : q_H) (r : Option Value) (h2 : q_H), q_ai h → q_run n d Y pc ls st h = some (r, h2) → q_ai h2 := by
  intro n
  induction n with
  | zero => intro d Y pc ls st h r h2 a hr; cases hr
  | succ n ih =>
    intro d Y pc ls st h r h2 a hr
    unfold q_run at hr
    split at hr
    · cases hr
    · split at hr
      · cases hr; exact a
      · split at hr
        · split at hr
          · cases hr
          · split at hr
            · split at hr
              · rename_i h1
                exact ih _ _ _ _ _ _ _ _ (ih _ _ _ _ _ _ _ _ a h1) hr
              · cases hr
            · cases hr
        · split at hr
          · rename_i h1
            exact ih _ _ _ _ _ _ _ _ (q_stp_ai a h1) hr
          · cases hr
