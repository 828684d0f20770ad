/-! locals and operand stack -/
def q_la (f : Value → Value) : Nat → List Value → List (Nat × Value)
  | _, [] => []
  | k, v :: vs => if q_nr v = true then (k, f v) :: q_la f (k + 1) vs else q_la f (k + 1) vs
theorem q_la_iff (f : Value → Value) : ∀ (ls : List Value) (k j : Nat) (w : Value), (j, w) ∈ q_la f k ls ↔ ∃ (i : Nat) (v : Value), ls[i]? = some v ∧ q_nr v = true ∧ j = k + i ∧ w = f v := by
  intro ls
  induction ls with
  | nil => intro k j w; simp [q_la]
  | cons a t ih =>
    intro k j w
    have key : (∃ (i : Nat) (v : Value), (a :: t)[i]? = some v ∧ q_nr v = true ∧ j = k + i ∧ w = f v) ↔ (q_nr a = true ∧ j = k ∧ w = f a) ∨ ∃ (i : Nat) (v : Value), t[i]? = some v ∧ q_nr v = true ∧ j = (k + 1) + i ∧ w = f v := by
      constructor
      · rintro ⟨i, v, h1, h2, h3, h4⟩
        cases i with
        | zero =>
          rw [List.getElem?_cons_zero] at h1
          cases h1
          exact Or.inl ⟨h2, h3, h4⟩
        | succ i =>
          rw [List.getElem?_cons_succ] at h1
          exact Or.inr ⟨i, v, h1, h2, by omega, h4⟩
      · rintro (⟨h2, h3, h4⟩ | ⟨i, v, h1, h2, h3, h4⟩)
        · exact ⟨0, a, rfl, h2, h3, h4⟩
        · exact ⟨i + 1, v, by rw [List.getElem?_cons_succ]; exact h1, h2, by omega, h4⟩
    rw [key, ← ih (k + 1) j w]
    by_cases ha : q_nr a = true
    · rw [q_la, if_pos ha]
      simp only [List.mem_cons, Prod.mk.injEq, ha, true_and]
    · rw [q_la, if_neg ha]
      simp [ha]
theorem q_cat (B : Nat) (sa : Nat → Nat) (v : Value) : (q_cv B sa v).category = v.category := by cases v <;> rfl
theorem q_lk {lsC : Array Slot} {n i : Nat} {ls : List Value} {v : Value} {f : Value → Value} (hl : lv_has lsC n (q_la f 0 ls)) (h : ls[i]? = some v) (hv : q_nr v = true) : lsC[i]? = some (.val (f v)) :=
  hl.2.2 (i, f v) ((q_la_iff f ls 0 i (f v)).mpr ⟨i, v, h, hv, by omega, rfl⟩)
theorem q_set_some {ls ls2 : List Value} {j : Nat} {v : Value} (h : q_set ls j v = some ls2) : j < ls.length ∧ (j = 0 ∨ q_lg (ls[j - 1]?) = false) ∧ ls2 = ls.set j v := by
  unfold q_set at h
  split at h
  · rename_i hc
    cases h
    exact ⟨hc.1, hc.2, rfl⟩
  · cases h
theorem q_stL {B : Nat} {sa : Nat → Nat} {lsC : Array Slot} {n j : Nat} {ls ls2 : List Value} {v : Value} (h : q_set ls j v = some ls2) (hl : lv_has lsC n ((j, q_cv B sa v) :: (q_la (q_cv B sa) 0 ls).filter (fun q => !(q.1 == j) && !(q.1 + 1 == j && q.2.category == 2)))) : lv_has lsC n (q_la (q_cv B sa) 0 ls2) := by
  obtain ⟨h1, h2, rfl⟩ := q_set_some h
  refine ⟨hl.1, hl.2.1, fun q hq => ?_⟩
  obtain ⟨a, w⟩ := q
  obtain ⟨i, u, e1, e2, e3, e4⟩ := (q_la_iff _ _ _ _ _).mp hq
  have ei : a = i := by omega
  subst ei
  subst e4
  by_cases hij : a = j
  · subst hij
    rw [List.getElem?_set_self h1] at e1
    cases e1
    exact hl.2.2 _ List.mem_cons_self
  · rw [List.getElem?_set_ne (Ne.symm hij)] at e1
    refine hl.2.2 _ (List.mem_cons_of_mem _ (List.mem_filter.mpr ⟨(q_la_iff _ _ _ _ _).mpr ⟨a, u, e1, e2, by omega, rfl⟩, ?_⟩))
    have c1 : (a == j) = false := by simp [hij]
    have c2 : (a + 1 == j && (q_cv B sa u).category == 2) = false := by
      by_cases c : a + 1 = j
      · subst c
        rcases h2 with h2 | h2
        · omega
        · have e5 : ls[a + 1 - 1]? = some u := by rw [Nat.add_sub_cancel]; exact e1
          rw [e5] at h2
          rw [q_cat]
          cases u <;> first | (simp [Value.category]; done) | (simp [q_lg] at h2; done)
      · simp [c]
    simp only [c1, c2, Bool.not_false, Bool.and_self]
theorem q_set_len {ls ls2 : List Value} {j : Nat} {v : Value} (h : q_set ls j v = some ls2) : ls2.length = ls.length := by
  obtain ⟨-, -, rfl⟩ := q_set_some h
  simp
theorem q_tg_some {pc t : Nat} {off : Int} (h : q_tg pc off = some t) : (pc : Int) + off = (t : Int) := by
  unfold q_tg at h
  split at h
  · cases h
    omega
  · cases h
section QS
variable {p : Program} {l : Launch} {e : Env} {R : Room} {s : State} {m : MethodId} {args : Array Value} {below : List Frame} {meth : Method} {c : Code} {H : Heap} {locs : List Loc} {cells slots : Nat} {Q : State → Prop}
variable {B : Nat} {sa : Nat → Nat} {cc : ByteArray}
theorem q_s1_ok (hx : p.tables.exec = Jvm.exec) (hb : c.code = cc) {n pc k pc2 : Nat} {i : Instr} {ls st ls2 st2 : List Value} {lsC : Array Slot} (hd : decode cc pc = .ok (i, k)) (h : q_s1 i k pc ls st = some (pc2, ls2, st2)) (hl : lv_has lsC n (q_la (q_cv B sa) 0 ls)) (hn : ls.length = n)
    (kk : ∀ lsD : Array Slot, lv_has lsD n (q_la (q_cv B sa) 0 ls2) → ls2.length = n → W p l e R s m args below meth c H locs cells slots Q (F0 m pc2 lsD (st2.map (q_cv B sa)))) : W p l e R s m args below meth c H locs cells slots Q (F0 m pc lsC (st.map (q_cv B sa))) := by
  unfold q_s1 at h
  split at h
  · split at h
    · rename_i hk; subst hk; cases h
      exact lv_iconst hx hb hd rfl (kk lsC hl hn)
    · cases h
  · split at h
    · rename_i hk; subst hk; cases h
      exact lv_bipush hx hb hd rfl (kk lsC hl hn)
    · cases h
  · split at h
    · rename_i hk; subst hk; cases h
      exact lv_sipush hx hb hd rfl (kk lsC hl hn)
    · cases h
  · split at h
    · rename_i hk; subst hk
      split at h
      · rename_i x hx1; cases h
        exact lv_iload_n hx hb hd rfl (q_lk hl hx1 rfl) (kk lsC hl hn)
      · cases h
    · cases h
  · split at h
    · rename_i hk; subst hk
      split at h
      · rename_i x hx1; cases h
        exact lv_iload hx hb hd (q_lk hl hx1 rfl) (kk lsC hl hn)
      · cases h
    · cases h
  · split at h
    · rename_i hk; subst hk
      split at h
      · rename_i x hx1; cases h
        exact lv_aload_n hx hb hd rfl (q_lk hl hx1 rfl) (kk lsC hl hn)
      · cases h
    · cases h
  · split at h
    · rename_i hk; subst hk
      split at h
      · rename_i x hx1; cases h
        exact lv_aload hx hb hd (q_lk hl hx1 rfl) (kk lsC hl hn)
      · cases h
    · cases h
  · split at h
    · rename_i hk; subst hk
      split at h
      · rename_i x hx1; cases h
        exact lv_lload_n hx hb hd rfl (q_lk hl hx1 rfl) (kk lsC hl hn)
      · cases h
    · cases h
  · split at h
    · rename_i hk; subst hk
      split at h
      · rename_i x r
        obtain ⟨l2, h1, h2⟩ := Option.map_eq_some_iff.mp h
        cases h2
        exact lv_istore_n hx hb hd rfl hl (by rw [← hn]; exact (q_set_some h1).1) rfl (fun lsD hD => kk lsD (q_stL h1 hD) ((q_set_len h1).trans hn))
      · cases h
    · cases h
  · split at h
    · rename_i hk; subst hk
      split at h
      · rename_i x r
        obtain ⟨l2, h1, h2⟩ := Option.map_eq_some_iff.mp h
        cases h2
        exact lv_istore hx hb hd hl (by rw [← hn]; exact (q_set_some h1).1) rfl (fun lsD hD => kk lsD (q_stL h1 hD) ((q_set_len h1).trans hn))
      · cases h
    · cases h
  · split at h
    · rename_i hk; subst hk
      split at h
      · rename_i x r
        obtain ⟨l2, h1, h2⟩ := Option.map_eq_some_iff.mp h
        cases h2
        exact lv_astore_n hx hb hd rfl hl (by rw [← hn]; exact (q_set_some h1).1) rfl (fun lsD hD => kk lsD (q_stL h1 hD) ((q_set_len h1).trans hn))
      · cases h
    · cases h
  · split at h
    · rename_i hk; subst hk
      split at h
      · rename_i x r
        obtain ⟨l2, h1, h2⟩ := Option.map_eq_some_iff.mp h
        cases h2
        exact lv_astore hx hb hd hl (by rw [← hn]; exact (q_set_some h1).1) rfl (fun lsD hD => kk lsD (q_stL h1 hD) ((q_set_len h1).trans hn))
      · cases h
    · cases h
  · split at h
    · rename_i hk; subst hk
      split at h
      · rename_i x hx1
        obtain ⟨l2, h1, h2⟩ := Option.map_eq_some_iff.mp h
        cases h2
        obtain ⟨q, hq⟩ := List.getElem?_of_mem ((q_la_iff (q_cv B sa) ls 0 _ (.int x)).mpr ⟨_, _, hx1, rfl, (Nat.zero_add _).symm, rfl⟩)
        exact lv_iinc hx hb hd hl hq rfl (by rw [← hn]; exact (q_set_some h1).1) rfl (fun lsD hD => kk lsD (q_stL h1 hD) ((q_set_len h1).trans hn))
      · cases h
    · cases h
  · cases h
theorem q_br (hx : p.tables.exec = Jvm.exec) (hb : c.code = cc) {pc t : Nat} {off : Int} {o : Jvm.ClassFile.Cond} {lsC : Array Slot} {x y : Int32} {r : List Value} (hd : decode cc pc = .ok (.if_icmp o off, 3)) (ht : (pc : Int) + off = (t : Int))
    (kk : W p l e R s m args below meth c H locs cells slots Q (F0 m (if q_cc o x y = true then t else pc + 3) lsC r)) : W p l e R s m args below meth c H locs cells slots Q (F0 m pc lsC (.int y :: .int x :: r)) := by
  cases o with
  | eq => exact lv_icmp_eq hx hb hd ht (fun h => by rw [if_pos (show q_cc .eq x y = true from decide_eq_true h)] at kk; exact kk) (fun h => by rw [if_neg (show ¬ q_cc .eq x y = true from fun z => h (of_decide_eq_true z))] at kk; exact kk)
  | ne => exact lv_icmp_ne hx hb hd ht (fun h => by rw [if_pos (show q_cc .ne x y = true from decide_eq_true h)] at kk; exact kk) (fun h => by rw [if_neg (show ¬ q_cc .ne x y = true from fun z => (of_decide_eq_true z : ¬ x = y) h)] at kk; exact kk)
  | lt => exact lv_icmp_lt hx hb hd ht (fun h => by rw [if_pos (show q_cc .lt x y = true from decide_eq_true h)] at kk; exact kk) (fun h => by rw [if_neg (show ¬ q_cc .lt x y = true from fun z => h (of_decide_eq_true z))] at kk; exact kk)
  | ge => exact lv_icmp_ge hx hb hd ht (fun h => by rw [if_pos (show q_cc .ge x y = true from decide_eq_true h)] at kk; exact kk) (fun h => by rw [if_neg (show ¬ q_cc .ge x y = true from fun z => h (of_decide_eq_true z))] at kk; exact kk)
  | gt => exact lv_icmp_gt hx hb hd ht (fun h => by rw [if_pos (show q_cc .gt x y = true from decide_eq_true h)] at kk; exact kk) (fun h => by rw [if_neg (show ¬ q_cc .gt x y = true from fun z => h (of_decide_eq_true z))] at kk; exact kk)
  | le => exact lv_icmp_le hx hb hd ht (fun h => by rw [if_pos (show q_cc .le x y = true from decide_eq_true h)] at kk; exact kk) (fun h => by rw [if_neg (show ¬ q_cc .le x y = true from fun z => h (of_decide_eq_true z))] at kk; exact kk)
theorem q_br0 (hx : p.tables.exec = Jvm.exec) (hb : c.code = cc) {pc t : Nat} {off : Int} {o : Jvm.ClassFile.Cond} {lsC : Array Slot} {x : Int32} {r : List Value} (hd : decode cc pc = .ok (.ifCond o off, 3)) (ht : (pc : Int) + off = (t : Int))
    (kk : W p l e R s m args below meth c H locs cells slots Q (F0 m (if q_cc o x 0 = true then t else pc + 3) lsC r)) : W p l e R s m args below meth c H locs cells slots Q (F0 m pc lsC (.int x :: r)) := by
  cases o with
  | eq => exact lv_if_eq hx hb hd ht (fun h => by rw [if_pos (show q_cc .eq x 0 = true from decide_eq_true h)] at kk; exact kk) (fun h => by rw [if_neg (show ¬ q_cc .eq x 0 = true from fun z => h (of_decide_eq_true z))] at kk; exact kk)
  | ne => exact lv_if_ne hx hb hd ht (fun h => by rw [if_pos (show q_cc .ne x 0 = true from decide_eq_true h)] at kk; exact kk) (fun h => by rw [if_neg (show ¬ q_cc .ne x 0 = true from fun z => (of_decide_eq_true z : ¬ x = 0) h)] at kk; exact kk)
  | lt => exact lv_if_lt hx hb hd ht (fun h => by rw [if_pos (show q_cc .lt x 0 = true from decide_eq_true h)] at kk; exact kk) (fun h => by rw [if_neg (show ¬ q_cc .lt x 0 = true from fun z => h (of_decide_eq_true z))] at kk; exact kk)
  | ge => exact lv_if_ge hx hb hd ht (fun h => by rw [if_pos (show q_cc .ge x 0 = true from decide_eq_true h)] at kk; exact kk) (fun h => by rw [if_neg (show ¬ q_cc .ge x 0 = true from fun z => h (of_decide_eq_true z))] at kk; exact kk)
  | gt => exact lv_if_gt hx hb hd ht (fun h => by rw [if_pos (show q_cc .gt x 0 = true from decide_eq_true h)] at kk; exact kk) (fun h => by rw [if_neg (show ¬ q_cc .gt x 0 = true from fun z => h (of_decide_eq_true z))] at kk; exact kk)
  | le => exact lv_if_le hx hb hd ht (fun h => by rw [if_pos (show q_cc .le x 0 = true from decide_eq_true h)] at kk; exact kk) (fun h => by rw [if_neg (show ¬ q_cc .le x 0 = true from fun z => h (of_decide_eq_true z))] at kk; exact kk)
theorem q_s2_ok (hx : p.tables.exec = Jvm.exec) (hb : c.code = cc) {pc k pc2 : Nat} {i : Instr} {st st2 : List Value} {lsC : Array Slot} (hd : decode cc pc = .ok (i, k)) (h : q_s2 i k pc st = some (pc2, st2))
    (kk : W p l e R s m args below meth c H locs cells slots Q (F0 m pc2 lsC (st2.map (q_cv B sa)))) : W p l e R s m args below meth c H locs cells slots Q (F0 m pc lsC (st.map (q_cv B sa))) := by
  unfold q_s2 at h
  split at h
  · split at h
    · rename_i hk; subst hk
      split at h
      · split at h
        · rename_i hc; cases h
          exact lv_dup hx hb hd ((q_cat B sa _).trans hc) kk
        · cases h
      · cases h
    · cases h
  · split at h
    · rename_i hk; subst hk
      split at h
      · split at h
        · rename_i hc; cases h
          exact lv_dup2_11 hx hb hd ((q_cat B sa _).trans hc.1) ((q_cat B sa _).trans hc.2) kk
        · cases h
      · cases h
    · cases h
  · split at h
    · rename_i hk; subst hk
      split at h
      · split at h
        · rename_i hc; cases h
          exact lv_pop hx hb hd ((q_cat B sa _).trans hc) kk
        · cases h
      · cases h
    · cases h
  · split at h
    · rename_i hk; subst hk
      split at h
      · cases h
        exact lv_ineg hx hb hd kk
      · cases h
    · cases h
  · split at h
    · rename_i hk; subst hk
      split at h
      · cases h
        exact lv_i2l hx hb hd rfl kk
      · cases h
    · cases h
  · split at h
    · rename_i hk; subst hk
      split at h
      · cases h
        exact lv_l2i hx hb hd rfl kk
      · cases h
    · cases h
  · split at h
    · rename_i hk; subst hk
      split at h
      · cases h
        exact lv_i2b hx hb hd rfl kk
      · cases h
    · cases h
  · split at h
    · rename_i hk; subst hk
      split at h
      · cases h
        exact lv_i2s hx hb hd rfl kk
      · cases h
    · cases h
  · split at h
    · rename_i hk; subst hk
      split at h
      · cases h
        exact lv_i2c hx hb hd rfl kk
      · cases h
    · cases h
  · split at h
    · rename_i hk; subst hk
      split at h
      · split at h
        · cases h
        · rename_i hz; cases h
          exact lv_idiv hx hb hd hz kk
      · cases h
    · cases h
  · split at h
    · rename_i hk; subst hk
      split at h
      · split at h
        · cases h
        · rename_i hz; cases h
          exact lv_irem hx hb hd hz kk
      · cases h
    · cases h
  · split at h
    · rename_i hk; subst hk
      split at h
      · cases h
        exact lv_land hx hb hd kk
      · cases h
    · cases h
  · split at h
    · rename_i hk; subst hk
      split at h
      · cases h
        exact lv_lor hx hb hd kk
      · cases h
    · cases h
  · split at h
    · rename_i hk; subst hk
      split at h
      · rename_i ht; cases h
        exact q_br0 hx hb hd (q_tg_some ht) kk
      · cases h
    · cases h
  · split at h
    · rename_i hk; subst hk
      split at h
      · rename_i ht; cases h
        exact q_br hx hb hd (q_tg_some ht) kk
      · cases h
    · cases h
  · split at h
    · rename_i hk; subst hk
      split at h
      · rename_i ht; cases h
        exact lv_goto hx hb hd (q_tg_some ht) kk
      · cases h
    · cases h
  · split at h
    · split at h
      · rename_i ho
        obtain ⟨t, h1, h2⟩ := Option.map_eq_some_iff.mp h
        cases h2
        exact lv_tableOut hx hb hd ho (q_tg_some h1) kk
      · rename_i ho
        split at h
        · rename_i o hoo
          obtain ⟨t, h1, h2⟩ := Option.map_eq_some_iff.mp h
          cases h2
          exact lv_tableIn hx hb hd (fun z => ho (Or.inl z)) (fun z => ho (Or.inr z)) hoo (q_tg_some h1) kk
        · cases h
    · cases h
  · split at h
    · split at h
      · rename_i ho
        obtain ⟨t, h1, h2⟩ := Option.map_eq_some_iff.mp h
        cases h2
        exact lv_lookup hx hb hd ho rfl (q_tg_some h1) kk
      · cases h
    · cases h
  · cases h
theorem q_bin_ok (hx : p.tables.exec = Jvm.exec) (hb : c.code = cc) {pc : Nat} {i : Instr} {f : Int32 → Int32 → Int32} {x y : Int32} {r : List Value} {lsC : Array Slot} (hd : decode cc pc = .ok (i, 1)) (h : q_bin i = some f)
    (kk : W p l e R s m args below meth c H locs cells slots Q (F0 m (pc + 1) lsC (.int (f x y) :: r))) : W p l e R s m args below meth c H locs cells slots Q (F0 m pc lsC (.int y :: .int x :: r)) := by
  unfold q_bin at h
  split at h <;> cases h
  · exact lv_iadd hx hb hd kk
  · exact lv_isub hx hb hd kk
  · exact lv_imul hx hb hd kk
  · exact lv_iand hx hb hd kk
  · exact lv_ior hx hb hd kk
  · exact lv_ixor hx hb hd kk
  · exact lv_ishl hx hb hd kk
  · exact lv_ishr hx hb hd kk
  · exact lv_iushr hx hb hd rfl kk
theorem q_lsh_ok (hx : p.tables.exec = Jvm.exec) (hb : c.code = cc) {pc : Nat} {i : Instr} {f : Int64 → Int32 → Int64} {x : Int64} {y : Int32} {r : List Value} {lsC : Array Slot} (hd : decode cc pc = .ok (i, 1)) (h : q_lsh i = some f)
    (kk : W p l e R s m args below meth c H locs cells slots Q (F0 m (pc + 1) lsC (.long (f x y) :: r))) : W p l e R s m args below meth c H locs cells slots Q (F0 m pc lsC (.int y :: .long x :: r)) := by
  unfold q_lsh at h
  split at h <;> cases h
  · exact lv_lshl hx hb hd rfl kk
  · exact lv_lshr hx hb hd rfl kk
  · exact lv_lushr hx hb hd rfl kk
theorem q_s3_ok (hx : p.tables.exec = Jvm.exec) (hb : c.code = cc) {pc k pc2 : Nat} {i : Instr} {st st2 : List Value} {lsC : Array Slot} (hd : decode cc pc = .ok (i, k)) (h : q_s3 i k pc st = some (pc2, st2))
    (kk : W p l e R s m args below meth c H locs cells slots Q (F0 m pc2 lsC (st2.map (q_cv B sa)))) : W p l e R s m args below meth c H locs cells slots Q (F0 m pc lsC (st.map (q_cv B sa))) := by
  unfold q_s3 at h
  split at h
  · rename_i hk; subst hk
    split at h
    · rename_i f y x r hf; cases h
      exact q_bin_ok hx hb hd hf kk
    · split at h
      · rename_i f y x r hf _; cases h
        exact q_lsh_ok hx hb hd hf kk
      · cases h
  · cases h
end QS
