/-! the heap's part: a world by places -/
theorem q_cat_cv {B : Nat} {sa : Nat → Nat} (v : Value) : (q_cv B sa v).category = v.category := by cases v <;> rfl
theorem q_sum8 {B : Nat} {sa : Nat → Nat} : ∀ (r : List Value), ((r.map (q_cv B sa)).map fun v => v.category).sum ≤ q_ns r
  | [] => Nat.le_refl _
  | v :: r => by
    have ih := q_sum8 (B := B) (sa := sa) r
    have h1 := q_cat_cv (B := B) (sa := sa) v
    unfold q_ns at ih ⊢
    simp only [List.map_cons, List.sum_cons]
    omega
theorem q_cv_lo {B : Nat} {sa : Nat → Nat} {p : Nat} (h : p < q_M) : q_cv B sa (.ref p) = .ref (B + p) := by simp [q_cv, h]
theorem q_cv_hi {B : Nat} {sa : Nat → Nat} {p : Nat} : q_cv B sa (.ref (q_M + p)) = .ref (sa p) := by
  show Value.ref (if q_M + p < q_M then B + (q_M + p) else sa (q_M + p - q_M)) = _
  rw [if_neg (by omega), Nat.add_sub_cancel_left]
theorem q_el_obj {B : Nat} {sa : Nat → Nat} {cI cZ : ClassId} {h : q_H} {p c : Nat} (hc : q_kd h p = c) (h11 : c < 11) : q_el B sa cI cZ h p = .inr (c, (List.range (q_ln h p)).map (fun k => q_cv B sa (q_rd h p k))) := by
  unfold q_el
  rw [if_neg (by omega), if_neg (by omega), hc]
theorem q_el_int {B : Nat} {sa : Nat → Nat} {cI cZ : ClassId} {h : q_H} {p : Nat} (hc : q_kd h p = 100) : q_el B sa cI cZ h p = .inl (cI, (q_ln h p, .inl (fun k => q_iv (q_rd h p k)))) := by
  unfold q_el
  rw [if_pos hc]
theorem q_el_bol {B : Nat} {sa : Nat → Nat} {cI cZ : ClassId} {h : q_H} {p : Nat} (hc : q_kd h p = 101) : q_el B sa cI cZ h p = .inl (cZ, (q_ln h p, .inl (fun k => q_iv (q_rd h p k)))) := by
  unfold q_el
  rw [if_neg (by omega), if_pos hc]
theorem q_ws_get {B : Nat} {sa : Nat → Nat} {cI cZ : ClassId} {h : q_H} {k : Nat} (hk : k < h.1) : (q_ws B sa cI cZ h)[k]? = some (B + k, q_el B sa cI cZ h k) := by
  simp [q_ws, hk]
theorem q_ws_none {B : Nat} {sa : Nat → Nat} {cI cZ : ClassId} {h : q_H} {k : Nat} (hk : h.1 ≤ k) : (q_ws B sa cI cZ h)[k]? = none := by
  simp [q_ws, hk]
theorem q_ws_len {B : Nat} {sa : Nat → Nat} {cI cZ : ClassId} {h : q_H} : (q_ws B sa cI cZ h).length = h.1 := by simp [q_ws]
theorem q_ws_inv {B : Nat} {sa : Nat → Nat} {cI cZ : ClassId} {h : q_H} {k : Nat} {q : Nat × va_E} (hq : (q_ws B sa cI cZ h)[k]? = some q) : k < h.1 ∧ q = (B + k, q_el B sa cI cZ h k) := by
  by_cases hk : k < h.1
  · rw [q_ws_get hk] at hq
    exact ⟨hk, (Option.some.inj hq).symm⟩
  · rw [q_ws_none (by omega)] at hq
    cases hq
theorem q_ws_D {B : Nat} {sa : Nat → Nat} {cI cZ : ClassId} {h : q_H} : va_D (fun q => B ≤ q) (q_ws B sa cI cZ h) := by
  refine ⟨fun i j x y hi hj hxy => ?_, fun k q hk => ?_⟩
  · obtain ⟨-, rfl⟩ := q_ws_inv hi
    obtain ⟨-, rfl⟩ := q_ws_inv hj
    dsimp only at hxy
    omega
  · obtain ⟨-, rfl⟩ := q_ws_inv hk
    exact Nat.le_add_right _ _
/-- one place put anew -/
theorem q_ws_put {B : Nat} {sa : Nat → Nat} {cI cZ : ClassId} {h h2 : q_H} {p : Nat} {x : va_E} (h1 : h2.1 = h.1) (hx : q_el B sa cI cZ h2 p = x) (ho : ∀ k, k ≠ p → q_el B sa cI cZ h2 k = q_el B sa cI cZ h k) : (q_ws B sa cI cZ h).set p (B + p, x) = q_ws B sa cI cZ h2 := by
  apply List.ext_getElem?
  intro k
  by_cases hk : k < h.1
  · rw [q_ws_get (h := h2) (by omega)]
    by_cases hkp : k = p
    · subst hkp
      rw [List.getElem?_set_self (by rw [q_ws_len]; exact hk), hx]
    · rw [List.getElem?_set_ne (Ne.symm hkp), q_ws_get hk, ho k hkp]
  · rw [q_ws_none (h := h2) (by omega)]
    exact List.getElem?_eq_none (by rw [List.length_set, q_ws_len]; omega)
theorem q_el_wr_ne {B : Nat} {sa : Nat → Nat} {cI cZ : ClassId} {h : q_H} {p f k : Nat} {v : Value} (hk : k ≠ p) : q_el B sa cI cZ (q_wr h p f v) k = q_el B sa cI cZ h k := by
  have e : ∀ j, q_rd (q_wr h p f v) k j = q_rd h k j := fun j => by simp [q_rd, q_wr, hk]
  unfold q_el
  simp only [e]
  rfl
theorem q_wr_obj {B : Nat} {sa : Nat → Nat} {cI cZ : ClassId} {h : q_H} {p f c : Nat} {v : Value} (hc : q_kd h p = c) (h11 : c < 11) (hf : f < q_ln h p) : (q_ws B sa cI cZ h).set p (B + p, .inr (c, ((List.range (q_ln h p)).map (fun k => q_cv B sa (q_rd h p k))).set f (q_cv B sa v))) = q_ws B sa cI cZ (q_wr h p f v) := by
  refine q_ws_put rfl ?_ (fun k hk => q_el_wr_ne hk)
  rw [q_el_obj (h := q_wr h p f v) (show q_kd (q_wr h p f v) p = c from hc) h11]
  have e : (List.range (q_ln (q_wr h p f v) p)).map (fun k => q_cv B sa (q_rd (q_wr h p f v) p k)) = ((List.range (q_ln h p)).map (fun k => q_cv B sa (q_rd h p k))).set f (q_cv B sa v) := by
    apply List.ext_getElem?
    intro k
    show ((List.range (q_ln h p)).map _)[k]? = _
    by_cases hk : k < q_ln h p
    · by_cases hkf : k = f
      · subst hkf
        rw [List.getElem?_set_self (by simp [hk])]
        simp [hk, q_rd, q_wr]
      · rw [List.getElem?_set_ne (Ne.symm hkf)]
        simp [hk, q_rd, q_wr, hkf]
    · rw [List.getElem?_eq_none (by simp; omega), List.getElem?_eq_none (by simp; omega)]
  rw [e]
theorem q_wr_int {B : Nat} {sa : Nat → Nat} {cI cZ : ClassId} {h : q_H} {p f : Nat} {x : Int32} (hc : q_kd h p = 100) : (q_ws B sa cI cZ h).set p (B + p, .inl (cI, (q_ln h p, .inl (upd (fun k => q_iv (q_rd h p k)) f x)))) = q_ws B sa cI cZ (q_wr h p f (.int x)) := by
  refine q_ws_put rfl ?_ (fun k hk => q_el_wr_ne hk)
  rw [q_el_int (h := q_wr h p f (.int x)) (show q_kd (q_wr h p f (.int x)) p = 100 from hc)]
  have e : (fun k => q_iv (q_rd (q_wr h p f (.int x)) p k)) = upd (fun k => q_iv (q_rd h p k)) f x := by
    funext k
    by_cases hk : k = f <;> simp [q_rd, q_wr, upd, hk, q_iv]
  rw [e]
  rfl
theorem q_wr_bol {B : Nat} {sa : Nat → Nat} {cI cZ : ClassId} {h : q_H} {p f : Nat} {x : Int32} (hc : q_kd h p = 101) : (q_ws B sa cI cZ h).set p (B + p, .inl (cZ, (q_ln h p, .inl (upd (fun k => q_iv (q_rd h p k)) f x)))) = q_ws B sa cI cZ (q_wr h p f (.int x)) := by
  refine q_ws_put rfl ?_ (fun k hk => q_el_wr_ne hk)
  rw [q_el_bol (h := q_wr h p f (.int x)) (show q_kd (q_wr h p f (.int x)) p = 101 from hc)]
  have e : (fun k => q_iv (q_rd (q_wr h p f (.int x)) p k)) = upd (fun k => q_iv (q_rd h p k)) f x := by
    funext k
    by_cases hk : k = f <;> simp [q_rd, q_wr, upd, hk, q_iv]
  rw [e]
  rfl
theorem q_cp_int {B : Nat} {sa : Nat → Nat} {cI cZ : ClassId} {h : q_H} {a b sp dp n : Nat} (hc : q_kd h b = 100) : (q_ws B sa cI cZ h).set b (B + b, .inl (cI, (q_ln h b, .inl (va_cpy (fun k => q_iv (q_rd h a k)) (fun k => q_iv (q_rd h b k)) sp dp n)))) = q_ws B sa cI cZ (q_cp h a b sp dp n) := by
  refine q_ws_put rfl ?_ (fun k hk => ?_)
  · rw [q_el_int (h := q_cp h a b sp dp n) (show q_kd (q_cp h a b sp dp n) b = 100 from hc)]
    have e : (fun k => q_iv (q_rd (q_cp h a b sp dp n) b k)) = va_cpy (fun k => q_iv (q_rd h a k)) (fun k => q_iv (q_rd h b k)) sp dp n := by
      funext k
      by_cases hk : dp ≤ k ∧ k < dp + n <;> simp [q_rd, q_cp, va_cpy, hk]
    rw [e]
    rfl
  · have e : ∀ j, q_rd (q_cp h a b sp dp n) k j = q_rd h k j := fun j => by simp [q_rd, q_cp, hk]
    unfold q_el
    simp only [e]
    rfl
theorem q_ws_nw {B : Nat} {sa : Nat → Nat} {cI cZ : ClassId} {h : q_H} {kd ln : Nat} {f : Nat → Value} {x : va_E} (hx : q_el B sa cI cZ (q_nw h kd ln f) h.1 = x) : q_ws B sa cI cZ h ++ [(B + h.1, x)] = q_ws B sa cI cZ (q_nw h kd ln f) := by
  have ho : ∀ k, k ≠ h.1 → q_el B sa cI cZ (q_nw h kd ln f) k = q_el B sa cI cZ h k := by
    intro k hk
    have e : ∀ j, q_rd (q_nw h kd ln f) k j = q_rd h k j := fun j => by simp [q_rd, q_nw, hk]
    have e1 : q_kd (q_nw h kd ln f) k = q_kd h k := by simp [q_kd, q_nw, hk]
    have e2 : q_ln (q_nw h kd ln f) k = q_ln h k := by simp [q_ln, q_nw, hk]
    unfold q_el
    simp only [e, e1, e2]
  apply List.ext_getElem?
  intro k
  rcases Nat.lt_trichotomy k h.1 with hk | hk | hk
  · rw [List.getElem?_append_left (by rw [q_ws_len]; exact hk), q_ws_get hk, q_ws_get (h := q_nw h kd ln f) (show k < h.1 + 1 by omega), ho k (by omega)]
  · subst hk
    rw [List.getElem?_append_right (by rw [q_ws_len]; exact Nat.le_refl _), q_ws_len, Nat.sub_self, q_ws_get (h := q_nw h kd ln f) (show h.1 < h.1 + 1 by omega), hx]
    rfl
  · rw [q_ws_none (h := q_nw h kd ln f) (show h.1 + 1 ≤ k from hk)]
    exact List.getElem?_eq_none (by rw [List.length_append, q_ws_len]; simp; omega)
def q_sz (h : q_H) : Nat := ((List.range h.1).map (fun p => q_ln h p)).sum
theorem q_sz_nw {h : q_H} {kd ln : Nat} {f : Nat → Value} : q_sz (q_nw h kd ln f) = q_sz h + ln := by
  unfold q_sz
  show ((List.range (h.1 + 1)).map _).sum = _
  rw [List.range_succ, List.map_append, List.sum_append]
  have e : (List.range h.1).map (fun p => q_ln (q_nw h kd ln f) p) = (List.range h.1).map (fun p => q_ln h p) := by
    apply List.map_congr_left
    intro p hp
    have : p < h.1 := List.mem_range.mp hp
    simp [q_ln, q_nw, Nat.ne_of_lt this]
  rw [e]
  simp [q_ln, q_nw]
/-- links of nest mates, asked of a state's tables -/
def q_Ns (U : State) : Prop := (∀ q ∈ q_mT3, va_Nw (q_mW3 q) U) ∧ ∀ q ∈ q_mT4, va_Nw (q_mW4 q) U
theorem q_Ns_warm {s U : State} (hW : s.WarmedH U.vm) (h : q_Ns s) : q_Ns U := ⟨fun q hq => va_Nw.warmM hW (h.1 q hq), fun q hq => va_Nw.warmM hW (h.2 q hq)⟩
theorem q_Ns_same {s U : State} (hW : s.vm = U.vm) (h : q_Ns s) : q_Ns U := ⟨fun q hq => va_Nw.same rfl hW (h.1 q hq), fun q hq => va_Nw.same rfl hW (h.2 q hq)⟩
/-- the String constants, and String's one static -/
def q_Str (sa : Nat → Nat) (B : Nat) (h : q_H) (U : State) (H : Heap) : Prop := va_Z "java/lang/String" "COMPACT_STRINGS" "Z" (.int 1) (fun q => B ≤ q) U H ∧ (∀ k, k < 3 → vk_R RX8 (83 + 2 * k) (q_tx k) (sa (7 + k)) U ∧ va_O "java/lang/String" (sa (7 + k)) (fun q => B ≤ q) U H ∧ va_OF "java/lang/String" "code\x72" "B" (.int 0) (sa (7 + k)) (fun q => B ≤ q) U H ∧ va_OF "java/lang/String" "value" "[B" (.ref (sa (10 + k))) (sa (7 + k)) (fun q => B ≤ q) U H) ∧ ∀ k, k < 3 → q_kd h (q_M + (10 + k)) = 103 → va_T .byte (sa (10 + k)) (q_ln h (q_M + (10 + k))) (fun j => q_rd h (q_M + (10 + k)) j) (fun q => B ≤ q) U H
/-- what is only read: the script, and the classes' own arrays -/
def q_Ro (sa : Nat → Nat) (B : Nat) (h : q_H) (U : State) (H : Heap) : Prop := (∀ k, k < 7 → q_kd h (q_M + k) = 102 → va_T .int (sa k) (q_ln h (q_M + k)) (fun j => q_rd h (q_M + k) j) (fun q => B ≤ q) U H) ∧ (∀ k, 1 ≤ k → k < 7 → va_Z (q_sta k).1 (q_sta k).2 "[I" (.ref (sa k)) (fun q => B ≤ q) U H) ∧ q_Ns U ∧ q_Str sa B h U H
def q_In (D : va_G) (cI cZ : ClassId) (B : Nat) (sa : Nat → Nat) (s : State) (H : Heap) (locs : List Loc) (h : q_H) : Prop :=
  h.1 < q_M ∧ va_P D q_cls (q_ws B sa cI cZ h) H ∧ va_S (fun q => B ≤ q) s.heap H locs ∧ q_Ro sa B h s s.heap
def q_Fr (p : Program) (R : Room) (s : State) (m : MethodId) (args : Array Value) (meth : Method) (c : Code) (D : va_G) (cI cZ : ClassId) (B n0 : Nat) (Y : q_MI) (d : Nat) : Prop :=
  p.tables.exec = Jvm.exec ∧ c.code = Y.2.2.1 ∧ c.maxLocals = Y.2.2.2.1 ∧ s.vm.findClass (q_cn Y.1) = some m.cls ∧ (∀ w ∈ q_tbl, w.before args s = true) ∧ (Y.2.1.name = "<init>" → meth.name = "<init>") ∧ va_K D q_cls [(cI, .int), (cZ, .boolean)] s ∧ s.heap.size = B + n0 ∧ 2 * d + 2 ≤ R.frames ∧ 100 * d + 100 ≤ R.locals ∧ Y.1 < 17
theorem q_narrow {B : Nat} {sa : Nat → Nat} {ty : FieldType} {v : Value} (h : narrow ty v = v) : narrow ty (q_cv B sa v) = q_cv B sa v := by
  cases v with
  | ref k => cases ty <;> rfl
  | _ => exact h
theorem q_fits {B : Nat} {sa : Nat → Nat} {ty : FieldType} {v : Value} (h : fits ty v = true) : fits ty (q_cv B sa v) = true := by
  cases v with
  | ref k => cases ty <;> first | rfl | exact h
  | _ => exact h
section QH
variable {p : Program} {l : Launch} {e : Env} {R : Room} {s : State} {m : MethodId} {args : Array Value} {below : List Frame} {meth : Method} {c : Code} {H : Heap} {locs : List Loc} {cells slots : Nat} {Q : State → Prop}
variable {D : va_G} {cI cZ : ClassId} {B n0 : Nat} {sa : Nat → Nat} {Y : q_MI} {d : Nat}
theorem q_word (F : q_Fr p R s m args meth c D cI cZ B n0 Y d) {w : Jvm.Cond} (h : w ∈ lw_tbl) (g : goodWord w = true) : w.before args s = true := F.2.2.2.2.1 w (q_use h g)
/-- the heap is as long as it has places -/
theorem q_size {h : q_H} {g : JFrame} (hs : s.heap.size = B + n0) (hn : n0 ≤ h.1) (hc : cells = h.1 - n0) (hP : va_P D q_cls (q_ws B sa cI cZ h) H) (hS : va_S (fun q => B ≤ q) s.heap H locs)
    (kk : H.size = B + h.1 → W p l e R s m args below meth c H locs cells slots Q g) : W p l e R s m args below meth c H locs cells slots Q g := by
  intro T hT X
  have h1 : s.heap.size ≤ T.heap.size := X.same.2.1
  have h2 : T.heap.size ≤ s.heap.size + cells := X.same.2.2.1
  rw [hT] at h1 h2
  have h3 : H.size = B + h.1 := by
    by_cases hz : h.1 = n0
    · omega
    · have h4 := (hP (h.1 - 1) _ (q_ws_get (show h.1 - 1 < h.1 by omega))).lt
      dsimp only at h4
      omega
  exact kk h3 T hT X
theorem q_s4_ok (F : q_Fr p R s m args meth c D cI cZ B n0 Y d) {h : q_H} (I : q_In D cI cZ B sa s H locs h) {pc k pc2 n : Nat} {i : Instr} {st st2 : List Value} {lsC : Array Slot} (hls : lsC.size = n) (hn : n = Y.2.2.2.1) (hd : decode Y.2.2.1 pc = .ok (i, k)) (hcs : cells ≤ R.cells ∧ slots ≤ R.slots) (h4 : q_s4 Y i k pc st = some (pc2, st2))
    (kk : W p l e R s m args below meth c H locs cells slots Q (F0 m pc2 lsC (st2.map (q_cv B sa)))) : W p l e R s m args below meth c H locs cells slots Q (F0 m pc lsC (st.map (q_cv B sa))) := by
  obtain ⟨hx, hb, hml, hown, hts, hini, hK, hsz, hf, hlo, h15⟩ := id F
  obtain ⟨hM, hP, hS, hR1, hR2⟩ := I
  unfold q_s4 at h4
  split at h4
  · split at h4
    · rename_i hk; subst hk
      split at h4
      · rename_i h1
        cases h4
        exact lv_ldc hx hb hown (q_word F (q_cstT_ok _ (q_f2_mem h1)) rfl) hd kk
      · obtain ⟨v, h1, h2⟩ := Option.map_eq_some_iff.mp h4
        cases h2
        have hm := q_f2_mem h1
        obtain ⟨z1, z2, z3⟩ := of_decide_eq_true (List.all_eq_true.mp q_tR _ hm)
        dsimp only at z1 z2 z3
        rw [List.map_cons, q_cv_hi] at kk
        subst z3
        exact va_ldcS hx hb (own := RX8) (tx := q_tx v) (by rw [z1] at hown; exact hown) (hR2.2.2.2.1 v z2).1 hd kk
    · cases h4
  · split at h4
    · rename_i hk; subst hk
      obtain ⟨v, h1, h2⟩ := Option.map_eq_some_iff.mp h4
      cases h2
      exact lv_ldcw hx hb hown (q_word F (q_cstT_ok _ (q_f2_mem h1)) rfl) hd kk
    · cases h4
  · split at h4
    · rename_i hk; subst hk
      obtain ⟨v, h1, h2⟩ := Option.map_eq_some_iff.mp h4
      cases h2
      exact lv_ldc2 hx hb hown (q_word F (q_lcsT_ok _ (q_f2_mem h1)) rfl) hd kk
    · cases h4
  · split at h4
    · rename_i hk; subst hk
      split at h4
      · rename_i v h1
        cases h4
        have hm := q_f2_mem h1
        have hb2 := of_decide_eq_true (List.all_eq_true.mp q_sB_ok _ hm)
        refine va_gets hx hb (hR2.1 v hb2.1 hb2.2) hS hown (q_word F (q_staT_ok _ hm) rfl) (fun _ hq => hq) hd ?_
        rw [List.map_cons, q_cv_hi] at kk
        exact kk
      · split at h4
        · rename_i hc
          cases h4
          exact va_gets hx hb hR2.2.2.1 hS hown (q_word F (q_csT_ok _ hc) rfl) (fun _ hq => hq) hd kk
        · cases h4
    · cases h4
  · split at h4
    · rename_i hk; subst hk
      split at h4
      · rename_i f p0 r hf2
        split at h4
        · rename_i hc
          cases h4
          have hm := q_f2_mem hf2
          have hf9 := of_decide_eq_true (List.all_eq_true.mp q_fR _ hm)
          dsimp only at hf9
          obtain ⟨j, hj, rfl⟩ : ∃ j, j < 3 ∧ p0 = q_M + (7 + j) := ⟨p0 - (q_M + 7), Nat.sub_lt_left_of_lt_add hc.1 hc.2, by rw [← Nat.add_assoc]; exact (Nat.add_sub_cancel' hc.1).symm⟩
          rw [List.map_cons, q_cv_hi]
          obtain ⟨-, g2, g3, g4⟩ := hR2.2.2.2.1 j hj
          have hw := q_word F (q_sfT_ok _ hm) rfl
          by_cases h0 : f = 0
          · subst h0
            exact vk_getf hx hb g3 hS hown hw (fun _ hq => hq) hd kk
          · have h1 : f = 1 := by omega
            subst h1
            refine vk_getf hx hb g4 hS hown hw (fun _ hq => hq) hd ?_
            rw [if_neg (by decide), List.map_cons, show q_M + (7 + j) + 3 = q_M + (10 + j) by omega, q_cv_hi] at kk
            exact kk
        · cases h4
      · cases h4
    · cases h4
  · split at h4
    · rename_i hk; subst hk
      split at h4
      · rename_i a r
        split at h4
        · rename_i hc
          cases h4
          have h8 := q_sum8 (B := B) (sa := sa) st2
          refine W.objInit (rest := st2.map (q_cv B sa)) (a := if a < q_M then B + a else sa (a - q_M)) hx hb hown (q_word F (q_oT_ok _ hc.1) rfl) (q_word F q_wOi rfl) (q_word F q_wOc rfl) rfl (by show lsC.size = _; rw [hls, hn, hml]) rfl hd (by omega) (by show 2 * 0 + _ + 12 ≤ _; have := hc.2; omega) kk
        · cases h4
      · cases h4
    · cases h4
  · split at h4
    · rename_i hk; subst hk
      split at h4
      · rename_i b r
        have h8 := q_sum8 (B := B) (sa := sa)
        split at h4
        · rename_i ha
          split at h4
          · rename_i hr
            cases h4
            have h9 := h8 r
            exact va_mabs hx hb (by rw [hls, hn, hml]) hown (q_word F (q_aT_ok _ ha) rfl) (q_word F q_wSabs rfl) (q_word F q_wM rfl) (q_word F q_wCabs rfl) (by omega) (by omega) hcs.1 hcs.2 hd kk
          · cases h4
        · split at h4
          · rename_i a r2
            split at h4
            · rename_i hr
              have h9 := h8 r2
              split at h4
              · rename_i ha
                cases h4
                exact va_mmax hx hb (by rw [hls, hn, hml]) hown (q_word F (q_xT_ok _ ha) rfl) (q_word F q_wSmax rfl) (q_word F q_wM rfl) (q_word F q_wCmax rfl) (by omega) (by omega) hcs.1 hcs.2 hd kk
              · split at h4
                · rename_i ha
                  cases h4
                  exact va_mmin hx hb (by rw [hls, hn, hml]) hown (q_word F (q_nT_ok _ ha) rfl) (q_word F q_wSmin rfl) (q_word F q_wM rfl) (q_word F q_wCmin rfl) (by omega) (by omega) hcs.1 hcs.2 hd kk
                · cases h4
            · cases h4
          · cases h4
      · cases h4
    · cases h4
  · cases h4
end QH
