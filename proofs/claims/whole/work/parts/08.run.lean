/-! a run tells what the machine does -/
def q_pre (h h2 : q_H) : Prop := h.1 ≤ h2.1 ∧ q_sz h ≤ q_sz h2 ∧ (h.1 < q_M → h2.1 < q_M ∧ (∀ k, h2.2.1 (q_M + k) = h.2.1 (q_M + k)) ∧ ∀ k, h2.2.2 (q_M + k) = h.2.2 (q_M + k))
theorem q_pre_rf (h : q_H) : q_pre h h := ⟨Nat.le_refl _, Nat.le_refl _, fun hM => ⟨hM, fun _ => rfl, fun _ => rfl⟩⟩
theorem q_pre_tr {a b c : q_H} (h1 : q_pre a b) (h2 : q_pre b c) : q_pre a c :=
  ⟨Nat.le_trans h1.1 h2.1, Nat.le_trans h1.2.1 h2.2.1, fun hM => by
    obtain ⟨x1, x2, x3⟩ := h1.2.2 hM
    obtain ⟨y1, y2, y3⟩ := h2.2.2 x1
    exact ⟨y1, fun k => (y2 k).trans (x2 k), fun k => (y3 k).trans (x3 k)⟩⟩
theorem q_pre_wr {h : q_H} {p f : Nat} {v : Value} (hp : p < h.1) : q_pre h (q_wr h p f v) :=
  ⟨Nat.le_refl _, Nat.le_refl _, fun hM => ⟨hM, fun _ => rfl, fun k => by
    funext j
    have : ¬ q_M + k = p := by omega
    simp [q_wr, this]⟩⟩
theorem q_pre_cp {h : q_H} {a b sp dp n : Nat} (hp : b < h.1) : q_pre h (q_cp h a b sp dp n) :=
  ⟨Nat.le_refl _, Nat.le_refl _, fun hM => ⟨hM, fun _ => rfl, fun k => by
    funext j
    have : ¬ q_M + k = b := by omega
    simp [q_cp, this]⟩⟩
theorem q_pre_nw {h : q_H} {kd ln : Nat} {f : Nat → Value} (hM1 : h.1 + 1 < q_M) : q_pre h (q_nw h kd ln f) :=
  ⟨Nat.le_succ _, by rw [q_sz_nw]; exact Nat.le_add_right _ _, fun hM => ⟨hM1, fun k => by
    have : ¬ q_M + k = h.1 := by omega
    simp [q_nw, this], fun k => by
    funext j
    have : ¬ q_M + k = h.1 := by omega
    simp [q_nw, this]⟩⟩
theorem q_s5_pre {Y : q_MI} {i : Instr} {k pc pc2 : Nat} {st st2 : List Value} {h h2 : q_H} (h5 : q_s5 Y i k pc st h = some (pc2, st2, h2)) : q_pre h h2 := by
  unfold q_s5 at h5
  split at h5 <;> (repeat' split at h5) <;> first
    | (cases h5; done)
    | (cases h5; exact q_pre_rf _)
    | (cases h5; rename_i hc; exact q_pre_wr hc.1.1)
    | (cases h5; rename_i hc; exact q_pre_wr hc.2.1)
    | (cases h5; rename_i hc; exact q_pre_wr hc.1.2.1)
    | (cases h5; rename_i hc; exact q_pre_nw hc)
    | (cases h5; rename_i hc; exact q_pre_nw hc.1)
    | (cases h5; rename_i hc; exact q_pre_cp hc.2.2.2.1.1)
theorem q_stp_pre {Y : q_MI} {i : Instr} {k pc pc2 : Nat} {ls st ls2 st2 : List Value} {h h2 : q_H} (hs : q_stp Y i k pc ls st h = some (pc2, ls2, st2, h2)) : q_pre h h2 := by
  unfold q_stp at hs
  split at hs
  · cases hs; exact q_pre_rf _
  · split at hs
    · cases hs; exact q_pre_rf _
    · split at hs
      · cases hs; exact q_pre_rf _
      · split at hs
        · cases hs; exact q_pre_rf _
        · split at hs
          · rename_i h5
            cases hs
            exact q_s5_pre h5
          · cases hs
theorem q_run_pre : ∀ (n d : Nat) (Y : q_MI) (pc : Nat) (ls st : List Value) (h : q_H) (r : Option Value) (h2 : q_H), q_run n d Y pc ls st h = some (r, h2) → q_pre h h2 := by
  intro n
  induction n with
  | zero => intro d Y pc ls st h r h2 hr; cases hr
  | succ n ih =>
    intro d Y pc ls st h r h2 hr
    unfold q_run at hr
    split at hr
    · cases hr
    · split at hr
      · cases hr; exact q_pre_rf _
      · split at hr
        · split at hr
          · cases hr
          · split at hr
            · split at hr
              · rename_i h1
                exact q_pre_tr (ih _ _ _ _ _ _ _ _ h1) (ih _ _ _ _ _ _ _ _ hr)
              · cases hr
            · cases hr
        · split at hr
          · rename_i h1
            exact q_pre_tr (q_stp_pre h1) (ih _ _ _ _ _ _ _ _ hr)
          · cases hr
def q_Rep (D : va_G) (cI cZ : ClassId) (B : Nat) (sa : Nat → Nat) (h : q_H) (U : State) : Prop := U.heap.size = B + h.1 ∧ h.1 < q_M ∧ va_P D q_cls (q_ws B sa cI cZ h) U.heap ∧ va_K D q_cls [(cI, .int), (cZ, .boolean)] U ∧ q_Ro sa B h U U.heap
theorem q_Ro_moved {sa : Nat → Nat} {B : Nat} {h : q_H} {u U : State} {H H1 : Heap} (hvm : u.vm.Alike U.vm) (hN : q_Ns U) (hRk : ∀ k, k < 3 → vk_R RX8 (83 + 2 * k) (q_tx k) (sa (7 + k)) U) (hk : ∀ a : Nat, a < H.size → ¬ B ≤ a → H1[a]? = H[a]?) (hR : q_Ro sa B h u H) : q_Ro sa B h U H1 :=
  ⟨fun k hk2 hc => (va_T.kept (va_T.moved hvm (hR.1 k hk2 hc)) hk), fun k h1 h2 => va_Z.kept (va_Z.moved hvm (hR.2.1 k h1 h2)) hk, hN, va_Z.kept (va_Z.moved hvm hR.2.2.2.1) hk, fun k h1 => ⟨hRk k h1, (va_O.moved hvm (hR.2.2.2.2.1 k h1).2.1).kept hk, (va_OF.moved hvm (hR.2.2.2.2.1 k h1).2.2.1).kept hk, (va_OF.moved hvm (hR.2.2.2.2.1 k h1).2.2.2).kept hk⟩, fun k hk2 hc => va_T.kept (va_T.moved hvm (hR.2.2.2.2.2 k hk2 hc)) hk⟩
def q_rm (d mc ms : Nat) : Room := { frames := 2 * d + 2, cells := mc, slots := ms, locals := 100 * d + 100 }
def q_wd (Z : q_MI) : List Jvm.Cond := q_mC Z :: q_tbl
def q_Qc (D : va_G) (cI cZ : ClassId) (B : Nat) (sa : Nat → Nat) (r : Option Value) (h : q_H) : Array Value → State → Outcome → State → Prop := fun _ st o t =>
  o = .returned (r.map (q_cv B sa)) ∧ va_P D q_cls (q_ws B sa cI cZ h) t.heap ∧ va_F (fun q => B ≤ q) st t
/-- the method's contract: from these arguments and this heap, that answer and that heap -/
def q_Met (l : Launch) (D : va_G) (cI cZ : ClassId) (B : Nat) (sa : Nat → Nat) (d : Nat) (Z : q_MI) (vs : List Value) (h : q_H) (r : Option Value) (h1 : q_H) : Prop :=
  Met l Z.2.1 (q_wd Z) (q_rm d (h1.1 - h.1) (q_sz h1 - q_sz h)) (va_Pc (vs.map (q_cv B sa)) (q_Rep D cI cZ B sa h)) (q_Qc D cI cZ B sa r h1) (h1.1 - h.1) (q_sz h1 - q_sz h) (fun q => B ≤ q)
theorem q_blind {D : va_G} {cI cZ : ClassId} {B : Nat} {sa : Nat → Nat} {av : List Value} {h : q_H} : FrameBlind (va_Pc av (q_Rep D cI cZ B sa h)) := fun a U g mk q => by
  obtain ⟨q0, q1, q2, q3, q4, q5⟩ := q
  exact ⟨q0, q1, q2, q3, va_K.moved (u := U) (U := U.calling g mk a) (Vm.Alike.refl U.vm) q4, q_Ro_moved (u := U) (U := U.calling g mk a) (Vm.Alike.refl U.vm) (q_Ns_same (s := U) (U := U.calling g mk a) rfl q5.2.2.1) (fun k hk => vk_R.same (u := U) (U := U.calling g mk a) rfl (q5.2.2.2.2.1 k hk).1) (fun _ _ _ => rfl) q5⟩
theorem q_sl_len (f : Value → Value) (hf : ∀ v, (f v).category = v.category) : ∀ vs : List Value, (lg_sl (vs.map f)).length = (q_sl vs).length
  | [] => rfl
  | v :: vs => by
    have ih := q_sl_len f hf vs
    unfold lg_sl q_sl at ih ⊢
    rw [List.map_cons, List.flatMap_cons, List.flatMap_cons, List.length_append, List.length_append, ih, hf v]
    by_cases hc : v.category = 2
    · simp [hc]
    · simp [hc]
theorem q_la_dummy (f : Value → Value) : ∀ (m k : Nat), q_la f k (List.replicate m (.retAddr 0)) = []
  | 0, _ => rfl
  | m + 1, k => by
    rw [List.replicate_succ, q_la, if_neg (by simp [q_nr]), q_la_dummy f m]
theorem q_la_app (f : Value → Value) : ∀ (a b : List Value) (k : Nat), q_la f k (a ++ b) = q_la f k a ++ q_la f (k + a.length) b
  | [], b, k => by simp [q_la]
  | x :: a, b, k => by
    rw [List.cons_append, q_la, q_la, q_la_app f a b (k + 1)]
    have e : k + 1 + a.length = k + (x :: a).length := by simp; omega
    rw [e]
    split <;> rfl
theorem q_la_args (f : Value → Value) (hf : ∀ v, (f v).category = v.category) (m : Nat) : ∀ (vs : List Value) (k : Nat) (q : Nat × Value), q ∈ q_la f k (q_sl vs ++ List.replicate m (.retAddr 0)) → q ∈ lv_args k (vs.map f)
  | [], k, q, h => by
    rw [show q_sl [] ++ List.replicate m (Value.retAddr 0) = List.replicate m (.retAddr 0) from rfl, q_la_dummy] at h
    cases h
  | v :: vs, k, q, h => by
    have e : q_sl (v :: vs) = (if v.category = 2 then [v, .retAddr 0] else [v]) ++ q_sl vs := by simp [q_sl]
    rw [e, List.append_assoc, q_la_app] at h
    rw [List.map_cons, lv_args, hf v]
    rcases List.mem_append.mp h with h | h
    · refine List.mem_cons.mpr (Or.inl ?_)
      split at h
      · unfold q_la at h
        split at h
        · rcases List.mem_cons.mp h with h | h
          · exact h
          · rw [q_la, if_neg (by simp [q_nr])] at h
            cases h
        · rw [q_la, if_neg (by simp [q_nr])] at h
          cases h
      · unfold q_la at h
        split at h
        · rcases List.mem_cons.mp h with h | h
          · exact h
          · cases h
        · cases h
    · refine List.mem_cons_of_mem _ (q_la_args f hf m vs _ q ?_)
      by_cases hc : v.category = 2
      · simpa [hc] using h
      · simpa [hc] using h
section QR
variable {p : Program} {l : Launch} {e : Env} {R : Room} {s : State} {m : MethodId} {args : Array Value} {below : List Frame} {meth : Method} {c : Code} {H : Heap} {locs : List Loc} {cells slots : Nat} {Q : State → Prop}
variable {D : va_G} {cI cZ : ClassId} {B n0 z0 : Nat} {sa : Nat → Nat} {Y : q_MI} {d : Nat}
theorem q_callk {mc ms pc : Nat} {ls : Array Slot} {st0 rest : List Value} {a : Array Value} {r : Option Value} {h1 : q_H} (hr : va_Run p l e R s m args below meth c H locs cells slots mc ms (F0 m pc ls st0) rest (q_Qc D cI cZ B sa r h1 a) (fun q => B ≤ q)) (hS : va_S (fun q => B ≤ q) s.heap H locs)
    (kk : ∀ (H1 : Heap) (locs1 : List Loc), va_P D q_cls (q_ws B sa cI cZ h1) H1 → va_S (fun q => B ≤ q) s.heap H1 locs1 → W p l e R s m args below meth c H1 locs1 (cells + mc) (slots + ms) Q (F0 m (pc + 3) ls ((r.map (q_cv B sa)).toList ++ rest))) : W p l e R s m args below meth c H locs cells slots Q (F0 m pc ls st0) := by
  intro T hT X
  obtain ⟨v, st₀, t, T', L, h0, X', hL, e1, e2, ⟨hv, hp, hz, hk⟩, st⟩ := hr T hT X
  cases hv
  rw [h0] at hz hk
  obtain ⟨t2, a1, b1⟩ := kk T'.heap (locs ++ L) (by rw [e1]; exact hp)
    ⟨Nat.le_trans hS.1 (by rw [e1]; exact hz), fun q h1 h2 => by rw [e1, hk q (Nat.lt_of_lt_of_le h1 hS.1) h2]; exact hS.2.1 q h1 h2, fun q hq => by
      rcases List.mem_append.mp hq with h | h
      · exact hS.2.2 q h
      · exact hL q h⟩ T' rfl X'
  exact ⟨t2, st t2 a1, b1⟩
theorem q_repOf (F : q_Fr p R s m args meth c D cI cZ B n0 Y d) {h : q_H} (I : q_In D cI cZ B sa s H locs h) (hH : H.size = B + h.1) (U : State) (hU : U.heap = H) (hW : s.WarmedH U.vm) : q_Rep D cI cZ B sa h U := by
  obtain ⟨hM, hP, hS, hR⟩ := I
  refine ⟨by rw [hU]; exact hH, hM, by rw [hU]; exact hP, va_K.moved hW.alike F.2.2.2.2.2.2.1, q_Ro_moved hW.alike (q_Ns_warm hW hR.2.2.1) (fun k hk => vk_R.warm hW (hR.2.2.2.2.1 k hk).1) (fun a h1 h2 => ?_) hR⟩
  rw [hU]
  exact hS.2.1 a h1 h2
theorem q_gi {Z : q_MI} (hZ : q_mC Z ∈ lw_tbl) (L : List Jvm.Cond) (hL : ∀ w ∈ L, w ∈ lw_tbl ∧ goodWord w = true) : GoodIn q_tbl (L ++ q_wd Z) := by
  intro w hw
  rcases List.mem_append.mp hw with h | h
  · exact ⟨q_use (hL w h).1 (hL w h).2, good_of_word (hL w h).2⟩
  · rcases List.mem_cons.mp h with h | h
    · subst h
      exact ⟨q_use hZ rfl, good_of_word rfl⟩
    · exact q_goodIn w h
theorem q_gi0 {Z : q_MI} (hZ : q_mC Z ∈ lw_tbl) : GoodIn q_tbl (q_wd Z) := q_gi hZ [] (fun _ h => absurd h List.not_mem_nil)
/-- what the table of methods says of its place j -/
theorem q_mFact {q : Nat × Nat × Nat × Nat} (h : q_mD q = true) : q_mi q.2.2.2 ∈ q_all ∧ (q_mi q.2.2.2).2.1.cls ≠ "java/lang/invoke/MethodHandle" ∧ (q_mi q.2.2.2).2.1.cls ≠ "java/lang/invoke/VarHandle" ∧ (parseMethodDescriptor (q_mi q.2.2.2).2.1.desc).map (fun d => d.parameters.length) = some q.2.2.1 ∧ (q_mi q.2.2.2).2.2.2.1 ≤ 60 ∧ plainName (q_mi q.2.2.2).2.1.cls = true := by
  simp only [q_mD, Bool.and_eq_true, decide_eq_true_eq] at h
  obtain ⟨⟨⟨⟨⟨h1, h2⟩, h3⟩, h4⟩, h5⟩, h6⟩ := h
  refine ⟨?_, h2, h3, h4, h5, h6⟩
  have hl : q_all.length = 302 := by decide +kernel
  have h7 : q.2.2.2 < q_all.length := by omega
  show q_all.getD q.2.2.2 mX7_get ∈ q_all
  rw [List.getD_eq_getElem?_getD, List.getElem?_eq_getElem h7]
  exact List.getElem_mem h7
end QR
