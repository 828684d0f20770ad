/-! an abstract machine over places, in place of addresses: what a run of it tells, the machine does (part 05 and on) -/
abbrev q_H : Type := Nat × (Nat → Nat × Nat) × (Nat → Nat → Value)
def q_M : Nat := 1000000
def q_kd (h : q_H) (p : Nat) : Nat := (h.2.1 p).1
def q_ln (h : q_H) (p : Nat) : Nat := (h.2.1 p).2
def q_rd (h : q_H) (p k : Nat) : Value := h.2.2 p k
def q_wr (h : q_H) (p k : Nat) (v : Value) : q_H := (h.1, h.2.1, fun p2 k2 => if p2 = p ∧ k2 = k then v else h.2.2 p2 k2)
def q_nw (h : q_H) (kd ln : Nat) (f : Nat → Value) : q_H := (h.1 + 1, (fun p => if p = h.1 then (kd, ln) else h.2.1 p), fun p k => if p = h.1 then f k else h.2.2 p k)
def q_cp (h : q_H) (a b sp dp n : Nat) : q_H := (h.1, h.2.1, fun p k => if p = b then (if dp ≤ k ∧ k < dp + n then h.2.2 a (sp + (k - dp)) else h.2.2 b k) else h.2.2 p k)
/-- how many slots these take -/
def q_ns (r : List Value) : Nat := (r.map (fun v => v.category)).sum
def q_iv : Value → Int32
  | .int x => x
  | _ => 0
def q_nr : Value → Bool
  | .retAddr _ => false
  | _ => true
def q_lg : Option Value → Bool
  | some (.long _) => true
  | some (.double _) => true
  | _ => false
def q_cv (B : Nat) (sa : Nat → Nat) : Value → Value
  | .ref k => .ref (if k < q_M then B + k else sa (k - q_M))
  | v => v
def q_el (B : Nat) (sa : Nat → Nat) (cI cZ : ClassId) (h : q_H) (p : Nat) : va_E :=
  if q_kd h p = 100 then .inl (cI, (q_ln h p, .inl (fun k => q_iv (q_rd h p k))))
  else if q_kd h p = 101 then .inl (cZ, (q_ln h p, .inl (fun k => q_iv (q_rd h p k))))
  else .inr (q_kd h p, (List.range (q_ln h p)).map (fun k => q_cv B sa (q_rd h p k)))
def q_ws (B : Nat) (sa : Nat → Nat) (cI cZ : ClassId) (h : q_H) : va_W := (List.range h.1).map (fun p => (B + p, q_el B sa cI cZ h p))
def q_f2 {α : Type} (t : List (Nat × Nat × α)) (o i : Nat) : Option α := (t.find? (fun q => q.1 == o && q.2.1 == i)).map (fun q => q.2.2)
theorem q_f2_mem {α : Type} {t : List (Nat × Nat × α)} {o i : Nat} {a : α} (h : q_f2 t o i = some a) : (o, i, a) ∈ t := by
  unfold q_f2 at h
  cases hf : t.find? (fun q => q.1 == o && q.2.1 == i) with
  | none => rw [hf] at h; cases h
  | some q =>
    rw [hf] at h
    have h1 := List.find?_some hf
    have h2 := List.mem_of_find?_eq_some hf
    simp only [Bool.and_eq_true, beq_iff_eq] at h1
    simp only [Option.map_some, Option.some.injEq] at h
    obtain ⟨a1, a2, a3⟩ := q
    obtain ⟨e1, e2⟩ := h1
    dsimp only at e1 e2 h
    subst e1; subst e2; subst h
    exact h2
def q_nar (r : Option FieldType) (v : Int32) : Bool := match r with
  | some .int => true
  | some .boolean => v == 0 || v == 1
  | some .byte => v == 0
  | _ => false
def q_ret (Y : q_MI) (i : Instr) (k : Nat) (st : List Value) : Option (Option Value) := match i with
  | .ireturn => if k = 1 then (match st with
    | [.int v] => if q_nar Y.2.2.2.2 v = true then some (some (.int v)) else none
    | _ => none) else none
  | .return_ => if k = 1 ∧ Y.2.2.2.2 = none then (match st with
    | [] => some none
    | _ => none) else none
  | _ => none
def q_kS (t : Option (Nat × Nat)) (st : List Value) : Option (q_MI × List Value × List Value) := match t with
  | some (n, j) => if n ≤ st.length ∧ q_ns (st.drop n) ≤ 8 then some (q_mi j, (st.take n).reverse, st.drop n) else none
  | none => none
def q_kV (t : Option (Nat × Nat)) (st : List Value) (h : q_H) : Option (q_MI × List Value × List Value) := match t with
  | some (n, j) => (match st.drop n with
    | .ref p :: rest => if p < h.1 ∧ q_kd h p = q_oc (q_mi j).1 ∧ q_ns rest ≤ 8 then some (q_mi j, .ref p :: (st.take n).reverse, rest) else none
    | _ => none)
  | none => none
def q_kW (t : Option (Nat × Nat)) (st : List Value) : Option (q_MI × List Value × List Value) := match t with
  | some (n, j) => (match st.drop n with
    | .ref p :: rest => if q_M + 7 ≤ p ∧ p < q_M + 10 ∧ q_ns rest ≤ 8 then some (q_mi j, .ref p :: (st.take n).reverse, rest) else none
    | _ => none)
  | none => none
def q_kall (Y : q_MI) (i : Instr) (k : Nat) (st : List Value) (h : q_H) : Option (q_MI × List Value × List Value) := match i with
  | .invokestatic x => if k = 3 then (match q_kS (q_f2 q_mT0 Y.1 x) st with
    | some r => some r
    | none => q_kS (q_f2 q_mT3 Y.1 x) st) else none
  | .invokevirtual x => if k = 3 then (match q_kV (q_f2 q_mT1 Y.1 x) st h with
    | some r => some r
    | none => q_kW (q_f2 q_mT5 Y.1 x) st) else none
  | .invokespecial x => if k = 3 then (match q_kV (q_f2 q_mT2 Y.1 x) st h with
    | some r => some r
    | none => q_kV (q_f2 q_mT4 Y.1 x) st h) else none
  | _ => none
def q_bin : Instr → Option (Int32 → Int32 → Int32)
  | .iadd => some (fun x y => x + y)
  | .isub => some (fun x y => x - y)
  | .imul => some (fun x y => x * y)
  | .iand => some (fun x y => x &&& y)
  | .ior => some (fun x y => x ||| y)
  | .ixor => some (fun x y => x ^^^ y)
  | .ishl => some (fun x y => x <<< (y &&& 31))
  | .ishr => some (fun x y => x >>> (y &&& 31))
  | .iushr => some (fun x y => (x.toUInt32 >>> (y.toUInt32 &&& Int32.toUInt32 31)).toInt32)
  | _ => none
def q_lsh : Instr → Option (Int64 → Int32 → Int64)
  | .lshl => some (fun x y => x <<< (y.toInt64 &&& 63))
  | .lshr => some (fun x y => x >>> (y.toInt64 &&& 63))
  | .lushr => some (fun x y => (x.toUInt64 >>> (y.toInt64.toUInt64 &&& Int64.toUInt64 63)).toInt64)
  | _ => none
def q_cc (c : Jvm.ClassFile.Cond) (x y : Int32) : Bool := match c with
  | .eq => decide (x = y)
  | .ne => decide (¬ x = y)
  | .lt => decide (x < y)
  | .ge => decide (y ≤ x)
  | .gt => decide (y < x)
  | .le => decide (x ≤ y)
def q_set (ls : List Value) (j : Nat) (v : Value) : Option (List Value) := if j < ls.length ∧ (j = 0 ∨ q_lg (ls[j - 1]?) = false) then some (ls.set j v) else none
def q_tg (pc : Nat) (off : Int) : Option Nat := if 0 ≤ (pc : Int) + off then some ((pc : Int) + off).toNat else none
/-- loads, stores, constants -/
def q_s1 (i : Instr) (k pc : Nat) (ls st : List Value) : Option (Nat × List Value × List Value) := match i with
  | .iconst n => if k = 1 then some (pc + 1, ls, .int (Int32.ofInt n) :: st) else none
  | .bipush n => if k = 2 then some (pc + 2, ls, .int (Int8.ofInt n).toInt32 :: st) else none
  | .sipush n => if k = 3 then some (pc + 3, ls, .int (Int16.ofInt n).toInt32 :: st) else none
  | .iload_n j => if k = 1 then (match ls[(j : Nat)]? with
    | some (.int x) => some (pc + 1, ls, .int x :: st)
    | _ => none) else none
  | .iload j => if k = 2 then (match ls[j]? with
    | some (.int x) => some (pc + 2, ls, .int x :: st)
    | _ => none) else none
  | .aload_n j => if k = 1 then (match ls[(j : Nat)]? with
    | some (.ref x) => some (pc + 1, ls, .ref x :: st)
    | _ => none) else none
  | .aload j => if k = 2 then (match ls[j]? with
    | some (.ref x) => some (pc + 2, ls, .ref x :: st)
    | _ => none) else none
  | .lload_n j => if k = 1 then (match ls[(j : Nat)]? with
    | some (.long x) => some (pc + 1, ls, .long x :: st)
    | _ => none) else none
  | .istore_n j => if k = 1 then (match st with
    | .int x :: r => (q_set ls j (.int x)).map (fun l => (pc + 1, l, r))
    | _ => none) else none
  | .istore j => if k = 2 then (match st with
    | .int x :: r => (q_set ls j (.int x)).map (fun l => (pc + 2, l, r))
    | _ => none) else none
  | .astore_n j => if k = 1 then (match st with
    | .ref x :: r => (q_set ls j (.ref x)).map (fun l => (pc + 1, l, r))
    | _ => none) else none
  | .astore j => if k = 2 then (match st with
    | .ref x :: r => (q_set ls j (.ref x)).map (fun l => (pc + 2, l, r))
    | _ => none) else none
  | .iinc j n => if k = 3 then (match ls[j]? with
    | some (.int x) => (q_set ls j (.int (x + Int32.ofInt n))).map (fun l => (pc + 3, l, st))
    | _ => none) else none
  | _ => none
/-- what the operand stack alone decides -/
def q_s2 (i : Instr) (k pc : Nat) (st : List Value) : Option (Nat × List Value) := match i with
  | .dup => if k = 1 then (match st with
    | v :: r => if v.category = 1 then some (pc + 1, v :: v :: r) else none
    | _ => none) else none
  | .dup2 => if k = 1 then (match st with
    | v :: w :: r => if v.category = 1 ∧ w.category = 1 then some (pc + 1, v :: w :: v :: w :: r) else none
    | _ => none) else none
  | .pop => if k = 1 then (match st with
    | v :: r => if v.category = 1 then some (pc + 1, r) else none
    | _ => none) else none
  | .ineg => if k = 1 then (match st with
    | .int x :: r => some (pc + 1, .int (-x) :: r)
    | _ => none) else none
  | .i2l => if k = 1 then (match st with
    | .int x :: r => some (pc + 1, .long x.toInt64 :: r)
    | _ => none) else none
  | .l2i => if k = 1 then (match st with
    | .long x :: r => some (pc + 1, .int x.toInt32 :: r)
    | _ => none) else none
  | .i2b => if k = 1 then (match st with
    | .int x :: r => some (pc + 1, .int x.toInt8.toInt32 :: r)
    | _ => none) else none
  | .i2s => if k = 1 then (match st with
    | .int x :: r => some (pc + 1, .int x.toInt16.toInt32 :: r)
    | _ => none) else none
  | .i2c => if k = 1 then (match st with
    | .int x :: r => some (pc + 1, .int (x.toUInt32 % 65536).toInt32 :: r)
    | _ => none) else none
  | .idiv => if k = 1 then (match st with
    | .int y :: .int x :: r => if y = 0 then none else some (pc + 1, .int (x / y) :: r)
    | _ => none) else none
  | .irem => if k = 1 then (match st with
    | .int y :: .int x :: r => if y = 0 then none else some (pc + 1, .int (x - x / y * y) :: r)
    | _ => none) else none
  | .land => if k = 1 then (match st with
    | .long y :: .long x :: r => some (pc + 1, .long (x &&& y) :: r)
    | _ => none) else none
  | .lor => if k = 1 then (match st with
    | .long y :: .long x :: r => some (pc + 1, .long (x ||| y) :: r)
    | _ => none) else none
  | .ifCond c off => if k = 3 then (match st, q_tg pc off with
    | .int x :: r, some t => some (if q_cc c x 0 = true then t else pc + 3, r)
    | _, _ => none) else none
  | .if_icmp c off => if k = 3 then (match st, q_tg pc off with
    | .int y :: .int x :: r, some t => some (if q_cc c x y = true then t else pc + 3, r)
    | _, _ => none) else none
  | .goto off => if k = 3 then (match q_tg pc off with
    | some t => some (t, st)
    | _ => none) else none
  | .tableswitch d lo hi offs => (match st with
    | .int x :: r => if x.toInt < lo ∨ hi < x.toInt then (q_tg pc d).map (fun t => (t, r)) else (match offs[(x.toInt - lo).toNat]? with
      | some o => (q_tg pc o).map (fun t => (t, r))
      | none => none)
    | _ => none)
  | .lookupswitch d ps => (match st with
    | .int x :: r => if (ps.toList.zip (ps.toList.drop 1)).all (fun (a, next) => a.1 < next.1) = true then (q_tg pc (Op.lookupswitch.offset ps.toList d x.toInt)).map (fun t => (t, r)) else none
    | _ => none)
  | _ => none
def q_s3 (i : Instr) (k pc : Nat) (st : List Value) : Option (Nat × List Value) := if k = 1 then (match q_bin i, st with
  | some f, .int y :: .int x :: r => some (pc + 1, .int (f x y) :: r)
  | _, _ => (match q_lsh i, st with
    | some f, .int y :: .long x :: r => some (pc + 1, .long (f x y) :: r)
    | _, _ => none)) else none
/-- constants of the pool, and the JDK's three of whole numbers -/
def q_s4 (Y : q_MI) (i : Instr) (k pc : Nat) (st : List Value) : Option (Nat × List Value) := match i with
  | .ldc x => if k = 2 then (match q_f2 q_cstT Y.1 x with
    | some v => some (pc + 2, .int v :: st)
    | none => (q_f2 q_strT Y.1 x).map (fun j => (pc + 2, .ref (q_M + (7 + j)) :: st))) else none
  | .ldc_w x => if k = 3 then (q_f2 q_cstT Y.1 x).map (fun v => (pc + 3, .int v :: st)) else none
  | .ldc2_w x => if k = 3 then (q_f2 q_lcsT Y.1 x).map (fun v => (pc + 3, .long v :: st)) else none
  | .getstatic x => if k = 3 then (match q_f2 q_staT Y.1 x with
    | some v => some (pc + 3, .ref (q_M + v) :: st)
    | none => if (Y.1, x) ∈ q_csT then some (pc + 3, .int 1 :: st) else none) else none
  | .getfield x => if k = 3 then (match q_f2 q_sfT Y.1 x, st with
    | some f, .ref p :: r => if q_M + 7 ≤ p ∧ p < q_M + 10 then some (pc + 3, (if f = 0 then .int 0 else .ref (p + 3)) :: r) else none
    | _, _ => none) else none
  | .invokespecial x => if k = 3 then (match st with
    | .ref _ :: r => if (Y.1, x) ∈ q_oT ∧ q_ns r ≤ 8 then some (pc + 3, r) else none
    | _ => none) else none
  | .invokestatic x => if k = 3 then (match st with
    | .int b :: r => if (Y.1, x) ∈ q_aT then (if q_ns r ≤ 8 then some (pc + 3, .int (if 0 ≤ b then b else 0 - b) :: r) else none) else (match r with
      | .int a :: r2 => if q_ns r2 ≤ 8 then (if (Y.1, x) ∈ q_xT then some (pc + 3, .int (if a < b then b else a) :: r2) else if (Y.1, x) ∈ q_nT then some (pc + 3, .int (if b < a then b else a) :: r2) else none) else none
      | _ => none)
    | _ => none) else none
  | _ => none
/-- the heap -/
def q_s5 (Y : q_MI) (i : Instr) (k pc : Nat) (st : List Value) (h : q_H) : Option (Nat × List Value × q_H) := match i with
  | .getfield x => if k = 3 then (match q_f2 q_fldT Y.1 x, st with
    | some (c, f), .ref p :: r => if p < h.1 ∧ q_kd h p = c ∧ f < q_ln h p then some (pc + 3, q_rd h p f :: r, h) else none
    | _, _ => none) else none
  | .putfield x => if k = 3 then (match q_f2 q_fldT Y.1 x, st with
    | some (c, f), v :: .ref p :: r => if (p < h.1 ∧ q_kd h p = c ∧ f < q_ln h p) ∧ narrow (q_ty c f) v = v ∧ fits (q_ty c f) v = true ∧ (((q_clD c).2.1 f).2.2.2 = false ∨ (Y.2.1.name = "<init>" ∧ q_oc Y.1 = c)) then some (pc + 3, r, q_wr h p f v) else none
    | _, _ => none) else none
  | .iaload => if k = 1 then (match st with
    | .int i :: .ref p :: r => if (¬ (i < 0 ∨ q_ln h p ≤ i.toNatClampNeg)) ∧ ((p < h.1 ∧ q_kd h p = 100) ∨ (q_M ≤ p ∧ p < q_M + 7 ∧ q_kd h p = 102)) then (match q_rd h p i.toNatClampNeg with
      | .int x => some (pc + 1, .int x :: r, h)
      | _ => none) else none
    | _ => none) else none
  | .baload => if k = 1 then (match st with
    | .int i :: .ref p :: r => if (¬ (i < 0 ∨ q_ln h p ≤ i.toNatClampNeg)) ∧ ((p < h.1 ∧ q_kd h p = 101) ∨ (q_M + 10 ≤ p ∧ p < q_M + 13 ∧ q_kd h p = 103)) then (match q_rd h p i.toNatClampNeg with
      | .int x => some (pc + 1, .int x :: r, h)
      | _ => none) else none
    | _ => none) else none
  | .iastore => if k = 1 then (match st with
    | .int x :: .int i :: .ref p :: r => if (¬ (i < 0 ∨ q_ln h p ≤ i.toNatClampNeg)) ∧ (p < h.1 ∧ q_kd h p = 100) then some (pc + 1, r, q_wr h p i.toNatClampNeg (.int x)) else none
    | _ => none) else none
  | .bastore => if k = 1 then (match st with
    | .int x :: .int i :: .ref p :: r => if ((¬ (i < 0 ∨ q_ln h p ≤ i.toNatClampNeg)) ∧ (p < h.1 ∧ q_kd h p = 101)) ∧ (x = 0 ∨ x = 1) then some (pc + 1, r, q_wr h p i.toNatClampNeg (.int x)) else none
    | _ => none) else none
  | .arraylength => if k = 1 then (match st with
    | .ref p :: r => if (p < h.1 ∧ (q_kd h p = 100 ∨ q_kd h p = 101)) ∨ (q_M ≤ p ∧ p < q_M + 7 ∧ q_kd h p = 102) ∨ (q_M + 10 ≤ p ∧ p < q_M + 13 ∧ q_kd h p = 103) then some (pc + 1, .int (Int32.ofNat (q_ln h p)) :: r, h) else none
    | _ => none) else none
  | .new x => if k = 3 then (match q_f2 q_newT Y.1 x with
    | some c => if h.1 + 1 < q_M then some (pc + 3, .ref h.1 :: st, q_nw h c (q_clD c).2.2 (fun j => defaultValue (q_ty c j))) else none
    | none => none) else none
  | .newarray .int => if k = 2 then (match st with
    | .int n :: r => if h.1 + 1 < q_M ∧ ¬ n < 0 ∧ n.toNatClampNeg ≤ 100000 then some (pc + 2, .ref h.1 :: r, q_nw h 100 n.toNatClampNeg (fun _ => .int 0)) else none
    | _ => none) else none
  | .newarray .boolean => if k = 2 then (match st with
    | .int n :: r => if h.1 + 1 < q_M ∧ ¬ n < 0 ∧ n.toNatClampNeg ≤ 100000 then some (pc + 2, .ref h.1 :: r, q_nw h 101 n.toNatClampNeg (fun _ => .int 0)) else none
    | _ => none) else none
  | .invokestatic x => if k = 3 then (match st with
    | .int n :: .int dp :: .ref b :: .int sp :: .ref a :: r => if (Y.1, x) ∈ q_yT ∧ q_ns r ≤ 8 ∧ (a < h.1 ∧ q_kd h a = 100) ∧ (b < h.1 ∧ q_kd h b = 100) ∧ ¬ sp < 0 ∧ ¬ dp < 0 ∧ ¬ n < 0 ∧ sp.toNatClampNeg + n.toNatClampNeg ≤ q_ln h a ∧ dp.toNatClampNeg + n.toNatClampNeg ≤ q_ln h b then some (pc + 3, r, q_cp h a b sp.toNatClampNeg dp.toNatClampNeg n.toNatClampNeg) else none
    | _ => none) else none
  | _ => none
def q_stp (Y : q_MI) (i : Instr) (k pc : Nat) (ls st : List Value) (h : q_H) : Option (Nat × List Value × List Value × q_H) :=
  match q_s1 i k pc ls st with
  | some (a, b, c) => some (a, b, c, h)
  | none => (match q_s2 i k pc st with
    | some (a, c) => some (a, ls, c, h)
    | none => (match q_s3 i k pc st with
      | some (a, c) => some (a, ls, c, h)
      | none => (match q_s4 Y i k pc st with
        | some (a, c) => some (a, ls, c, h)
        | none => (match q_s5 Y i k pc st h with
          | some (a, c, h2) => some (a, ls, c, h2)
          | none => none))))
def q_sl (vs : List Value) : List Value := vs.flatMap (fun v => if v.category = 2 then [v, .retAddr 0] else [v])
def q_en (n : Nat) (vs : List Value) : List Value := q_sl vs ++ List.replicate (n - (q_sl vs).length) (.retAddr 0)
/-- a run of n steps at most, d calls deep at most: what comes back, and the heap then -/
def q_run : Nat → Nat → q_MI → Nat → List Value → List Value → q_H → Option (Option Value × q_H)
  | 0, _, _, _, _, _, _ => none
  | n + 1, d, Y, pc, ls, st, h => (match decode Y.2.2.1 pc with
    | .error _ => none
    | .ok (i, k) => (match q_ret Y i k st with
      | some r => some (r, h)
      | none => (match q_kall Y i k st h with
        | some (Z, vs, rest) => (match d with
          | 0 => none
          | d2 + 1 => if (q_sl vs).length ≤ Z.2.2.2.1 then (match q_run n d2 Z 0 (q_en Z.2.2.2.1 vs) [] h with
            | some (r, h2) => q_run n (d2 + 1) Y (pc + 3) ls (r.toList ++ rest) h2
            | none => none) else none)
        | none => (match q_stp Y i k pc ls st h with
          | some (pc2, ls2, st2, h2) => q_run n d Y pc2 ls2 st2 h2
          | none => none))))
