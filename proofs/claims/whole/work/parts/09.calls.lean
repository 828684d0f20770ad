section QK
variable {p : Program} {l : Launch} {e : Env} {R : Room} {s : State} {m : MethodId} {args : Array Value} {below : List Frame} {meth : Method} {c : Code} {H : Heap} {locs : List Loc} {Q : State → Prop}
variable {D : va_G} {cI cZ : ClassId} {B n0 z0 : Nat} {sa : Nat → Nat} {Y : q_MI} {d : Nat}
theorem q_after {pc n : Nat} {lsC : Array Slot} {st rest2 : List Value} {vs rest : List Value} {a : Array Value} {r1 : Option Value} {h h1 : q_H} (hn0 : n0 ≤ h.1) (hz0 : z0 ≤ q_sz h) (hpre : q_pre h h1) (hM : h.1 < q_M) (hR : q_Ro sa B h s s.heap) (hS : va_S (fun q => B ≤ q) s.heap H locs)
    (hr : va_Run p l e R s m args below meth c H locs (h.1 - n0) (q_sz h - z0) (h1.1 - h.1) (q_sz h1 - q_sz h) (F0 m pc lsC st) (rest.map (q_cv B sa)) (q_Qc D cI cZ B sa r1 h1 a) (fun q => B ≤ q))
    (kk : ∀ (H1 : Heap) (locs1 : List Loc), q_In D cI cZ B sa s H1 locs1 h1 → W p l e R s m args below meth c H1 locs1 (h1.1 - n0) (q_sz h1 - z0) Q (F0 m (pc + 3) lsC ((r1.toList ++ rest).map (q_cv B sa)))) : W p l e R s m args below meth c H locs (h.1 - n0) (q_sz h - z0) Q (F0 m pc lsC st) := by
  refine q_callk hr hS (fun H1 locs1 hP1 hS1 => ?_)
  obtain ⟨x1, x2, x3⟩ := hpre.2.2 hM
  have k9 := kk H1 locs1 ⟨x1, hP1, hS1, q_Ro_cong hR x2 x3⟩
  have e1 : (h.1 - n0) + (h1.1 - h.1) = h1.1 - n0 := by have := hpre.1; omega
  have e2 : (q_sz h - z0) + (q_sz h1 - q_sz h) = q_sz h1 - z0 := by have := hpre.2.1; omega
  have e3 : (r1.map (q_cv B sa)).toList ++ rest.map (q_cv B sa) = (r1.toList ++ rest).map (q_cv B sa) := by cases r1 <;> rfl
  rw [e1, e2, e3]
  exact k9
set_option maxHeartbeats 16000000 in
theorem q_kall_ok (F : q_Fr p R s m args meth c D cI cZ B n0 Y (d + 1)) {h h1 : q_H} (I : q_In D cI cZ B sa s H locs h) (hn0 : n0 ≤ h.1) (hz0 : z0 ≤ q_sz h) {pc k nL : Nat} {i : Instr} {st vs rest : List Value} {Z : q_MI} {r1 : Option Value} {lsC : Array Slot} (hls : lsC.size = nL) (hn : nL = Y.2.2.2.1) (hd : decode Y.2.2.1 pc = .ok (i, k)) (hk : q_kall Y i k st h = some (Z, vs, rest)) (hpre : q_pre h h1) (hroom : h1.1 - n0 ≤ R.cells ∧ q_sz h1 - z0 ≤ R.slots)
    (hMet : Z ∈ q_all → plainName Z.2.1.cls = true → q_Met l D cI cZ B sa d Z vs h r1 h1)
    (kk : ∀ (H1 : Heap) (locs1 : List Loc), q_In D cI cZ B sa s H1 locs1 h1 → W p l e R s m args below meth c H1 locs1 (h1.1 - n0) (q_sz h1 - z0) Q (F0 m (pc + 3) lsC ((r1.toList ++ rest).map (q_cv B sa)))) : W p l e R s m args below meth c H locs (h.1 - n0) (q_sz h - z0) Q (F0 m pc lsC (st.map (q_cv B sa))) := by
  obtain ⟨hx, hb, hml, hown, hts, hini, hK, hsz, hf, hlo, h15⟩ := id F
  obtain ⟨hM, hP, hS, hR⟩ := id I
  refine q_size hsz hn0 rfl hP hS (fun hH => ?_)
  have hfit : (h.1 - n0) + (h1.1 - h.1) ≤ R.cells ∧ (q_sz h - z0) + (q_sz h1 - q_sz h) ≤ R.slots := by
    have a1 := hpre.1
    have a2 := hpre.2.1
    omega
  have hrep : ∀ U : State, U.heap = H → s.WarmedH U.vm → q_Rep D cI cZ B sa h U := fun U hU hW => q_repOf F I hH U hU hW
  have S9 : CallFix p m c Y.2.2.1 Y.2.2.2.1 s args q_tbl (q_cn Y.1) := ⟨hx, hb, hml, hown, hts⟩
  unfold q_kall at hk
  split at hk
  · split at hk
    · rename_i x hk3; subst hk3
      split at hk
      · rename_i r hk0
        cases hk
        unfold q_kS at hk0
        split at hk0
        · rename_i n j hf2
          split at hk0
          · rename_i hc
            cases hk0
            have hm := q_f2_mem hf2
            obtain ⟨b1, b2, b3, b4, b5, b6⟩ := q_mFact (List.all_eq_true.mp q_mD_0_ok _ hm)
            dsimp only at b1 b2 b3 b4 b5 b6
            have hZ := q_all_ok _ b1
            have hMt := hMet b1 b6
            unfold q_Met at hMt
            have hst : st.map (q_cv B sa) = (((st.take n).reverse).map (q_cv B sa)).reverse ++ (st.drop n).map (q_cv B sa) := by rw [List.map_reverse, List.reverse_reverse, ← List.map_append, List.take_append_drop]
            have h8 := q_sum8 (B := B) (sa := sa) (st.drop n)
            refine q_after hn0 hz0 hpre hM hR hS (n := 0) (vs := []) (rest2 := []) (va_runS (As := ((st.take n).reverse).map (q_cv B sa)) (rest := (st.drop n).map (q_cv B sa)) (n := n) (index := x) (bytes := (q_mi j).2.2.1) (maxL := (q_mi j).2.2.2.1) (ret := (q_mi j).2.2.2.2) (own := q_cn Y.1) (g := F0 m pc lsC (st.map (q_cv B sa))) S9 hMt (va_cwS n hts (show GoodIn q_tbl (va_wsS (q_cn Y.1) x (q_mi j).2.1 (q_wd (q_mi j))) from q_gi hZ _ (List.forall_mem_cons.mpr ⟨⟨q_mW0_0_ok _ hm, rfl⟩, List.forall_mem_cons.mpr ⟨⟨q_mS_0_ok _ hm, rfl⟩, List.forall_mem_cons.mpr ⟨⟨q_mN_0_ok _ hm, rfl⟩, fun _ h => absurd h List.not_mem_nil⟩⟩⟩)) rfl rfl rfl ⟨b2, b3, b4⟩ ⟨by show 2 * d + 2 + 1 ≤ _; omega, by show _ + (100 * d + 100) ≤ _; omega⟩) ⟨q_blind, fun U hU hW => ⟨rfl, hrep U hU hW⟩⟩ rfl (by simp; omega) (by show lsC.size = _; rw [hls, hn]) hst (lv_room (by omega)) hd hfit) kk
          · cases hk0
        · cases hk0
      · rename_i hk9
        unfold q_kS at hk
        split at hk
        · rename_i n j hf2
          split at hk
          · rename_i hc
            cases hk
            have hm := q_f2_mem hf2
            obtain ⟨b1, b2, b3, b4, b5, b6⟩ := q_mFact (List.all_eq_true.mp q_mD_3_ok _ hm)
            dsimp only at b1 b2 b3 b4 b5 b6
            have hZ := q_all_ok _ b1
            have hMt := hMet b1 b6
            unfold q_Met at hMt
            have hst : st.map (q_cv B sa) = (((st.take n).reverse).map (q_cv B sa)).reverse ++ (st.drop n).map (q_cv B sa) := by rw [List.map_reverse, List.reverse_reverse, ← List.map_append, List.take_append_drop]
            have h8 := q_sum8 (B := B) (sa := sa) (st.drop n)
            refine q_after hn0 hz0 hpre hM hR hS (n := 0) (vs := []) (rest2 := []) (va_runSN (As := ((st.take n).reverse).map (q_cv B sa)) (rest := (st.drop n).map (q_cv B sa)) (n := n) (index := x) (bytes := (q_mi j).2.2.1) (maxL := (q_mi j).2.2.2.1) (ret := (q_mi j).2.2.2.2) (own := q_cn Y.1) (host := RX11) (g := F0 m pc lsC (st.map (q_cv B sa))) S9 hMt ⟨va_cnB n hts (q_gi0 hZ) rfl rfl rfl (hR.2.2.1.1 _ hm) (q_word F (q_mN_3_ok _ hm) rfl) ⟨b2, b3, b4⟩ ⟨by show 2 * d + 2 + 1 ≤ _; omega, by show _ + (100 * d + 100) ≤ _; omega⟩, q_word F (q_mS_3_ok _ hm) rfl, trivial⟩ ⟨q_blind, fun U hU hW => ⟨rfl, hrep U hU hW⟩⟩ rfl (by simp; omega) (by show lsC.size = _; rw [hls, hn]) hst (lv_room (by omega)) hd hfit) kk
          · cases hk
        · cases hk
    · cases hk
  · split at hk
    · rename_i x hk3; subst hk3
      split at hk
      · rename_i r hk0
        cases hk
        unfold q_kV at hk0
        split at hk0
        · rename_i n j hf2
          split at hk0
          · rename_i p0 rst hdr
            split at hk0
            · rename_i hc
              cases hk0
              have hm := q_f2_mem hf2
              obtain ⟨b1, b2, b3, b4, b5, b6⟩ := q_mFact (List.all_eq_true.mp q_mD_1_ok _ hm)
              dsimp only at b1 b2 b3 b4 b5 b6
              have hZ := q_all_ok _ b1
              have hMt := hMet b1 b6
              unfold q_Met at hMt
              have h9 := List.all_eq_true.mp q_vR1 _ hm
              simp only [Bool.and_eq_true, decide_eq_true_eq, beq_iff_eq] at h9
              obtain ⟨g1, g2, g3, g4⟩ := q_clF h9.1
              have hlt : n < st.length := by
                rcases Nat.lt_or_ge n st.length with q | q
                · exact q
                · rw [List.drop_eq_nil_of_le q] at hdr; cases hdr
              have hst : st.map (q_cv B sa) = (((st.take n).reverse).map (q_cv B sa)).reverse ++ .ref (B + p0) :: rest.map (q_cv B sa) := by
                rw [List.map_reverse, List.reverse_reverse, ← q_cv_lo (B := B) (sa := sa) (Nat.lt_trans hc.1 hM), ← List.map_cons, ← hdr, ← List.map_append, List.take_append_drop]
              have h8 := q_sum8 (B := B) (sa := sa) rest
              have hav : (Value.ref p0 :: (st.take n).reverse).map (q_cv B sa) = Value.ref (B + p0) :: ((st.take n).reverse).map (q_cv B sa) := by rw [List.map_cons, q_cv_lo (Nat.lt_trans hc.1 hM)]
              rw [hav] at hMt
              have hrc := va_recv (q := q_clD (q_oc (q_mi j).1)) hK hP g4 (by rw [q_ws_get hc.1, q_el_obj hc.2.1 h9.1])
              rw [h9.2] at hrc
              refine q_after hn0 hz0 hpre hM hR hS (n := 0) (vs := []) (rest2 := []) (va_runV (As := ((st.take n).reverse).map (q_cv B sa)) (b := B + p0) (rest := rest.map (q_cv B sa)) (n := n) (index := x) (C := (q_mi j).2.1.cls) (bytes := (q_mi j).2.2.1) (maxL := (q_mi j).2.2.2.1) (ret := (q_mi j).2.2.2.2) (own := q_cn Y.1) (g := F0 m pc lsC (st.map (q_cv B sa))) S9 hMt (cwV n hts (show GoodIn q_tbl (wsV (q_cn Y.1) x (q_mi j).2.1.cls (q_mi j).2.1 (q_wd (q_mi j))) from q_gi hZ _ (List.forall_mem_cons.mpr ⟨⟨q_mW1_1_ok _ hm, rfl⟩, List.forall_mem_cons.mpr ⟨⟨q_mI_1_ok _ hm, rfl⟩, List.forall_mem_cons.mpr ⟨⟨q_mL_1_ok _ hm, rfl⟩, List.forall_mem_cons.mpr ⟨⟨q_mN_1_ok _ hm, rfl⟩, fun _ h => absurd h List.not_mem_nil⟩⟩⟩⟩)) rfl rfl rfl ⟨rfl, b2, b3, b4⟩ ⟨by show 2 * d + 2 + 1 ≤ _; omega, by show _ + (100 * d + 100) ≤ _; omega⟩) ⟨q_blind, hrc, fun U hU hW => ⟨rfl, hrep U hU hW⟩⟩ rfl (by simp; omega) (by show lsC.size = _; rw [hls, hn]) hst (lv_room (by omega)) hd hfit) kk
            · cases hk0
          · cases hk0
        · cases hk0
      · rename_i hk9
        unfold q_kW at hk
        split at hk
        · rename_i n j hf2
          split at hk
          · rename_i p0 rst hdr
            split at hk
            · rename_i hc
              cases hk
              have hm := q_f2_mem hf2
              obtain ⟨b1, b2, b3, b4, b5, b6⟩ := q_mFact (List.all_eq_true.mp q_mD_5_ok _ hm)
              dsimp only at b1 b2 b3 b4 b5 b6
              have hZ := q_all_ok _ b1
              have hMt := hMet b1 b6
              unfold q_Met at hMt
              have h9 := eq_of_beq (List.all_eq_true.mp q_vR5 _ hm)
              dsimp only at h9
              obtain ⟨k0, hk0, rfl⟩ : ∃ j, j < 3 ∧ p0 = q_M + (7 + j) := ⟨p0 - (q_M + 7), Nat.sub_lt_left_of_lt_add hc.1 hc.2.1, by rw [← Nat.add_assoc]; exact (Nat.add_sub_cancel' hc.1).symm⟩
              have hlt : n < st.length := by
                rcases Nat.lt_or_ge n st.length with q | q
                · exact q
                · rw [List.drop_eq_nil_of_le q] at hdr; cases hdr
              have hst : st.map (q_cv B sa) = (((st.take n).reverse).map (q_cv B sa)).reverse ++ .ref (sa (7 + k0)) :: rest.map (q_cv B sa) := by
                rw [List.map_reverse, List.reverse_reverse, ← q_cv_hi (B := B) (sa := sa), ← List.map_cons, ← hdr, ← List.map_append, List.take_append_drop]
              have h8 := q_sum8 (B := B) (sa := sa) rest
              have hav : (Value.ref (q_M + (7 + k0)) :: (st.take n).reverse).map (q_cv B sa) = Value.ref (sa (7 + k0)) :: ((st.take n).reverse).map (q_cv B sa) := by rw [List.map_cons, q_cv_hi]
              rw [hav] at hMt
              have hrc : ∃ cell : Cell, H[sa (7 + k0)]? = some cell ∧ cell.vm.isStatics = false ∧ s.vm.findClass (q_mi j).2.1.cls = some cell.cls := by
                obtain ⟨cell, z1, z2, z3, -⟩ := (hR.2.2.2.2.1 k0 hk0).2.1.kept hS.2.1
                exact ⟨cell, z1, z2, by rw [h9]; exact z3⟩
              refine q_after hn0 hz0 hpre hM hR hS (n := 0) (vs := []) (rest2 := []) (va_runV (As := ((st.take n).reverse).map (q_cv B sa)) (b := sa (7 + k0)) (rest := rest.map (q_cv B sa)) (n := n) (index := x) (C := (q_mi j).2.1.cls) (bytes := (q_mi j).2.2.1) (maxL := (q_mi j).2.2.2.1) (ret := (q_mi j).2.2.2.2) (own := q_cn Y.1) (g := F0 m pc lsC (st.map (q_cv B sa))) S9 hMt (cwV n hts (show GoodIn q_tbl (wsV (q_cn Y.1) x (q_mi j).2.1.cls (q_mi j).2.1 (q_wd (q_mi j))) from q_gi hZ _ (List.forall_mem_cons.mpr ⟨⟨q_mW5_5_ok _ hm, rfl⟩, List.forall_mem_cons.mpr ⟨⟨q_mI_5_ok _ hm, rfl⟩, List.forall_mem_cons.mpr ⟨⟨q_mL_5_ok _ hm, rfl⟩, List.forall_mem_cons.mpr ⟨⟨q_mN_5_ok _ hm, rfl⟩, fun _ h => absurd h List.not_mem_nil⟩⟩⟩⟩)) rfl rfl rfl ⟨rfl, b2, b3, b4⟩ ⟨by show 2 * d + 2 + 1 ≤ _; omega, by show _ + (100 * d + 100) ≤ _; omega⟩) ⟨q_blind, hrc, fun U hU hW => ⟨rfl, hrep U hU hW⟩⟩ rfl (by simp; omega) (by show lsC.size = _; rw [hls, hn]) hst (lv_room (by omega)) hd hfit) kk
            · cases hk
          · cases hk
        · cases hk
    · cases hk
  · split at hk
    · rename_i x hk3; subst hk3
      split at hk
      · rename_i r hk0
        cases hk
        unfold q_kV at hk0
        split at hk0
        · rename_i n j hf2
          split at hk0
          · rename_i p0 rst hdr
            split at hk0
            · rename_i hc
              cases hk0
              have hm := q_f2_mem hf2
              obtain ⟨b1, b2, b3, b4, b5, b6⟩ := q_mFact (List.all_eq_true.mp q_mD_2_ok _ hm)
              dsimp only at b1 b2 b3 b4 b5 b6
              have hZ := q_all_ok _ b1
              have hMt := hMet b1 b6
              unfold q_Met at hMt
              have h9 := of_decide_eq_true (List.all_eq_true.mp q_iR2 _ hm)
              dsimp only at h9
              have hlt : n < st.length := by
                rcases Nat.lt_or_ge n st.length with q | q
                · exact q
                · rw [List.drop_eq_nil_of_le q] at hdr; cases hdr
              have hst : st.map (q_cv B sa) = (((st.take n).reverse).map (q_cv B sa)).reverse ++ .ref (B + p0) :: rest.map (q_cv B sa) := by
                rw [List.map_reverse, List.reverse_reverse, ← q_cv_lo (B := B) (sa := sa) (Nat.lt_trans hc.1 hM), ← List.map_cons, ← hdr, ← List.map_append, List.take_append_drop]
              have h8 := q_sum8 (B := B) (sa := sa) rest
              have hav : (Value.ref p0 :: (st.take n).reverse).map (q_cv B sa) = Value.ref (B + p0) :: ((st.take n).reverse).map (q_cv B sa) := by rw [List.map_cons, q_cv_lo (Nat.lt_trans hc.1 hM)]
              rw [hav] at hMt
              refine q_after hn0 hz0 hpre hM hR hS (n := 0) (vs := []) (rest2 := []) (va_runI (As := ((st.take n).reverse).map (q_cv B sa)) (b := B + p0) (rest := rest.map (q_cv B sa)) (n := n) (index := x) (bytes := (q_mi j).2.2.1) (maxL := (q_mi j).2.2.2.1) (own := q_cn Y.1) (g := F0 m pc lsC (st.map (q_cv B sa))) S9 hMt (cwI n hts (q_gi0 hZ) (show q_wd (q_mi j) = Cond.code (q_mi j).2.1 (q_mi j).2.2.1 (q_mi j).2.2.2.1 none :: q_tbl by unfold q_wd q_mC; rw [h9.1]) rfl rfl (q_word F (q_mN_2_ok _ hm) rfl) (q_word F (q_mW2_2_ok _ hm) rfl) (q_word F (q_mI_2_ok _ hm) rfl) h9.2 ⟨b2, b3, b4⟩ ⟨by show 2 * d + 2 + 1 ≤ _; omega, by show _ + (100 * d + 100) ≤ _; omega⟩) ⟨q_blind, fun U hU hW => ⟨rfl, hrep U hU hW⟩⟩ rfl (by simp; omega) (by show lsC.size = _; rw [hls, hn]) hst (lv_room (by omega)) hd hfit) kk
            · cases hk0
          · cases hk0
        · cases hk0
      · rename_i hk9
        unfold q_kV at hk
        split at hk
        · rename_i n j hf2
          split at hk
          · rename_i p0 rst hdr
            split at hk
            · rename_i hc
              cases hk
              have hm := q_f2_mem hf2
              obtain ⟨b1, b2, b3, b4, b5, b6⟩ := q_mFact (List.all_eq_true.mp q_mD_4_ok _ hm)
              dsimp only at b1 b2 b3 b4 b5 b6
              have hZ := q_all_ok _ b1
              have hMt := hMet b1 b6
              unfold q_Met at hMt
              have h9 := of_decide_eq_true (List.all_eq_true.mp q_iR4 _ hm)
              dsimp only at h9
              have hlt : n < st.length := by
                rcases Nat.lt_or_ge n st.length with q | q
                · exact q
                · rw [List.drop_eq_nil_of_le q] at hdr; cases hdr
              have hst : st.map (q_cv B sa) = (((st.take n).reverse).map (q_cv B sa)).reverse ++ .ref (B + p0) :: rest.map (q_cv B sa) := by
                rw [List.map_reverse, List.reverse_reverse, ← q_cv_lo (B := B) (sa := sa) (Nat.lt_trans hc.1 hM), ← List.map_cons, ← hdr, ← List.map_append, List.take_append_drop]
              have h8 := q_sum8 (B := B) (sa := sa) rest
              have hav : (Value.ref p0 :: (st.take n).reverse).map (q_cv B sa) = Value.ref (B + p0) :: ((st.take n).reverse).map (q_cv B sa) := by rw [List.map_cons, q_cv_lo (Nat.lt_trans hc.1 hM)]
              rw [hav] at hMt
              refine q_after hn0 hz0 hpre hM hR hS (n := 0) (vs := []) (rest2 := []) (va_runIN (As := ((st.take n).reverse).map (q_cv B sa)) (b := B + p0) (rest := rest.map (q_cv B sa)) (n := n) (index := x) (bytes := (q_mi j).2.2.1) (maxL := (q_mi j).2.2.2.1) (own := q_cn Y.1) (host := RX11) (g := F0 m pc lsC (st.map (q_cv B sa))) S9 hMt ⟨va_cnB n hts (q_gi0 hZ) (show q_wd (q_mi j) = Cond.code (q_mi j).2.1 (q_mi j).2.2.1 (q_mi j).2.2.2.1 none :: q_tbl by unfold q_wd q_mC; rw [h9.1]) rfl rfl (hR.2.2.1.2 _ hm) (q_word F (q_mN_4_ok _ hm) rfl) ⟨b2, b3, b4⟩ ⟨by show 2 * d + 2 + 1 ≤ _; omega, by show _ + (100 * d + 100) ≤ _; omega⟩, h9.2, q_word F (q_mI_4_ok _ hm) rfl⟩ ⟨q_blind, fun U hU hW => ⟨rfl, hrep U hU hW⟩⟩ rfl (by simp; omega) (by show lsC.size = _; rw [hls, hn]) hst (lv_room (by omega)) hd hfit) kk
            · cases hk
          · cases hk
        · cases hk
    · cases hk
  · cases hk
theorem q_endI {cells slots pc : Nat} {cc : ByteArray} {ret : Option FieldType} {Qc : Array Value → State → Outcome → State → Prop} {free : Addr → Prop} {v : Int32} {ls : Array Slot} (hx : p.tables.exec = Jvm.exec) (hb : c.code = cc) (hr : meth.sig.returnType = ret) (hlocks : meth.locks = false) (hn : q_nar ret v = true)
    (hq : ∀ t : State, t.heap = H → s.WarmedH t.vm → Qc args s (.returned (some (.int v))) t) (hf : ∀ q ∈ locs, free q.base) (hdg : decode cc pc = .ok (.ireturn, 1)) : W p l e R s m args below meth c H locs cells slots (MQ below Qc args s cells slots free) (F0 m pc ls [.int v]) := by
  cases ret with
  | none => cases hn
  | some ty =>
    refine W.zret hx hb hr ?_ hq hf hdg hlocks
    cases ty with
    | int => rfl
    | boolean =>
      simp only [q_nar, Bool.or_eq_true, beq_iff_eq] at hn
      rcases hn with rfl | rfl <;> rfl
    | byte =>
      simp only [q_nar, beq_iff_eq] at hn
      rw [hn]
      rfl
    | _ => cases hn
/-- how a frame ends -/
def q_End (p : Program) (l : Launch) (e : Env) (R : Room) (s : State) (m : MethodId) (args : Array Value) (below : List Frame) (meth : Method) (c : Code) (Q : State → Prop) (D : va_G) (cI cZ : ClassId) (B n0 z0 : Nat) (sa : Nat → Nat) (Y : q_MI) (r : Option Value) (h2 : q_H) : Prop :=
  ∀ (H : Heap) (locs : List Loc) (pc : Nat) (ls : Array Slot), q_In D cI cZ B sa s H locs h2 → (∀ v : Int32, r = some (.int v) → q_nar Y.2.2.2.2 v = true → decode Y.2.2.1 pc = .ok (.ireturn, 1) → W p l e R s m args below meth c H locs (h2.1 - n0) (q_sz h2 - z0) Q (F0 m pc ls [.int v])) ∧ (r = none → Y.2.2.2.2 = none → decode Y.2.2.1 pc = .ok (.return_, 1) → W p l e R s m args below meth c H locs (h2.1 - n0) (q_sz h2 - z0) Q (F0 m pc ls []))
end QK
