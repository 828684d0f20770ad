theorem q_Ro_cong {sa : Nat → Nat} {B : Nat} {h h2 : q_H} {U : State} {H : Heap} (hR : q_Ro sa B h U H) (h1 : ∀ k, h2.2.1 (q_M + k) = h.2.1 (q_M + k)) (h3 : ∀ k, h2.2.2 (q_M + k) = h.2.2 (q_M + k)) : q_Ro sa B h2 U H := by
  refine ⟨fun k hk hc => ?_, hR.2.1, hR.2.2.1, hR.2.2.2.1, hR.2.2.2.2.1, fun k hk hc => ?_⟩
  rotate_left
  · have e1 : q_kd h2 (q_M + (10 + k)) = q_kd h (q_M + (10 + k)) := by unfold q_kd; rw [h1]
    have e2 : q_ln h2 (q_M + (10 + k)) = q_ln h (q_M + (10 + k)) := by unfold q_ln; rw [h1]
    have e3 : (fun j => q_rd h2 (q_M + (10 + k)) j) = fun j => q_rd h (q_M + (10 + k)) j := by funext j; unfold q_rd; rw [h3]
    rw [e2, e3]
    exact hR.2.2.2.2.2 k hk (e1 ▸ hc)
  have e1 : q_kd h2 (q_M + k) = q_kd h (q_M + k) := by unfold q_kd; rw [h1]
  have e2 : q_ln h2 (q_M + k) = q_ln h (q_M + k) := by unfold q_ln; rw [h1]
  have e3 : (fun j => q_rd h2 (q_M + k) j) = fun j => q_rd h (q_M + k) j := by funext j; unfold q_rd; rw [h3]
  rw [e2, e3]
  exact hR.1 k hk (e1 ▸ hc)
theorem q_Ro_wr {sa : Nat → Nat} {B : Nat} {h : q_H} {U : State} {H : Heap} {p f : Nat} {v : Value} (hR : q_Ro sa B h U H) (hp : p < h.1) (hM : h.1 < q_M) : q_Ro sa B (q_wr h p f v) U H :=
  q_Ro_cong hR (fun _ => rfl) (fun k => by funext j; have : ¬ q_M + k = p := by omega
                                           simp [q_wr, this])
theorem q_Ro_cp {sa : Nat → Nat} {B : Nat} {h : q_H} {U : State} {H : Heap} {a b sp dp n : Nat} (hR : q_Ro sa B h U H) (hp : b < h.1) (hM : h.1 < q_M) : q_Ro sa B (q_cp h a b sp dp n) U H :=
  q_Ro_cong hR (fun _ => rfl) (fun k => by funext j; have : ¬ q_M + k = b := by omega
                                           simp [q_cp, this])
theorem q_Ro_nw {sa : Nat → Nat} {B : Nat} {h : q_H} {U : State} {H : Heap} {kd ln : Nat} {f : Nat → Value} (hR : q_Ro sa B h U H) (hM : h.1 < q_M) : q_Ro sa B (q_nw h kd ln f) U H :=
  q_Ro_cong hR (fun k => by have : ¬ q_M + k = h.1 := by omega
                            simp [q_nw, this]) (fun k => by funext j; have : ¬ q_M + k = h.1 := by omega
                                                            simp [q_nw, this])
theorem q_dflt {B : Nat} {sa : Nat → Nat} (ty : FieldType) : q_cv B sa (defaultValue ty) = defaultValue ty := by cases ty <;> rfl
theorem q_rd_nw {h : q_H} {kd ln j : Nat} {f : Nat → Value} : q_rd (q_nw h kd ln f) h.1 j = f j := if_pos rfl
section QG
variable {p : Program} {l : Launch} {e : Env} {R : Room} {s : State} {m : MethodId} {args : Array Value} {below : List Frame} {meth : Method} {c : Code} {H : Heap} {locs : List Loc} {Q : State → Prop}
variable {D : va_G} {cI cZ : ClassId} {B n0 z0 : Nat} {sa : Nat → Nat} {Y : q_MI} {d : Nat}
theorem q_s5_ok (F : q_Fr p R s m args meth c D cI cZ B n0 Y d) {h h2 : q_H} (I : q_In D cI cZ B sa s H locs h) (hn0 : n0 ≤ h.1) (hz0 : z0 ≤ q_sz h) {pc k pc2 n : Nat} {i : Instr} {st st2 : List Value} {lsC : Array Slot} (hls : lsC.size = n) (hn : n = Y.2.2.2.1) (hd : decode Y.2.2.1 pc = .ok (i, k)) (h5 : q_s5 Y i k pc st h = some (pc2, st2, h2)) (hroom : h2.1 - n0 ≤ R.cells ∧ q_sz h2 - z0 ≤ R.slots)
    (kk : ∀ (H1 : Heap) (locs1 : List Loc), q_In D cI cZ B sa s H1 locs1 h2 → W p l e R s m args below meth c H1 locs1 (h2.1 - n0) (q_sz h2 - z0) Q (F0 m pc2 lsC (st2.map (q_cv B sa)))) : W p l e R s m args below meth c H locs (h.1 - n0) (q_sz h - z0) Q (F0 m pc lsC (st.map (q_cv B sa))) := by
  obtain ⟨hx, hb, hml, hown, hts, hini, hK, hsz, hf, hlo, h15⟩ := id F
  obtain ⟨hM, hP, hS, hR⟩ := id I
  unfold q_s5 at h5
  split at h5
  · split at h5
    · rename_i hk; subst hk
      split at h5
      · rename_i c0 f p0 r hf2
        split at h5
        · rename_i hc
          cases h5
          have hm := q_f2_mem hf2
          have hB := List.all_eq_true.mp q_fB_ok _ hm
          simp only [q_fB, Bool.and_eq_true, decide_eq_true_eq] at hB
          obtain ⟨g1, g2, g3, g4⟩ := q_clF hB.1
          have kk := kk H locs I
          rw [List.map_cons, q_cv_lo (Nat.lt_trans hc.1 hM)]
          refine va_get (D := D) (ci := c0) (C := (q_clD c0).1) (T := (q_clD c0).2.1) (N := (q_clD c0).2.2) hx hb hts g1 hown hK hP p0 (by rw [q_ws_get hc.1, q_el_obj hc.2.1 hB.1]) g4 f hB.2 (q_word F (q_fldT_ok _ hm) rfl) (fun x hq => by rw [q_clDecl hB.1 hB.2] at hq; exact hq) (v := q_cv B sa (q_rd h p0 f)) (by simp [hc.2.2]) hd kk
        · cases h5
      · cases h5
    · cases h5
  · split at h5
    · rename_i hk; subst hk
      split at h5
      · rename_i c0 f v p0 r hf2
        split at h5
        · rename_i hc
          cases h5
          obtain ⟨hc, hv1, hv2, hfin⟩ := hc
          have hm := q_f2_mem hf2
          have hB := List.all_eq_true.mp q_fB_ok _ hm
          simp only [q_fB, Bool.and_eq_true, decide_eq_true_eq] at hB
          obtain ⟨g1, g2, g3, g4⟩ := q_clF hB.1
          rw [List.map_cons, List.map_cons, q_cv_lo (Nat.lt_trans hc.1 hM)]
          have he : (q_ws B sa cI cZ h)[p0]? = some (B + p0, .inr (c0, (List.range (q_ln h p0)).map (fun k => q_cv B sa (q_rd h p0 k)))) := by rw [q_ws_get hc.1, q_el_obj hc.2.1 hB.1]
          have hl : f < ((List.range (q_ln h p0)).map (fun k => q_cv B sa (q_rd h p0 k))).length := by simp [hc.2.2]
          cases hfl : ((q_clD c0).2.1 f).2.2.2 with
          | false =>
            refine va_put (D := D) (ci := c0) (v := q_cv B sa v) (ty := q_ty c0 f) (C := (q_clD c0).1) (T := (q_clD c0).2.1) (N := (q_clD c0).2.2) hx hb hts g1 (q_ty c0) g2 g3 hown hK hP q_ws_D hS p0 he g4 f hB.2 (q_word F (q_fldT_ok _ hm) rfl) (fun x hq => by rw [q_clDecl hB.1 hB.2] at hq; exact hq) hfl (g2 f hB.2) (q_narrow hv1) (q_fits hv2) hl hd (fun H1 locs1 hP1 hD1 hS1 => ?_)
            rw [q_wr_obj hc.2.1 hB.1 hc.2.2] at hP1
            exact kk H1 locs1 ⟨hM, hP1, hS1, q_Ro_wr hR hc.1 hM⟩
          | true =>
            rcases hfin with hfin | ⟨hi1, hi2⟩
            · rw [hfl] at hfin; cases hfin
            · have e9 : q_cn Y.1 = (q_clD c0).1 := by
                have h9 := of_decide_eq_true (List.all_eq_true.mp q_ocN Y.1 (List.mem_range.mpr h15)) (by rw [hi2]; exact hB.1)
                rw [hi2] at h9
                exact h9
              refine va_putF (D := D) (ci := c0) (v := q_cv B sa v) (ty := q_ty c0 f) (C := (q_clD c0).1) (T := (q_clD c0).2.1) (N := (q_clD c0).2.2) hx hb hts g1 (q_ty c0) g2 g3 hown hK hP q_ws_D hS p0 he g4 f hB.2 (q_word F (q_fldT_ok _ hm) rfl) (fun x hq => by rw [q_clDecl hB.1 hB.2] at hq; exact hq) hfl (hini hi1) (by rw [q_clDecl hB.1 hB.2, e9]) (g2 f hB.2) (q_narrow hv1) (q_fits hv2) hl hd (fun H1 locs1 hP1 hD1 hS1 => ?_)
              rw [q_wr_obj hc.2.1 hB.1 hc.2.2] at hP1
              exact kk H1 locs1 ⟨hM, hP1, hS1, q_Ro_wr hR hc.1 hM⟩
        · cases h5
      · cases h5
    · cases h5
  · split at h5
    · rename_i hk; subst hk
      split at h5
      · rename_i i0 p0 r
        split at h5
        · rename_i hc
          obtain ⟨hin, hc⟩ := hc
          split at h5
          · rename_i x hrd
            cases h5
            have kk := kk H locs I
            rcases hc with hc | ⟨hc1, hc2, hc3⟩
            · rw [List.map_cons, List.map_cons, q_cv_lo (Nat.lt_trans hc.1 hM)]
              refine va_iald hx hb hK hP p0 0 (by rw [q_ws_get hc.1, q_el_int hc.2]) rfl (i := i0) hin hd ?_
              rw [hrd]
              exact kk
            · obtain ⟨k0, rfl⟩ : ∃ k0, p0 = q_M + k0 := ⟨p0 - q_M, (Nat.add_sub_cancel' hc1).symm⟩
              rw [List.map_cons, List.map_cons, q_cv_hi]
              exact va_ti hx hb (hR.1 k0 (Nat.lt_of_add_lt_add_left hc2) hc3) hS (i := i0) hin hrd hd kk
          · cases h5
        · cases h5
      · cases h5
    · cases h5
  · split at h5
    · rename_i hk; subst hk
      split at h5
      · rename_i i0 p0 r
        split at h5
        · rename_i hc
          obtain ⟨hin, hc⟩ := hc
          split at h5
          · rename_i x hrd
            cases h5
            have kk := kk H locs I
            rcases hc with hc | ⟨hc1, hc2, hc3⟩
            · rw [List.map_cons, List.map_cons, q_cv_lo (Nat.lt_trans hc.1 hM)]
              refine va_zald hx hb hK hP p0 1 (by rw [q_ws_get hc.1, q_el_bol hc.2]) rfl (i := i0) hin hd ?_
              rw [hrd]
              exact kk
            · obtain ⟨k0, hk0, rfl⟩ : ∃ j, j < 3 ∧ p0 = q_M + (10 + j) := ⟨p0 - (q_M + 10), Nat.sub_lt_left_of_lt_add hc1 hc2, by rw [← Nat.add_assoc]; exact (Nat.add_sub_cancel' hc1).symm⟩
              rw [List.map_cons, List.map_cons, q_cv_hi]
              exact va_tb hx hb (hR.2.2.2.2.2 k0 hk0 hc3) hS (i := i0) hin hrd hd kk
          · cases h5
        · cases h5
      · cases h5
    · cases h5
  · split at h5
    · rename_i hk; subst hk
      split at h5
      · rename_i x0 i0 p0 r
        split at h5
        · rename_i hc
          obtain ⟨hin, hc⟩ := hc
          cases h5
          rw [List.map_cons, List.map_cons, List.map_cons, q_cv_lo (Nat.lt_trans hc.1 hM)]
          refine va_iast hx hb hK hP q_ws_D hS p0 0 (by rw [q_ws_get hc.1, q_el_int hc.2]) rfl (i := i0) hin hd (fun H1 locs1 hP1 hD1 hS1 => ?_)
          rw [q_wr_int hc.2] at hP1
          exact kk H1 locs1 ⟨hM, hP1, hS1, q_Ro_wr hR hc.1 hM⟩
        · cases h5
      · cases h5
    · cases h5
  · split at h5
    · rename_i hk; subst hk
      split at h5
      · rename_i x0 i0 p0 r
        split at h5
        · rename_i hc
          obtain ⟨⟨hin, hc⟩, h01⟩ := hc
          cases h5
          rw [List.map_cons, List.map_cons, List.map_cons, q_cv_lo (Nat.lt_trans hc.1 hM)]
          refine va_zast hx hb hK hP q_ws_D hS p0 1 (by rw [q_ws_get hc.1, q_el_bol hc.2]) rfl (i := i0) hin hd (fun H1 locs1 hP1 hD1 hS1 => ?_)
          have e9 : vp_nar .boolean x0 = x0 := by rcases h01 with rfl | rfl <;> rfl
          rw [e9, q_wr_bol hc.2] at hP1
          exact kk H1 locs1 ⟨hM, hP1, hS1, q_Ro_wr hR hc.1 hM⟩
        · cases h5
      · cases h5
    · cases h5
  · split at h5
    · rename_i hk; subst hk
      split at h5
      · rename_i p0 r
        split at h5
        · rename_i hc
          cases h5
          have kk := kk H locs I
          rcases hc with ⟨hc1, hc2⟩ | ⟨hc1, hc2, hc3⟩ | ⟨hc1, hc2, hc3⟩
          rotate_left
          rotate_left
          · obtain ⟨k0, hk0, rfl⟩ : ∃ j, j < 3 ∧ p0 = q_M + (10 + j) := ⟨p0 - (q_M + 10), Nat.sub_lt_left_of_lt_add hc1 hc2, by rw [← Nat.add_assoc]; exact (Nat.add_sub_cancel' hc1).symm⟩
            rw [List.map_cons, q_cv_hi]
            exact va_tlen hx hb (hR.2.2.2.2.2 k0 hk0 hc3) hS rfl hd kk
          · rw [List.map_cons, q_cv_lo (Nat.lt_trans hc1 hM)]
            rcases hc2 with hc2 | hc2
            · exact va_alen (cA := cI) (x := (q_ln h p0, .inl (fun k => q_iv (q_rd h p0 k)))) hx hb hK hP p0 0 (by rw [q_ws_get hc1, q_el_int hc2]) rfl rfl hd kk
            · exact va_alen (cA := cZ) (x := (q_ln h p0, .inl (fun k => q_iv (q_rd h p0 k)))) hx hb hK hP p0 1 (by rw [q_ws_get hc1, q_el_bol hc2]) rfl rfl hd kk
          · obtain ⟨k0, rfl⟩ : ∃ k0, p0 = q_M + k0 := ⟨p0 - q_M, (Nat.add_sub_cancel' hc1).symm⟩
            rw [List.map_cons, q_cv_hi]
            exact va_tlen hx hb (hR.1 k0 (Nat.lt_of_add_lt_add_left hc2) hc3) hS rfl hd kk
        · cases h5
      · cases h5
    · cases h5
  · split at h5
    · rename_i hk; subst hk
      split at h5
      · rename_i c0 hf2
        split at h5
        · rename_i hc
          cases h5
          have hm := q_f2_mem hf2
          have hB : c0 < 11 := of_decide_eq_true (List.all_eq_true.mp q_nB_ok _ hm)
          obtain ⟨g1, g2, g3, g4⟩ := q_clF hB
          have hKn := hK.1 c0 _ g4
          have hob : (c0, ()) ∈ q_objT := by
            have : ∀ i, i < 11 → (i, ()) ∈ q_objT := by decide +kernel
            exact this c0 hB
          refine q_size hsz hn0 rfl hP hS (fun hH => ?_)
          have hr2 : h.1 + 1 - n0 ≤ R.cells := hroom.1
          have hr3 := hroom.2
          rw [q_sz_nw] at hr3
          refine W.newcK (C := (q_clD c0).1) (n := (q_clD c0).2.2) hx hb hown (q_word F (q_newT_ok _ hm) rfl) (q_word F (q_insW_ok _ hob) rfl) (q_word F (q_iniW_ok _ hob) rfl) rfl hd (by omega) (by omega) hKn.2.1 hH fun H1 kC hkC e1 z1 o1 => ?_
          have hk : ∀ (k : Nat) (x : Nat × va_E), (q_ws B sa cI cZ h)[k]? = some x → H1[x.1]? = H[x.1]? := fun k x hx => o1 x.1 (by have := (hP k x hx).lt; omega)
          have hkd : q_kd (q_nw h c0 (q_clD c0).2.2 (fun j => defaultValue (q_ty c0 j))) h.1 = c0 := by simp [q_kd, q_nw]
          have hln : q_ln (q_nw h c0 (q_clD c0).2.2 (fun j => defaultValue (q_ty c0 j))) h.1 = (q_clD c0).2.2 := by simp [q_ln, q_nw]
          have hI : q_In D cI cZ B sa s H1 locs (q_nw h c0 (q_clD c0).2.2 (fun j => defaultValue (q_ty c0 j))) := by
            refine ⟨hc, ?_, ⟨Nat.le_trans hS.1 (by omega), fun x h1 h2 => (o1 x (by have := hS.1; omega)).trans (hS.2.1 x h1 h2), hS.2.2⟩, q_Ro_nw hR hM⟩
            rw [← q_ws_nw (q_el_obj hkd hB)]
            refine (hP.kept hk).app (fun k x hx => ?_)
            have hz : k < 1 := (List.getElem?_eq_some_iff.mp hx).1
            rw [show k = 0 by omega] at hx
            cases hx
            refine ⟨_, g4, (u_born (q_ty c0) hts g1 hKn hkC e1 g2).to (fun j hj => ?_)⟩
            have hj : j < (q_clD c0).2.2 := hj
            show defaultValue (q_ty c0 j) = vp_V ((List.range (q_ln (q_nw h c0 (q_clD c0).2.2 (fun j => defaultValue (q_ty c0 j))) h.1)).map _) j
            rw [hln, vp_V, List.getD_eq_getElem?_getD, List.getElem?_map, List.getElem?_range hj]
            show _ = q_cv B sa (q_rd _ h.1 j)
            rw [q_rd_nw, q_dflt]
          have k9 := kk H1 locs hI
          rw [q_sz_nw] at k9
          rw [List.map_cons, q_cv_lo (show h.1 < q_M by omega)] at k9
          have e1 : (q_nw h c0 (q_clD c0).2.2 (fun j => defaultValue (q_ty c0 j))).1 - n0 = (h.1 - n0) + 1 := by show h.1 + 1 - n0 = _; omega
          have e2 : q_sz h + (q_clD c0).2.2 - z0 = (q_sz h - z0) + (q_clD c0).2.2 := by omega
          rw [e1, e2] at k9
          exact k9
        · cases h5
      · cases h5
    · cases h5
  · split at h5
    · rename_i hk; subst hk
      split at h5
      · rename_i x0 r
        split at h5
        · rename_i hc
          cases h5
          refine q_size hsz hn0 rfl hP hS (fun hH => ?_)
          have hr2 : h.1 + 1 - n0 ≤ R.cells := hroom.1
          have hr3 := hroom.2
          rw [q_sz_nw] at hr3
          refine va_newaK (atype := .int) (N := x0.toNatClampNeg) hx hb (q_word F q_wTi rfl) rfl hd rfl hc.2.1 rfl (by show _ * 4 ≤ _; omega) (by omega) (by omega) hH fun H1 cA e1 z1 o1 hAr hNm => ?_
          have hcA : cI = cA := Option.some.inj ((hK.2 0 _ rfl).2.symm.trans hNm)
          subst hcA
          have hk : ∀ (k : Nat) (x : Nat × va_E), (q_ws B sa cI cZ h)[k]? = some x → H1[x.1]? = H[x.1]? := fun k x hx => o1 x.1 (by have := (hP k x hx).lt; omega)
          have hkd : q_kd (q_nw h 100 x0.toNatClampNeg (fun _ => .int 0)) h.1 = 100 := by simp [q_kd, q_nw]
          have hln : q_ln (q_nw h 100 x0.toNatClampNeg (fun _ => .int 0)) h.1 = x0.toNatClampNeg := by simp [q_ln, q_nw]
          have hfn : (fun k => q_iv (q_rd (q_nw h 100 x0.toNatClampNeg (fun _ => .int 0)) h.1 k)) = fun _ => 0 := by funext k; simp [q_rd, q_nw, q_iv]
          have hI : q_In D cI cZ B sa s H1 locs (q_nw h 100 x0.toNatClampNeg (fun _ => .int 0)) := by
            refine ⟨hc.1, ?_, ⟨Nat.le_trans hS.1 (by omega), fun x h1 h2 => (o1 x (by have := hS.1; omega)).trans (hS.2.1 x h1 h2), hS.2.2⟩, q_Ro_nw hR hM⟩
            rw [← q_ws_nw (q_el_int hkd)]
            refine (hP.kept hk).app (fun k x hx => ?_)
            have hz : k < 1 := (List.getElem?_eq_some_iff.mp hx).1
            rw [show k = 0 by omega] at hx
            cases hx
            show H1[B + h.1]? = some (vp_cell _ _)
            rw [hln, hfn]
            exact e1
          have k9 := kk H1 locs hI
          rw [q_sz_nw] at k9
          rw [List.map_cons, q_cv_lo (show h.1 < q_M by omega)] at k9
          have e1 : (q_nw h 100 x0.toNatClampNeg (fun _ => .int 0)).1 - n0 = (h.1 - n0) + 1 := by show h.1 + 1 - n0 = _; omega
          have e2 : q_sz h + x0.toNatClampNeg - z0 = (q_sz h - z0) + x0.toNatClampNeg := by omega
          rw [e1, e2] at k9
          exact k9
        · cases h5
      · cases h5
    · cases h5
  · split at h5
    · rename_i hk; subst hk
      split at h5
      · rename_i x0 r
        split at h5
        · rename_i hc
          cases h5
          refine q_size hsz hn0 rfl hP hS (fun hH => ?_)
          have hr2 : h.1 + 1 - n0 ≤ R.cells := hroom.1
          have hr3 := hroom.2
          rw [q_sz_nw] at hr3
          refine va_newaK (atype := .boolean) (N := x0.toNatClampNeg) hx hb (q_word F q_wTz rfl) rfl hd rfl hc.2.1 rfl (by show _ * 1 ≤ _; omega) (by omega) (by omega) hH fun H1 cA e1 z1 o1 hAr hNm => ?_
          have hcA : cZ = cA := Option.some.inj ((hK.2 1 _ rfl).2.symm.trans hNm)
          subst hcA
          have hk : ∀ (k : Nat) (x : Nat × va_E), (q_ws B sa cI cZ h)[k]? = some x → H1[x.1]? = H[x.1]? := fun k x hx => o1 x.1 (by have := (hP k x hx).lt; omega)
          have hkd : q_kd (q_nw h 101 x0.toNatClampNeg (fun _ => .int 0)) h.1 = 101 := by simp [q_kd, q_nw]
          have hln : q_ln (q_nw h 101 x0.toNatClampNeg (fun _ => .int 0)) h.1 = x0.toNatClampNeg := by simp [q_ln, q_nw]
          have hfn : (fun k => q_iv (q_rd (q_nw h 101 x0.toNatClampNeg (fun _ => .int 0)) h.1 k)) = fun _ => 0 := by funext k; simp [q_rd, q_nw, q_iv]
          have hI : q_In D cI cZ B sa s H1 locs (q_nw h 101 x0.toNatClampNeg (fun _ => .int 0)) := by
            refine ⟨hc.1, ?_, ⟨Nat.le_trans hS.1 (by omega), fun x h1 h2 => (o1 x (by have := hS.1; omega)).trans (hS.2.1 x h1 h2), hS.2.2⟩, q_Ro_nw hR hM⟩
            rw [← q_ws_nw (q_el_bol hkd)]
            refine (hP.kept hk).app (fun k x hx => ?_)
            have hz : k < 1 := (List.getElem?_eq_some_iff.mp hx).1
            rw [show k = 0 by omega] at hx
            cases hx
            show H1[B + h.1]? = some (vp_cell _ _)
            rw [hln, hfn]
            exact e1
          have k9 := kk H1 locs hI
          rw [q_sz_nw] at k9
          rw [List.map_cons, q_cv_lo (show h.1 < q_M by omega)] at k9
          have e1 : (q_nw h 101 x0.toNatClampNeg (fun _ => .int 0)).1 - n0 = (h.1 - n0) + 1 := by show h.1 + 1 - n0 = _; omega
          have e2 : q_sz h + x0.toNatClampNeg - z0 = (q_sz h - z0) + x0.toNatClampNeg := by omega
          rw [e1, e2] at k9
          exact k9
        · cases h5
      · cases h5
    · cases h5
  · split at h5
    · rename_i hk; subst hk
      split at h5
      · rename_i n1 dp b1 sp a1 r
        split at h5
        · rename_i hc
          obtain ⟨hl, hr, ha, hb1, q1, q2, q3, q4, q5⟩ := hc
          cases h5
          have h8 := q_sum8 (B := B) (sa := sa) st2
          have h9 : nativeFrameWords "java/lang/System" "arraycopy" 5 = 7 := by decide +kernel
          rw [List.map_cons, List.map_cons, List.map_cons, List.map_cons, List.map_cons, q_cv_lo (Nat.lt_trans hb1.1 hM), q_cv_lo (Nat.lt_trans ha.1 hM)]
          refine va_copyi hx hb (by rw [hls, hn, hml]) hown (q_word F (q_yT_ok _ hl) rfl) (q_word F q_wAn rfl) (q_word F q_wAs rfl) (q_word F q_wAi rfl) hK hP q_ws_D hS a1 b1 0 0 (by rw [q_ws_get ha.1, q_el_int ha.2]) (by rw [q_ws_get hb1.1, q_el_int hb1.2]) rfl rfl rfl q1 q2 q3 q4 q5 (fun _ _ => rfl) (by omega) (by omega) hd (fun H1 locs1 hP1 hD1 hS1 => ?_)
          rw [q_cp_int hb1.2] at hP1
          exact kk H1 locs1 ⟨hM, hP1, hS1, q_Ro_cp hR hb1.1 hM⟩
        · cases h5
      · cases h5
    · cases h5
  · cases h5
end QG
