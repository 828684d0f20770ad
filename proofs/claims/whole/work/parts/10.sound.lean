theorem q_sound (l : Launch) (D : va_G) (cI cZ : ClassId) (B : Nat) (sa : Nat → Nat) : ∀ (n d : Nat) (Y : q_MI) (pc : Nat) (la st : List Value) (h : q_H) (r : Option Value) (h2 : q_H), q_run n d Y pc la st h = some (r, h2) → ∀ {p : Program} {e : Env} {R : Room} {s : State} {m : MethodId} {args : Array Value} {below : List Frame} {meth : Method} {c : Code} {H : Heap} {locs : List Loc} {Q : State → Prop} {n0 z0 : Nat} {lsC : Array Slot},
    q_Fr p R s m args meth c D cI cZ B n0 Y d → q_In D cI cZ B sa s H locs h → n0 ≤ h.1 → z0 ≤ q_sz h → lv_has lsC Y.2.2.2.1 (q_la (q_cv B sa) 0 la) → la.length = Y.2.2.2.1 → (h2.1 - n0 ≤ R.cells ∧ q_sz h2 - z0 ≤ R.slots) → q_End p l e R s m args below meth c Q D cI cZ B n0 z0 sa Y r h2 →
    W p l e R s m args below meth c H locs (h.1 - n0) (q_sz h - z0) Q (F0 m pc lsC (st.map (q_cv B sa))) := by
  intro n
  induction n with
  | zero => intro d Y pc la st h r h2 hr; cases hr
  | succ n ih =>
    intro d Y pc la st h r h2 hr p e R s m args below meth c H locs Q n0 z0 lsC F I hn0 hz0 hl hlen hroom hE
    have hpre0 := q_run_pre _ _ _ _ _ _ _ _ _ hr
    have hr0 := hr
    unfold q_run at hr
    split at hr
    · cases hr
    · rename_i i k hd
      split at hr
      · rename_i r0 hret
        cases hr
        unfold q_ret at hret
        split at hret
        · split at hret
          · rename_i hk; subst hk
            split at hret
            · rename_i v
              split at hret
              · rename_i hv
                cases hret
                exact (hE H locs pc lsC I).1 v rfl hv hd
              · cases hret
            · cases hret
          · cases hret
        · split at hret
          · rename_i hk
            obtain ⟨hk, hv⟩ := hk
            subst hk
            split at hret
            · cases hret
              exact (hE H locs pc lsC I).2 rfl hv hd
            · cases hret
          · cases hret
        · cases hret
      · split at hr
        · rename_i Z vs rest hk
          split at hr
          · cases hr
          · rename_i d2
            split at hr
            · rename_i hle
              split at hr
              · rename_i r1 h1 hr1
                have hp1 := q_run_pre _ _ _ _ _ _ _ _ _ hr1
                have hp2 := q_run_pre _ _ _ _ _ _ _ _ _ hr
                refine q_kall_ok F I hn0 hz0 hl.1 rfl hd hk hp1 (by have := hp2.1; have := hp2.2.1; omega) (fun hin hpl => ?_) (fun H1 locs1 I1 => ih (d2 + 1) Y (pc + 3) la (r1.toList ++ rest) h1 r h2 hr F I1 (Nat.le_trans hn0 hp1.1) (Nat.le_trans hz0 hp1.2.1) hl hlen hroom hE)
                have ho := List.all_eq_true.mp q_aO _ hin
                simp only [Bool.and_eq_true, decide_eq_true_eq, beq_iff_eq] at ho
                refine Met.ofW (cc := Z.2.2.1) (maxL := Z.2.2.2.1) (ret := Z.2.2.2.2) hpl rfl ?_
                intro p e s m args below meth c s₁ B' hml hPc
                obtain ⟨rfl, hsz, hM, hP, hK, hR⟩ := hPc
                rw [lg_entry_eq]
                have hts := atoms_spec (ws := q_wd Z) B'.pre
                have hcat : ∀ v, (q_cv B sa v).category = v.category := q_cat B sa
                have hlv := lv_entry (vs.map (q_cv B sa)) (n := Z.2.2.2.1) (by rw [q_sl_len _ hcat]; exact hle)
                have F1 : q_Fr p (headSpec (q_wd Z) (q_rm d2 (h1.1 - h.1) (q_sz h1 - q_sz h))).room s m (vs.map (q_cv B sa)).toArray meth c D cI cZ B h.1 Z d2 :=
                  ⟨B'.exec, B'.bytes, hml, by rw [ho.2]; exact findClass_of_methodNamed B'.named, fun w hw => hts w (List.mem_cons_of_mem _ hw), fun hi => (name_of_methodNamed B'.named B'.method).1.trans hi, hK, hsz, Nat.le_refl _, Nat.le_refl _, ho.1⟩
                have k9 := ih d2 Z 0 (q_en Z.2.2.2.1 vs) [] h r1 h1 hr1 (Q := MQ below (q_Qc D cI cZ B sa r1 h1) (vs.map (q_cv B sa)).toArray s (h1.1 - h.1) (q_sz h1 - q_sz h) (fun q => B ≤ q)) (e := e) (n0 := h.1) (z0 := q_sz h) F1 ⟨hM, hP, va_S.rf, hR⟩ (Nat.le_refl _) (Nat.le_refl _)
                  (⟨hlv.1, hlv.2.1, fun q hq => hlv.2.2 q (q_la_args _ hcat _ vs 0 q hq)⟩) (by unfold q_en; rw [List.length_append, List.length_replicate]; omega) ⟨Nat.le_refl _, Nat.le_refl _⟩
                  (fun H1 locs1 pc1 ls1 I1 => ⟨fun v hv hnar hdg => q_endI B'.exec B'.bytes B'.returns B'.notSynchronized hnar (fun t ht hW => ⟨by rw [hv]; rfl, by rw [ht]; exact I1.2.1, I1.2.2.1.F ht⟩) I1.2.2.1.2.2 hdg, fun hv hno hdg => W.vret B'.exec B'.bytes (B'.returns.trans hno) (fun t ht hW => ⟨by rw [hv]; rfl, by rw [ht]; exact I1.2.1, I1.2.2.1.F ht⟩) I1.2.2.1.2.2 hdg B'.notSynchronized⟩)
                rw [Nat.sub_self, Nat.sub_self] at k9
                exact k9
              · cases hr
            · cases hr
        · split at hr
          · rename_i pc2 ls2 st2 h3 hs
            have hp2 := q_run_pre _ _ _ _ _ _ _ _ _ hr
            have hp1 := q_stp_pre hs
            have hcs : h.1 - n0 ≤ R.cells ∧ q_sz h - z0 ≤ R.slots := by
              have := hpre0.1
              have := hpre0.2.1
              omega
            unfold q_stp at hs
            split at hs
            · rename_i h1
              cases hs
              exact q_s1_ok F.1 F.2.1 hd h1 hl hlen (fun lsD hD hlen2 => ih d Y pc2 ls2 st2 h r h2 hr F I hn0 hz0 hD hlen2 hroom hE)
            · split at hs
              · rename_i h1
                cases hs
                exact q_s2_ok F.1 F.2.1 hd h1 (ih d Y pc2 la st2 h r h2 hr F I hn0 hz0 hl hlen hroom hE)
              · split at hs
                · rename_i h1
                  cases hs
                  exact q_s3_ok F.1 F.2.1 hd h1 (ih d Y pc2 la st2 h r h2 hr F I hn0 hz0 hl hlen hroom hE)
                · split at hs
                  · rename_i h1
                    cases hs
                    exact q_s4_ok F I hl.1 rfl hd hcs h1 (ih d Y pc2 la st2 h r h2 hr F I hn0 hz0 hl hlen hroom hE)
                  · split at hs
                    · rename_i h1
                      cases hs
                      refine q_s5_ok F I hn0 hz0 hl.1 rfl hd h1 (by have := hp2.1; have := hp2.2.1; omega) (fun H1 locs1 I1 => ih d Y pc2 la st2 h3 r h2 hr F I1 (Nat.le_trans hn0 hp1.1) (Nat.le_trans hz0 hp1.2.1) hl hlen hroom hE)
                    · cases hs
          · cases hr
