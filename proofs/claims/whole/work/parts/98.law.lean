/-! the law holds -/
theorem q_law_ok : q_law := by
  intro L xs hL
  obtain ⟨g2, e⟩ := LC_loop (xs := xs) hL 512 0 q_g0 (by omega) q_R0 (by omega)
  obtain ⟨n, hn⟩ := q_sem_iff.mp e
  obtain ⟨h2, hr, ha⟩ := q_run_ag _ _ _ _ _ _ _ _ _ _ (q_ag0 L xs) hn
  obtain ⟨m, hm⟩ := q_sem_iff.mp ((L_start L xs).trans (q_sem_iff.mpr ⟨n, hr⟩))
  refine ⟨m, h2, hm, ?_, ?_⟩
  · rw [ha.1]
    exact (by decide : 151 ≤ 600000)
  · rw [q_ag_sz ha]
    have e2 : q_sz (q_K (q_h0 L xs) g2) = ((List.range 151).map (fun p => (q_sh p).2)).sum := by
      unfold q_sz
      refine congrArg List.sum ?_
      exact List.map_congr_left (fun p hp => q_K_ln (List.mem_range.mp hp))
    rw [e2]
    exact Nat.le_of_ble_eq_true (by decide +kernel)
