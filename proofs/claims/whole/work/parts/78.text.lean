section ALL
variable {o : q_H} {u r n : Nat} {T : Nat → Int32}
theorem sim_L0 (hT : q_tap T n) (hr : r < 12) {op : Nat} (d e : Nat) (h : q_sim o r u T n op (fun g => q_sem (d + 6) mX8_part 0 [.ref 67, .int (nI op), .retAddr 0, .retAddr 0] [] (q_K o g)) (fun g => q_sem (e + 4) mX12_readQ 0 [.ref 98, .retAddr 0, .retAddr 0, .retAddr 0] [] (q_K o g))) : q_sim o r u T n op (fun g => q_sem (d + 12) mX8_level 0 [.ref 67, .int 0, .int (nI op), .retAddr 0, .retAddr 0, .retAddr 0] [] (q_K o g)) (fun g => q_sem (e + 9) mX12_readT 0 [.ref 98] [] (q_K o g)) :=
  sim_T hT hr (d + 9) (e + 7) (sim_A hT hr (d + 8) (e + 6) (sim_B hT hr (d + 7) (e + 5) (sim_S hT hr (d + 6) (e + 4) (sim_P hT hr (d + 5) (e + 3) (lvl_sim5 (d + 6) _ h)))))
theorem sim_all (hT : q_tap T n) (hr : r < 12) (hu : u < 3) (ho : q_oR o) : ∀ k op d e, op + k = 5 → q_sim o r u T n op (fun g => q_sem (d + 10 * k + 6) mX8_part 0 [.ref 67, .int (nI op), .retAddr 0, .retAddr 0] [] (q_K o g)) (fun g => q_sem (e + 10 * k + 4) mX12_readQ 0 [.ref 98, .retAddr 0, .retAddr 0, .retAddr 0] [] (q_K o g)) := by
  intro k
  induction k with
  | zero =>
    intro op d e h
    exact sim_part hT hr hu ho (by omega) d e (fun z => by omega) (fun z => by omega)
  | succ k ih =>
    intro op d e h
    have h1 := sim_L0 hT hr (d + 2 + 10 * k) (e + 4 + 10 * k) (ih (op + 1) (d + 2) (e + 4) (by omega))
    have h2 := ih (op + 1) (d + 8) (e + 9) (by omega)
    have := sim_part (op := op) hT hr hu ho (by omega) (d + 10 * k + 10) (e + 10 * k + 10) (fun _ => by
      rw [show d + 10 * k + 10 + 4 = d + 2 + 10 * k + 12 by omega, show e + 10 * k + 10 + 3 = e + 4 + 10 * k + 9 by omega]; exact h1) (fun _ => by
      rw [show d + 10 * k + 10 + 4 = d + 8 + 10 * k + 6 by omega, show e + 10 * k + 10 + 3 = e + 9 + 10 * k + 4 by omega]; exact h2)
    rw [show d + 10 * (k + 1) + 6 = d + 10 * k + 10 + 6 by omega, show e + 10 * (k + 1) + 4 = e + 10 * k + 10 + 4 by omega]
    exact this
theorem sim_text (hT : q_tap T n) (hr : r < 12) (hu : u < 3) (ho : q_oR o) (d e : Nat) : q_sim o r u T n 0 (fun g => q_sem (d + 62) mX8_level 0 [.ref 67, .int 0, .int 0, .retAddr 0, .retAddr 0, .retAddr 0] [] (q_K o g)) (fun g => q_sem (e + 59) mX12_readT 0 [.ref 98] [] (q_K o g)) :=
  sim_L0 hT hr (d + 50) (e + 50) (sim_all hT hr hu ho 5 0 d e (by omega))
end ALL
