/-! the class: a new text -/
section NEWTEXT
variable {E : En} {h : Hp}
theorem c10_init {t n0 : Nat} (ht : isA E h t 10) (hz : eZ E + hN h = t + 1) (hn4 : n0 ≤ 400) : Ct E 1 5 (61 + n0 + n0) mX10_init [.ref t, .int (nI n0)] h (fun v h' => v = none ∧ ∃ g1 g2 g3 g4, Nw h g1 t 1 (eZ E + hN h) 13 12 ∧ Nw g1 g2 t 2 (eZ E + hN g1) 13 12 ∧ Nw g2 g3 t 3 (eZ E + hN g2) 13 37 ∧ Nw g3 g4 t 4 (eZ E + hN g3) 13 n0 ∧ Nw g4 h' t 5 (eZ E + hN g4) 13 n0) := by
  refine Ct.of (by decide +kernel) (Nat.le_of_ble_eq_true rfl) ?_
  refine r_aload_n (pc := 0) 0 dX10_init_0 rfl ?_
  refine r_objInit (pc := 1) ml_X10_3 oi_2 oi_3 (Nat.le_of_ble_eq_true rfl) (Nat.le_of_ble_eq_true rfl) dX10_init_1 ?_
  refine r_aload_n (pc := 4) 0 dX10_init_4 rfl ?_
  refine r_bipush (pc := 5) (12) dX10_init_5 rfl ?_
  refine r_nwput (pc := 7) (n0 := 12) (Or.inl ⟨rfl, rfl⟩) rfl (by omega) (Nat.le_of_ble_eq_true rfl) (show 0 + 12 ≤ 61 + n0 + n0 by omega) fp_X10_9 (Or.inr ⟨_, rfl⟩) (fun _ => rfl) ht dX10_init_7 dX10_init_9 (fun g1 w1 => ?_)
  refine r_aload_n (pc := 12) 0 dX10_init_12 rfl ?_
  refine r_bipush (pc := 13) (12) dX10_init_13 rfl ?_
  refine r_nwput (pc := 15) (n0 := 12) (Or.inl ⟨rfl, rfl⟩) rfl (by omega) (Nat.le_of_ble_eq_true rfl) (show 0 + 12 + 12 ≤ 61 + n0 + n0 by omega) fp_X10_15 (Or.inr ⟨_, rfl⟩) (fun _ => rfl) (w1.kA ht) dX10_init_15 dX10_init_17 (fun g2 w2 => ?_)
  refine r_aload_n (pc := 20) 0 dX10_init_20 rfl ?_
  refine r_bipush (pc := 21) (37) dX10_init_21 rfl ?_
  refine r_nwput (pc := 23) (n0 := 37) (Or.inl ⟨rfl, rfl⟩) rfl (by omega) (Nat.le_of_ble_eq_true rfl) (show 0 + 12 + 12 + 37 ≤ 61 + n0 + n0 by omega) fp_X10_18 (Or.inr ⟨_, rfl⟩) (fun _ => rfl) (w2.kA (w1.kA ht)) dX10_init_23 dX10_init_25 (fun g3 w3 => ?_)
  refine r_aload_n (pc := 28) 0 dX10_init_28 rfl ?_
  refine r_iload_n (pc := 29) 1 dX10_init_29 rfl ?_
  refine r_nwput (pc := 30) (n0 := n0) (Or.inl ⟨rfl, rfl⟩) rfl (by omega) (Nat.le_of_ble_eq_true rfl) (show 0 + 12 + 12 + 37 + n0 ≤ 61 + n0 + n0 by omega) fp_X10_21 (Or.inr ⟨_, rfl⟩) (fun _ => rfl) (w3.kA (w2.kA (w1.kA ht))) dX10_init_30 dX10_init_32 (fun g4 w4 => ?_)
  refine r_aload_n (pc := 35) 0 dX10_init_35 rfl ?_
  refine r_iload_n (pc := 36) 1 dX10_init_36 rfl ?_
  refine r_nwput (pc := 37) (n0 := n0) (Or.inl ⟨rfl, rfl⟩) rfl (by omega) (Nat.le_of_ble_eq_true rfl) (show 0 + 12 + 12 + 37 + n0 + n0 ≤ 61 + n0 + n0 by omega) fp_X10_24 (Or.inr ⟨_, rfl⟩) (fun _ => rfl) (w4.kA (w3.kA (w2.kA (w1.kA ht)))) dX10_init_37 dX10_init_39 (fun g5 w5 => ?_)
  refine r_vret (pc := 42) rfl ?_ (Nat.le_of_ble_eq_true rfl) (show 0 + 12 + 12 + 37 + n0 + n0 ≤ 61 + n0 + n0 by omega) dX10_init_42
  exact ⟨rfl, g1, g2, g3, g4, w1, w2, w3, w4, w5⟩
end NEWTEXT
