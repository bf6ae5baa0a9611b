/-! the class: one law more -/
section ADDLAW
variable {E : En} {h : Hp} {p : Nat} {r : Nat → Int32}
theorem c5_addLaw (hp : ptS E h p) (hv : PtV h p r) {n : Nat} (hn : r 3 = nI n) (h6 : n < 6) {t : Nat} (ht : isA E h t 10) : Ct E 0 0 0 mX5_addLaw [.ref p, .ref t] h (fun v h' => v = some (.int (nI n)) ∧ h' = wR (wI h p 11 (nI (n + 1))) (p + 9) n (some t) ∧ PtV h' p (va_up r 3 (nI (n + 1)))) := by
  refine Ct.of (by decide +kernel) (Nat.le_of_ble_eq_true rfl) ?_
  refine r_aload_n (pc := 0) 0 dX5_addLaw_0 rfl ?_
  refine r_getI (pc := 1) fl_X5_56 (pt_is hp) dX5_addLaw_1 ?_
  rw [pv_3 hv, hn]
  refine r_istore_n (pc := 4) (lv' := [(0, _), (1, _), (2, _)]) dX5_addLaw_4 (Nat.le_of_ble_eq_true rfl) rfl ?_
  refine r_aload_n (pc := 5) 0 dX5_addLaw_5 rfl ?_
  refine r_dup (pc := 6) dX5_addLaw_6 rfl ?_
  refine r_getI (pc := 7) fl_X5_56 (pt_is hp) dX5_addLaw_7 ?_
  rw [pv_3 hv, hn]
  refine r_iconst (pc := 10) (1) dX5_addLaw_10 rfl ?_
  refine r_iadd (pc := 11) dX5_addLaw_11 ?_
  rw [nI_1]
  refine r_putI (pc := 12) fp_X5_56 (pt_is hp) dX5_addLaw_12 ?_
  refine r_aload_n (pc := 15) 0 dX5_addLaw_15 rfl ?_
  refine r_getR (pc := 16) fl_X5_38 (pt_is hp) (pt_f12 hp) dX5_addLaw_16 ?_
  refine r_iload_n (pc := 19) 2 dX5_addLaw_19 rfl ?_
  refine r_aload_n (pc := 20) 1 dX5_addLaw_20 rfl ?_
  refine r_aast (pc := 21) (j := n) (pt_r12 hp) (by decide) (ht) rfl (by omega) (by decide) dX5_addLaw_21 ?_
  refine r_iload_n (pc := 22) 2 dX5_addLaw_22 rfl ?_
  refine r_iret (pc := 23) rfl ?_ (Nat.le_of_ble_eq_true rfl) (Nat.le_of_ble_eq_true rfl) dX5_addLaw_23
  exact ⟨rfl, rfl, hv.put (j := 3) (by decide) (nI (n + 1))⟩
end ADDLAW
