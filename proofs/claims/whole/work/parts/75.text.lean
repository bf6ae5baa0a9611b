/-! the class: a text, as it is read -/
section TEXT
variable {E : En} {h : Hp} {t : Nat}
theorem c10_empty (htx : txS E h t 400) : Ct E 0 0 0 mX10_empty [.ref t] h (po none (wI (wI (wI h t 0 0) t 6 0) t 7 0)) := by
  refine Ct.of (by decide +kernel) (Nat.le_of_ble_eq_true rfl) ?_
  refine r_aload_n (pc := 0) 0 dX10_empty_0 rfl ?_
  refine r_iconst (pc := 1) (0) dX10_empty_1 rfl ?_
  refine r_putI (pc := 2) fp_X10_27 (tx_is htx) dX10_empty_2 ?_
  refine r_aload_n (pc := 5) 0 dX10_empty_5 rfl ?_
  refine r_iconst (pc := 6) (0) dX10_empty_6 rfl ?_
  refine r_putI (pc := 7) fp_X10_31 (tx_is htx) dX10_empty_7 ?_
  refine r_aload_n (pc := 10) 0 dX10_empty_10 rfl ?_
  refine r_iconst (pc := 11) (0) dX10_empty_11 rfl ?_
  refine r_putI (pc := 12) fp_X10_34 (tx_is htx) dX10_empty_12 ?_
  refine r_vret (pc := 15) rfl ?_ (Nat.le_of_ble_eq_true rfl) (Nat.le_of_ble_eq_true rfl) dX10_empty_15
  exact ⟨rfl, rfl⟩
theorem c10_add (htx : txS E h t 400) {sz : Nat} (hs : hI h t 6 = nI sz) (h4 : sz < 400) (op wi : Int32) : Ct E 0 0 0 mX10_add [.ref t, .int op, .int wi] h (po (some (.int (nI sz))) (wI (wI (wI h (t + 4) sz op) (t + 5) sz wi) t 6 (nI (sz + 1)))) := by
  refine Ct.of (by decide +kernel) (Nat.le_of_ble_eq_true rfl) ?_
  refine r_aload_n (pc := 0) 0 dX10_add_0 rfl ?_
  refine r_getI (pc := 1) fl_X10_31 (tx_is htx) dX10_add_1 ?_
  rw [hs]
  refine r_istore_n (pc := 4) (lv' := [(0, _), (1, _), (2, _), (3, _)]) dX10_add_4 (Nat.le_of_ble_eq_true rfl) rfl ?_
  refine r_iload_n (pc := 5) 3 dX10_add_5 rfl ?_
  refine r_aload_n (pc := 6) 0 dX10_add_6 rfl ?_
  refine r_getR (pc := 7) fl_X10_21 (tx_is htx) (tx_f4 htx) dX10_add_7 ?_
  refine r_alen (pc := 10) (tx_r4 htx) (by decide) dX10_add_10 ?_
  refine r_icmp_ge (pc := 11) (tgt := 38) dX10_add_11 (by decide) (fun c_11 => ?_) (fun c_11 => ?_)
  · exact absurd c_11 (nI_ge (b := 400) h4 (by decide))
  · refine r_aload_n (pc := 14) 0 dX10_add_14 rfl ?_
    refine r_getR (pc := 15) fl_X10_21 (tx_is htx) (tx_f4 htx) dX10_add_15 ?_
    refine r_iload_n (pc := 18) 3 dX10_add_18 rfl ?_
    refine r_iload_n (pc := 19) 1 dX10_add_19 rfl ?_
    refine r_iast (pc := 20) (j := sz) (tx_r4 htx) rfl (by omega) (by omega) dX10_add_20 ?_
    refine r_aload_n (pc := 21) 0 dX10_add_21 rfl ?_
    refine r_getR (pc := 22) fl_X10_24 (tx_is htx) (tx_f5 htx) dX10_add_22 ?_
    refine r_iload_n (pc := 25) 3 dX10_add_25 rfl ?_
    refine r_iload_n (pc := 26) 2 dX10_add_26 rfl ?_
    refine r_iast (pc := 27) (j := sz) (tx_r5 htx) rfl (by omega) (by omega) dX10_add_27 ?_
    refine r_aload_n (pc := 28) 0 dX10_add_28 rfl ?_
    refine r_dup (pc := 29) dX10_add_29 rfl ?_
    refine r_getI (pc := 30) fl_X10_31 (tx_is htx) dX10_add_30 ?_
    rw [hI_ne (by omega), hI_ne (by omega), hs]
    refine r_iconst (pc := 33) (1) dX10_add_33 rfl ?_
    refine r_iadd (pc := 34) dX10_add_34 ?_
    rw [nI_1]
    refine r_putI (pc := 35) fp_X10_31 (tx_is htx) dX10_add_35 ?_
    refine r_iload_n (pc := 38) 3 dX10_add_38 rfl ?_
    refine r_iret (pc := 39) rfl ?_ (Nat.le_of_ble_eq_true rfl) (Nat.le_of_ble_eq_true rfl) dX10_add_39
    exact ⟨rfl, rfl⟩
theorem c10_leadNo (htx : txS E h t 400) : Ct E 0 0 0 mX10_leadHere [.ref t, .int (-1)] h (po none h) := by
  refine Ct.of (by decide +kernel) (Nat.le_of_ble_eq_true rfl) ?_
  refine r_iload_n (pc := 0) 1 dX10_leadHere_0 rfl ?_
  refine r_if_lt (pc := 1) (tgt := 22) dX10_leadHere_1 (by decide) (fun c_1 => ?_) (fun c_1 => ?_)
  · refine r_vret (pc := 22) rfl ?_ (Nat.le_of_ble_eq_true rfl) (Nat.le_of_ble_eq_true rfl) dX10_leadHere_22
    exact ⟨rfl, rfl⟩
  · exact absurd (by decide) c_1
theorem c10_lead (htx : txS E h t 400) {sz pl : Nat} (hs : hI h t 6 = nI sz) (h4 : sz ≤ 400) (hpl : pl < sz) : Ct E 0 0 0 mX10_leadHere [.ref t, .int (nI pl)] h (po none (wI h (t + 5) pl (nI sz))) := by
  refine Ct.of (by decide +kernel) (Nat.le_of_ble_eq_true rfl) ?_
  refine r_iload_n (pc := 0) 1 dX10_leadHere_0 rfl ?_
  refine r_if_lt (pc := 1) (tgt := 22) dX10_leadHere_1 (by decide) (fun c_1 => ?_) (fun c_1 => ?_)
  · exact absurd c_1 (nI_pos (by omega))
  · refine r_iload_n (pc := 4) 1 dX10_leadHere_4 rfl ?_
    refine r_aload_n (pc := 5) 0 dX10_leadHere_5 rfl ?_
    refine r_getI (pc := 6) fl_X10_31 (tx_is htx) dX10_leadHere_6 ?_
    refine r_icmp_ge (pc := 9) (tgt := 22) dX10_leadHere_9 (by decide) (fun c_9 => ?_) (fun c_9 => ?_)
    · rw [hs] at c_9; exact absurd c_9 (nI_ge hpl (by omega))
    · refine r_aload_n (pc := 12) 0 dX10_leadHere_12 rfl ?_
      refine r_getR (pc := 13) fl_X10_24 (tx_is htx) (tx_f5 htx) dX10_leadHere_13 ?_
      refine r_iload_n (pc := 16) 1 dX10_leadHere_16 rfl ?_
      refine r_aload_n (pc := 17) 0 dX10_leadHere_17 rfl ?_
      refine r_getI (pc := 18) fl_X10_31 (tx_is htx) dX10_leadHere_18 ?_
      rw [hs]
      refine r_iast (pc := 21) (j := pl) (tx_r5 htx) rfl (by omega) (by omega) dX10_leadHere_21 ?_
      refine r_vret (pc := 22) rfl ?_ (Nat.le_of_ble_eq_true rfl) (Nat.le_of_ble_eq_true rfl) dX10_leadHere_22
      exact ⟨rfl, rfl⟩
theorem c10_endPiece (htx : txS E h t 400) {sz q : Nat} (hs : hI h t 6 = nI sz) (hq : hI h t 7 = nI q) (h36 : q < 36) : Ct E 0 0 0 mX10_endPiece [.ref t] h (po none (wI (wI h t 7 (nI (q + 1))) (t + 3) (q + 1) (nI sz))) := by
  refine Ct.of (by decide +kernel) (Nat.le_of_ble_eq_true rfl) ?_
  refine r_aload_n (pc := 0) 0 dX10_endPiece_0 rfl ?_
  refine r_getI (pc := 1) fl_X10_34 (tx_is htx) dX10_endPiece_1 ?_
  refine r_iconst (pc := 4) (1) dX10_endPiece_4 rfl ?_
  refine r_iadd (pc := 5) dX10_endPiece_5 ?_
  refine r_aload_n (pc := 6) 0 dX10_endPiece_6 rfl ?_
  refine r_getR (pc := 7) fl_X10_18 (tx_is htx) (tx_f3 htx) dX10_endPiece_7 ?_
  refine r_alen (pc := 10) (tx_r3 htx) (by decide) dX10_endPiece_10 ?_
  refine r_icmp_ge (pc := 11) (tgt := 37) dX10_endPiece_11 (by decide) (fun c_11 => ?_) (fun c_11 => ?_)
  · rw [hq, nI_1] at c_11; exact absurd c_11 (nI_ge (b := 37) (by omega) (by decide))
  · refine r_aload_n (pc := 14) 0 dX10_endPiece_14 rfl ?_
    refine r_dup (pc := 15) dX10_endPiece_15 rfl ?_
    refine r_getI (pc := 16) fl_X10_34 (tx_is htx) dX10_endPiece_16 ?_
    refine r_iconst (pc := 19) (1) dX10_endPiece_19 rfl ?_
    refine r_iadd (pc := 20) dX10_endPiece_20 ?_
    rw [hq, nI_1]
    refine r_putI (pc := 21) fp_X10_34 (tx_is htx) dX10_endPiece_21 ?_
    refine r_aload_n (pc := 24) 0 dX10_endPiece_24 rfl ?_
    refine r_getR (pc := 25) fl_X10_18 (tx_is htx) (tx_f3 htx) dX10_endPiece_25 ?_
    refine r_aload_n (pc := 28) 0 dX10_endPiece_28 rfl ?_
    refine r_getI (pc := 29) fl_X10_34 (tx_is htx) dX10_endPiece_29 ?_
    refine r_aload_n (pc := 32) 0 dX10_endPiece_32 rfl ?_
    refine r_getI (pc := 33) fl_X10_31 (tx_is htx) dX10_endPiece_33 ?_
    rw [hI_at, hI_ne (by omega), hs]
    refine r_iast (pc := 36) (j := q + 1) (tx_r3 htx) rfl (by omega) (by decide) dX10_endPiece_36 ?_
    refine r_vret (pc := 37) rfl ?_ (Nat.le_of_ble_eq_true rfl) (Nat.le_of_ble_eq_true rfl) dX10_endPiece_37
    exact ⟨rfl, rfl⟩
theorem c10_beginClause (htx : txS E h t 400) {n : Nat} (hn : hI h t 0 = nI n) (h12 : n < 12) (kind : Int32) : Ct E 0 0 0 mX10_beginClause [.ref t, .int kind] h (po none (wI (wI (wI h (t + 1) n kind) (t + 2) n 1) t 0 (nI (n + 1)))) := by
  refine Ct.of (by decide +kernel) (Nat.le_of_ble_eq_true rfl) ?_
  refine r_aload_n (pc := 0) 0 dX10_beginClause_0 rfl ?_
  refine r_getI (pc := 1) fl_X10_27 (tx_is htx) dX10_beginClause_1 ?_
  refine r_bipush (pc := 4) (12) dX10_beginClause_4 rfl ?_
  refine r_icmp_ge (pc := 6) (tgt := 39) dX10_beginClause_6 (by decide) (fun c_6 => ?_) (fun c_6 => ?_)
  · rw [hn] at c_6; exact absurd c_6 (nI_ge (b := 12) h12 (by decide))
  · refine r_aload_n (pc := 9) 0 dX10_beginClause_9 rfl ?_
    refine r_getR (pc := 10) fl_X10_9 (tx_is htx) (tx_f1 htx) dX10_beginClause_10 ?_
    refine r_aload_n (pc := 13) 0 dX10_beginClause_13 rfl ?_
    refine r_getI (pc := 14) fl_X10_27 (tx_is htx) dX10_beginClause_14 ?_
    refine r_iload_n (pc := 17) 1 dX10_beginClause_17 rfl ?_
    refine r_iast (pc := 18) (j := n) (tx_r1 htx) hn (by omega) (by decide) dX10_beginClause_18 ?_
    refine r_aload_n (pc := 19) 0 dX10_beginClause_19 rfl ?_
    refine r_getR (pc := 20) fl_X10_15 (tx_is htx) (tx_f2 htx) dX10_beginClause_20 ?_
    refine r_aload_n (pc := 23) 0 dX10_beginClause_23 rfl ?_
    refine r_getI (pc := 24) fl_X10_27 (tx_is htx) dX10_beginClause_24 ?_
    rw [hI_ne (by omega), hn]
    refine r_iconst (pc := 27) (1) dX10_beginClause_27 rfl ?_
    refine r_iast (pc := 28) (j := n) (tx_r2 htx) rfl (by omega) (by decide) dX10_beginClause_28 ?_
    refine r_aload_n (pc := 29) 0 dX10_beginClause_29 rfl ?_
    refine r_dup (pc := 30) dX10_beginClause_30 rfl ?_
    refine r_getI (pc := 31) fl_X10_27 (tx_is htx) dX10_beginClause_31 ?_
    refine r_iconst (pc := 34) (1) dX10_beginClause_34 rfl ?_
    refine r_iadd (pc := 35) dX10_beginClause_35 ?_
    rw [hI_ne (by omega), hI_ne (by omega), hn, nI_1]
    refine r_putI (pc := 36) fp_X10_27 (tx_is htx) dX10_beginClause_36 ?_
    refine r_vret (pc := 39) rfl ?_ (Nat.le_of_ble_eq_true rfl) (Nat.le_of_ble_eq_true rfl) dX10_beginClause_39
    exact ⟨rfl, rfl⟩
theorem c10_setTimes (htx : txS E h t 400) {n : Nat} (hn : hI h t 0 = nI (n + 1)) (h12 : n < 12) (many : Int32) : Ct E 0 0 0 mX10_setTimes [.ref t, .int many] h (po none (wI h (t + 2) n many)) := by
  refine Ct.of (by decide +kernel) (Nat.le_of_ble_eq_true rfl) ?_
  refine r_aload_n (pc := 0) 0 dX10_setTimes_0 rfl ?_
  refine r_getI (pc := 1) fl_X10_27 (tx_is htx) dX10_setTimes_1 ?_
  refine r_if_le (pc := 4) (tgt := 19) dX10_setTimes_4 (by decide) (fun c_4 => ?_) (fun c_4 => ?_)
  · rw [hn] at c_4; exact absurd c_4 (nI_nle (by omega) (by omega))
  · refine r_aload_n (pc := 7) 0 dX10_setTimes_7 rfl ?_
    refine r_getR (pc := 8) fl_X10_15 (tx_is htx) (tx_f2 htx) dX10_setTimes_8 ?_
    refine r_aload_n (pc := 11) 0 dX10_setTimes_11 rfl ?_
    refine r_getI (pc := 12) fl_X10_27 (tx_is htx) dX10_setTimes_12 ?_
    refine r_iconst (pc := 15) (1) dX10_setTimes_15 rfl ?_
    refine r_isub (pc := 16) dX10_setTimes_16 ?_
    refine r_iload_n (pc := 17) 1 dX10_setTimes_17 rfl ?_
    refine r_iast (pc := 18) (j := n) (tx_r2 htx) (by rw [hn]; exact nI_sub (a := n + 1) (b := 1) (by omega)) (by omega) (by decide) dX10_setTimes_18 ?_
    refine r_vret (pc := 19) rfl ?_ (Nat.le_of_ble_eq_true rfl) (Nat.le_of_ble_eq_true rfl) dX10_setTimes_19
    exact ⟨rfl, rfl⟩
end TEXT
