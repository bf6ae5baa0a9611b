/-! the class: a text copied, the walk -/
section COPIED2
variable {E : En} {h : Hp} {t : Nat}
theorem c10_copied (ht0 : txS E h t 400) {sz : Nat} (hs : hI h t 6 = nI sz) (h4 : sz ≤ 400) : Ct E 2 6 (69 + sz + sz) mX10_copied [.ref t] h (fun v h' => v = some (.ref (eZ E + hN h)) ∧ CpT E h h' t (eZ E + hN h) sz) := by
  refine Ct.of (by decide +kernel) (Nat.le_of_ble_eq_true rfl) ?_
  have hw : t + 5 < eZ E + hN h := (tx_r5 ht0).2.1
  refine r_new (pc := 0) nl_X10_10 (Nat.le_of_ble_eq_true rfl) (show 0 + 8 ≤ 69 + sz + sz by omega) dX10_copied_0 ?_
  have i0 : isA E (hNew h (eZ E + hN h) 10 0) (eZ E + hN h) 10 := hNew_is
  have l0 : ∀ b, b ≠ eZ E + hN h → _ := fun b hb => hNew_low (h := h) (z := eZ E + hN h) (kd := 10) (n0 := 0) hb
  have z0 : hI (hNew h (eZ E + hN h) 10 0) (eZ E + hN h) = fun _ => 0 := by simp [hNew, hI, va_up]
  have n0 : hN (hNew h (eZ E + hN h) 10 0) = hN h + 1 := rfl
  have tA : isA E (hNew h (eZ E + hN h) 10 0) t 10 := isA_new ht0.1
  generalize hNew h (eZ E + hN h) 10 0 = g0 at i0 l0 z0 n0 tA ⊢
  obtain ⟨w, ew⟩ : ∃ w, w = eZ E + hN h := ⟨_, rfl⟩
  rw [← ew] at i0 l0 z0 hw ⊢
  have hz : eZ E + hN g0 = w + 1 := by omega
  refine r_dup (pc := 3) dX10_copied_3 rfl ?_
  refine r_aload_n (pc := 4) 0 dX10_copied_4 rfl ?_
  refine r_getI (pc := 5) fl_X10_31 tA dX10_copied_5 ?_
  rw [(l0 t (by omega)).2.2.1, hs]
  refine r_callI (pc := 8) (As := [_]) mn_X10_init ml_X10_37 (c10_init i0 hz h4) rfl rfl (Nat.le_of_ble_eq_true rfl) (Nat.le_of_ble_eq_true rfl) (Nat.le_of_ble_eq_true rfl) (Nat.le_of_ble_eq_true rfl) (show 0 + 8 + (61 + sz + sz) ≤ 69 + sz + sz by omega) dX10_copied_8 (fun rv g5 hq => ?_)
  obtain ⟨rfl, g1, g2, g3, g4, w1, w2, w3, w4, w5⟩ := hq
  obtain ⟨hT, n5, lo, lr, zz⟩ := nw_text i0 hz w1 w2 w3 w4 w5
  clear w1 w2 w3 w4 w5 g1 g2 g3 g4
  show Wp E mX10_copied _ _ _ _ [.ref w] _ _ _
  have low : ∀ b, b < w → hK g5 b = hK h b ∧ hL g5 b = hL h b ∧ hI g5 b = hI h b ∧ hJ g5 b = hJ h b ∧ hR g5 b = hR h b := fun b hb => by
    have a1 := lo b (by omega)
    have a2 := l0 b (by omega)
    exact ⟨a1.1.trans a2.1, a1.2.1.trans a2.2.1, a1.2.2.1.trans a2.2.2.1, a1.2.2.2.trans a2.2.2.2.1, funext fun j => (lr b j hb).trans (congrFun a2.2.2.2.2 j)⟩
  have htx : txS E g5 t 400 := ht0.up (by omega) (fun b hb => by have := low b (by omega); exact ⟨this.1, this.2.1, this.2.2.2.2⟩)
  have s5 : hI g5 t 6 = nI sz := by rw [(low t (by omega)).2.2.1]; exact hs
  refine r_astore_n (pc := 11) (lv' := [(0, _), (1, _)]) dX10_copied_11 (Nat.le_of_ble_eq_true rfl) rfl ?_
  refine r_aload_n (pc := 12) 1 dX10_copied_12 rfl ?_
  refine r_aload_n (pc := 13) 0 dX10_copied_13 rfl ?_
  refine r_getI (pc := 14) fl_X10_27 (tx_is htx) dX10_copied_14 ?_
  refine r_putI (pc := 17) fp_X10_27 (tx_is hT) dX10_copied_17 ?_
  refine r_aload_n (pc := 20) 1 dX10_copied_20 rfl ?_
  refine r_aload_n (pc := 21) 0 dX10_copied_21 rfl ?_
  refine r_getI (pc := 22) fl_X10_31 (tx_is htx) dX10_copied_22 ?_
  refine r_putI (pc := 25) fp_X10_31 (tx_is hT) dX10_copied_25 ?_
  refine r_aload_n (pc := 28) 1 dX10_copied_28 rfl ?_
  refine r_aload_n (pc := 29) 0 dX10_copied_29 rfl ?_
  refine r_getI (pc := 30) fl_X10_34 (tx_is htx) dX10_copied_30 ?_
  refine r_putI (pc := 33) fp_X10_34 (tx_is hT) dX10_copied_33 ?_
  refine r_aload_n (pc := 36) 0 dX10_copied_36 rfl ?_
  refine r_getR (pc := 37) fl_X10_9 (tx_is htx) (tx_f1 htx) dX10_copied_37 ?_
  refine r_iconst (pc := 40) (0) dX10_copied_40 rfl ?_
  refine r_aload_n (pc := 41) 1 dX10_copied_41 rfl ?_
  refine r_getR (pc := 42) fl_X10_9 (tx_is hT) (tx_f1 hT) dX10_copied_42 ?_
  refine r_iconst (pc := 45) (0) dX10_copied_45 rfl ?_
  refine r_bipush (pc := 46) (12) dX10_copied_46 rfl ?_
  refine r_copy (pc := 48) (sp := 0) (dp := 0) (n := 12) (tx_r1 htx) (tx_r1 hT) ml_X10_40 w_acn w_acs w_aci rfl rfl rfl (by omega) (by omega) (by first | decide | omega) (by first | decide | omega) (Nat.le_of_ble_eq_true rfl) (Nat.le_of_ble_eq_true rfl) (Nat.le_of_ble_eq_true rfl) dX10_copied_48 ?_
  refine r_aload_n (pc := 51) 0 dX10_copied_51 rfl ?_
  refine r_getR (pc := 52) fl_X10_15 (tx_is htx) (tx_f2 htx) dX10_copied_52 ?_
  refine r_iconst (pc := 55) (0) dX10_copied_55 rfl ?_
  refine r_aload_n (pc := 56) 1 dX10_copied_56 rfl ?_
  refine r_getR (pc := 57) fl_X10_15 (tx_is hT) (tx_f2 hT) dX10_copied_57 ?_
  refine r_iconst (pc := 60) (0) dX10_copied_60 rfl ?_
  refine r_bipush (pc := 61) (12) dX10_copied_61 rfl ?_
  refine r_copy (pc := 63) (sp := 0) (dp := 0) (n := 12) (tx_r2 htx) (tx_r2 hT) ml_X10_40 w_acn w_acs w_aci rfl rfl rfl (by omega) (by omega) (by first | decide | omega) (by first | decide | omega) (Nat.le_of_ble_eq_true rfl) (Nat.le_of_ble_eq_true rfl) (Nat.le_of_ble_eq_true rfl) dX10_copied_63 ?_
  refine r_aload_n (pc := 66) 0 dX10_copied_66 rfl ?_
  refine r_getR (pc := 67) fl_X10_18 (tx_is htx) (tx_f3 htx) dX10_copied_67 ?_
  refine r_iconst (pc := 70) (0) dX10_copied_70 rfl ?_
  refine r_aload_n (pc := 71) 1 dX10_copied_71 rfl ?_
  refine r_getR (pc := 72) fl_X10_18 (tx_is hT) (tx_f3 hT) dX10_copied_72 ?_
  refine r_iconst (pc := 75) (0) dX10_copied_75 rfl ?_
  refine r_aload_n (pc := 76) 0 dX10_copied_76 rfl ?_
  refine r_getR (pc := 77) fl_X10_18 (tx_is htx) (tx_f3 htx) dX10_copied_77 ?_
  refine r_alen (pc := 80) (tx_r3 htx) (by decide) dX10_copied_80 ?_
  refine r_copy (pc := 81) (sp := 0) (dp := 0) (n := 37) (tx_r3 htx) (tx_r3 hT) ml_X10_40 w_acn w_acs w_aci rfl rfl rfl (by omega) (by omega) (by first | decide | omega) (by first | decide | omega) (Nat.le_of_ble_eq_true rfl) (Nat.le_of_ble_eq_true rfl) (Nat.le_of_ble_eq_true rfl) dX10_copied_81 ?_
  refine r_aload_n (pc := 84) 0 dX10_copied_84 rfl ?_
  refine r_getR (pc := 85) fl_X10_21 (tx_is htx) (tx_f4 htx) dX10_copied_85 ?_
  refine r_iconst (pc := 88) (0) dX10_copied_88 rfl ?_
  refine r_aload_n (pc := 89) 1 dX10_copied_89 rfl ?_
  refine r_getR (pc := 90) fl_X10_21 (tx_is hT) (tx_f4 hT) dX10_copied_90 ?_
  refine r_iconst (pc := 93) (0) dX10_copied_93 rfl ?_
  refine r_aload_n (pc := 94) 0 dX10_copied_94 rfl ?_
  refine r_getI (pc := 95) fl_X10_31 (tx_is htx) dX10_copied_95 ?_
  refine r_copy (pc := 98) (sp := 0) (dp := 0) (n := sz) (tx_r4 htx) (tx_r4 hT) ml_X10_40 w_acn w_acs w_aci rfl rfl (by rw [wRow_ne (by omega), wRow_ne (by omega), wRow_ne (by omega), hI_ne (by omega), hI_ne (by omega), hI_ne (by omega), s5]) (by omega) (by omega) (by first | decide | omega) (by first | decide | omega) (Nat.le_of_ble_eq_true rfl) (Nat.le_of_ble_eq_true rfl) (Nat.le_of_ble_eq_true rfl) dX10_copied_98 ?_
  refine r_aload_n (pc := 101) 0 dX10_copied_101 rfl ?_
  refine r_getR (pc := 102) fl_X10_24 (tx_is htx) (tx_f5 htx) dX10_copied_102 ?_
  refine r_iconst (pc := 105) (0) dX10_copied_105 rfl ?_
  refine r_aload_n (pc := 106) 1 dX10_copied_106 rfl ?_
  refine r_getR (pc := 107) fl_X10_24 (tx_is hT) (tx_f5 hT) dX10_copied_107 ?_
  refine r_iconst (pc := 110) (0) dX10_copied_110 rfl ?_
  refine r_aload_n (pc := 111) 0 dX10_copied_111 rfl ?_
  refine r_getI (pc := 112) fl_X10_31 (tx_is htx) dX10_copied_112 ?_
  refine r_copy (pc := 115) (sp := 0) (dp := 0) (n := sz) (tx_r5 htx) (tx_r5 hT) ml_X10_40 w_acn w_acs w_aci rfl rfl (by rw [wRow_ne (by omega), wRow_ne (by omega), wRow_ne (by omega), wRow_ne (by omega), hI_ne (by omega), hI_ne (by omega), hI_ne (by omega), s5]) (by omega) (by omega) (by first | decide | omega) (by first | decide | omega) (Nat.le_of_ble_eq_true rfl) (Nat.le_of_ble_eq_true rfl) (Nat.le_of_ble_eq_true rfl) dX10_copied_115 ?_
  refine r_aload_n (pc := 118) 1 dX10_copied_118 rfl ?_
  refine r_aret (pc := 119) (v := some w) rfl (Or.inl ⟨_, rfl⟩) ?_ (Nat.le_of_ble_eq_true rfl) (show 0 + 8 + (61 + sz + sz) ≤ 69 + sz + sz by omega) dX10_copied_119
  have lI : ∀ b, b < w → ∀ k, hI g5 b k = hI h b k := fun b hb k => congrFun (low b hb).2.2.1 k
  refine ⟨rfl, ?_, fun b hb => ⟨(low b hb).1, (low b hb).2.1, funext fun j => ?_, (low b hb).2.2.2.1, (low b hb).2.2.2.2⟩, hT, ⟨?_, ?_, ?_⟩, fun k hk => ?_, fun k hk => ?_, fun k hk => ?_, fun k hk => ?_, fun k hk => ?_⟩
  · show hN g5 = hN h + 6; omega
  · rw [wRow_ne (by omega), wRow_ne (by omega), wRow_ne (by omega), wRow_ne (by omega), wRow_ne (by omega), hI_ne (by omega), hI_ne (by omega), hI_ne (by omega)]; exact lI b hb j
  · rw [wRow_ne (by omega), wRow_ne (by omega), wRow_ne (by omega), wRow_ne (by omega), wRow_ne (by omega), hI_ne (by omega), hI_ne (by omega), hI_at]; exact lI t (by omega) 0
  · rw [wRow_ne (by omega), wRow_ne (by omega), wRow_ne (by omega), wRow_ne (by omega), wRow_ne (by omega), hI_ne (by omega), hI_at, hI_ne (by omega)]; exact lI t (by omega) 6
  · rw [wRow_ne (by omega), wRow_ne (by omega), wRow_ne (by omega), wRow_ne (by omega), wRow_ne (by omega), hI_at, hI_ne (by omega), hI_ne (by omega)]; exact lI t (by omega) 7
  · rw [wRow_ne (by omega), wRow_ne (by omega), wRow_ne (by omega), wRow_ne (by omega), wRow_at, cpF_in ⟨by omega, by omega⟩, hI_ne (by omega), hI_ne (by omega), hI_ne (by omega), Nat.zero_add, Nat.sub_zero]; exact lI (t + 1) (by omega) k
  · rw [wRow_ne (by omega), wRow_ne (by omega), wRow_ne (by omega), wRow_at, cpF_in ⟨by omega, by omega⟩, wRow_ne (by omega), hI_ne (by omega), hI_ne (by omega), hI_ne (by omega), Nat.zero_add, Nat.sub_zero]; exact lI (t + 2) (by omega) k
  · rw [wRow_ne (by omega), wRow_ne (by omega), wRow_at, cpF_in ⟨by omega, by omega⟩, wRow_ne (by omega), wRow_ne (by omega), hI_ne (by omega), hI_ne (by omega), hI_ne (by omega), Nat.zero_add, Nat.sub_zero]; exact lI (t + 3) (by omega) k
  · rw [wRow_ne (by omega), wRow_at, cpF_in ⟨by omega, by omega⟩, wRow_ne (by omega), wRow_ne (by omega), wRow_ne (by omega), hI_ne (by omega), hI_ne (by omega), hI_ne (by omega), Nat.zero_add, Nat.sub_zero]; exact lI (t + 4) (by omega) k
  · rw [wRow_at, cpF_in ⟨by omega, by omega⟩, wRow_ne (by omega), wRow_ne (by omega), wRow_ne (by omega), wRow_ne (by omega), hI_ne (by omega), hI_ne (by omega), hI_ne (by omega), Nat.zero_add, Nat.sub_zero]; exact lI (t + 5) (by omega) k
end COPIED2
