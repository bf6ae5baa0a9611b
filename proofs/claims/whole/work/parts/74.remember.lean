/-! the class: the past copied; all remembered, all restored -/
section REMEMBER
variable {E : En} {h : Hp} {x a b : Nat} {r : Nat → Int32}
theorem c4_copyFrom (ha : psS E h a) (hb : psS E h b) (hab : a + 18 < b ∨ b + 18 < a) {nw u : Nat} {K : Nat → Int32} {S : Nat → Nat → Int32} (hps : PsV h b nw u K S) : Ct E 1 0 0 mX4_copyFrom [.ref a, .ref b] h (fun v h' => v = none ∧ Fr (psW a) h h' ∧ PsV h' a nw u K S) := by
  obtain ⟨e2, e3, hnw, hu, hki⟩ := hps
  refine Ct.of (by decide +kernel) (Nat.le_of_ble_eq_true rfl) ?_
  refine r_iconst (pc := 0) (0) dX4_copyFrom_0 rfl ?_
  refine r_istore_n (pc := 1) (lv' := [(0, _), (1, _), (2, _)]) dX4_copyFrom_1 (Nat.le_of_ble_eq_true rfl) rfl ?_
  have loop : ∀ i, i ≤ 16 → ∀ hh, Fr (psW a) h hh → (∀ j, j < i → ∀ k, k < 31 → hI hh (a + 2 + j) k = hI h (b + 2 + j) k) → Wp E mX4_copyFrom (Rm 1 0 0) (Qm E (fun v h' => v = none ∧ Fr (psW a) h h' ∧ PsV h' a nw u K S) 0 0) 2 [(0, .ref a), (1, .ref b), (2, .int (nI i))] [] hh 0 0 := by
    refine upTo (fun i hi ih => ?_) ?_
    · intro hh fr hd
      have ha1 := ha.fr fr (by unfold psW; omega) (by unfold psW; omega) (fun k => by unfold psW; omega)
      have hb1 := hb.fr fr (by unfold psW; omega) (by unfold psW; omega) (fun k => by unfold psW; omega)
      refine r_iload_n (pc := 2) 2 dX4_copyFrom_2 rfl ?_
      refine r_bipush (pc := 3) (16) dX4_copyFrom_3 rfl ?_
      refine r_icmp_ge (pc := 5) (tgt := 33) dX4_copyFrom_5 (by decide) (fun c_5 => ?_) (fun c_5 => ?_)
      · exact absurd c_5 (nI_ge (b := 16) hi (by decide))
      · refine r_aload_n (pc := 8) 1 dX4_copyFrom_8 rfl ?_
        refine r_getR (pc := 9) fl_X4_15 (ps_is hb1) (ps_f0 hb1) dX4_copyFrom_9 ?_
        refine r_iload_n (pc := 12) 2 dX4_copyFrom_12 rfl ?_
        refine r_aaldR (pc := 13) (j := i) (ps_r0 hb1) (by decide) rfl (by omega) (by decide) (ps_e hb1 hi) dX4_copyFrom_13 ?_
        refine r_iconst (pc := 14) (0) dX4_copyFrom_14 rfl ?_
        refine r_aload_n (pc := 15) 0 dX4_copyFrom_15 rfl ?_
        refine r_getR (pc := 16) fl_X4_15 (ps_is ha1) (ps_f0 ha1) dX4_copyFrom_16 ?_
        refine r_iload_n (pc := 19) 2 dX4_copyFrom_19 rfl ?_
        refine r_aaldR (pc := 20) (j := i) (ps_r0 ha1) (by decide) rfl (by omega) (by decide) (ps_e ha1 hi) dX4_copyFrom_20 ?_
        refine r_iconst (pc := 21) (0) dX4_copyFrom_21 rfl ?_
        refine r_bipush (pc := 22) (31) dX4_copyFrom_22 rfl ?_
        refine r_copy (pc := 24) (sp := 0) (dp := 0) (n := 31) (ps_re hb1 hi) (ps_re ha1 hi) ml_X4_42 w_acn w_acs w_aci rfl rfl rfl (by omega) (by omega) (by decide) (by decide) (Nat.le_of_ble_eq_true rfl) (Nat.le_of_ble_eq_true rfl) (Nat.le_of_ble_eq_true rfl) dX4_copyFrom_24 ?_
        have h9 := ih (wRow hh (a + 2 + i) (cpF (hI hh (b + 2 + i)) (hI hh (a + 2 + i)) 0 0 31)) (fr.tr (Fr.wRow (fun k => by unfold psW; omega))) (fun j hj k hk => by
          by_cases hji : j = i
          · rw [hji, wRow_at, cpF_in (by omega), show 0 + (k - 0) = k by omega, fr.I (by unfold psW; omega)]
          · rw [wRow_ne (by omega)]; exact hd j (by omega) k hk)
        refine r_iinc (pc := 27) (v := _ + (1)) (lv' := [(0, _), (1, _), (2, _)]) 2 dX4_copyFrom_27 rfl rfl (Nat.le_of_ble_eq_true rfl) rfl ?_
        refine r_goto (pc := 30) (tgt := 2) dX4_copyFrom_30 (by decide) ?_
        rw [nI_1]; exact h9
    · intro hh fr hd
      have ha1 := ha.fr fr (by unfold psW; omega) (by unfold psW; omega) (fun k => by unfold psW; omega)
      have hb1 := hb.fr fr (by unfold psW; omega) (by unfold psW; omega) (fun k => by unfold psW; omega)
      refine r_iload_n (pc := 2) 2 dX4_copyFrom_2 rfl ?_
      refine r_bipush (pc := 3) (16) dX4_copyFrom_3 rfl ?_
      refine r_icmp_ge (pc := 5) (tgt := 33) dX4_copyFrom_5 (by decide) (fun c_5 => ?_) (fun c_5 => ?_)
      · refine r_aload_n (pc := 33) 1 dX4_copyFrom_33 rfl ?_
        refine r_getR (pc := 34) fl_X4_18 (ps_is hb1) (ps_f1 hb1) dX4_copyFrom_34 ?_
        refine r_iconst (pc := 37) (0) dX4_copyFrom_37 rfl ?_
        refine r_aload_n (pc := 38) 0 dX4_copyFrom_38 rfl ?_
        refine r_getR (pc := 39) fl_X4_18 (ps_is ha1) (ps_f1 ha1) dX4_copyFrom_39 ?_
        refine r_iconst (pc := 42) (0) dX4_copyFrom_42 rfl ?_
        refine r_bipush (pc := 43) (16) dX4_copyFrom_43 rfl ?_
        refine r_copy (pc := 45) (sp := 0) (dp := 0) (n := 16) (ps_r1 hb1) (ps_r1 ha1) ml_X4_42 w_acn w_acs w_aci rfl rfl rfl (by omega) (by omega) (by first | decide | omega) (by first | decide | omega) (Nat.le_of_ble_eq_true rfl) (Nat.le_of_ble_eq_true rfl) (Nat.le_of_ble_eq_true rfl) dX4_copyFrom_45 ?_
        generalize hH : wRow hh (a + 18) (cpF (hI hh (b + 18)) (hI hh (a + 18)) 0 0 16) = h2
        have w18 : ∀ k, k < 16 → hI h2 (a + 18) k = hI h (b + 18) k := fun k hk => by rw [← hH, wRow_at, cpF_in (by omega), show 0 + (k - 0) = k by omega, fr.I (by unfold psW; omega)]
        have wo : ∀ z, z ≠ a + 18 → hI h2 z = hI hh z := fun z hz => by rw [← hH]; exact wRow_ne hz
        have f2 : Fr (psW a) h h2 := fr.tr (by rw [← hH]; exact Fr.wRow (fun k => by unfold psW; omega))
        have ha2 := ha.fr f2 (by unfold psW; omega) (by unfold psW; omega) (fun k => by unfold psW; omega)
        have hb2 := hb.fr f2 (by unfold psW; omega) (by unfold psW; omega) (fun k => by unfold psW; omega)
        refine r_aload_n (pc := 48) 0 dX4_copyFrom_48 rfl ?_
        refine r_aload_n (pc := 49) 1 dX4_copyFrom_49 rfl ?_
        refine r_getI (pc := 50) fl_X4_26 (ps_is hb2) dX4_copyFrom_50 ?_
        rw [f2.I (a := b) (k := 2) (by unfold psW; omega), e2]
        refine r_putI (pc := 53) fp_X4_26 (ps_is ha2) dX4_copyFrom_53 ?_
        refine r_aload_n (pc := 56) 0 dX4_copyFrom_56 rfl ?_
        refine r_aload_n (pc := 57) 1 dX4_copyFrom_57 rfl ?_
        refine r_getI (pc := 58) fl_X4_22 (ps_is hb2) dX4_copyFrom_58 ?_
        rw [hI_ne (by omega), f2.I (a := b) (k := 3) (by unfold psW; omega), e3]
        refine r_putI (pc := 61) fp_X4_22 (ps_is ha2) dX4_copyFrom_61 ?_
        refine r_vret (pc := 64) rfl ?_ (Nat.le_of_ble_eq_true rfl) (Nat.le_of_ble_eq_true rfl) dX4_copyFrom_64
        refine ⟨rfl, f2.tr (Fr.tr (Fr.wI (by unfold psW; omega)) (Fr.wI (by unfold psW; omega))), ?_, ?_, hnw, hu, fun i hi => ?_⟩
        · rw [hI_ne (by omega), hI_at]
        · rw [hI_at]
        · obtain ⟨k1, k20, k21⟩ := hki i hi
          have hlt := slt_lt nw u i
          have eq : ∀ k, k < 31 → hI (wI (wI h2 a 2 (nI nw)) a 3 (nI u)) (a + 2 + slt nw u i) k = hI h (b + 2 + slt nw u i) k := fun k hk => by
            rw [hI_ne (by omega), hI_ne (by omega), wo _ (by omega)]; exact hd _ hlt k hk
          refine ⟨?_, ?_, fun j j1 j2 => ?_⟩
          · rw [hI_ne (by omega), hI_ne (by omega), w18 _ hlt]; exact k1
          · rw [eq 0 (by decide)]; exact k20
          · rw [eq j j2]; exact k21 j j1 j2
      · exact absurd (show (16 : Int32) ≤ nI 16 by decide) c_5
  exact loop 0 (by omega) h Fr.rf (fun j hj => absurd hj (by omega))
end REMEMBER
