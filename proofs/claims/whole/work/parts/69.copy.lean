/-! the class: a port copied -/
section COPY
variable {E : En} {h : Hp} {p q : Nat} {r : Nat → Int32}
def PtP (h : Hp) (p : Nat) (r : Nat → Int32) (D : Nat → Bool) : Prop := ∀ j, j < 49 → D j = true → hI h (p + pA j) (pK j) = r j
theorem PtP.fld {D : Nat → Bool} (hd : PtP h p r D) {j0 : Nat} (hj : j0 < 5) {v : Int32} (hv : v = r j0) : PtP (wI h (p + pA j0) (pK j0) v) p r (fun j => D j || decide (j = j0)) := by
  subst hv
  intro j hj49 hz
  by_cases hjj : j = j0
  · subst hjj; rw [hI_at]
  · rw [hI_ne (fun z => hjj (pAK_inj j0 (by omega) j hj49 (by omega) z.2))]
    replace hz : (D j || decide (j = j0)) = true := hz
    rw [decide_eq_false hjj, Bool.or_false] at hz
    exact hd j hj49 hz
theorem pK_n : ∀ j, j < 49 → ((pA j = 1 ∨ pA j = 2 ∨ pA j = 3 ∨ pA j = 4 ∨ pA j = 5) → pK j < 6) ∧ ((pA j = 6 ∨ pA j = 8) → pK j < 3) ∧ (pA j = 7 → pK j < 8) := by decide +kernel
theorem PtP.cp {D : Nat → Bool} (hd : PtP h p r D) (hvq : PtV h q r) {q0 n : Nat} (hn : ∀ j, j < 49 → pA j = q0 → pK j < n) : PtP (wRow h (p + q0) (cpF (hI h (q + q0)) (hI h (p + q0)) 0 0 n)) p r (fun j => D j || decide (pA j = q0)) := by
  intro j hj49 hz
  by_cases hjq : pA j = q0
  · have := PtV_iff.mp hvq j hj49
    have hk := hn j hj49 hjq
    rw [hjq] at this ⊢
    rw [wRow_at, cpF_in (by omega), show 0 + (pK j - 0) = pK j by omega]
    exact this
  · rw [wRow_ne (by omega)]
    replace hz : (D j || decide (pA j = q0)) = true := hz
    rw [decide_eq_false hjq, Bool.or_false] at hz
    exact hd j hj49 hz
def cfS (p b k : Nat) : Prop := ptW p b k ∨ b = p + 9
theorem c5_copyFrom (hp : ptS E h p) (hq : ptS E h q) (hv : PtV h q r) (hpq : p + 9 < q ∨ q + 9 < p) (hlaw : ∀ i, i < 6 → ∀ t, hR h (q + 9) i = some t → isA E h t 10) : Ct E 1 0 0 mX5_copyFrom [.ref p, .ref q] h (fun v h' => v = none ∧ Fr (cfS p) h h' ∧ PtV h' p r ∧ ∀ i, i < 6 → hR h' (p + 9) i = hR h (q + 9) i) := by
  have src : ∀ hh : Hp, Fr (cfS p) h hh → PtV hh q r := fun hh fr => hv.fr fr (fun i k hi => by unfold cfS ptW; omega)
  have wF : ∀ {hh : Hp} {b k : Nat} {v : Int32}, Fr (cfS p) h hh → ptW p b k → Fr (cfS p) h (wI hh b k v) := fun fr hb => fr.tr (Fr.wI (Or.inl hb))
  have wG : ∀ {hh : Hp} {q0 : Nat} {f : Nat → Int32}, Fr (cfS p) h hh → 1 ≤ q0 → q0 ≤ 8 → Fr (cfS p) h (wRow hh (p + q0) f) := fun fr h1 h2 => fr.tr (Fr.wRow (fun k => Or.inl (by unfold ptW; omega)))
  refine Ct.of (by decide +kernel) (Nat.le_of_ble_eq_true rfl) ?_
  have b0 : PtP h p r (fun _ => false) := fun j _ z => by cases z
  refine r_aload_n (pc := 0) 0 dX5_copyFrom_0 rfl ?_
  refine r_aload_n (pc := 1) 1 dX5_copyFrom_1 rfl ?_
  refine r_getI (pc := 2) fl_X5_46 (pt_is hq) dX5_copyFrom_2 ?_
  refine r_putI (pc := 5) fp_X5_46 (pt_is hp) dX5_copyFrom_5 ?_
  have b1 : PtP (wI h p 0 (hI h q 0)) p r (fun j => false || decide (j = 0)) := b0.fld (j0 := 0) (by decide) (pv_0 hv)
  have f1 : Fr (cfS p) h (wI h p 0 (hI h q 0)) := wF (Fr.rf : Fr (cfS p) h h) (by unfold ptW; omega)
  generalize wI h p 0 (hI h q 0) = h101 at b1 f1 ⊢
  have hp1 := hp.fr f1 (fun k hk => by unfold cfS ptW; omega)
  have hq1 := hq.fr f1 (fun k hk => by unfold cfS ptW; omega)
  have v1 := src _ f1
  refine r_aload_n (pc := 8) 1 dX5_copyFrom_8 rfl ?_
  refine r_getR (pc := 9) fl_X5_9 (pt_is hq1) (pt_f1 hq1) dX5_copyFrom_9 ?_
  refine r_iconst (pc := 12) (0) dX5_copyFrom_12 rfl ?_
  refine r_aload_n (pc := 13) 0 dX5_copyFrom_13 rfl ?_
  refine r_getR (pc := 14) fl_X5_9 (pt_is hp1) (pt_f1 hp1) dX5_copyFrom_14 ?_
  refine r_iconst (pc := 17) (0) dX5_copyFrom_17 rfl ?_
  refine r_bipush (pc := 18) (6) dX5_copyFrom_18 rfl ?_
  refine r_copy (pc := 20) (sp := 0) (dp := 0) (n := 6) (pt_r1 hq1) (pt_r1 hp1) ml_X5_90 w_acn w_acs w_aci rfl rfl rfl (by omega) (by omega) (by first | decide | omega) (by first | decide | omega) (Nat.le_of_ble_eq_true rfl) (Nat.le_of_ble_eq_true rfl) (Nat.le_of_ble_eq_true rfl) dX5_copyFrom_20 ?_
  have b2 : PtP (wRow h101 (p + 1) (cpF (hI h101 (q + 1)) (hI h101 (p + 1)) 0 0 6)) p r (fun j => (false || decide (j = 0)) || decide (pA j = 1)) := b1.cp (q0 := 1) (n := 6) v1 (fun j hj hz => (pK_n j hj).1 (by omega))
  have f2 : Fr (cfS p) h (wRow h101 (p + 1) (cpF (hI h101 (q + 1)) (hI h101 (p + 1)) 0 0 6)) := wG f1 (by decide) (by decide)
  generalize wRow h101 (p + 1) (cpF (hI h101 (q + 1)) (hI h101 (p + 1)) 0 0 6) = h102 at b2 f2 ⊢
  have hp2 := hp.fr f2 (fun k hk => by unfold cfS ptW; omega)
  have hq2 := hq.fr f2 (fun k hk => by unfold cfS ptW; omega)
  have v2 := src _ f2
  refine r_aload_n (pc := 23) 1 dX5_copyFrom_23 rfl ?_
  refine r_getR (pc := 24) fl_X5_15 (pt_is hq2) (pt_f2 hq2) dX5_copyFrom_24 ?_
  refine r_iconst (pc := 27) (0) dX5_copyFrom_27 rfl ?_
  refine r_aload_n (pc := 28) 0 dX5_copyFrom_28 rfl ?_
  refine r_getR (pc := 29) fl_X5_15 (pt_is hp2) (pt_f2 hp2) dX5_copyFrom_29 ?_
  refine r_iconst (pc := 32) (0) dX5_copyFrom_32 rfl ?_
  refine r_bipush (pc := 33) (6) dX5_copyFrom_33 rfl ?_
  refine r_copy (pc := 35) (sp := 0) (dp := 0) (n := 6) (pt_r2 hq2) (pt_r2 hp2) ml_X5_90 w_acn w_acs w_aci rfl rfl rfl (by omega) (by omega) (by first | decide | omega) (by first | decide | omega) (Nat.le_of_ble_eq_true rfl) (Nat.le_of_ble_eq_true rfl) (Nat.le_of_ble_eq_true rfl) dX5_copyFrom_35 ?_
  have b3 : PtP (wRow h102 (p + 2) (cpF (hI h102 (q + 2)) (hI h102 (p + 2)) 0 0 6)) p r (fun j => ((false || decide (j = 0)) || decide (pA j = 1)) || decide (pA j = 2)) := b2.cp (q0 := 2) (n := 6) v2 (fun j hj hz => (pK_n j hj).1 (by omega))
  have f3 : Fr (cfS p) h (wRow h102 (p + 2) (cpF (hI h102 (q + 2)) (hI h102 (p + 2)) 0 0 6)) := wG f2 (by decide) (by decide)
  generalize wRow h102 (p + 2) (cpF (hI h102 (q + 2)) (hI h102 (p + 2)) 0 0 6) = h103 at b3 f3 ⊢
  have hp3 := hp.fr f3 (fun k hk => by unfold cfS ptW; omega)
  have hq3 := hq.fr f3 (fun k hk => by unfold cfS ptW; omega)
  have v3 := src _ f3
  refine r_aload_n (pc := 38) 1 dX5_copyFrom_38 rfl ?_
  refine r_getR (pc := 39) fl_X5_18 (pt_is hq3) (pt_f3 hq3) dX5_copyFrom_39 ?_
  refine r_iconst (pc := 42) (0) dX5_copyFrom_42 rfl ?_
  refine r_aload_n (pc := 43) 0 dX5_copyFrom_43 rfl ?_
  refine r_getR (pc := 44) fl_X5_18 (pt_is hp3) (pt_f3 hp3) dX5_copyFrom_44 ?_
  refine r_iconst (pc := 47) (0) dX5_copyFrom_47 rfl ?_
  refine r_bipush (pc := 48) (6) dX5_copyFrom_48 rfl ?_
  refine r_copy (pc := 50) (sp := 0) (dp := 0) (n := 6) (pt_r3 hq3) (pt_r3 hp3) ml_X5_90 w_acn w_acs w_aci rfl rfl rfl (by omega) (by omega) (by first | decide | omega) (by first | decide | omega) (Nat.le_of_ble_eq_true rfl) (Nat.le_of_ble_eq_true rfl) (Nat.le_of_ble_eq_true rfl) dX5_copyFrom_50 ?_
  have b4 : PtP (wRow h103 (p + 3) (cpF (hI h103 (q + 3)) (hI h103 (p + 3)) 0 0 6)) p r (fun j => (((false || decide (j = 0)) || decide (pA j = 1)) || decide (pA j = 2)) || decide (pA j = 3)) := b3.cp (q0 := 3) (n := 6) v3 (fun j hj hz => (pK_n j hj).1 (by omega))
  have f4 : Fr (cfS p) h (wRow h103 (p + 3) (cpF (hI h103 (q + 3)) (hI h103 (p + 3)) 0 0 6)) := wG f3 (by decide) (by decide)
  generalize wRow h103 (p + 3) (cpF (hI h103 (q + 3)) (hI h103 (p + 3)) 0 0 6) = h104 at b4 f4 ⊢
  have hp4 := hp.fr f4 (fun k hk => by unfold cfS ptW; omega)
  have hq4 := hq.fr f4 (fun k hk => by unfold cfS ptW; omega)
  have v4 := src _ f4
  refine r_aload_n (pc := 53) 1 dX5_copyFrom_53 rfl ?_
  refine r_getR (pc := 54) fl_X5_21 (pt_is hq4) (pt_f4 hq4) dX5_copyFrom_54 ?_
  refine r_iconst (pc := 57) (0) dX5_copyFrom_57 rfl ?_
  refine r_aload_n (pc := 58) 0 dX5_copyFrom_58 rfl ?_
  refine r_getR (pc := 59) fl_X5_21 (pt_is hp4) (pt_f4 hp4) dX5_copyFrom_59 ?_
  refine r_iconst (pc := 62) (0) dX5_copyFrom_62 rfl ?_
  refine r_bipush (pc := 63) (6) dX5_copyFrom_63 rfl ?_
  refine r_copy (pc := 65) (sp := 0) (dp := 0) (n := 6) (pt_r4 hq4) (pt_r4 hp4) ml_X5_90 w_acn w_acs w_aci rfl rfl rfl (by omega) (by omega) (by first | decide | omega) (by first | decide | omega) (Nat.le_of_ble_eq_true rfl) (Nat.le_of_ble_eq_true rfl) (Nat.le_of_ble_eq_true rfl) dX5_copyFrom_65 ?_
  have b5 : PtP (wRow h104 (p + 4) (cpF (hI h104 (q + 4)) (hI h104 (p + 4)) 0 0 6)) p r (fun j => ((((false || decide (j = 0)) || decide (pA j = 1)) || decide (pA j = 2)) || decide (pA j = 3)) || decide (pA j = 4)) := b4.cp (q0 := 4) (n := 6) v4 (fun j hj hz => (pK_n j hj).1 (by omega))
  have f5 : Fr (cfS p) h (wRow h104 (p + 4) (cpF (hI h104 (q + 4)) (hI h104 (p + 4)) 0 0 6)) := wG f4 (by decide) (by decide)
  generalize wRow h104 (p + 4) (cpF (hI h104 (q + 4)) (hI h104 (p + 4)) 0 0 6) = h105 at b5 f5 ⊢
  have hp5 := hp.fr f5 (fun k hk => by unfold cfS ptW; omega)
  have hq5 := hq.fr f5 (fun k hk => by unfold cfS ptW; omega)
  have v5 := src _ f5
  refine r_aload_n (pc := 68) 1 dX5_copyFrom_68 rfl ?_
  refine r_getR (pc := 69) fl_X5_24 (pt_is hq5) (pt_f5 hq5) dX5_copyFrom_69 ?_
  refine r_iconst (pc := 72) (0) dX5_copyFrom_72 rfl ?_
  refine r_aload_n (pc := 73) 0 dX5_copyFrom_73 rfl ?_
  refine r_getR (pc := 74) fl_X5_24 (pt_is hp5) (pt_f5 hp5) dX5_copyFrom_74 ?_
  refine r_iconst (pc := 77) (0) dX5_copyFrom_77 rfl ?_
  refine r_bipush (pc := 78) (6) dX5_copyFrom_78 rfl ?_
  refine r_copy (pc := 80) (sp := 0) (dp := 0) (n := 6) (pt_r5 hq5) (pt_r5 hp5) ml_X5_90 w_acn w_acs w_aci rfl rfl rfl (by omega) (by omega) (by first | decide | omega) (by first | decide | omega) (Nat.le_of_ble_eq_true rfl) (Nat.le_of_ble_eq_true rfl) (Nat.le_of_ble_eq_true rfl) dX5_copyFrom_80 ?_
  have b6 : PtP (wRow h105 (p + 5) (cpF (hI h105 (q + 5)) (hI h105 (p + 5)) 0 0 6)) p r (fun j => (((((false || decide (j = 0)) || decide (pA j = 1)) || decide (pA j = 2)) || decide (pA j = 3)) || decide (pA j = 4)) || decide (pA j = 5)) := b5.cp (q0 := 5) (n := 6) v5 (fun j hj hz => (pK_n j hj).1 (by omega))
  have f6 : Fr (cfS p) h (wRow h105 (p + 5) (cpF (hI h105 (q + 5)) (hI h105 (p + 5)) 0 0 6)) := wG f5 (by decide) (by decide)
  generalize wRow h105 (p + 5) (cpF (hI h105 (q + 5)) (hI h105 (p + 5)) 0 0 6) = h106 at b6 f6 ⊢
  have hp6 := hp.fr f6 (fun k hk => by unfold cfS ptW; omega)
  have hq6 := hq.fr f6 (fun k hk => by unfold cfS ptW; omega)
  have v6 := src _ f6
  refine r_aload_n (pc := 83) 0 dX5_copyFrom_83 rfl ?_
  refine r_aload_n (pc := 84) 1 dX5_copyFrom_84 rfl ?_
  refine r_getI (pc := 85) fl_X5_53 (pt_is hq6) dX5_copyFrom_85 ?_
  refine r_putI (pc := 88) fp_X5_53 (pt_is hp6) dX5_copyFrom_88 ?_
  have b7 : PtP (wI h106 p 6 (hI h106 q 6)) p r (fun j => ((((((false || decide (j = 0)) || decide (pA j = 1)) || decide (pA j = 2)) || decide (pA j = 3)) || decide (pA j = 4)) || decide (pA j = 5)) || decide (j = 1)) := b6.fld (j0 := 1) (by decide) (pv_1 v6)
  have f7 : Fr (cfS p) h (wI h106 p 6 (hI h106 q 6)) := wF f6 (by unfold ptW; omega)
  generalize wI h106 p 6 (hI h106 q 6) = h107 at b7 f7 ⊢
  have hp7 := hp.fr f7 (fun k hk => by unfold cfS ptW; omega)
  have hq7 := hq.fr f7 (fun k hk => by unfold cfS ptW; omega)
  have v7 := src _ f7
  refine r_aload_n (pc := 91) 1 dX5_copyFrom_91 rfl ?_
  refine r_getR (pc := 92) fl_X5_27 (pt_is hq7) (pt_f7 hq7) dX5_copyFrom_92 ?_
  refine r_iconst (pc := 95) (0) dX5_copyFrom_95 rfl ?_
  refine r_aload_n (pc := 96) 0 dX5_copyFrom_96 rfl ?_
  refine r_getR (pc := 97) fl_X5_27 (pt_is hp7) (pt_f7 hp7) dX5_copyFrom_97 ?_
  refine r_iconst (pc := 100) (0) dX5_copyFrom_100 rfl ?_
  refine r_iconst (pc := 101) (3) dX5_copyFrom_101 rfl ?_
  refine r_copy (pc := 102) (sp := 0) (dp := 0) (n := 3) (pt_r7 hq7) (pt_r7 hp7) ml_X5_90 w_acn w_acs w_aci rfl rfl rfl (by omega) (by omega) (by first | decide | omega) (by first | decide | omega) (Nat.le_of_ble_eq_true rfl) (Nat.le_of_ble_eq_true rfl) (Nat.le_of_ble_eq_true rfl) dX5_copyFrom_102 ?_
  have b8 : PtP (wRow h107 (p + 6) (cpF (hI h107 (q + 6)) (hI h107 (p + 6)) 0 0 3)) p r (fun j => (((((((false || decide (j = 0)) || decide (pA j = 1)) || decide (pA j = 2)) || decide (pA j = 3)) || decide (pA j = 4)) || decide (pA j = 5)) || decide (j = 1)) || decide (pA j = 6)) := b7.cp (q0 := 6) (n := 3) v7 (fun j hj hz => (pK_n j hj).2.1 (by omega))
  have f8 : Fr (cfS p) h (wRow h107 (p + 6) (cpF (hI h107 (q + 6)) (hI h107 (p + 6)) 0 0 3)) := wG f7 (by decide) (by decide)
  generalize wRow h107 (p + 6) (cpF (hI h107 (q + 6)) (hI h107 (p + 6)) 0 0 3) = h108 at b8 f8 ⊢
  have hp8 := hp.fr f8 (fun k hk => by unfold cfS ptW; omega)
  have hq8 := hq.fr f8 (fun k hk => by unfold cfS ptW; omega)
  have v8 := src _ f8
  refine r_aload_n (pc := 105) 0 dX5_copyFrom_105 rfl ?_
  refine r_aload_n (pc := 106) 1 dX5_copyFrom_106 rfl ?_
  refine r_getI (pc := 107) fl_X5_96 (pt_is hq8) dX5_copyFrom_107 ?_
  refine r_putI (pc := 110) fp_X5_96 (pt_is hp8) dX5_copyFrom_110 ?_
  have b9 : PtP (wI h108 p 8 (hI h108 q 8)) p r (fun j => ((((((((false || decide (j = 0)) || decide (pA j = 1)) || decide (pA j = 2)) || decide (pA j = 3)) || decide (pA j = 4)) || decide (pA j = 5)) || decide (j = 1)) || decide (pA j = 6)) || decide (j = 2)) := b8.fld (j0 := 2) (by decide) (pv_2 v8)
  have f9 : Fr (cfS p) h (wI h108 p 8 (hI h108 q 8)) := wF f8 (by unfold ptW; omega)
  generalize wI h108 p 8 (hI h108 q 8) = h109 at b9 f9 ⊢
  have hp9 := hp.fr f9 (fun k hk => by unfold cfS ptW; omega)
  have hq9 := hq.fr f9 (fun k hk => by unfold cfS ptW; omega)
  have v9 := src _ f9
  refine r_aload_n (pc := 113) 1 dX5_copyFrom_113 rfl ?_
  refine r_getR (pc := 114) fl_X5_30 (pt_is hq9) (pt_f9 hq9) dX5_copyFrom_114 ?_
  refine r_iconst (pc := 117) (0) dX5_copyFrom_117 rfl ?_
  refine r_aload_n (pc := 118) 0 dX5_copyFrom_118 rfl ?_
  refine r_getR (pc := 119) fl_X5_30 (pt_is hp9) (pt_f9 hp9) dX5_copyFrom_119 ?_
  refine r_iconst (pc := 122) (0) dX5_copyFrom_122 rfl ?_
  refine r_bipush (pc := 123) (8) dX5_copyFrom_123 rfl ?_
  refine r_copy (pc := 125) (sp := 0) (dp := 0) (n := 8) (pt_r9 hq9) (pt_r9 hp9) ml_X5_90 w_acn w_acs w_aci rfl rfl rfl (by omega) (by omega) (by first | decide | omega) (by first | decide | omega) (Nat.le_of_ble_eq_true rfl) (Nat.le_of_ble_eq_true rfl) (Nat.le_of_ble_eq_true rfl) dX5_copyFrom_125 ?_
  have b10 : PtP (wRow h109 (p + 7) (cpF (hI h109 (q + 7)) (hI h109 (p + 7)) 0 0 8)) p r (fun j => (((((((((false || decide (j = 0)) || decide (pA j = 1)) || decide (pA j = 2)) || decide (pA j = 3)) || decide (pA j = 4)) || decide (pA j = 5)) || decide (j = 1)) || decide (pA j = 6)) || decide (j = 2)) || decide (pA j = 7)) := b9.cp (q0 := 7) (n := 8) v9 (fun j hj hz => (pK_n j hj).2.2 (by omega))
  have f10 : Fr (cfS p) h (wRow h109 (p + 7) (cpF (hI h109 (q + 7)) (hI h109 (p + 7)) 0 0 8)) := wG f9 (by decide) (by decide)
  generalize wRow h109 (p + 7) (cpF (hI h109 (q + 7)) (hI h109 (p + 7)) 0 0 8) = h110 at b10 f10 ⊢
  have hp10 := hp.fr f10 (fun k hk => by unfold cfS ptW; omega)
  have hq10 := hq.fr f10 (fun k hk => by unfold cfS ptW; omega)
  have v10 := src _ f10
  refine r_aload_n (pc := 128) 1 dX5_copyFrom_128 rfl ?_
  refine r_getR (pc := 129) fl_X5_33 (pt_is hq10) (pt_f10 hq10) dX5_copyFrom_129 ?_
  refine r_iconst (pc := 132) (0) dX5_copyFrom_132 rfl ?_
  refine r_aload_n (pc := 133) 0 dX5_copyFrom_133 rfl ?_
  refine r_getR (pc := 134) fl_X5_33 (pt_is hp10) (pt_f10 hp10) dX5_copyFrom_134 ?_
  refine r_iconst (pc := 137) (0) dX5_copyFrom_137 rfl ?_
  refine r_iconst (pc := 138) (3) dX5_copyFrom_138 rfl ?_
  refine r_copy (pc := 139) (sp := 0) (dp := 0) (n := 3) (pt_r10 hq10) (pt_r10 hp10) ml_X5_90 w_acn w_acs w_aci rfl rfl rfl (by omega) (by omega) (by first | decide | omega) (by first | decide | omega) (Nat.le_of_ble_eq_true rfl) (Nat.le_of_ble_eq_true rfl) (Nat.le_of_ble_eq_true rfl) dX5_copyFrom_139 ?_
  have b11 : PtP (wRow h110 (p + 8) (cpF (hI h110 (q + 8)) (hI h110 (p + 8)) 0 0 3)) p r (fun j => ((((((((((false || decide (j = 0)) || decide (pA j = 1)) || decide (pA j = 2)) || decide (pA j = 3)) || decide (pA j = 4)) || decide (pA j = 5)) || decide (j = 1)) || decide (pA j = 6)) || decide (j = 2)) || decide (pA j = 7)) || decide (pA j = 8)) := b10.cp (q0 := 8) (n := 3) v10 (fun j hj hz => (pK_n j hj).2.1 (by omega))
  have f11 : Fr (cfS p) h (wRow h110 (p + 8) (cpF (hI h110 (q + 8)) (hI h110 (p + 8)) 0 0 3)) := wG f10 (by decide) (by decide)
  generalize wRow h110 (p + 8) (cpF (hI h110 (q + 8)) (hI h110 (p + 8)) 0 0 3) = h111 at b11 f11 ⊢
  have hp11 := hp.fr f11 (fun k hk => by unfold cfS ptW; omega)
  have hq11 := hq.fr f11 (fun k hk => by unfold cfS ptW; omega)
  have v11 := src _ f11
  refine r_aload_n (pc := 142) 0 dX5_copyFrom_142 rfl ?_
  refine r_aload_n (pc := 143) 1 dX5_copyFrom_143 rfl ?_
  refine r_getI (pc := 144) fl_X5_56 (pt_is hq11) dX5_copyFrom_144 ?_
  refine r_putI (pc := 147) fp_X5_56 (pt_is hp11) dX5_copyFrom_147 ?_
  have b12 : PtP (wI h111 p 11 (hI h111 q 11)) p r (fun j => (((((((((((false || decide (j = 0)) || decide (pA j = 1)) || decide (pA j = 2)) || decide (pA j = 3)) || decide (pA j = 4)) || decide (pA j = 5)) || decide (j = 1)) || decide (pA j = 6)) || decide (j = 2)) || decide (pA j = 7)) || decide (pA j = 8)) || decide (j = 3)) := b11.fld (j0 := 3) (by decide) (pv_3 v11)
  have f12 : Fr (cfS p) h (wI h111 p 11 (hI h111 q 11)) := wF f11 (by unfold ptW; omega)
  generalize wI h111 p 11 (hI h111 q 11) = h112 at b12 f12 ⊢
  have hp12 := hp.fr f12 (fun k hk => by unfold cfS ptW; omega)
  have hq12 := hq.fr f12 (fun k hk => by unfold cfS ptW; omega)
  have v12 := src _ f12
  have key : ∀ j, j < 49 → (((((((((((((false || decide (j = 0)) || decide (pA j = 1)) || decide (pA j = 2)) || decide (pA j = 3)) || decide (pA j = 4)) || decide (pA j = 5)) || decide (j = 1)) || decide (pA j = 6)) || decide (j = 2)) || decide (pA j = 7)) || decide (pA j = 8)) || decide (j = 3)) || decide (j = 4)) = true := by decide +kernel
  have loop : ∀ i, i ≤ 6 → ∀ hh, Fr (cfS p) h hh → (∀ a, a ≠ p + 9 → hI hh a = hI h112 a) → (∀ j, j < i → hR hh (p + 9) j = hR h (q + 9) j) → Wp E mX5_copyFrom (Rm 1 0 0) (Qm E (fun v h' => v = none ∧ Fr (cfS p) h h' ∧ PtV h' p r ∧ ∀ i, i < 6 → hR h' (p + 9) i = hR h (q + 9) i) 0 0) 152 [(0, .ref p), (1, .ref q), (2, .int (nI i))] [] hh 0 0 := by
    refine upTo (fun i hi ih => ?_) ?_
    · intro hh fr hsame hdone
      have hpz := hp.fr fr (fun k hk => by unfold cfS ptW; omega)
      have hqz := hq.fr fr (fun k hk => by unfold cfS ptW; omega)
      have eR : hR hh (q + 9) i = hR h (q + 9) i := fr.R (by unfold cfS ptW; omega)
      have next : ∀ v : Option Nat, v = hR h (q + 9) i → Wp E mX5_copyFrom (Rm 1 0 0) (Qm E (fun v h' => v = none ∧ Fr (cfS p) h h' ∧ PtV h' p r ∧ ∀ i, i < 6 → hR h' (p + 9) i = hR h (q + 9) i) 0 0) 152 [(0, .ref p), (1, .ref q), (2, .int (nI (i + 1)))] [] (wR hh (p + 9) i v) 0 0 := by
        intro v hve
        refine ih _ (fr.tr (Fr.wR (Or.inr rfl))) hsame (fun j hj => ?_)
        show up2 hh.2.2.2 (p + 9) i v (p + 9) j = _
        by_cases hji : j = i
        · rw [hji, up2_at]; exact hve
        · rw [up2_ne (by omega)]; exact hdone j (by omega)
      refine r_iload_n (pc := 152) 2 dX5_copyFrom_152 rfl ?_
      refine r_bipush (pc := 153) (6) dX5_copyFrom_153 rfl ?_
      refine r_icmp_ge (pc := 155) (tgt := 176) dX5_copyFrom_155 (by decide) (fun c_155 => ?_) (fun c_155 => ?_)
      · exact absurd c_155 (nI_ge (b := 6) hi (by decide))
      · cases hc : hR h (q + 9) i with
        | none =>
          rw [hc] at eR
          refine r_aload_n (pc := 158) 0 dX5_copyFrom_158 rfl ?_
          refine r_getR (pc := 159) fl_X5_38 (pt_is hpz) (pt_f12 hpz) dX5_copyFrom_159 ?_
          refine r_iload_n (pc := 162) 2 dX5_copyFrom_162 rfl ?_
          refine r_aload_n (pc := 163) 1 dX5_copyFrom_163 rfl ?_
          refine r_getR (pc := 164) fl_X5_38 (pt_is hqz) (pt_f12 hqz) dX5_copyFrom_164 ?_
          refine r_iload_n (pc := 167) 2 dX5_copyFrom_167 rfl ?_
          refine r_aaldN (pc := 168) (j := i) (pt_r12 hqz) (by decide) rfl (by omega) (by decide) (eR) dX5_copyFrom_168 ?_
          refine r_aastN (pc := 169) (j := i) (pt_r12 hpz) (by decide) rfl (by omega) (by decide) dX5_copyFrom_169 ?_
          refine r_iinc (pc := 170) (v := _ + (1)) (lv' := [(0, _), (1, _), (2, _)]) 2 dX5_copyFrom_170 rfl rfl (Nat.le_of_ble_eq_true rfl) rfl ?_
          refine r_goto (pc := 173) (tgt := 152) dX5_copyFrom_173 (by decide) ?_
          rw [nI_1]
          exact next none hc.symm
        | some t =>
          rw [hc] at eR
          have hT := (hlaw i hi t hc).fr fr
          refine r_aload_n (pc := 158) 0 dX5_copyFrom_158 rfl ?_
          refine r_getR (pc := 159) fl_X5_38 (pt_is hpz) (pt_f12 hpz) dX5_copyFrom_159 ?_
          refine r_iload_n (pc := 162) 2 dX5_copyFrom_162 rfl ?_
          refine r_aload_n (pc := 163) 1 dX5_copyFrom_163 rfl ?_
          refine r_getR (pc := 164) fl_X5_38 (pt_is hqz) (pt_f12 hqz) dX5_copyFrom_164 ?_
          refine r_iload_n (pc := 167) 2 dX5_copyFrom_167 rfl ?_
          refine r_aaldR (pc := 168) (j := i) (pt_r12 hqz) (by decide) rfl (by omega) (by decide) (eR) dX5_copyFrom_168 ?_
          refine r_aast (pc := 169) (j := i) (pt_r12 hpz) (by decide) (hT) rfl (by omega) (by decide) dX5_copyFrom_169 ?_
          refine r_iinc (pc := 170) (v := _ + (1)) (lv' := [(0, _), (1, _), (2, _)]) 2 dX5_copyFrom_170 rfl rfl (Nat.le_of_ble_eq_true rfl) rfl ?_
          refine r_goto (pc := 173) (tgt := 152) dX5_copyFrom_173 (by decide) ?_
          rw [nI_1]
          exact next (some t) hc.symm
    · intro hh fr hsame hdone
      have hpz := hp.fr fr (fun k hk => by unfold cfS ptW; omega)
      have hqz := hq.fr fr (fun k hk => by unfold cfS ptW; omega)
      have vz := src _ fr
      refine r_iload_n (pc := 152) 2 dX5_copyFrom_152 rfl ?_
      refine r_bipush (pc := 153) (6) dX5_copyFrom_153 rfl ?_
      refine r_icmp_ge (pc := 155) (tgt := 176) dX5_copyFrom_155 (by decide) (fun c_155 => ?_) (fun c_155 => ?_)
      · have bz : PtP hh p r (fun j => ((((((((((((false || decide (j = 0)) || decide (pA j = 1)) || decide (pA j = 2)) || decide (pA j = 3)) || decide (pA j = 4)) || decide (pA j = 5)) || decide (j = 1)) || decide (pA j = 6)) || decide (j = 2)) || decide (pA j = 7)) || decide (pA j = 8)) || decide (j = 3))) := fun j hj hz => by
          have hA : pA j ≤ 8 := by revert j; decide +kernel
          rw [hsame _ (by omega)]; exact b12 j hj hz
        have bw : PtP (wI hh p 13 (hI hh q 13)) p r (fun j => ((((((((((((false || decide (j = 0)) || decide (pA j = 1)) || decide (pA j = 2)) || decide (pA j = 3)) || decide (pA j = 4)) || decide (pA j = 5)) || decide (j = 1)) || decide (pA j = 6)) || decide (j = 2)) || decide (pA j = 7)) || decide (pA j = 8)) || decide (j = 3)) || decide (j = 4)) := bz.fld (j0 := 4) (by decide) (pv_4 vz)
        refine r_aload_n (pc := 176) 0 dX5_copyFrom_176 rfl ?_
        refine r_aload_n (pc := 177) 1 dX5_copyFrom_177 rfl ?_
        refine r_getI (pc := 178) fl_X5_42 (pt_is hqz) dX5_copyFrom_178 ?_
        refine r_putI (pc := 181) fp_X5_42 (pt_is hpz) dX5_copyFrom_181 ?_
        refine r_vret (pc := 184) rfl ?_ (Nat.le_of_ble_eq_true rfl) (Nat.le_of_ble_eq_true rfl) dX5_copyFrom_184
        refine ⟨rfl, wF fr (by unfold ptW; omega), PtV_iff.mpr (fun j hj => bw j hj (key j hj)), hdone⟩
      · exact absurd (show (6 : Int32) ≤ nI 6 by decide) c_155
  refine r_iconst (pc := 150) (0) dX5_copyFrom_150 rfl ?_
  refine r_istore_n (pc := 151) (lv' := [(0, _), (1, _), (2, _)]) dX5_copyFrom_151 (Nat.le_of_ble_eq_true rfl) rfl ?_
  exact loop 0 (by omega) _ f12 (fun _ _ => rfl) (fun j hj => absurd hj (by omega))
end COPY
