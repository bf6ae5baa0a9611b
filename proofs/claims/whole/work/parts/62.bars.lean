/-! the class: who is barred -/
section BARS
variable {E : En} {h : Hp} {x p : Nat} {r : Nat → Int32}
theorem txS.fr {S : Nat → Nat → Prop} {h1 : Hp} {t nn : Nat} (htx : txS E h t nn) (a1 : Fr S h h1) (q : ∀ k, ¬ S t k) : txS E h1 t nn := by
  obtain ⟨b0, ⟨b1, b2⟩, ⟨b3, b4⟩, ⟨b5, b6⟩, ⟨b7, b8⟩, ⟨b9, b10⟩⟩ := htx
  exact ⟨b0.fr a1, ⟨(a1.R (q _)).trans b1, b2.fr a1⟩, ⟨(a1.R (q _)).trans b3, b4.fr a1⟩, ⟨(a1.R (q _)).trans b5, b6.fr a1⟩, ⟨(a1.R (q _)).trans b7, b8.fr a1⟩, ⟨(a1.R (q _)).trans b9, b10.fr a1⟩⟩
theorem LwT.fr {S : Nat → Nat → Prop} {h1 : Hp} {t nn : Nat} {cls : List Cl} (hl : LwT E h t nn cls) (a1 : Fr S h h1) (q : ∀ i k, i ≤ 5 → ¬ S (t + i) k) : LwT E h1 t nn cls := by
  have e : ∀ i, i ≤ 5 → hI h1 (t + i) = hI h (t + i) := fun i hi => by funext k; exact a1.I (q i k hi)
  have e0 : hI h1 t = hI h t := e 0 (by omega)
  obtain ⟨g1, g2⟩ := hl
  refine ⟨g1.fr a1 (fun k => q 0 k (by omega)), ?_⟩
  rw [e0, e 1 (by omega), e 3 (by omega), e 4 (by omega), e 5 (by omega)]
  exact g2
theorem FoL.ak {h1 : Hp} {fo : Option (List Cl)} {lw : Option Nat} (hf : FoL E h x fo lw) (a1 : Fr (akS x) h h1) : FoL E h1 x fo lw := by
  cases fo with
  | none => exact hf
  | some cls =>
    obtain ⟨t, nn, e1, ht, hl⟩ := hf
    exact ⟨t, nn, e1, ht, hl.fr a1 (fun i k hi => by unfold akS; omega)⟩
theorem setE_b {k : Nat} {life spent ship on : Int32} : ∀ j, ∃ z : Int32, setE r k life spent ship on j = z.toInt64 := by
  intro j
  by_cases hj : j < 8
  · exact ⟨_, setE_wd j hj⟩
  · refine ⟨0, ?_⟩
    unfold setE
    match j, hj with
    | j + 8, _ => rfl
theorem fold3_s {cls : List Cl} {e : Nat → Int64} {q : Nat} {d : Cl} (hd : cls[q]? = some d) : foldN cls 3 e 0 (q + 1) = if d.1 = 3 ∧ ifOk d.2.1 e = true then 1 else foldN cls 3 e 0 q := by
  rw [foldN, hd]
  show (clT d 3 e).getD _ = _
  unfold clT
  split
  · rw [if_pos rfl]; rfl
  · rfl
theorem fold3_stay {cls : List Cl} {e : Nat → Int64} {q : Nat} (h1 : foldN cls 3 e 0 q = 1) : ∀ j, foldN cls 3 e 0 (q + j) = 1
  | 0 => h1
  | j + 1 => by
    cases hd : cls[q + j]? with
    | none => rw [← Nat.add_assoc, foldN, hd]; exact fold3_stay h1 j
    | some d =>
      rw [← Nat.add_assoc, fold3_s hd]
      split
      · rfl
      · exact fold3_stay h1 j
theorem c0_isBarred (hc : CS E h x) (hpx : pOf x p) (hv : PtV h p r) {k y nl : Nat} (hk : k < 6) (hy : y < 512) (ey : r (14 + k) = nI y) (h3 : r 3 = nI nl) (hl6 : nl ≤ 6) {lw : Option Nat} {fo : Option (List Cl)} (hlw : LwA h p r nl lw) (hfo : FoL E h x fo lw) (ship : Int32) : Ct E 3 0 0 mX0_isBarred [.ref (x + 37), .ref p, .int (nI k), .int ship] h (fun v h' => v = some (.int (bI (barF r fo k ship))) ∧ Fr (akS x) h h') := by
  refine Ct.of (by decide +kernel) (Nat.le_of_ble_eq_true rfl) ?_
  refine r_aload_n (pc := 0) 0 dX0_isBarred_0 rfl ?_
  refine r_aload_n (pc := 1) 1 dX0_isBarred_1 rfl ?_
  refine r_iload_n (pc := 2) 2 dX0_isBarred_2 rfl ?_
  refine r_callV (pc := 3) (As := [_, _]) mv_X0_about ml_X0_90 (c0_about hc hpx hv hk hy ey h3 hl6 hlw) (ca_37 hc) rfl rfl (Nat.le_of_ble_eq_true rfl) (Nat.le_of_ble_eq_true rfl) (Nat.le_of_ble_eq_true rfl) (Nat.le_of_ble_eq_true rfl) (Nat.le_of_ble_eq_true rfl) dX0_isBarred_3 (fun r h1 hp => ?_)
  obtain ⟨rfl, f1, ha1⟩ := hp
  show Wp E mX0_isBarred _ _ _ _ [] _ 0 0
  have hc1 := hc.ak f1
  refine r_aload_n (pc := 6) 0 dX0_isBarred_6 rfl ?_
  refine r_getR (pc := 7) fl_X0_15 (ca_37 hc1) (cf_37_1 hc1) dX0_isBarred_7 ?_
  refine r_iconst (pc := 10) (5) dX0_isBarred_10 rfl ?_
  refine r_iload_n (pc := 11) 3 dX0_isBarred_11 rfl ?_
  refine r_iast (pc := 12) (j := 5) (cr_38 hc1) rfl (by decide) (by decide) dX0_isBarred_12 ?_
  have ha2 := (ha1.w 5 ship).cg (wdF_ship (s2 := ship))
  have f2 : Fr (akS x) h (wI h1 (x + 38) 5 ship) := f1.tr (Fr.wI (by unfold akS; omega))
  have hfo2 := hfo.ak f2
  have hc2 := hc.ak f2
  generalize wI h1 (x + 38) 5 ship = h2 at ha2 f2 hfo2 hc2 ⊢
  have he : ∀ j, j < 8 → setE r k (r (8 + k)) (spentF r k) ship 0 j = (wdF r k (r (8 + k)) (spentF r k) ship (r 5) j).toInt64 := by
    intro j hj
    have := setE_wd (r := r) (k := k) (life := r (8 + k)) (spent := spentF r k) (ship := ship) (on := 0) j hj
    rw [Int32.add_zero] at this
    exact this
  cases fo with
  | none =>
    have hlw0 : lw = none := hfo2
    have e0 : hR h2 (x + 37) 3 = none := ha2.2.2.trans hlw0
    refine r_aload_n (pc := 13) 0 dX0_isBarred_13 rfl ?_
    refine r_getN (pc := 14) fl_X0_29 (ca_37 hc2) (e0) dX0_isBarred_14 ?_
    refine r_ifnonnullN (pc := 17) dX0_isBarred_17 ?_
    refine r_iconst (pc := 20) (0) dX0_isBarred_20 rfl ?_
    refine r_goto (pc := 21) (tgt := 31) dX0_isBarred_21 (by decide) ?_
    refine r_istore (pc := 31) (lv' := [(0, _), (1, _), (2, _), (3, _), (4, _)]) dX0_isBarred_31 (Nat.le_of_ble_eq_true rfl) rfl ?_
    refine r_iconst (pc := 33) (0) dX0_isBarred_33 rfl ?_
    refine r_istore (pc := 34) (lv' := [(0, _), (1, _), (2, _), (3, _), (4, _), (5, _)]) dX0_isBarred_34 (Nat.le_of_ble_eq_true rfl) rfl ?_
    refine r_iload (pc := 36) 5 dX0_isBarred_36 rfl ?_
    refine r_iload (pc := 38) 4 dX0_isBarred_38 rfl ?_
    refine r_icmp_ge (pc := 40) (tgt := 90) dX0_isBarred_40 (by decide) (fun c_40 => ?_) (fun c_40 => ?_)
    · refine r_iconst (pc := 90) (0) dX0_isBarred_90 rfl ?_
      refine r_zret (pc := 91) rfl (by decide) ?_ (Nat.le_of_ble_eq_true rfl) (Nat.le_of_ble_eq_true rfl) dX0_isBarred_91
      exact ⟨by rw [show barF r none k ship = false from (by show decide ((0 : Int64) = 1) = false; decide)]; rfl, f2⟩
    · exact absurd (by decide) c_40
  | some cls =>
    obtain ⟨t, nn, e1, ht, hlt⟩ := hfo2
    have e0 : hR h2 (x + 37) 3 = some t := ha2.2.2.trans e1
    have hlen := hlt.2.2.1
    have h12 := hlt.2.2.2.1
    have htx := hlt.1
    generalize hee : setE r k (r (8 + k)) (spentF r k) ship 0 = e at he
    have hbar : barF r (some cls) k ship = decide (foldN cls 3 e 0 cls.length = 1) := by unfold barF toldF; rw [hee]
    have loop : ∀ q, q ≤ cls.length → ∀ hh, RkE h2 x hh → foldN cls 3 e 0 q = 0 → Wp E mX0_isBarred (Rm 3 0 0) (Qm E (fun v h' => v = some (.int (bI (barF r (some cls) k ship))) ∧ Fr (akS x) h h') 0 0) 36 [(0, .ref (x + 37)), (1, .ref p), (2, .int (nI k)), (3, .int ship), (4, .int (nI cls.length)), (5, .int (nI q))] [] hh 0 0 := by
      refine upTo (fun q hq ih => ?_) ?_
      · intro hh hr hf
        have hc3 := hc2.ak hr.ak
        have ha3 := ha2.rk hr
        have hlt3 := hlt.rk hr ht
        have htx3 := hlt3.1
        have e03 : hR hh (x + 37) 3 = some t := ha3.2.2.trans e1
        obtain ⟨dd, hdd⟩ : ∃ dd, cls[q]? = some dd := ⟨_, List.getElem?_eq_getElem hq⟩
        obtain ⟨-, hnn, -, -, sz, hsz, es, hcl⟩ := id hlt3
        obtain ⟨hq4, a0, a1, a2, a3, g1, g2, g3, -, -, -, -, -, -, -, -, hsum, hif⟩ := hcl q dd hdd
        have hTs : ∀ z, dd.2.1 = some z → IsT z := by
          intro z hz
          rw [hz] at hif
          obtain ⟨_, _, _, w⟩ := hif
          exact w
        have no : ∀ hh2 : Hp, RkE h2 x hh2 → ¬ (dd.1 = 3 ∧ ifOk dd.2.1 e = true) → Wp E mX0_isBarred (Rm 3 0 0) (Qm E (fun v h' => v = some (.int (bI (barF r (some cls) k ship))) ∧ Fr (akS x) h h') 0 0) 84 [(0, .ref (x + 37)), (1, .ref p), (2, .int (nI k)), (3, .int ship), (4, .int (nI cls.length)), (5, .int (nI q))] [] hh2 0 0 := by
          intro hh2 hr2 hno
          refine r_iinc (pc := 84) (v := _ + (1)) (lv' := [(0, _), (1, _), (2, _), (3, _), (4, _), (5, _)]) 5 dX0_isBarred_84 rfl rfl (Nat.le_of_ble_eq_true rfl) rfl ?_
          refine r_goto (pc := 87) (tgt := 36) dX0_isBarred_87 (by decide) ?_
          rw [nI_1]
          exact ih hh2 hr2 (by rw [fold3_s hdd, if_neg hno]; exact hf)
        refine r_iload (pc := 36) 5 dX0_isBarred_36 rfl ?_
        refine r_iload (pc := 38) 4 dX0_isBarred_38 rfl ?_
        refine r_icmp_ge (pc := 40) (tgt := 90) dX0_isBarred_40 (by decide) (fun c_40 => ?_) (fun c_40 => ?_)
        · exact absurd c_40 (nI_ge hq (by omega))
        · refine r_aload_n (pc := 43) 0 dX0_isBarred_43 rfl ?_
          refine r_getR (pc := 44) fl_X0_29 (ca_37 hc3) (e03) dX0_isBarred_44 ?_
          refine r_getR (pc := 47) fl_X0_60 (tx_is htx3) (tx_f1 htx3) dX0_isBarred_47 ?_
          refine r_iload (pc := 50) 5 dX0_isBarred_50 rfl ?_
          refine r_iald (pc := 52) (j := q) (tx_r1 htx3) rfl (by omega) (by decide) dX0_isBarred_52 ?_
          refine r_sipush (pc := 53) (266) dX0_isBarred_53 rfl ?_
          refine r_icmp_ne (pc := 56) (tgt := 84) dX0_isBarred_56 (by decide) (fun c_56 => ?_) (fun c_56 => ?_)
          · rw [g3] at c_56
            exact no hh hr (fun z => c_56 (by have y := z.1; rw [g2] at y; have := (nI_eq (a := hq4) (b := 3) (by omega) (by decide)).mp y; rw [this]; rfl))
          · rw [g3] at c_56
            have hd3 : dd.1 = 3 := by
              have := (nI_eq (a := 263 + hq4) (b := 266) (by omega) (by decide)).mp c_56
              rw [g2, show hq4 = 3 by omega]; rfl
            refine r_aload_n (pc := 59) 0 dX0_isBarred_59 rfl ?_
            refine r_getR (pc := 60) fl_X0_9 (ca_37 hc3) (cf_37_0 hc3) dX0_isBarred_60 ?_
            refine r_aload_n (pc := 63) 0 dX0_isBarred_63 rfl ?_
            refine r_getR (pc := 64) fl_X0_29 (ca_37 hc3) (e03) dX0_isBarred_64 ?_
            refine r_iload (pc := 67) 5 dX0_isBarred_67 rfl ?_
            refine r_iconst (pc := 69) (2) dX0_isBarred_69 rfl ?_
            refine r_aload_n (pc := 70) 0 dX0_isBarred_70 rfl ?_
            refine r_getR (pc := 71) fl_X0_15 (ca_37 hc3) (cf_37_1 hc3) dX0_isBarred_71 ?_
            refine r_callV (pc := 74) (As := [_, _, _, _]) mv_X7_reckon ml_X0_63 (ck_if hc3 ht hlt3 hdd ha3.1 he) (ca_1 hc3) rfl rfl (Nat.le_of_ble_eq_true rfl) (Nat.le_of_ble_eq_true rfl) (Nat.le_of_ble_eq_true rfl) (Nat.le_of_ble_eq_true rfl) (Nat.le_of_ble_eq_true rfl) dX0_isBarred_74 (fun r h1 hp => ?_)
            obtain ⟨rfl, n1, f1, rfl⟩ := hp
            have hr2 := hr.rk n1 f1
            show Wp E mX0_isBarred _ _ _ _ [.long _] _ 0 0
            refine r_lconst (pc := 77) (1) dX0_isBarred_77 rfl ?_
            refine r_lcmp_ne (pc := 78) (tgt := 84) dX0_isBarred_78 dX0_isBarred_79 (by decide) (fun c_78 => ?_) (fun c_78 => ?_)
            · exact no _ hr2 (fun z => c_78 ((ifV_ok hTs).mpr z.2))
            · have hok := (ifV_ok hTs).mp c_78
              refine r_iconst (pc := 82) (1) dX0_isBarred_82 rfl ?_
              refine r_zret (pc := 83) rfl (by decide) ?_ (Nat.le_of_ble_eq_true rfl) (Nat.le_of_ble_eq_true rfl) dX0_isBarred_83
              refine ⟨?_, f2.tr hr2.ak⟩
              have e9 : foldN cls 3 e 0 (q + 1) = 1 := by rw [fold3_s hdd, if_pos ⟨hd3, hok⟩]
              have e10 := fold3_stay e9 (cls.length - (q + 1))
              rw [show q + 1 + (cls.length - (q + 1)) = cls.length by omega] at e10
              rw [hbar, decide_eq_true e10]; rfl
      · intro hh hr hf
        refine r_iload (pc := 36) 5 dX0_isBarred_36 rfl ?_
        refine r_iload (pc := 38) 4 dX0_isBarred_38 rfl ?_
        refine r_icmp_ge (pc := 40) (tgt := 90) dX0_isBarred_40 (by decide) (fun c_40 => ?_) (fun c_40 => ?_)
        · refine r_iconst (pc := 90) (0) dX0_isBarred_90 rfl ?_
          refine r_zret (pc := 91) rfl (by decide) ?_ (Nat.le_of_ble_eq_true rfl) (Nat.le_of_ble_eq_true rfl) dX0_isBarred_91
          exact ⟨by rw [hbar, decide_eq_false (by rw [hf]; decide)]; rfl, f2.tr hr.ak⟩
        · exact absurd (Int32.le_refl _) c_40
    refine r_aload_n (pc := 13) 0 dX0_isBarred_13 rfl ?_
    refine r_getR (pc := 14) fl_X0_29 (ca_37 hc2) (e0) dX0_isBarred_14 ?_
    refine r_ifnonnull (pc := 17) (tgt := 24) dX0_isBarred_17 (by decide) ?_
    refine r_aload_n (pc := 24) 0 dX0_isBarred_24 rfl ?_
    refine r_getR (pc := 25) fl_X0_29 (ca_37 hc2) (e0) dX0_isBarred_25 ?_
    refine r_getI (pc := 28) fl_X0_55 (tx_is htx) dX0_isBarred_28 ?_
    rw [hlen]
    refine r_istore (pc := 31) (lv' := [(0, _), (1, _), (2, _), (3, _), (4, _)]) dX0_isBarred_31 (Nat.le_of_ble_eq_true rfl) rfl ?_
    refine r_iconst (pc := 33) (0) dX0_isBarred_33 rfl ?_
    refine r_istore (pc := 34) (lv' := [(0, _), (1, _), (2, _), (3, _), (4, _), (5, _)]) dX0_isBarred_34 (Nat.le_of_ble_eq_true rfl) rfl ?_
    exact loop 0 (by omega) h2 RkE.rf rfl
theorem LwA.ak {h1 : Hp} {nl : Nat} {lw : Option Nat} (hl : LwA h p r nl lw) (hpx : pOf x p) (a1 : Fr (akS x) h h1) : LwA h1 p r nl lw := by
  refine ⟨fun z => ?_, hl.2⟩
  rw [a1.R (by unfold akS; unfold pOf at hpx; omega)]
  exact hl.1 z
theorem c0_barredFrom (hc : CS E h x) (hpx : pOf x p) (hv : PtV h p r) {n nl : Nat} (hn : r 0 = nI n) (h6 : n ≤ 6) (hye : ∀ k, k < 6 → ∃ y, y < 512 ∧ r (14 + k) = nI y) (h3 : r 3 = nI nl) (hl6 : nl ≤ 6) {lw : Option Nat} {fo : Option (List Cl)} (hlw : LwA h p r nl lw) (hfo : FoL E h x fo lw) (ship : Int32) : Ct E 4 0 0 mX0_barredFrom [.ref (x + 37), .ref p, .int ship] h (fun v h' => v = some (.int (barN r fo ship n)) ∧ Fr (akS x) h h') := by
  refine Ct.of (by decide +kernel) (Nat.le_of_ble_eq_true rfl) ?_
  refine r_iconst (pc := 0) (0) dX0_barredFrom_0 rfl ?_
  refine r_istore_n (pc := 1) (lv' := [(0, _), (1, _), (2, _), (3, _)]) dX0_barredFrom_1 (Nat.le_of_ble_eq_true rfl) rfl ?_
  refine r_iconst (pc := 2) (0) dX0_barredFrom_2 rfl ?_
  refine r_istore (pc := 3) (lv' := [(0, _), (1, _), (2, _), (3, _), (4, _)]) dX0_barredFrom_3 (Nat.le_of_ble_eq_true rfl) rfl ?_
  have loop : ∀ k, k ≤ n → ∀ hh, Fr (akS x) h hh → Wp E mX0_barredFrom (Rm 4 0 0) (Qm E (fun v h' => v = some (.int (barN r fo ship n)) ∧ Fr (akS x) h h') 0 0) 5 [(0, .ref (x + 37)), (1, .ref p), (2, .int ship), (3, .int (barN r fo ship k)), (4, .int (nI k))] [] hh 0 0 := by
    refine upTo (fun k hk ih => ?_) ?_
    · intro hh fr
      have hc1 := hc.ak fr
      have hp1 := pt_of hc1 hpx
      have hv1 := hv.ak hpx fr
      have hlw1 := hlw.ak hpx fr
      have hfo1 := hfo.ak fr
      have no : ∀ hh2 : Hp, Fr (akS x) h hh2 → ¬ (aliveF r k = true ∧ barF r fo k ship = true) → Wp E mX0_barredFrom (Rm 4 0 0) (Qm E (fun v h' => v = some (.int (barN r fo ship n)) ∧ Fr (akS x) h h') 0 0) 41 [(0, .ref (x + 37)), (1, .ref p), (2, .int ship), (3, .int (barN r fo ship k)), (4, .int (nI k))] [] hh2 0 0 := by
        intro hh2 fr2 hno
        have h9 := ih hh2 fr2
        have e9 : barN r fo ship (k + 1) = barN r fo ship k := by rw [barN, if_neg hno, Int32.or_zero]
        rw [e9] at h9
        refine r_iinc (pc := 41) (v := _ + (1)) (lv' := [(0, _), (1, _), (2, _), (3, _), (4, _)]) 4 dX0_barredFrom_41 rfl rfl (Nat.le_of_ble_eq_true rfl) rfl ?_
        refine r_goto (pc := 44) (tgt := 5) dX0_barredFrom_44 (by decide) ?_
        rw [nI_1]; exact h9
      have hin : inN (nI k) n = true := by rw [inN_nI (by omega)]; exact decide_eq_true hk
      refine r_iload (pc := 5) 4 dX0_barredFrom_5 rfl ?_
      refine r_aload_n (pc := 7) 1 dX0_barredFrom_7 rfl ?_
      refine r_getI (pc := 8) fl_X0_94 (pt_is hp1) dX0_barredFrom_8 ?_
      refine r_icmp_ge (pc := 11) (tgt := 47) dX0_barredFrom_11 (by decide) (fun c_11 => ?_) (fun c_11 => ?_)
      · rw [pv_0 hv1, hn] at c_11; exact absurd c_11 (nI_ge hk (by omega))
      · refine r_aload_n (pc := 14) 1 dX0_barredFrom_14 rfl ?_
        refine r_iload (pc := 15) 4 dX0_barredFrom_15 rfl ?_
        refine r_dV (pc := 17) (As := [_]) mv_X5_isHere ml_X0_97 (c5_isHere hp1 hv1 hn h6 _) (pt_is hp1) rfl rfl (Nat.le_of_ble_eq_true rfl) (Nat.le_of_ble_eq_true rfl) (Nat.le_of_ble_eq_true rfl) (Nat.le_of_ble_eq_true rfl) (Nat.le_of_ble_eq_true rfl) dX0_barredFrom_17 ?_
        refine r_if_eq (pc := 20) (tgt := 41) dX0_barredFrom_20 (by decide) (fun c_20 => ?_) (fun c_20 => ?_)
        · have hz := bI_0.mp c_20
          unfold hereB at hz
          rw [hin, nI_clamp (by omega), Bool.true_and] at hz
          exact no hh fr (fun z => by rw [hz] at z; exact absurd z.1 (by decide))
        · have hz := bI_n0.mp c_20
          unfold hereB at hz
          rw [hin, nI_clamp (by omega), Bool.true_and] at hz
          obtain ⟨y, hy, ey⟩ := hye k (by omega)
          refine r_aload_n (pc := 23) 0 dX0_barredFrom_23 rfl ?_
          refine r_aload_n (pc := 24) 1 dX0_barredFrom_24 rfl ?_
          refine r_iload (pc := 25) 4 dX0_barredFrom_25 rfl ?_
          refine r_iload_n (pc := 27) 2 dX0_barredFrom_27 rfl ?_
          refine r_callV (pc := 28) (As := [_, _, _]) mv_X0_isBarred ml_X0_101 (c0_isBarred hc1 hpx hv1 (by omega) hy ey h3 hl6 hlw1 hfo1 ship) (ca_37 hc1) rfl rfl (Nat.le_of_ble_eq_true rfl) (Nat.le_of_ble_eq_true rfl) (Nat.le_of_ble_eq_true rfl) (Nat.le_of_ble_eq_true rfl) (Nat.le_of_ble_eq_true rfl) dX0_barredFrom_28 (fun r h1 hp => ?_)
          obtain ⟨rfl, fr2⟩ := hp
          have fr3 := fr.tr fr2
          show Wp E mX0_barredFrom _ _ _ _ [.int _] _ 0 0
          refine r_if_eq (pc := 31) (tgt := 41) dX0_barredFrom_31 (by decide) (fun c_31 => ?_) (fun c_31 => ?_)
          · exact no h1 fr3 (fun z => by rw [bI_0.mp c_31] at z; exact absurd z.2 (by decide))
          · have h9 := ih h1 fr3
            have e9 : barN r fo ship (k + 1) = barN r fo ship k ||| 1 <<< (nI k &&& 31) := by rw [barN, if_pos ⟨hz, bI_n0.mp c_31⟩]
            rw [e9] at h9
            refine r_iload_n (pc := 34) 3 dX0_barredFrom_34 rfl ?_
            refine r_iconst (pc := 35) (1) dX0_barredFrom_35 rfl ?_
            refine r_iload (pc := 36) 4 dX0_barredFrom_36 rfl ?_
            refine r_ishl (pc := 38) dX0_barredFrom_38 ?_
            refine r_ior (pc := 39) dX0_barredFrom_39 ?_
            refine r_istore_n (pc := 40) (lv' := [(0, _), (1, _), (2, _), (3, _), (4, _)]) dX0_barredFrom_40 (Nat.le_of_ble_eq_true rfl) rfl ?_
            refine r_iinc (pc := 41) (v := _ + (1)) (lv' := [(0, _), (1, _), (2, _), (3, _), (4, _)]) 4 dX0_barredFrom_41 rfl rfl (Nat.le_of_ble_eq_true rfl) rfl ?_
            refine r_goto (pc := 44) (tgt := 5) dX0_barredFrom_44 (by decide) ?_
            rw [nI_1]; exact h9
    · intro hh fr
      have hc1 := hc.ak fr
      have hp1 := pt_of hc1 hpx
      have hv1 := hv.ak hpx fr
      refine r_iload (pc := 5) 4 dX0_barredFrom_5 rfl ?_
      refine r_aload_n (pc := 7) 1 dX0_barredFrom_7 rfl ?_
      refine r_getI (pc := 8) fl_X0_94 (pt_is hp1) dX0_barredFrom_8 ?_
      refine r_icmp_ge (pc := 11) (tgt := 47) dX0_barredFrom_11 (by decide) (fun c_11 => ?_) (fun c_11 => ?_)
      · refine r_iload_n (pc := 47) 3 dX0_barredFrom_47 rfl ?_
        refine r_iret (pc := 48) rfl ?_ (Nat.le_of_ble_eq_true rfl) (Nat.le_of_ble_eq_true rfl) dX0_barredFrom_48
        exact ⟨rfl, fr⟩
      · rw [pv_0 hv1, hn] at c_11; exact absurd (Int32.le_refl _) c_11
  exact loop 0 (by omega) h Fr.rf
end BARS
