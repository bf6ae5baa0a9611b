/-! the class: years by draws -/
section FORT5
variable {E : En} {h : Hp} {x p : Nat} {r : Nat → Int32}
theorem lN_div {a b : Nat} (ha : a < 2 ^ 31) (hb : b < 2 ^ 31) : lN a / lN b = lN (a / b) := by
  apply Int64.toInt_inj.mp
  have hd : a / b ≤ a := Nat.div_le_self a b
  have e1 : ((a : Int).tdiv (b : Int)) = ((a / b : Nat) : Int) := by rw [Int.tdiv_eq_ediv_of_nonneg (by omega)]; rfl
  rw [Int64.toInt_div, lN_toInt ha, lN_toInt hb, lN_toInt (by omega), e1]
  generalize a / b = q at hd ⊢
  exact Int.bmod_eq_of_le (by omega) (by omega)
theorem lN_mod {a b : Nat} (ha : a < 2 ^ 31) (hb : b < 2 ^ 31) : lremF (lN a) (lN b) = lN (a % b) := by
  have h1 : a / b * b ≤ a := Nat.div_mul_le_self a b
  unfold lremF
  rw [lN_div ha hb, lN_mul, lN_sub h1]
  congr 1
  have := Nat.div_add_mod a b
  rw [Nat.mul_comm] at this
  omega
theorem nI_L {n : Nat} (hn : n < 2 ^ 31) : (nI n).toInt64 = lN n := by
  apply Int64.toInt_inj.mp
  rw [Int32.toInt_toInt64, nI_toInt hn, lN_toInt hn]
def sdN (s : Nat) : Nat := (s * 1103 + 12345) % 1000003
theorem sdN_lt (s : Nat) : sdN s < 1000003 := Nat.mod_lt _ (by decide)
theorem drS_sd {s : Nat} (hs : s < 1000003) : drS (lN s) = lN (sdN s) := by
  unfold drS sdN
  rw [show (1103 : Int64) = lN 1103 from rfl, show (12345 : Int64) = lN 12345 from rfl, show (1000003 : Int64) = lN 1000003 from rfl, lN_mul, lN_add]
  exact lN_mod (by omega) (by decide)
theorem sdN_I {s : Nat} (hs : s < 1000003) : nI s * 1103 + 12345 - (nI s * 1103 + 12345) / 1000003 * 1000003 = nI (sdN s) := by
  rw [show (1103 : Int32) = nI 1103 from rfl, show (12345 : Int32) = nI 12345 from rfl, show (1000003 : Int32) = nI 1000003 from rfl, nI_mul, nI_add]
  exact nI_mod (by omega) (by decide)
theorem c2_isDrawnToDie (hc : CS E h x) (hpx : pOf x p) (hv : PtV h p r) {n ns nl s : Nat} (hrw : RwOK r n ns) (h3 : r 3 = nI nl) (hl6 : nl ≤ 6) {lw : Option Nat} {fo : Option (List Cl)} (hlw : LwA h p r nl lw) (hfo : FoL E h x fo lw) {k li y : Nat} (hk : k < 6) (eli : r (8 + k) = nI li) (hli : li < 9) (ey : r (14 + k) = nI y) (hy : y < 512) (hs : hI h (x + 90) 6 = nI s) (hsl : s < 1000003) : Ct E 3 0 0 mX2_isDrawnToDie [.ref (x + 90), .ref p, .int (nI k)] h (fun v h' => v = some (.int (bI (decide (nI (sdN s % 10) < dareF r fo k (r (8 + k)) (spentF r k))))) ∧ Fr (foS x) h h' ∧ hI h' (x + 90) 6 = nI (sdN s)) := by
  have hp := pt_of hc hpx
  have hsd := sdN_lt s
  obtain ⟨d, hd10, ed⟩ := hrw.2.2.2.2.2.2.2.2.2.1
  refine Ct.of (by decide +kernel) (Nat.le_of_ble_eq_true rfl) ?_
  refine r_aload_n (pc := 0) 0 dX2_isDrawnToDie_0 rfl ?_
  refine r_aload_n (pc := 1) 0 dX2_isDrawnToDie_1 rfl ?_
  refine r_getI (pc := 2) fl_X2_109 (ca_90 hc) dX2_isDrawnToDie_2 ?_
  rw [hs]
  refine r_sipush (pc := 5) (1103) dX2_isDrawnToDie_5 rfl ?_
  refine r_imul (pc := 8) dX2_isDrawnToDie_8 ?_
  refine r_sipush (pc := 9) (12345) dX2_isDrawnToDie_9 rfl ?_
  refine r_iadd (pc := 12) dX2_isDrawnToDie_12 ?_
  refine r_ldc (pc := 13) cs_X2_137 dX2_isDrawnToDie_13 ?_
  refine r_irem (pc := 15) dX2_isDrawnToDie_15 (by decide) ?_
  rw [sdN_I hsl]
  refine r_putI (pc := 16) fp_X2_109 (ca_90 hc) dX2_isDrawnToDie_16 ?_
  have f2 : Fr (foS x) h (wI h (x + 90) 6 (nI (sdN s))) := Fr.wI (by unfold foS; omega)
  have e2 : hI (wI h (x + 90) 6 (nI (sdN s))) (x + 90) 6 = nI (sdN s) := hI_at
  generalize wI h (x + 90) 6 (nI (sdN s)) = h2 at f2 e2 ⊢
  have hc2 := hc.fo f2
  have hp2 := pt_of hc2 hpx
  have hv2 := hv.fo hpx f2
  refine r_aload_n (pc := 19) 0 dX2_isDrawnToDie_19 rfl ?_
  refine r_getR (pc := 20) fl_X2_9 (ca_90 hc2) (cf_90_0 hc2) dX2_isDrawnToDie_20 ?_
  refine r_aload_n (pc := 23) 1 dX2_isDrawnToDie_23 rfl ?_
  refine r_iload_n (pc := 24) 2 dX2_isDrawnToDie_24 rfl ?_
  refine r_callV (pc := 25) (As := [_, _]) mv_X0_about ml_X2_68 (c0_about hc2 hpx hv2 hk hy ey h3 hl6 (hlw.fo hpx f2)) (ca_37 hc2) rfl rfl (Nat.le_of_ble_eq_true rfl) (Nat.le_of_ble_eq_true rfl) (Nat.le_of_ble_eq_true rfl) (Nat.le_of_ble_eq_true rfl) (Nat.le_of_ble_eq_true rfl) dX2_isDrawnToDie_25 (fun r h3 hp => ?_)
  obtain ⟨rfl, f3, ha3⟩ := hp
  show Wp E mX2_isDrawnToDie _ _ _ _ [] _ 0 0
  have fr3 : Fr (foS x) h h3 := f2.tr (f3.mono (fun _ _ => ak_fo))
  have e3 : hI h3 (x + 90) 6 = nI (sdN s) := (f3.I (by unfold akS; omega)).trans e2
  have hc3 := hc.fo fr3
  rw [eli] at ha3
  refine r_aload_n (pc := 28) 0 dX2_isDrawnToDie_28 rfl ?_
  refine r_getI (pc := 29) fl_X2_109 (ca_90 hc3) dX2_isDrawnToDie_29 ?_
  rw [e3]
  refine r_bipush (pc := 32) (10) dX2_isDrawnToDie_32 rfl ?_
  refine r_irem (pc := 34) dX2_isDrawnToDie_34 (by decide) ?_
  rw [show nI (sdN s) - nI (sdN s) / 10 * 10 = nI (sdN s % 10) from nI_mod (b := 10) (by omega) (by decide)]
  refine r_aload_n (pc := 35) 0 dX2_isDrawnToDie_35 rfl ?_
  refine r_getR (pc := 36) fl_X2_9 (ca_90 hc3) (cf_90_0 hc3) dX2_isDrawnToDie_36 ?_
  refine r_sipush (pc := 39) (264) dX2_isDrawnToDie_39 rfl ?_
  refine r_callV (pc := 42) (As := [_]) mv_X0_tells ml_X2_77 (ask_at (hd := 1) (on := 0) hc3 ha3 (Int32.add_zero _).symm (hfo.fo fr3) hli hd10 ed (by decide)) (ca_37 hc3) rfl rfl (Nat.le_of_ble_eq_true rfl) (Nat.le_of_ble_eq_true rfl) (Nat.le_of_ble_eq_true rfl) (Nat.le_of_ble_eq_true rfl) (Nat.le_of_ble_eq_true rfl) dX2_isDrawnToDie_42 (fun r h4 hp => ?_)
  obtain ⟨rfl, hr4⟩ := hp
  show Wp E mX2_isDrawnToDie _ _ _ _ [.int _, .int _] _ 0 0
  rw [tell_dare]
  have fr4 : Fr (foS x) h h4 := fr3.tr (hr4.ak.mono (fun _ _ => ak_fo))
  have e4 : hI h4 (x + 90) 6 = nI (sdN s) := (hr4.fr.I (by unfold rkS; omega)).trans e3
  rw [eli]
  refine r_icmp_ge (pc := 45) (tgt := 52) dX2_isDrawnToDie_45 (by decide) (fun c_45 => ?_) (fun c_45 => ?_)
  · refine r_iconst (pc := 52) (0) dX2_isDrawnToDie_52 rfl ?_
    refine r_zret (pc := 53) rfl (by decide) ?_ (Nat.le_of_ble_eq_true rfl) (Nat.le_of_ble_eq_true rfl) dX2_isDrawnToDie_53
    exact ⟨pz0 (fun z => absurd (Int32.lt_of_lt_of_le z c_45) Int32.lt_irrefl), fr4, e4⟩
  · refine r_iconst (pc := 48) (1) dX2_isDrawnToDie_48 rfl ?_
    refine r_goto (pc := 49) (tgt := 53) dX2_isDrawnToDie_49 (by decide) ?_
    refine r_zret (pc := 53) rfl (by decide) ?_ (Nat.le_of_ble_eq_true rfl) (Nat.le_of_ble_eq_true rfl) dX2_isDrawnToDie_53
    exact ⟨pz1 (Int32.not_le.mp c_45), fr4, e4⟩
set_option maxRecDepth 100000 in
theorem low9 : ∀ y, y < 512 → ¬ y = 0 → (lowest (nI y) 9 < 9 ∧ y.testBit (lowest (nI y) 9) = true) := by decide +kernel
theorem low0 : lowest 0 9 = 9 := by decide +kernel
/-- what years on paper write -/
def dyS (x p a k : Nat) : Prop := foS x a k ∨ ptW p a k
theorem CS.dy {h1 : Hp} (hc : CS E h x) (hpx : pOf x p) (a1 : Fr (dyS x p) h h1) : CS E h1 x := hc.fr a1 (fun a k q z => z.elim (csP_fo q) (csP_pw (by unfold pOf at hpx; omega) q))
theorem FoL.dy {h1 : Hp} {fo : Option (List Cl)} {lw : Option Nat} (hpx : pOf x p) (hf : FoL E h x fo lw) (a1 : Fr (dyS x p) h h1) : FoL E h1 x fo lw := hf.far a1 (fun a k ha => by unfold dyS foS akS ptW; unfold pOf at hpx; omega)
theorem LwA.dy {h1 : Hp} {r' : Nat → Int32} {nl : Nat} {lw : Option Nat} (hl : LwA h p r nl lw) (hpx : pOf x p) (a1 : Fr (dyS x p) h h1) (h4 : r' 4 = r 4) : LwA h1 p r' nl lw := by
  unfold LwA
  rw [h4]
  refine ⟨fun z => ?_, hl.2⟩
  rw [a1.R (by unfold dyS foS akS ptW; unfold pOf at hpx; omega)]
  exact hl.1 z
/-- a year's memory: the row, the seed, the deaths -/
def DyI (h : Hp) (x p : Nat) (r0 : Nat → Int32) (nc ns : Nat) (T : Yr) : Prop := PtV h p T.1 ∧ RwOK T.1 nc ns ∧ RY r0 T.1 ∧ ∃ s, s < 1000003 ∧ hI h (x + 90) 6 = nI s ∧ T.2.1 = lN s
theorem c2_drawYears (hc : CS E h x) (hpx : pOf x p) (hv : PtV h p r) {nc ns nl s n : Nat} (hrw : RwOK r nc ns) (h3 : r 3 = nI nl) (hl6 : nl ≤ 6) {lw : Option Nat} {fo : Option (List Cl)} (hlw : LwA h p r nl lw) (hfo : FoL E h x fo lw) (hs : s < 1000003) (hn : n ≤ 60) : Ct E 4 0 0 mX2_drawYears [.ref (x + 90), .ref p, .int (nI s), .int (nI n)] h (fun v h' => v = some (.int (yrY fo nc (r, (nI s).toInt64, 0) n).2.2) ∧ Fr (dyS x p) h h' ∧ PtV h' p (yrY fo nc (r, (nI s).toInt64, 0) n).1 ∧ RwOK (yrY fo nc (r, (nI s).toInt64, 0) n).1 nc ns) := by
  have h6 := hrw.2.1
  refine Ct.of (by decide +kernel) (Nat.le_of_ble_eq_true rfl) ?_
  rw [nI_L (by omega)]
  generalize hT0 : ((r, lN s, 0) : Yr) = T0
  refine r_aload_n (pc := 0) 0 dX2_drawYears_0 rfl ?_
  refine r_iload_n (pc := 1) 2 dX2_drawYears_1 rfl ?_
  refine r_putI (pc := 2) fp_X2_109 (ca_90 hc) dX2_drawYears_2 ?_
  refine r_iconst (pc := 5) (0) dX2_drawYears_5 rfl ?_
  refine r_istore (pc := 6) (lv' := [(0, _), (1, _), (2, _), (3, _), (4, _)]) dX2_drawYears_6 (Nat.le_of_ble_eq_true rfl) rfl ?_
  refine r_iconst (pc := 8) (0) dX2_drawYears_8 rfl ?_
  refine r_istore (pc := 9) (lv' := [(0, _), (1, _), (2, _), (3, _), (4, _), (5, _)]) dX2_drawYears_9 (Nat.le_of_ble_eq_true rfl) rfl ?_
  have cats : ∀ (yr : Int32) (T : Yr), (∀ hh, Fr (dyS x p) h hh → DyI hh x p r nc ns (yrC fo T nc) → Wp E mX2_drawYears (Rm 4 0 0) (Qm E (fun v h' => v = some (.int (yrY fo nc T0 n).2.2) ∧ Fr (dyS x p) h h' ∧ PtV h' p (yrY fo nc T0 n).1 ∧ RwOK (yrY fo nc T0 n).1 nc ns) 0 0) 85 [(0, .ref (x + 90)), (1, .ref p), (2, .int (nI s)), (3, .int (nI n)), (4, .int (yrC fo T nc).2.2), (5, .int yr), (6, .int (nI nc))] [] hh 0 0) → ∀ k, k ≤ nc → ∀ hh, Fr (dyS x p) h hh → DyI hh x p r nc ns (yrC fo T k) → Wp E mX2_drawYears (Rm 4 0 0) (Qm E (fun v h' => v = some (.int (yrY fo nc T0 n).2.2) ∧ Fr (dyS x p) h h' ∧ PtV h' p (yrY fo nc T0 n).1 ∧ RwOK (yrY fo nc T0 n).1 nc ns) 0 0) 32 [(0, .ref (x + 90)), (1, .ref p), (2, .int (nI s)), (3, .int (nI n)), (4, .int (yrC fo T k).2.2), (5, .int yr), (6, .int (nI k))] [] hh 0 0 := by
    intro yr T kk
    refine upTo (fun k hk ih => ?_) ?_
    · intro hh fr hD
      obtain ⟨hvh, hrwh, hRY, s1, hs1, es1, et1⟩ := hD
      have hch := hc.dy hpx fr
      have hph := pt_of hch hpx
      have e9 : yrC fo T (k + 1) = yrS fo (yrC fo T k) k := rfl
      rw [e9] at ih
      generalize yrC fo T k = C at *
      have hn0 := hrwh.1
      have hcat := hrwh.2.2.2.2.1 k (by omega)
      obtain ⟨hlk, y, hy, ey, hny⟩ := hcat
      have hin : inN (nI k) nc = true := by rw [inN_nI (by omega)]; exact decide_eq_true hk
      have goes : ∀ (hh2 : Hp) (D : Int32), Fr (dyS x p) h hh2 → DyI hh2 x p r nc ns (yrS fo C k) → D = (yrS fo C k).2.2 → Wp E mX2_drawYears (Rm 4 0 0) (Qm E (fun v h' => v = some (.int (yrY fo nc T0 n).2.2) ∧ Fr (dyS x p) h h' ∧ PtV h' p (yrY fo nc T0 n).1 ∧ RwOK (yrY fo nc T0 n).1 nc ns) 0 0) 79 [(0, .ref (x + 90)), (1, .ref p), (2, .int (nI s)), (3, .int (nI n)), (4, .int D), (5, .int yr), (6, .int (nI k))] [] hh2 0 0 := by
        rintro hh2 D fr2 hD2 rfl
        refine r_iinc (pc := 79) (v := _ + (1)) (lv' := [(0, _), (1, _), (2, _), (3, _), (4, _), (5, _), (6, _)]) 6 dX2_drawYears_79 rfl rfl (Nat.le_of_ble_eq_true rfl) rfl ?_
        refine r_goto (pc := 82) (tgt := 32) dX2_drawYears_82 (by decide) ?_
        rw [nI_1]; exact ih hh2 fr2 hD2
      refine r_iload (pc := 32) 6 dX2_drawYears_32 rfl ?_
      refine r_aload_n (pc := 34) 1 dX2_drawYears_34 rfl ?_
      refine r_getI (pc := 35) fl_X2_116 (pt_is hph) dX2_drawYears_35 ?_
      rw [pv_0 hvh, hn0]
      refine r_icmp_ge (pc := 38) (tgt := 85) dX2_drawYears_38 (by decide) (fun c_38 => ?_) (fun c_38 => ?_)
      · exact absurd c_38 (nI_ge hk (by omega))
      · refine r_aload_n (pc := 41) 1 dX2_drawYears_41 rfl ?_
        refine r_iload (pc := 42) 6 dX2_drawYears_42 rfl ?_
        refine r_dV (pc := 44) (As := [_]) mv_X5_isHere ml_X2_119 (c5_isHere hph hvh hn0 h6 _) (pt_is hph) rfl rfl (Nat.le_of_ble_eq_true rfl) (Nat.le_of_ble_eq_true rfl) (Nat.le_of_ble_eq_true rfl) (Nat.le_of_ble_eq_true rfl) (Nat.le_of_ble_eq_true rfl) dX2_drawYears_44 ?_
        refine r_if_eq (pc := 47) (tgt := 79) dX2_drawYears_47 (by decide) (fun c_47 => ?_) (fun c_47 => ?_)
        · have hz := bI_0.mp c_47
          unfold hereB at hz
          rw [hin, nI_clamp (by omega), Bool.true_and] at hz
          have eS : yrS fo C k = C := by unfold yrS; rw [if_neg (by rw [hz]; decide)]
          exact goes hh _ fr (by rw [eS]; exact ⟨hvh, hrwh, hRY, s1, hs1, es1, et1⟩) (by rw [eS])
        · have hz := bI_n0.mp c_47
          unfold hereB at hz
          rw [hin, nI_clamp (by omega), Bool.true_and] at hz
          obtain ⟨li, hli, eli⟩ := hlk.resolve_left (by unfold aliveF at hz; exact of_decide_eq_true hz)
          have h3C : C.1 3 = nI nl := (hRY 3 (by omega)).trans h3
          have h4C : C.1 4 = r 4 := hRY 4 (by omega)
          have hlwC : LwA hh p C.1 nl lw := hlw.dy hpx fr h4C
          have hfoC := hfo.dy hpx fr
          refine r_aload_n (pc := 50) 0 dX2_drawYears_50 rfl ?_
          refine r_aload_n (pc := 51) 1 dX2_drawYears_51 rfl ?_
          refine r_iload (pc := 52) 6 dX2_drawYears_52 rfl ?_
          refine r_callV (pc := 54) (As := [_, _]) mv_X2_isDrawnToDie ml_X2_123 (c2_isDrawnToDie hch hpx hvh hrwh h3C hl6 hlwC hfoC (by omega) eli hli ey hy es1 hs1) (ca_90 hch) rfl rfl (Nat.le_of_ble_eq_true rfl) (Nat.le_of_ble_eq_true rfl) (Nat.le_of_ble_eq_true rfl) (Nat.le_of_ble_eq_true rfl) (Nat.le_of_ble_eq_true rfl) dX2_drawYears_54 (fun r h2 hp => ?_)
          obtain ⟨rfl, f2, es2⟩ := hp
          show Wp E mX2_drawYears _ _ _ _ [.int _] _ 0 0
          have fr2 : Fr (dyS x p) h h2 := fr.tr (f2.mono (fun a j z => (Or.inl z : dyS x p a j)))
          have hc2 := hc.dy hpx fr2
          have hp2 := pt_of hc2 hpx
          have hv2 := hvh.fo hpx f2
          have esd : drS C.2.1 = lN (sdN s1) := by rw [et1]; exact drS_sd hs1
          have em : (lremF (drS C.2.1) (10 : Int32).toInt64).toInt32 = nI (sdN s1 % 10) := by
            rw [esd, show ((10 : Int32)).toInt64 = lN 10 from by decide, lN_mod (by have := sdN_lt s1; omega) (by decide), lN_i]
          refine r_if_eq (pc := 57) (tgt := 79) dX2_drawYears_57 (by decide) (fun c_57 => ?_) (fun c_57 => ?_)
          · have hno := of_decide_eq_false (bI_0.mp c_57)
            have eS : yrS fo C k = (C.1, drS C.2.1, C.2.2) := by unfold yrS; rw [if_pos hz, em, if_neg hno]
            refine goes h2 _ fr2 ?_ (by rw [eS])
            rw [eS]
            exact ⟨hv2, hrwh, hRY, sdN s1, sdN_lt s1, es2, esd⟩
          · have hyes := of_decide_eq_true (bI_n0.mp c_57)
            have eS : yrS fo C k = (dieR C.1 k (nI (lowest (C.1 (14 + k)) 9)), drS C.2.1, C.2.2 + 1) := by unfold yrS; rw [if_pos hz, em, if_pos hyes]
            refine r_aload_n (pc := 60) 1 dX2_drawYears_60 rfl ?_
            refine r_iload (pc := 61) 6 dX2_drawYears_61 rfl ?_
            refine r_aload_n (pc := 63) 1 dX2_drawYears_63 rfl ?_
            refine r_getR (pc := 64) fl_X2_36 (pt_is hp2) (pt_f2 hp2) dX2_drawYears_64 ?_
            refine r_iload (pc := 67) 6 dX2_drawYears_67 rfl ?_
            refine r_iald (pc := 69) (j := k) (pt_r2 hp2) rfl (by omega) (by decide) dX2_drawYears_69 ?_
            rw [pv_ye hv2 (by omega)]
            refine r_dN (pc := 70) (As := [_]) ms_X11_lowestOf mk_X2_127 (ct_lowestOf _) rfl rfl (Nat.le_of_ble_eq_true rfl) (Nat.le_of_ble_eq_true rfl) (Nat.le_of_ble_eq_true rfl) (Nat.le_of_ble_eq_true rfl) (Nat.le_of_ble_eq_true rfl) dX2_drawYears_70 ?_
            refine r_callV (pc := 73) (As := [_, _]) mv_X5_endLife ml_X2_130 (c5_endLife hp2 hv2 (by omega) _) (pt_is hp2) rfl rfl (Nat.le_of_ble_eq_true rfl) (Nat.le_of_ble_eq_true rfl) (Nat.le_of_ble_eq_true rfl) (Nat.le_of_ble_eq_true rfl) (Nat.le_of_ble_eq_true rfl) dX2_drawYears_73 (fun r h4 hp => ?_)
            obtain ⟨rfl, f4, hv4⟩ := hp
            show Wp E mX2_drawYears _ _ _ _ [] _ 0 0
            have edie : (if C.1 (14 + k) = 0 then va_up (va_up C.1 (8 + k) (-1)) (32 + k) (-1) else va_up (va_up C.1 (8 + k) (lowO (C.1 (14 + k)))) (14 + k) (C.1 (14 + k) &&& ((1 : Int32) <<< (lowO (C.1 (14 + k)) &&& 31) ^^^ -1))) = dieR C.1 k (nI (lowest (C.1 (14 + k)) 9)) ∧ ((nI (lowest (C.1 (14 + k)) 9) = 9 ∧ C.1 (14 + k) = 0) ∨ (¬ nI (lowest (C.1 (14 + k)) 9) = 9 ∧ inN (nI (lowest (C.1 (14 + k)) 9)) 10 = true ∧ isB (C.1 (14 + k)) (nI (lowest (C.1 (14 + k)) 9)) = true)) := by
              by_cases hy0 : y = 0
              · have e0 : C.1 (14 + k) = 0 := by rw [ey, hy0]; rfl
                have e1 : nI (lowest (C.1 (14 + k)) 9) = 9 := by rw [e0, low0]; rfl
                refine ⟨?_, Or.inl ⟨e1, e0⟩⟩
                rw [← endR_die (Or.inl ⟨e1, e0⟩) (by omega), if_pos e0, if_pos e0]
              · obtain ⟨l1, l2⟩ := low9 y hy hy0
                have e0 : ¬ C.1 (14 + k) = 0 := by rw [ey]; exact nI_ne0 (by omega) (by omega)
                have e1 : ¬ nI (lowest (C.1 (14 + k)) 9) = 9 := by
                  rw [ey]; intro z
                  have := nI_inj (b := 9) (by omega) (by decide) z
                  omega
                have e2 : lowO (C.1 (14 + k)) = nI (lowest (C.1 (14 + k)) 9) := by unfold lowO; rw [ey, if_pos l1]
                refine ⟨?_, Or.inr ⟨e1, ?_, ?_⟩⟩
                · rw [e2, ← endR_die (Or.inr ⟨e1, e0⟩) (by omega)]
                · rw [ey, inN_nI (by omega)]; exact decide_eq_true (by omega)
                · rw [ey, isB9 y hy _ l1]; exact l2
            rw [edie.1] at hv4
            have fr4 : Fr (dyS x p) h h4 := fr2.tr (f4.mono (fun a j z => (Or.inr z : dyS x p a j)))
            refine r_iinc (pc := 76) (v := _ + (1)) (lv' := [(0, _), (1, _), (2, _), (3, _), (4, _), (5, _), (6, _)]) 4 dX2_drawYears_76 rfl rfl (Nat.le_of_ble_eq_true rfl) rfl ?_
            refine goes h4 _ fr4 ?_ (by rw [eS])
            rw [eS]
            exact ⟨hv4, hrwh.die (by omega) edie.2, dieR_Y hRY (by omega) _, sdN s1, sdN_lt s1, (f4.I (by unfold ptW; unfold pOf at hpx; omega)).trans es2, esd⟩
    · intro hh fr hD
      have hvh := hD.1
      have hn0 := hD.2.1.1
      have hch := hc.dy hpx fr
      have hph := pt_of hch hpx
      refine r_iload (pc := 32) 6 dX2_drawYears_32 rfl ?_
      refine r_aload_n (pc := 34) 1 dX2_drawYears_34 rfl ?_
      refine r_getI (pc := 35) fl_X2_116 (pt_is hph) dX2_drawYears_35 ?_
      rw [pv_0 hvh, hn0]
      refine r_icmp_ge (pc := 38) (tgt := 85) dX2_drawYears_38 (by decide) (fun c_38 => ?_) (fun c_38 => ?_)
      · exact kk hh fr hD
      · exact absurd (Int32.le_refl _) c_38
  have fin : ∀ (hh : Hp) (yr : Int32), Fr (dyS x p) h hh → DyI hh x p r nc ns (yrY fo nc T0 n) → Wp E mX2_drawYears (Rm 4 0 0) (Qm E (fun v h' => v = some (.int (yrY fo nc T0 n).2.2) ∧ Fr (dyS x p) h h' ∧ PtV h' p (yrY fo nc T0 n).1 ∧ RwOK (yrY fo nc T0 n).1 nc ns) 0 0) 99 [(0, .ref (x + 90)), (1, .ref p), (2, .int (nI s)), (3, .int (nI n)), (4, .int (yrY fo nc T0 n).2.2), (5, .int yr)] [] hh 0 0 := by
    intro hh yr fr hD
    refine r_iload (pc := 99) 4 dX2_drawYears_99 rfl ?_
    refine r_iret (pc := 101) rfl ?_ (Nat.le_of_ble_eq_true rfl) (Nat.le_of_ble_eq_true rfl) dX2_drawYears_101
    exact ⟨rfl, fr, hD.1, hD.2.1⟩
  have years : ∀ yr, yr ≤ n → ∀ hh, Fr (dyS x p) h hh → DyI hh x p r nc ns (yrY fo nc T0 yr) → Wp E mX2_drawYears (Rm 4 0 0) (Qm E (fun v h' => v = some (.int (yrY fo nc T0 n).2.2) ∧ Fr (dyS x p) h h' ∧ PtV h' p (yrY fo nc T0 n).1 ∧ RwOK (yrY fo nc T0 n).1 nc ns) 0 0) 11 [(0, .ref (x + 90)), (1, .ref p), (2, .int (nI s)), (3, .int (nI n)), (4, .int (yrY fo nc T0 yr).2.2), (5, .int (nI yr))] [] hh 0 0 := by
    refine upTo (fun yr hyr ih => ?_) ?_
    · intro hh fr hD
      have hvh := hD.1
      have hch := hc.dy hpx fr
      have hph := pt_of hch hpx
      refine r_iload (pc := 11) 5 dX2_drawYears_11 rfl ?_
      refine r_iload_n (pc := 13) 3 dX2_drawYears_13 rfl ?_
      refine r_icmp_ge (pc := 14) (tgt := 99) dX2_drawYears_14 (by decide) (fun c_14 => ?_) (fun c_14 => ?_)
      · exact absurd c_14 (nI_ge hyr (by omega))
      · refine r_aload_n (pc := 17) 1 dX2_drawYears_17 rfl ?_
        refine r_getR (pc := 18) fl_X2_113 (pt_is hph) (pt_f10 hph) dX2_drawYears_18 ?_
        refine r_iconst (pc := 21) (0) dX2_drawYears_21 rfl ?_
        refine r_iald (pc := 22) (j := 0) (pt_r10 hph) rfl (by decide) (by decide) dX2_drawYears_22 ?_
        rw [pv_te hvh (show 0 < 3 by decide)]
        refine r_sipush (pc := 23) (999) dX2_drawYears_23 rfl ?_
        refine r_icmp_ge (pc := 26) (tgt := 99) dX2_drawYears_26 (by decide) (fun c_26 => ?_) (fun c_26 => ?_)
        · have hst : ¬ (yrY fo nc T0 yr).1 5 < 999 := fun z => absurd (Int32.lt_of_lt_of_le z c_26) Int32.lt_irrefl
          have e1 := yrY_stop hst (n - yr)
          rw [show yr + (n - yr) = n by omega] at e1
          rw [← e1] at hD ⊢
          exact fin hh _ fr hD
        · have hlt : (yrY fo nc T0 yr).1 5 < 999 := Int32.not_le.mp c_26
          have e9 : yrY fo nc T0 (yr + 1) = yrN fo nc (yrY fo nc T0 yr) := by rw [yrY, if_pos hlt]
          rw [e9] at ih
          generalize yrY fo nc T0 yr = T at *
          refine r_iconst (pc := 29) (0) dX2_drawYears_29 rfl ?_
          refine r_istore (pc := 30) (lv' := [(0, _), (1, _), (2, _), (3, _), (4, _), (5, _), (6, _)]) dX2_drawYears_30 (Nat.le_of_ble_eq_true rfl) rfl ?_
          refine cats (nI yr) T ?_ 0 (by omega) hh fr hD
          intro h2 fr2 hD2
          obtain ⟨hv2, hrw2, hRY2, s2, hs2, es2, et2⟩ := hD2
          have hc2 := hc.dy hpx fr2
          have hp2 := pt_of hc2 hpx
          have h3C : (yrC fo T nc).1 3 = nI nl := (hRY2 3 (by omega)).trans h3
          have hlw2 : LwA h2 p (yrC fo T nc).1 nl lw := hlw.dy hpx fr2 (hRY2 4 (by omega))
          have hfo2 := hfo.dy hpx fr2
          have h5 : (yrC fo T nc).1 5 = T.1 5 := by
            have : ∀ k, k ≤ nc → (yrC fo T k).1 5 = T.1 5 := by
              intro k
              induction k with
              | zero => intro _; rfl
              | succ k IH =>
                intro hk
                show (yrS fo (yrC fo T k) k).1 5 = _
                unfold yrS
                split
                · split
                  · show dieR _ _ _ 5 = _
                    rw [dieR_eq, va_up_ne _ _ (by omega), va_up_ne _ _ (by omega), va_up_ne _ _ (by omega)]
                    exact IH (by omega)
                  · exact IH (by omega)
                · exact IH (by omega)
            exact this nc (Nat.le_refl _)
          have hne9 : ¬ (yrC fo T nc).1 5 = 999 := by
            rw [h5]; intro z; rw [z] at hlt; exact absurd hlt (by decide)
          refine r_aload_n (pc := 85) 1 dX2_drawYears_85 rfl ?_
          refine r_aload_n (pc := 86) 0 dX2_drawYears_86 rfl ?_
          refine r_getR (pc := 87) fl_X2_9 (ca_90 hc2) (cf_90_0 hc2) dX2_drawYears_87 ?_
          refine r_callV (pc := 90) (As := [_]) mv_X5_passYear ml_X2_133 (c5_passYear hc2 hpx hv2 hrw2 h3C hl6 hlw2 hfo2) (pt_is hp2) rfl rfl (Nat.le_of_ble_eq_true rfl) (Nat.le_of_ble_eq_true rfl) (Nat.le_of_ble_eq_true rfl) (Nat.le_of_ble_eq_true rfl) (Nat.le_of_ble_eq_true rfl) dX2_drawYears_90 (fun r h4 hp => ?_)
          obtain ⟨rfl, f4, hv4⟩ := hp
          show Wp E mX2_drawYears _ _ _ _ [] _ 0 0
          have fr4 : Fr (dyS x p) h h4 := fr2.tr (f4.mono (fun a j z => z.elim (fun w => (Or.inl (Or.inl w) : dyS x p a j)) (fun w => (Or.inr w : dyS x p a j))))
          refine r_iinc (pc := 93) (v := _ + (1)) (lv' := [(0, _), (1, _), (2, _), (3, _), (4, _), (5, _), (6, _)]) 5 dX2_drawYears_93 rfl rfl (Nat.le_of_ble_eq_true rfl) rfl ?_
          refine r_goto (pc := 96) (tgt := 11) dX2_drawYears_96 (by decide) ?_
          refine r_sub [0, 1, 2, 3, 4, 5] rfl ?_
          rw [nI_1]
          exact ih h4 fr4 ⟨hv4, hrw2.pass fo hne9, passR_Y hRY2 h6, s2, hs2, (f4.I (by unfold pyS akS ptW; unfold pOf at hpx; omega)).trans es2, et2⟩
    · intro hh fr hD
      refine r_iload (pc := 11) 5 dX2_drawYears_11 rfl ?_
      refine r_iload_n (pc := 13) 3 dX2_drawYears_13 rfl ?_
      refine r_icmp_ge (pc := 14) (tgt := 99) dX2_drawYears_14 (by decide) (fun c_14 => ?_) (fun c_14 => ?_)
      · exact fin hh _ fr hD
      · exact absurd (Int32.le_refl _) c_14
  have fs : Fr (dyS x p) h (wI h (x + 90) 6 (nI s)) := Fr.wI (by unfold dyS foS; omega)
  have e0 : yrY fo nc T0 0 = (r, lN s, 0) := hT0.symm
  have h0 := years 0 (by omega) _ fs (by
    rw [e0]
    exact ⟨hv.fr (S := fun a k => a = x + 90 ∧ k = 6) (Fr.wI ⟨rfl, rfl⟩) (fun i k hi => by unfold pOf at hpx; omega), hrw, fun _ _ => rfl, s, hs, hI_at, rfl⟩)
  rw [e0] at h0
  exact h0
end FORT5
