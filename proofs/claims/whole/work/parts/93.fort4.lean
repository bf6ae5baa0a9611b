/-! the class: how likely a cat lasts -/
section FORT4
variable {E : En} {h : Hp} {x p : Nat} {r : Nat → Int32}
theorem pcN_mono {y : Nat} {a : Nat} : ∀ j, pcN y a ≤ pcN y (a + j)
  | 0 => Nat.le_refl _
  | j + 1 => Nat.le_trans (pcN_mono j) (by show pcN y (a + j) ≤ pcN y (a + j) + _; omega)
theorem dgN_stop {fo : Option (List Cl)} {k y l : Nat} (hy : y < 511) (hl : (dgN r fo k y l).1 = 9) : ∀ j, l + j ≤ 9 → dgN r fo k y (l + j) = dgN r fo k y l
  | 0, _ => rfl
  | j + 1, hj => by
    have ih := dgN_stop hy hl j (by omega)
    show dgN r fo k y (l + j + 1) = _
    rw [dgN]
    split
    · next hb =>
      have h1 := dgN_pc (r := r) (fo := fo) (c := k) (y := y) l
      have h2 : pcN y (l + j + 1) = pcN y (l + j) + 1 := by rw [pcN, if_pos hb]
      have h3 := pcN_mono (y := y) (a := l) j
      have h4 := pcN_mono (y := y) (a := l + j + 1) (9 - (l + j + 1))
      rw [show l + j + 1 + (9 - (l + j + 1)) = 9 by omega] at h4
      have h8 := pc_le8 y hy
      omega
    · exact ih
theorem c2_askInTurn (hc : CS E h x) (hpx : pOf x p) (hv : PtV h p r) {n ns nl : Nat} (hrw : RwOK r n ns) (h3 : r 3 = nI nl) (hl6 : nl ≤ 6) {lw : Option Nat} {fo : Option (List Cl)} (hlw : LwA h p r nl lw) (hfo : FoL E h x fo lw) {k li y : Nat} (hk : k < 6) (eli : r (8 + k) = nI li) (hli : li < 9) (ey : r (14 + k) = nI y) (hy : y < 511) : Ct E 3 0 0 mX2_askInTurn [.ref (x + 90), .ref p, .int (nI k)] h (fun v h' => v = some (.int (nI (dgN r fo k y 9).1)) ∧ Fr (foS x) h h' ∧ ∀ i, i < (dgN r fo k y 9).1 → hI h' (x + 94) i = (dgN r fo k y 9).2 i) := by
  have hp := pt_of hc hpx
  have h8 := pc_le8 y hy
  have hdg := dgN_pc (r := r) (fo := fo) (c := k) (y := y)
  obtain ⟨d, hd10, ed⟩ := hrw.2.2.2.2.2.2.2.2.2.1
  refine Ct.of (by decide +kernel) (Nat.le_of_ble_eq_true rfl) ?_
  refine r_aload_n (pc := 0) 1 dX2_askInTurn_0 rfl ?_
  refine r_iload_n (pc := 1) 2 dX2_askInTurn_1 rfl ?_
  refine r_dV (pc := 2) (As := [_]) mv_X5_spentBy ml_X2_64 (c5_spentBy hp hv hk (by omega) ey) (pt_is hp) rfl rfl (Nat.le_of_ble_eq_true rfl) (Nat.le_of_ble_eq_true rfl) (Nat.le_of_ble_eq_true rfl) (Nat.le_of_ble_eq_true rfl) (Nat.le_of_ble_eq_true rfl) dX2_askInTurn_2 ?_
  refine r_istore_n (pc := 5) (lv' := [(0, _), (1, _), (2, _), (3, _)]) dX2_askInTurn_5 (Nat.le_of_ble_eq_true rfl) rfl ?_
  refine r_aload_n (pc := 6) 0 dX2_askInTurn_6 rfl ?_
  refine r_getR (pc := 7) fl_X2_9 (ca_90 hc) (cf_90_0 hc) dX2_askInTurn_7 ?_
  refine r_aload_n (pc := 10) 1 dX2_askInTurn_10 rfl ?_
  refine r_iload_n (pc := 11) 2 dX2_askInTurn_11 rfl ?_
  refine r_callV (pc := 12) (As := [_, _]) mv_X0_about ml_X2_68 (c0_about hc hpx hv hk (by omega) ey h3 hl6 hlw) (ca_37 hc) rfl rfl (Nat.le_of_ble_eq_true rfl) (Nat.le_of_ble_eq_true rfl) (Nat.le_of_ble_eq_true rfl) (Nat.le_of_ble_eq_true rfl) (Nat.le_of_ble_eq_true rfl) dX2_askInTurn_12 (fun r h2 hp => ?_)
  obtain ⟨rfl, f2, ha2⟩ := hp
  show Wp E mX2_askInTurn _ _ _ _ [] _ 0 0
  rw [eli] at ha2
  have fr2 : Fr (foS x) h h2 := f2.mono (fun _ _ => ak_fo)
  have hc2 := hc.fo fr2
  refine r_aload_n (pc := 15) 0 dX2_askInTurn_15 rfl ?_
  refine r_getR (pc := 16) fl_X2_26 (ca_90 hc2) (cf_90_4 hc2) dX2_askInTurn_16 ?_
  refine r_iconst (pc := 19) (0) dX2_askInTurn_19 rfl ?_
  refine r_aload_n (pc := 20) 0 dX2_askInTurn_20 rfl ?_
  refine r_getR (pc := 21) fl_X2_9 (ca_90 hc2) (cf_90_0 hc2) dX2_askInTurn_21 ?_
  refine r_sipush (pc := 24) (264) dX2_askInTurn_24 rfl ?_
  refine r_callV (pc := 27) (As := [_]) mv_X0_tells ml_X2_77 (ask_at (hd := 1) (on := 0) hc2 ha2 (Int32.add_zero _).symm (hfo.fo fr2) hli hd10 ed (by decide)) (ca_37 hc2) rfl rfl (Nat.le_of_ble_eq_true rfl) (Nat.le_of_ble_eq_true rfl) (Nat.le_of_ble_eq_true rfl) (Nat.le_of_ble_eq_true rfl) (Nat.le_of_ble_eq_true rfl) dX2_askInTurn_27 (fun r h3 hp => ?_)
  obtain ⟨rfl, hr3⟩ := hp
  show Wp E mX2_askInTurn _ _ _ _ [.int _, .int _, .ref _] _ 0 0
  rw [tell_dare]
  have ha3 := ha2.rk hr3
  have fr3 := fr2.tr (hr3.ak.mono (fun _ _ => ak_fo))
  have hc3 := hc.fo fr3
  refine r_iast (pc := 30) (j := 0) (cr_94 hc3) rfl (by decide) (by decide) dX2_askInTurn_30 ?_
  refine r_iconst (pc := 31) (1) dX2_askInTurn_31 rfl ?_
  refine r_istore (pc := 32) (lv' := [(0, _), (1, _), (2, _), (3, _), (4, _)]) dX2_askInTurn_32 (Nat.le_of_ble_eq_true rfl) rfl ?_
  refine r_iconst (pc := 34) (0) dX2_askInTurn_34 rfl ?_
  refine r_istore (pc := 35) (lv' := [(0, _), (1, _), (2, _), (3, _), (4, _), (5, _)]) dX2_askInTurn_35 (Nat.le_of_ble_eq_true rfl) rfl ?_
  have f34 : Fr (fun a _ => a = x + 94) h3 (wI h3 (x + 94) 0 (dareF r fo k (nI li) (spentF r k))) := Fr.wI rfl
  have fin : ∀ (l : Nat) (hh : Hp), l ≤ 9 → (dgN r fo k y 9) = dgN r fo k y l → Fr (foS x) h hh → (∀ i, i < (dgN r fo k y l).1 → hI hh (x + 94) i = (dgN r fo k y l).2 i) → Wp E mX2_askInTurn (Rm 3 0 0) (Qm E (fun v h' => v = some (.int (nI (dgN r fo k y 9).1)) ∧ Fr (foS x) h h' ∧ ∀ i, i < (dgN r fo k y 9).1 → hI h' (x + 94) i = (dgN r fo k y 9).2 i) 0 0) 104 [(0, .ref (x + 90)), (1, .ref p), (2, .int (nI k)), (3, .int (spentF r k)), (4, .int (nI (dgN r fo k y l).1)), (5, .int (nI l))] [] hh 0 0 := by
    intro l hh hl he fr hd
    refine r_iload (pc := 104) 4 dX2_askInTurn_104 rfl ?_
    refine r_iret (pc := 106) rfl ?_ (Nat.le_of_ble_eq_true rfl) (Nat.le_of_ble_eq_true rfl) dX2_askInTurn_106
    rw [he]
    exact ⟨rfl, fr, hd⟩
  have loop : ∀ l, l ≤ 9 → ∀ (hh : Hp) (b1 b2 : Int32), Fr (foS x) h hh → Ask hh x (wdF r k b1 b2 (r (32 + k)) (r 5)) (r 6) lw → (∀ i, i < (dgN r fo k y l).1 → hI hh (x + 94) i = (dgN r fo k y l).2 i) → Wp E mX2_askInTurn (Rm 3 0 0) (Qm E (fun v h' => v = some (.int (nI (dgN r fo k y 9).1)) ∧ Fr (foS x) h h' ∧ ∀ i, i < (dgN r fo k y 9).1 → hI h' (x + 94) i = (dgN r fo k y 9).2 i) 0 0) 37 [(0, .ref (x + 90)), (1, .ref p), (2, .int (nI k)), (3, .int (spentF r k)), (4, .int (nI (dgN r fo k y l).1)), (5, .int (nI l))] [] hh 0 0 := by
    refine upTo (fun l hl ih => ?_) ?_
    · intro hh b1 b2 fr ha hd
      have hch := hc.fo fr
      have hph := pt_of hch hpx
      have hvh := hv.fo hpx fr
      have hd1 := hdg l
      have hm1 := pcN_mono (y := y) (a := l) (9 - l)
      rw [show l + (9 - l) = 9 by omega] at hm1
      refine r_iload (pc := 37) 5 dX2_askInTurn_37 rfl ?_
      refine r_bipush (pc := 39) (9) dX2_askInTurn_39 rfl ?_
      refine r_icmp_ge (pc := 41) (tgt := 104) dX2_askInTurn_41 (by decide) (fun c_41 => ?_) (fun c_41 => ?_)
      · exact absurd c_41 (nI_ge (b := 9) hl (by decide))
      · refine r_iload (pc := 44) 4 dX2_askInTurn_44 rfl ?_
        refine r_bipush (pc := 46) (9) dX2_askInTurn_46 rfl ?_
        refine r_icmp_ge (pc := 48) (tgt := 104) dX2_askInTurn_48 (by decide) (fun c_48 => ?_) (fun c_48 => ?_)
        · have h9 : (dgN r fo k y l).1 = 9 := by
            rcases Nat.lt_or_ge (dgN r fo k y l).1 9 with z | z
            · exact absurd c_48 (nI_ge z (by decide))
            · omega
          have := dgN_stop hy h9 (9 - l) (by omega)
          rw [show l + (9 - l) = 9 by omega] at this
          exact fin l hh (by omega) this fr hd
        · have h9 : (dgN r fo k y l).1 < 9 := by
            rcases Nat.lt_or_ge (dgN r fo k y l).1 9 with z | z
            · exact z
            · exact absurd (nI_le z (by omega)) c_48
          refine r_aload_n (pc := 51) 1 dX2_askInTurn_51 rfl ?_
          refine r_getR (pc := 52) fl_X2_36 (pt_is hph) (pt_f2 hph) dX2_askInTurn_52 ?_
          refine r_iload_n (pc := 55) 2 dX2_askInTurn_55 rfl ?_
          refine r_iald (pc := 56) (j := k) (pt_r2 hph) rfl (by omega) (by decide) dX2_askInTurn_56 ?_
          rw [pv_ye hvh hk, ey]
          refine r_iload (pc := 57) 5 dX2_askInTurn_57 rfl ?_
          refine r_dN (pc := 59) (As := [_, _]) ms_X11_hasBit mk_X2_46 (ct_hasBit _ _) rfl rfl (Nat.le_of_ble_eq_true rfl) (Nat.le_of_ble_eq_true rfl) (Nat.le_of_ble_eq_true rfl) (Nat.le_of_ble_eq_true rfl) (Nat.le_of_ble_eq_true rfl) dX2_askInTurn_59 ?_
          refine r_if_eq (pc := 62) (tgt := 98) dX2_askInTurn_62 (by decide) (fun c_62 => ?_) (fun c_62 => ?_)
          · rw [isB9 y (by omega) l hl] at c_62
            have e9 : dgN r fo k y (l + 1) = dgN r fo k y l := by rw [dgN, if_neg (by rw [bI_0.mp c_62]; decide)]
            rw [e9] at ih
            refine r_iinc (pc := 98) (v := _ + (1)) (lv' := [(0, _), (1, _), (2, _), (3, _), (4, _), (5, _)]) 5 dX2_askInTurn_98 rfl rfl (Nat.le_of_ble_eq_true rfl) rfl ?_
            refine r_goto (pc := 101) (tgt := 37) dX2_askInTurn_101 (by decide) ?_
            rw [nI_1]; exact ih hh b1 b2 fr ha hd
          · rw [isB9 y (by omega) l hl] at c_62
            have e9 : dgN r fo k y (l + 1) = ((dgN r fo k y l).1 + 1, va_up (dgN r fo k y l).2 (dgN r fo k y l).1 (dareF r fo k (nI l) (spentF r k + nI (dgN r fo k y l).1))) := by rw [dgN, if_pos (bI_n0.mp c_62)]
            rw [e9] at ih
            refine r_aload_n (pc := 65) 0 dX2_askInTurn_65 rfl ?_
            refine r_getR (pc := 66) fl_X2_9 (ca_90 hch) (cf_90_0 hch) dX2_askInTurn_66 ?_
            refine r_iload (pc := 69) 5 dX2_askInTurn_69 rfl ?_
            refine r_iload_n (pc := 71) 3 dX2_askInTurn_71 rfl ?_
            refine r_iload (pc := 72) 4 dX2_askInTurn_72 rfl ?_
            refine r_iadd (pc := 74) dX2_askInTurn_74 ?_
            refine r_dV0 (pc := 75) (As := [_, _]) mv_X0_atLife ml_X2_73 (c0_atLife hch _ _) (ca_37 hch) rfl rfl (Nat.le_of_ble_eq_true rfl) (Nat.le_of_ble_eq_true rfl) (Nat.le_of_ble_eq_true rfl) (Nat.le_of_ble_eq_true rfl) (Nat.le_of_ble_eq_true rfl) dX2_askInTurn_75 ?_
            have ha3 := ((ha.w 1 (nI l)).w 2 (spentF r k + nI (dgN r fo k y l).1)).cg (wdF_life (l2 := nI l) (s2 := spentF r k + nI (dgN r fo k y l).1))
            have g3 : Fr (foS x) hh (wI (wI hh (x + 38) 1 (nI l)) (x + 38) 2 (spentF r k + nI (dgN r fo k y l).1)) := Fr.tr (Fr.wI (by unfold foS akS; omega)) (Fr.wI (by unfold foS akS; omega))
            have hd3 : ∀ i, hI (wI (wI hh (x + 38) 1 (nI l)) (x + 38) 2 (spentF r k + nI (dgN r fo k y l).1)) (x + 94) i = hI hh (x + 94) i := fun i => by rw [hI_ne (by omega), hI_ne (by omega)]
            generalize wI (wI hh (x + 38) 1 (nI l)) (x + 38) 2 (spentF r k + nI (dgN r fo k y l).1) = h5 at ha3 g3 hd3 ⊢
            have fr5 := fr.tr g3
            have hc5 := hc.fo fr5
            refine r_aload_n (pc := 78) 0 dX2_askInTurn_78 rfl ?_
            refine r_getR (pc := 79) fl_X2_26 (ca_90 hc5) (cf_90_4 hc5) dX2_askInTurn_79 ?_
            refine r_iload (pc := 82) 4 dX2_askInTurn_82 rfl ?_
            refine r_aload_n (pc := 84) 0 dX2_askInTurn_84 rfl ?_
            refine r_getR (pc := 85) fl_X2_9 (ca_90 hc5) (cf_90_0 hc5) dX2_askInTurn_85 ?_
            refine r_sipush (pc := 88) (264) dX2_askInTurn_88 rfl ?_
            refine r_callV (pc := 91) (As := [_]) mv_X0_tells ml_X2_77 (ask_at (hd := 1) (on := 0) hc5 ha3 (Int32.add_zero _).symm (hfo.fo fr5) hl hd10 ed (by decide)) (ca_37 hc5) rfl rfl (Nat.le_of_ble_eq_true rfl) (Nat.le_of_ble_eq_true rfl) (Nat.le_of_ble_eq_true rfl) (Nat.le_of_ble_eq_true rfl) (Nat.le_of_ble_eq_true rfl) dX2_askInTurn_91 (fun r h6 hp => ?_)
            obtain ⟨rfl, hr6⟩ := hp
            show Wp E mX2_askInTurn _ _ _ _ [.int _, .int _, .ref _] _ 0 0
            rw [tell_dare]
            have ha6 := ha3.rk hr6
            have fr6 := fr5.tr (hr6.ak.mono (fun _ _ => ak_fo))
            have hc6 := hc.fo fr6
            refine r_iast (pc := 94) (j := (dgN r fo k y l).1) (cr_94 hc6) rfl (by omega) (by decide) dX2_askInTurn_94 ?_
            refine r_iinc (pc := 95) (v := _ + (1)) (lv' := [(0, _), (1, _), (2, _), (3, _), (4, _), (5, _)]) 4 dX2_askInTurn_95 rfl rfl (Nat.le_of_ble_eq_true rfl) rfl ?_
            refine r_iinc (pc := 98) (v := _ + (1)) (lv' := [(0, _), (1, _), (2, _), (3, _), (4, _), (5, _)]) 5 dX2_askInTurn_98 rfl rfl (Nat.le_of_ble_eq_true rfl) rfl ?_
            refine r_goto (pc := 101) (tgt := 37) dX2_askInTurn_101 (by decide) ?_
            rw [nI_1, nI_1]
            have f67 : Fr (fun a _ => a = x + 94) h6 (wI h6 (x + 94) (dgN r fo k y l).1 (dareF r fo k (nI l) (spentF r k + nI (dgN r fo k y l).1))) := Fr.wI rfl
            refine ih _ _ _ (fr6.tr (f67.mono (fun a j z => (Or.inr (Or.inl (by omega)) : foS x a j)))) (ha6.fr f67 (fun j => by omega) (by omega) (by omega)) (fun i hi => ?_)
            by_cases hid : i = (dgN r fo k y l).1
            · rw [hid, hI_at]
              show _ = va_up _ _ _ _
              rw [va_up_self]
            · rw [hI_ne (by omega)]
              show _ = va_up _ _ _ _
              rw [va_up_ne _ _ hid, hr6.fr.I (by unfold rkS; omega), hd3]
              have hi2 : i < (dgN r fo k y l).1 + 1 := hi
              exact hd i (by omega)
    · intro hh b1 b2 fr ha hd
      refine r_iload (pc := 37) 5 dX2_askInTurn_37 rfl ?_
      refine r_bipush (pc := 39) (9) dX2_askInTurn_39 rfl ?_
      refine r_icmp_ge (pc := 41) (tgt := 104) dX2_askInTurn_41 (by decide) (fun c_41 => ?_) (fun c_41 => ?_)
      · exact fin 9 hh (by omega) rfl fr hd
      · exact absurd (show (9 : Int32) ≤ nI 9 by decide) c_41
  refine loop 0 (by omega) _ _ _ (fr3.tr (f34.mono (fun a j z => (Or.inr (Or.inl (by omega)) : foS x a j)))) (ha3.fr f34 (fun j => by omega) (by omega) (by omega)) (fun i hi => ?_)
  have hi2 : i < 1 := hi
  rw [show i = 0 by omega, hI_at, dgN]
  show _ = va_up (fun _ => (0 : Int32)) 0 (dareF r fo k (r (8 + k)) (spentF r k)) 0
  rw [va_up_self, eli]
theorem lkS_dg {dg dg' : Nat → Int32} : ∀ (t : Nat) (q : Nat → Int64), (∀ i, i < t → dg i = dg' i) → lkS dg q t = lkS dg' q t
  | 0, _, _ => rfl
  | t + 1, q, he => by rw [lkS, lkS, he t (by omega), lkS_dg t _ (fun i hi => he i (by omega))]
theorem lkS_cg {dg : Nat → Int32} : ∀ (t : Nat) (q q' : Nat → Int64), t ≤ 9 → (∀ i, i < 10 → q i = q' i) → ∀ i, i < 10 → lkS dg q t i = lkS dg q' t i
  | 0, _, _, _, he, i, hi => he i hi
  | t + 1, q, q', ht, he, i, hi => by
    rw [lkS, lkS]
    refine lkS_cg t _ _ (by omega) (fun j hj => ?_) i hi
    rw [he t (by omega), he (t + 1) (by omega)]
    by_cases h1 : j = t + 1
    · subst h1; rw [va_up_self, va_up_self]
    · rw [va_up_ne _ _ h1, va_up_ne _ _ h1]
      by_cases h2 : j = t
      · subst h2; rw [va_up_self, va_up_self]
      · rw [va_up_ne _ _ h2, va_up_ne _ _ h2]; exact he j hj
theorem sumN_cg {f g : Nat → Int64} : ∀ t, (∀ i, i < t → f i = g i) → sumN f t = sumN g t
  | 0, _ => rfl
  | t + 1, he => by rw [sumN, sumN, sumN_cg t (fun i hi => he i (by omega)), he t (by omega)]
theorem c2_chanceToLast (hc : CS E h x) (hpx : pOf x p) (hv : PtV h p r) {nc ns nl : Nat} (hrw : RwOK r nc ns) (h3 : r 3 = nI nl) (hl6 : nl ≤ 6) {lw : Option Nat} {fo : Option (List Cl)} (hlw : LwA h p r nl lw) (hfo : FoL E h x fo lw) {k li y n : Nat} (hk : k < 6) (eli : r (8 + k) = nI li) (hli : li < 9) (ey : r (14 + k) = nI y) (hy : y < 511) (hn : n ≤ 60) : Ct E 4 0 0 mX2_chanceToLast [.ref (x + 90), .ref p, .int (nI k), .int (nI n)] h (fun v h' => v = some (.long (sumN (lkN (dgN r fo k y 9).2 (dgN r fo k y 9).1 n) (dgN r fo k y 9).1)) ∧ Fr (foS x) h h') := by
  have hdg := dgN_pc (r := r) (fo := fo) (c := k) (y := y) 9
  have h8 := pc_le8 y hy
  refine Ct.of (by decide +kernel) (Nat.le_of_ble_eq_true rfl) ?_
  refine r_aload_n (pc := 0) 0 dX2_chanceToLast_0 rfl ?_
  refine r_aload_n (pc := 1) 1 dX2_chanceToLast_1 rfl ?_
  refine r_iload_n (pc := 2) 2 dX2_chanceToLast_2 rfl ?_
  refine r_callV (pc := 3) (As := [_, _]) mv_X2_askInTurn ml_X2_103 (c2_askInTurn hc hpx hv hrw h3 hl6 hlw hfo hk eli hli ey hy) (ca_90 hc) rfl rfl (Nat.le_of_ble_eq_true rfl) (Nat.le_of_ble_eq_true rfl) (Nat.le_of_ble_eq_true rfl) (Nat.le_of_ble_eq_true rfl) (Nat.le_of_ble_eq_true rfl) dX2_chanceToLast_3 (fun r h2 hp => ?_)
  obtain ⟨rfl, f2, hd2⟩ := hp
  show Wp E mX2_chanceToLast _ _ _ _ [.int _] _ 0 0
  have hc2 := hc.fo f2
  generalize htt : (dgN r fo k y 9).1 = T at *
  generalize (dgN r fo k y 9).2 = dg at *
  refine r_istore (pc := 6) (lv' := [(0, _), (1, _), (2, _), (3, _), (4, _)]) dX2_chanceToLast_6 (Nat.le_of_ble_eq_true rfl) rfl ?_
  refine r_aload_n (pc := 8) 0 dX2_chanceToLast_8 rfl ?_
  refine r_getR (pc := 9) fl_X2_29 (ca_90 hc2) (cf_90_5 hc2) dX2_chanceToLast_9 ?_
  refine r_lconst (pc := 12) (0) dX2_chanceToLast_12 rfl ?_
  refine r_dS0 (pc := 13) (As := [_, _]) ms_J7_fill_d0a16 ml_X2_54 (ct_fillJ (cr_95 hc2) (by decide) 0) rfl rfl (Nat.le_of_ble_eq_true rfl) (Nat.le_of_ble_eq_true rfl) (Nat.le_of_ble_eq_true rfl) (Nat.le_of_ble_eq_true rfl) (Nat.le_of_ble_eq_true rfl) dX2_chanceToLast_13 ?_
  refine r_aload_n (pc := 16) 0 dX2_chanceToLast_16 rfl ?_
  refine r_getR (pc := 17) fl_X2_29 (ca_90 hc2) (cf_90_5 hc2) dX2_chanceToLast_17 ?_
  refine r_iconst (pc := 20) (0) dX2_chanceToLast_20 rfl ?_
  refine r_ldc2_w (pc := 21) cs_X2_107 dX2_chanceToLast_21 ?_
  refine r_last (pc := 24) (j := 0) (cr_95 hc2) rfl (by decide) (by decide) dX2_chanceToLast_24 ?_
  refine r_iconst (pc := 25) (0) dX2_chanceToLast_25 rfl ?_
  refine r_istore (pc := 26) (lv' := [(0, _), (1, _), (2, _), (3, _), (4, _), (5, _)]) dX2_chanceToLast_26 (Nat.le_of_ble_eq_true rfl) rfl ?_
  have sums : ∀ F : Nat → Int64, (∀ i, i < 10 → F i = lkN dg T n i) → ∀ q, q ≤ T → Wp E mX2_chanceToLast (Rm 4 0 0) (Qm E (fun v h' => v = some (.long (sumN (lkN dg T n) T)) ∧ Fr (foS x) h h') 0 0) 124 [(0, .ref (x + 90)), (1, .ref p), (2, .int (nI k)), (3, .int (nI n)), (4, .int (nI T)), (5, .long (sumN F q)), (7, .int (nI q))] [] (wRowJ h2 (x + 95) F) 0 0 := by
    intro F hF
    have hc3 : CS E (wRowJ h2 (x + 95) F) x := hc2
    refine upTo (fun q hq ih => ?_) ?_
    · refine r_iload (pc := 124) 6 dX2_chanceToLast_124 rfl ?_
      refine r_iload (pc := 126) 4 dX2_chanceToLast_126 rfl ?_
      refine r_icmp_ge (pc := 128) (tgt := 149) dX2_chanceToLast_128 (by decide) (fun c_128 => ?_) (fun c_128 => ?_)
      · exact absurd c_128 (nI_ge hq (by omega))
      · refine r_lload (pc := 131) 5 dX2_chanceToLast_131 rfl ?_
        refine r_aload_n (pc := 133) 0 dX2_chanceToLast_133 rfl ?_
        refine r_getR (pc := 134) fl_X2_29 (ca_90 hc3) (cf_90_5 hc3) dX2_chanceToLast_134 ?_
        refine r_iload (pc := 137) 6 dX2_chanceToLast_137 rfl ?_
        refine r_lald (pc := 139) (j := q) (cr_95 hc3) rfl (by omega) (by decide) dX2_chanceToLast_139 ?_
        rw [wRowJ_at]
        refine r_ladd (pc := 140) dX2_chanceToLast_140 ?_
        refine r_lstore (pc := 141) (lv' := [(0, _), (1, _), (2, _), (3, _), (4, _), (5, _), (7, _)]) dX2_chanceToLast_141 (Nat.le_of_ble_eq_true rfl) rfl ?_
        refine r_iinc (pc := 143) (v := _ + (1)) (lv' := [(0, _), (1, _), (2, _), (3, _), (4, _), (5, _), (7, _)]) 6 dX2_chanceToLast_143 rfl rfl (Nat.le_of_ble_eq_true rfl) rfl ?_
        refine r_goto (pc := 146) (tgt := 124) dX2_chanceToLast_146 (by decide) ?_
        rw [nI_1]; exact ih
    · refine r_iload (pc := 124) 6 dX2_chanceToLast_124 rfl ?_
      refine r_iload (pc := 126) 4 dX2_chanceToLast_126 rfl ?_
      refine r_icmp_ge (pc := 128) (tgt := 149) dX2_chanceToLast_128 (by decide) (fun c_128 => ?_) (fun c_128 => ?_)
      · refine r_lload (pc := 149) 5 dX2_chanceToLast_149 rfl ?_
        refine r_lret (pc := 151) rfl ?_ (Nat.le_of_ble_eq_true rfl) (Nat.le_of_ble_eq_true rfl) dX2_chanceToLast_151
        refine ⟨?_, f2.tr (Fr.wRowJ (fun j => by unfold foS; omega))⟩
        rw [sumN_cg T (fun i hi => hF i (by omega))]
      · exact absurd (Int32.le_refl _) c_128
  have inner : ∀ (yr : Int32) (t : Nat), t ≤ T → ∀ F : Nat → Int64, Wp E mX2_chanceToLast (Rm 4 0 0) (Qm E (fun v h' => v = some (.long (sumN (lkN dg T n) T)) ∧ Fr (foS x) h h') 0 0) 112 [(0, .ref (x + 90)), (1, .ref p), (2, .int (nI k)), (3, .int (nI n)), (4, .int (nI T)), (5, .int yr)] [] (wRowJ h2 (x + 95) (lkS (hI h2 (x + 94)) F t)) 0 0 → Wp E mX2_chanceToLast (Rm 4 0 0) (Qm E (fun v h' => v = some (.long (sumN (lkN dg T n) T)) ∧ Fr (foS x) h h') 0 0) 40 [(0, .ref (x + 90)), (1, .ref p), (2, .int (nI k)), (3, .int (nI n)), (4, .int (nI T)), (5, .int yr), (6, .int (nI t - 1))] [] (wRowJ h2 (x + 95) F) 0 0 := by
    intro yr t
    induction t with
    | zero =>
      intro _ F kk
      refine r_iload (pc := 40) 6 dX2_chanceToLast_40 rfl ?_
      refine r_if_lt (pc := 42) (tgt := 112) dX2_chanceToLast_42 (by decide) (fun c_42 => ?_) (fun c_42 => ?_)
      · refine r_sub [0, 1, 2, 3, 4, 5] rfl ?_
        exact kk
      · exact absurd (by decide) c_42
    | succ t IH =>
      intro ht F kk
      have hc3 : CS E (wRowJ h2 (x + 95) F) x := hc2
      rw [show nI (t + 1) - 1 = nI t from nI_sub (a := t + 1) (b := 1) (by omega)]
      refine r_iload (pc := 40) 6 dX2_chanceToLast_40 rfl ?_
      refine r_if_lt (pc := 42) (tgt := 112) dX2_chanceToLast_42 (by decide) (fun c_42 => ?_) (fun c_42 => ?_)
      · exact absurd c_42 (nI_pos (by omega))
      · refine r_aload_n (pc := 45) 0 dX2_chanceToLast_45 rfl ?_
        refine r_getR (pc := 46) fl_X2_29 (ca_90 hc3) (cf_90_5 hc3) dX2_chanceToLast_46 ?_
        refine r_iload (pc := 49) 6 dX2_chanceToLast_49 rfl ?_
        refine r_lald (pc := 51) (j := t) (cr_95 hc3) rfl (by omega) (by decide) dX2_chanceToLast_51 ?_
        rw [wRowJ_at]
        refine r_lstore (pc := 52) (lv' := [(0, _), (1, _), (2, _), (3, _), (4, _), (5, _), (6, _), (7, _)]) dX2_chanceToLast_52 (Nat.le_of_ble_eq_true rfl) rfl ?_
        refine r_aload_n (pc := 54) 0 dX2_chanceToLast_54 rfl ?_
        refine r_getR (pc := 55) fl_X2_29 (ca_90 hc3) (cf_90_5 hc3) dX2_chanceToLast_55 ?_
        refine r_iload (pc := 58) 6 dX2_chanceToLast_58 rfl ?_
        refine r_lload (pc := 60) 7 dX2_chanceToLast_60 rfl ?_
        refine r_bipush (pc := 62) (10) dX2_chanceToLast_62 rfl ?_
        refine r_aload_n (pc := 64) 0 dX2_chanceToLast_64 rfl ?_
        refine r_getR (pc := 65) fl_X2_26 (ca_90 hc3) (cf_90_4 hc3) dX2_chanceToLast_65 ?_
        refine r_iload (pc := 68) 6 dX2_chanceToLast_68 rfl ?_
        refine r_iald (pc := 70) (j := t) (cr_94 hc3) rfl (by omega) (by decide) dX2_chanceToLast_70 ?_
        refine r_isub (pc := 71) dX2_chanceToLast_71 ?_
        refine r_i2l (pc := 72) dX2_chanceToLast_72 ?_
        refine r_lmul (pc := 73) dX2_chanceToLast_73 ?_
        refine r_ldc2_w (pc := 74) cs_X2_101 dX2_chanceToLast_74 ?_
        refine r_ldiv (pc := 77) dX2_chanceToLast_77 (by decide) ?_
        refine r_last (pc := 78) (j := t) (cr_95 hc3) rfl (by omega) (by decide) dX2_chanceToLast_78 ?_
        rw [wRowJ_w, show hI (wRowJ h2 (x + 95) F) (x + 94) = hI h2 (x + 94) from rfl]
        have hc4 : CS E (wRowJ h2 (x + 95) (va_up F t (F t * (10 - hI h2 (x + 94) t).toInt64 / 10))) x := hc2
        refine r_aload_n (pc := 79) 0 dX2_chanceToLast_79 rfl ?_
        refine r_getR (pc := 80) fl_X2_29 (ca_90 hc4) (cf_90_5 hc4) dX2_chanceToLast_80 ?_
        refine r_iload (pc := 83) 6 dX2_chanceToLast_83 rfl ?_
        refine r_iconst (pc := 85) (1) dX2_chanceToLast_85 rfl ?_
        refine r_iadd (pc := 86) dX2_chanceToLast_86 ?_
        refine r_dup2_11 (pc := 87) dX2_chanceToLast_87 rfl rfl ?_
        refine r_lald (pc := 88) (j := t + 1) (cr_95 hc4) (nI_1 t) (by omega) (by decide) dX2_chanceToLast_88 ?_
        rw [wRowJ_at, va_up_ne _ _ (show t + 1 ≠ t by omega)]
        refine r_lload (pc := 89) 7 dX2_chanceToLast_89 rfl ?_
        refine r_aload_n (pc := 91) 0 dX2_chanceToLast_91 rfl ?_
        refine r_getR (pc := 92) fl_X2_26 (ca_90 hc4) (cf_90_4 hc4) dX2_chanceToLast_92 ?_
        refine r_iload (pc := 95) 6 dX2_chanceToLast_95 rfl ?_
        refine r_iald (pc := 97) (j := t) (cr_94 hc4) rfl (by omega) (by decide) dX2_chanceToLast_97 ?_
        refine r_i2l (pc := 98) dX2_chanceToLast_98 ?_
        refine r_lmul (pc := 99) dX2_chanceToLast_99 ?_
        refine r_ldc2_w (pc := 100) cs_X2_101 dX2_chanceToLast_100 ?_
        refine r_ldiv (pc := 103) dX2_chanceToLast_103 (by decide) ?_
        refine r_ladd (pc := 104) dX2_chanceToLast_104 ?_
        refine r_last (pc := 105) (j := t + 1) (cr_95 hc4) (nI_1 t) (by omega) (by decide) dX2_chanceToLast_105 ?_
        refine r_iinc (pc := 106) (v := _ + (-1)) (lv' := [(0, _), (1, _), (2, _), (3, _), (4, _), (5, _), (6, _), (7, _)]) 6 dX2_chanceToLast_106 rfl rfl (Nat.le_of_ble_eq_true rfl) rfl ?_
        refine r_goto (pc := 109) (tgt := 40) dX2_chanceToLast_109 (by decide) ?_
        rw [wRowJ_w, isub_m1]
        refine r_sub [0, 1, 2, 3, 4, 5, 6] rfl ?_
        exact IH (by omega) _ kk
  have years : ∀ yr, yr ≤ n → ∀ F : Nat → Int64, (∀ i, i < 10 → F i = lkN dg T yr i) → Wp E mX2_chanceToLast (Rm 4 0 0) (Qm E (fun v h' => v = some (.long (sumN (lkN dg T n) T)) ∧ Fr (foS x) h h') 0 0) 28 [(0, .ref (x + 90)), (1, .ref p), (2, .int (nI k)), (3, .int (nI n)), (4, .int (nI T)), (5, .int (nI yr))] [] (wRowJ h2 (x + 95) F) 0 0 := by
    refine upTo (fun yr hyr ih => ?_) ?_
    · intro F hF
      refine r_iload (pc := 28) 5 dX2_chanceToLast_28 rfl ?_
      refine r_iload_n (pc := 30) 3 dX2_chanceToLast_30 rfl ?_
      refine r_icmp_ge (pc := 31) (tgt := 118) dX2_chanceToLast_31 (by decide) (fun c_31 => ?_) (fun c_31 => ?_)
      · exact absurd c_31 (nI_ge hyr (by omega))
      · refine r_iload (pc := 34) 4 dX2_chanceToLast_34 rfl ?_
        refine r_iconst (pc := 36) (1) dX2_chanceToLast_36 rfl ?_
        refine r_isub (pc := 37) dX2_chanceToLast_37 ?_
        refine r_istore (pc := 38) (lv' := [(0, _), (1, _), (2, _), (3, _), (4, _), (5, _), (6, _)]) dX2_chanceToLast_38 (Nat.le_of_ble_eq_true rfl) rfl ?_
        refine inner (nI yr) T (Nat.le_refl _) F ?_
        refine r_iinc (pc := 112) (v := _ + (1)) (lv' := [(0, _), (1, _), (2, _), (3, _), (4, _), (5, _)]) 5 dX2_chanceToLast_112 rfl rfl (Nat.le_of_ble_eq_true rfl) rfl ?_
        refine r_goto (pc := 115) (tgt := 28) dX2_chanceToLast_115 (by decide) ?_
        rw [nI_1]
        refine ih _ (fun i hi => ?_)
        rw [lkS_dg T F hd2, lkN]
        exact lkS_cg T _ _ (by omega) hF i hi
    · intro F hF
      refine r_iload (pc := 28) 5 dX2_chanceToLast_28 rfl ?_
      refine r_iload_n (pc := 30) 3 dX2_chanceToLast_30 rfl ?_
      refine r_icmp_ge (pc := 31) (tgt := 118) dX2_chanceToLast_31 (by decide) (fun c_31 => ?_) (fun c_31 => ?_)
      · refine r_lconst (pc := 118) (0) dX2_chanceToLast_118 rfl ?_
        refine r_lstore (pc := 119) (lv' := [(0, _), (1, _), (2, _), (3, _), (4, _), (5, _)]) dX2_chanceToLast_119 (Nat.le_of_ble_eq_true rfl) rfl ?_
        refine r_iconst (pc := 121) (0) dX2_chanceToLast_121 rfl ?_
        refine r_istore (pc := 122) (lv' := [(0, _), (1, _), (2, _), (3, _), (4, _), (5, _), (7, _)]) dX2_chanceToLast_122 (Nat.le_of_ble_eq_true rfl) rfl ?_
        exact sums F hF 0 (by omega)
      · exact absurd (Int32.le_refl _) c_31
  rw [wRowJ_w]
  refine years 0 (by omega) _ (fun i hi => ?_)
  rw [lkN]
  by_cases h0 : i = 0
  · subst h0; rw [va_up_self]; rfl
  · rw [va_up_ne _ _ h0]
    show flF 0 _ 10 i = if i = 0 then 1000000000000 else 0
    unfold flF; rw [if_neg h0, if_pos (by omega)]
end FORT4
