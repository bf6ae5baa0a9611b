/-! the class's own methods: what is told, what is asked of cats and ships -/
section OWN
variable {E : En} {h : Hp} {x : Nat} {r : Nat → Int32}
/-- behind an answer that is told -/
def toH (x : Nat) (h : Hp) (v : Int32) : Hp := if v < 0 then wI (wI h x 14 v) (x + 101) (-v).toNatClampNeg (hI h (x + 101) (-v).toNatClampNeg + 1) else wI h x 14 0
theorem c11_allowed (hc : CS E h x) (v : Int32) : Ct E 0 0 0 mX11_allowed [.ref x, .int v] h (po (some (.int v)) (wI h x 14 0)) := by
  refine Ct.of (by decide +kernel) (Nat.le_of_ble_eq_true rfl) ?_
  refine r_aload_n (pc := 0) 0 dX11_allowed_0 rfl ?_
  refine r_iconst (pc := 1) (0) dX11_allowed_1 rfl ?_
  refine r_putI (pc := 2) fp_X11_99 (nl_is hc) dX11_allowed_2 ?_
  refine r_iload_n (pc := 5) 1 dX11_allowed_5 rfl ?_
  refine r_iret (pc := 6) rfl ?_ (Nat.le_of_ble_eq_true rfl) (Nat.le_of_ble_eq_true rfl) dX11_allowed_6
  exact ⟨rfl, rfl⟩
theorem c11_refused (hc : CS E h x) (v : Int32) {j : Nat} (hj : j < 7) (hv : -v = nI j) (hn : v < 0) : Ct E 0 0 0 mX11_refused [.ref x, .int v] h (po (some (.int v)) (toH x h v)) := by
  refine Ct.of (by decide +kernel) (Nat.le_of_ble_eq_true rfl) ?_
  refine r_aload_n (pc := 0) 0 dX11_refused_0 rfl ?_
  refine r_iload_n (pc := 1) 1 dX11_refused_1 rfl ?_
  refine r_putI (pc := 2) fp_X11_99 (nl_is hc) dX11_refused_2 ?_
  refine r_iload_n (pc := 5) 1 dX11_refused_5 rfl ?_
  refine r_if_ge (pc := 6) (tgt := 27) dX11_refused_6 (by decide) (fun c_6 => ?_) (fun c_6 => ?_)
  · exact absurd c_6 (Int32.not_le.mpr hn)
  · refine r_iload_n (pc := 9) 1 dX11_refused_9 rfl ?_
    refine r_ineg (pc := 10) dX11_refused_10 ?_
    refine r_bipush (pc := 11) (7) dX11_refused_11 rfl ?_
    refine r_icmp_ge (pc := 13) (tgt := 27) dX11_refused_13 (by decide) (fun c_13 => ?_) (fun c_13 => ?_)
    · rw [hv] at c_13
      exact absurd c_13 (nI_ge (b := 7) hj (by decide))
    · refine r_aload_n (pc := 16) 0 dX11_refused_16 rfl ?_
      refine r_getR (pc := 17) fl_X11_85 (nl_is hc) (nl_f10 hc) dX11_refused_17 ?_
      refine r_iload_n (pc := 20) 1 dX11_refused_20 rfl ?_
      refine r_ineg (pc := 21) dX11_refused_21 ?_
      refine r_dup2_11 (pc := 22) dX11_refused_22 rfl rfl ?_
      refine r_iald (pc := 23) (j := j) (cr_101 hc) hv (by omega) (by decide) dX11_refused_23 ?_
      refine r_iconst (pc := 24) (1) dX11_refused_24 rfl ?_
      refine r_iadd (pc := 25) dX11_refused_25 ?_
      refine r_iast (pc := 26) (j := j) (cr_101 hc) hv (by omega) (by decide) dX11_refused_26 ?_
      refine r_iload_n (pc := 27) 1 dX11_refused_27 rfl ?_
      refine r_iret (pc := 28) rfl ?_ (Nat.le_of_ble_eq_true rfl) (Nat.le_of_ble_eq_true rfl) dX11_refused_28
      unfold toH
      rw [if_pos hn, hv, nI_clamp (by omega)]
      exact ⟨rfl, by rw [hI_ne (by omega)]⟩
theorem c11_told (hc : CS E h x) (v : Int32) (hv : v < 0 → ∃ j, j < 7 ∧ -v = nI j) : Ct E 1 0 0 mX11_told [.ref x, .int v] h (po (some (.int v)) (toH x h v)) := by
  refine Ct.of (by decide +kernel) (Nat.le_of_ble_eq_true rfl) ?_
  by_cases hn : v < 0
  · obtain ⟨j, hj, e⟩ := hv hn
    refine r_iload_n (pc := 0) 1 dX11_told_0 rfl ?_
    refine r_if_ge (pc := 1) (tgt := 12) dX11_told_1 (by decide) (fun c_1 => ?_) (fun c_1 => ?_)
    · exact absurd c_1 (Int32.not_le.mpr hn)
    · refine r_aload_n (pc := 4) 0 dX11_told_4 rfl ?_
      refine r_iload_n (pc := 5) 1 dX11_told_5 rfl ?_
      refine r_dV (pc := 6) (As := [_]) mv_X11_refused ml_X11_106 (c11_refused hc v hj e hn) (nl_is hc) rfl rfl (Nat.le_of_ble_eq_true rfl) (Nat.le_of_ble_eq_true rfl) (Nat.le_of_ble_eq_true rfl) (Nat.le_of_ble_eq_true rfl) (Nat.le_of_ble_eq_true rfl) dX11_told_6 ?_
      refine r_goto (pc := 9) (tgt := 17) dX11_told_9 (by decide) ?_
      refine r_iret (pc := 17) rfl ?_ (Nat.le_of_ble_eq_true rfl) (Nat.le_of_ble_eq_true rfl) dX11_told_17
      exact ⟨rfl, rfl⟩
  · refine r_iload_n (pc := 0) 1 dX11_told_0 rfl ?_
    refine r_if_ge (pc := 1) (tgt := 12) dX11_told_1 (by decide) (fun c_1 => ?_) (fun c_1 => ?_)
    · refine r_aload_n (pc := 12) 0 dX11_told_12 rfl ?_
      refine r_iload_n (pc := 13) 1 dX11_told_13 rfl ?_
      refine r_dV (pc := 14) (As := [_]) mv_X11_allowed ml_X11_120 (c11_allowed hc v) (nl_is hc) rfl rfl (Nat.le_of_ble_eq_true rfl) (Nat.le_of_ble_eq_true rfl) (Nat.le_of_ble_eq_true rfl) (Nat.le_of_ble_eq_true rfl) (Nat.le_of_ble_eq_true rfl) dX11_told_14 ?_
      refine r_iret (pc := 17) rfl ?_ (Nat.le_of_ble_eq_true rfl) (Nat.le_of_ble_eq_true rfl) dX11_told_17
      unfold toH
      rw [if_neg hn]
      exact ⟨rfl, rfl⟩
    · exact absurd (Int32.not_lt.mp hn) c_1
theorem c11_status (hc : CS E h x) : Ct E 0 0 0 mX11_status [.ref x] h (po (some (.int (hI h x 14))) h) := by
  refine Ct.of (by decide +kernel) (Nat.le_of_ble_eq_true rfl) ?_
  refine r_aload_n (pc := 0) 0 dX11_status_0 rfl ?_
  refine r_getI (pc := 1) fl_X11_99 (nl_is hc) dX11_status_1 ?_
  refine r_iret (pc := 4) rfl ?_ (Nat.le_of_ble_eq_true rfl) (Nat.le_of_ble_eq_true rfl) dX11_status_4
  exact ⟨rfl, rfl⟩
theorem c11_mice (hc : CS E h x) : Ct E 0 0 0 mX11_mice [.ref x] h (po (some (.int (hI h x 11))) h) := by
  refine Ct.of (by decide +kernel) (Nat.le_of_ble_eq_true rfl) ?_
  refine r_aload_n (pc := 0) 0 dX11_mice_0 rfl ?_
  refine r_getI (pc := 1) fl_X11_89 (nl_is hc) dX11_mice_1 ?_
  refine r_iret (pc := 4) rfl ?_ (Nat.le_of_ble_eq_true rfl) (Nat.le_of_ble_eq_true rfl) dX11_mice_4
  exact ⟨rfl, rfl⟩
theorem c11_fault (hc : CS E h x) : Ct E 0 0 0 mX11_fault [.ref x] h (po (some (.int (hI h x 12))) h) := by
  refine Ct.of (by decide +kernel) (Nat.le_of_ble_eq_true rfl) ?_
  refine r_aload_n (pc := 0) 0 dX11_fault_0 rfl ?_
  refine r_getI (pc := 1) fl_X11_93 (nl_is hc) dX11_fault_1 ?_
  refine r_iret (pc := 4) rfl ?_ (Nat.le_of_ble_eq_true rfl) (Nat.le_of_ble_eq_true rfl) dX11_fault_4
  exact ⟨rfl, rfl⟩
theorem c11_stopped (hc : CS E h x) : Ct E 0 0 0 mX11_stopped [.ref x] h (po (some (.int (hI h x 13))) h) := by
  refine Ct.of (by decide +kernel) (Nat.le_of_ble_eq_true rfl) ?_
  refine r_aload_n (pc := 0) 0 dX11_stopped_0 rfl ?_
  refine r_getI (pc := 1) fl_X11_96 (nl_is hc) dX11_stopped_1 ?_
  refine r_iret (pc := 4) rfl ?_ (Nat.le_of_ble_eq_true rfl) (Nat.le_of_ble_eq_true rfl) dX11_stopped_4
  exact ⟨rfl, rfl⟩
/-- what questions write -/
def roS (x a k : Nat) : Prop := foS x a k ∨ siS x a k
theorem fo_ro {a k : Nat} (hs : foS x a k) : roS x a k := Or.inl hs
theorem si_ro {a k : Nat} (hs : siS x a k) : roS x a k := Or.inr hs
theorem ak_ro {a k : Nat} (hs : akS x a k) : roS x a k := Or.inr (Or.inl hs)
theorem CS.ro {h1 : Hp} (hc : CS E h x) (a1 : Fr (roS x) h h1) : CS E h1 x := hc.fr a1 (fun _ _ hq z => z.elim (csP_fo hq) (csP_si hq))
/-- an answer, and but for what questions write nothing else -/
def pQ (h : Hp) (x : Nat) (v : Value) : Option Value → Hp → Prop := fun w h' => w = some v ∧ Fr (roS x) h h'
theorem alive_li {nc ns : Nat} (hrw : RwOK r nc ns) {k : Nat} (hk : k < 6) (ha : aliveF r k = true) : ∃ li, li < 9 ∧ r (8 + k) = nI li := by
  rcases (hrw.2.2.2.2.1 k hk).1 with e | e
  · unfold aliveF at ha
    exact absurd e (of_decide_eq_true ha)
  · exact e
theorem c11_askedNow {nc ns nl : Nat} {lw : Option Nat} {fo : Option (List Cl)} (hL : Lv E h x r nc ns nl lw fo) {hd k : Nat} (h3d : hd < 3) (hk : k < nc) : Ct E 3 0 0 mX11_askedNow [.ref x, .int (nI k), .int (nI (263 + hd))] h (pQ h x (.int (if aliveF r k = true then (if hd = 0 then earnF r fo k (r (8 + k)) (spentF r k) else if hd = 1 then dareF r fo k (r (8 + k)) (spentF r k) else showF r fo k (r (8 + k)) (spentF r k) 0) else -1))) := by
  obtain ⟨hc, hv, hrw, ⟨h3, hl6⟩, hlw, hfo⟩ := hL
  obtain ⟨hn, h6, hns, hs3, -⟩ := id hrw
  have hp := cs_pt3 hc
  have hpx : pOf x (x + 3) := Or.inl rfl
  obtain ⟨y, hy, ey⟩ := rw_y hrw (show k < 6 by omega)
  obtain ⟨d, hd10, ed⟩ := hrw.2.2.2.2.2.2.2.2.2.1
  have eh : hereB r nc (nI k) = aliveF r k := by unfold hereB; rw [inN_nI (by omega), decide_eq_true hk, Bool.true_and, nI_clamp (by omega)]
  refine Ct.of (by decide +kernel) (Nat.le_of_ble_eq_true rfl) ?_
  refine r_aload_n (pc := 0) 0 dX11_askedNow_0 rfl ?_
  refine r_getR (pc := 1) fl_X11_15 (nl_is hc) (nl_f0 hc) dX11_askedNow_1 ?_
  refine r_iload_n (pc := 4) 1 dX11_askedNow_4 rfl ?_
  refine r_dV (pc := 5) (As := [_]) mv_X5_isHere ml_X11_148 (c5_isHere hp hv hn h6 _) (pt_is (cs_pt3 hc)) rfl rfl (Nat.le_of_ble_eq_true rfl) (Nat.le_of_ble_eq_true rfl) (Nat.le_of_ble_eq_true rfl) (Nat.le_of_ble_eq_true rfl) (Nat.le_of_ble_eq_true rfl) dX11_askedNow_5 ?_
  refine r_if_ne (pc := 8) (tgt := 13) dX11_askedNow_8 (by decide) (fun c_8 => ?_) (fun c_8 => ?_)
  · have ha := bI_n0.mp c_8
    rw [eh] at ha
    rw [if_pos ha]
    obtain ⟨li, hli, eli⟩ := alive_li hrw (show k < 6 by omega) ha
    refine r_aload_n (pc := 13) 0 dX11_askedNow_13 rfl ?_
    refine r_getR (pc := 14) fl_X11_47 (nl_is hc) (nl_f5 hc) dX11_askedNow_14 ?_
    refine r_aload_n (pc := 17) 0 dX11_askedNow_17 rfl ?_
    refine r_getR (pc := 18) fl_X11_15 (nl_is hc) (nl_f0 hc) dX11_askedNow_18 ?_
    refine r_iload_n (pc := 21) 1 dX11_askedNow_21 rfl ?_
    refine r_callV (pc := 22) (As := [_, _]) mv_X0_about ml_X11_151 (c0_about hc hpx hv (by omega) hy ey h3 hl6 hlw) (ca_37 hc) rfl rfl (Nat.le_of_ble_eq_true rfl) (Nat.le_of_ble_eq_true rfl) (Nat.le_of_ble_eq_true rfl) (Nat.le_of_ble_eq_true rfl) (Nat.le_of_ble_eq_true rfl) dX11_askedNow_22 (fun r h2 hp => ?_)
    obtain ⟨rfl, f2, ha2⟩ := hp
    show Wp E mX11_askedNow _ _ _ _ [] _ 0 0
    have hc2 := hc.ak f2
    rw [eli] at ha2
    refine r_aload_n (pc := 25) 0 dX11_askedNow_25 rfl ?_
    refine r_getR (pc := 26) fl_X11_47 (nl_is hc2) (nl_f5 hc2) dX11_askedNow_26 ?_
    refine r_iload_n (pc := 29) 2 dX11_askedNow_29 rfl ?_
    refine r_callV (pc := 30) (As := [_]) mv_X0_tells ml_X11_155 (ask_at (hd := hd) (on := 0) hc2 ha2 (Int32.add_zero _).symm (hfo.ak f2) hli hd10 ed h3d) (ca_37 hc2) rfl rfl (Nat.le_of_ble_eq_true rfl) (Nat.le_of_ble_eq_true rfl) (Nat.le_of_ble_eq_true rfl) (Nat.le_of_ble_eq_true rfl) (Nat.le_of_ble_eq_true rfl) dX11_askedNow_30 (fun r h4 hp => ?_)
    obtain ⟨rfl, hr4⟩ := hp
    show Wp E mX11_askedNow _ _ _ _ [.int _] _ 0 0
    refine r_iret (pc := 33) rfl ?_ (Nat.le_of_ble_eq_true rfl) (Nat.le_of_ble_eq_true rfl) dX11_askedNow_33
    refine ⟨?_, (f2.mono (fun _ _ => ak_ro)).tr (hr4.ak.mono (fun _ _ => ak_ro))⟩
    rw [eli]
    rcases (show hd = 0 ∨ hd = 1 ∨ hd = 2 by omega) with rfl | rfl | rfl
    · rw [if_pos rfl]; rfl
    · rw [if_neg (by decide), if_pos rfl]; rfl
    · rw [if_neg (by decide), if_neg (by decide)]; rfl
  · have ha := bI_0.mp c_8
    rw [eh] at ha
    refine r_iconst (pc := 11) (-1) dX11_askedNow_11 rfl ?_
    refine r_iret (pc := 12) rfl ?_ (Nat.le_of_ble_eq_true rfl) (Nat.le_of_ble_eq_true rfl) dX11_askedNow_12
    exact ⟨by rw [if_neg (by rw [ha]; decide)], Fr.rf⟩
theorem c11_of {nc ns nl : Nat} {lw : Option Nat} {fo : Option (List Cl)} (hL : Lv E h x r nc ns nl lw fo) (c w : Int32) : Ct E 4 0 0 mX11_of [.ref x, .int c, .int w] h (pQ h x (.int (ofF r fo nc c w))) := by
  have hL0 := hL
  obtain ⟨hc, hv, hrw, ⟨h3, hl6⟩, hlw, hfo⟩ := hL
  obtain ⟨hn, h6, hns, hs3, -⟩ := id hrw
  have hp := cs_pt3 hc
  refine Ct.of (by decide +kernel) (Nat.le_of_ble_eq_true rfl) ?_
  refine r_aload_n (pc := 0) 0 dX11_of_0 rfl ?_
  refine r_getR (pc := 1) fl_X11_15 (nl_is hc) (nl_f0 hc) dX11_of_1 ?_
  refine r_iload_n (pc := 4) 1 dX11_of_4 rfl ?_
  refine r_dV (pc := 5) (As := [_]) mv_X5_hasCat ml_X11_123 (c5_hasCat hp hv hn h6 _) (pt_is (cs_pt3 hc)) rfl rfl (Nat.le_of_ble_eq_true rfl) (Nat.le_of_ble_eq_true rfl) (Nat.le_of_ble_eq_true rfl) (Nat.le_of_ble_eq_true rfl) (Nat.le_of_ble_eq_true rfl) dX11_of_5 ?_
  refine r_if_ne (pc := 8) (tgt := 13) dX11_of_8 (by decide) (fun c_8 => ?_) (fun c_8 => ?_)
  · have hcN := bI_n0.mp c_8
    rw [ofF, if_pos hcN]
    obtain ⟨k, hk, rfl⟩ := inN_of (by omega) hcN
    obtain ⟨y, hy, ey⟩ := rw_y hrw (show k < 6 by omega)
    rw [nI_clamp (by omega)]
    refine r_iload_n (pc := 13) 2 dX11_of_13 rfl ?_
    by_cases hw : inN w 9 = true
    · rw [if_pos hw]
      obtain ⟨j, hj, rfl⟩ := inN_of (by decide) hw
      rw [nI_clamp (by omega)]
      rcases (show j = 0 ∨ j = 1 ∨ j = 2 ∨ j = 3 ∨ j = 4 ∨ j = 5 ∨ j = 6 ∨ j = 7 ∨ j = 8 by omega) with rfl | rfl | rfl | rfl | rfl | rfl | rfl | rfl | rfl
      · rw [if_neg (fun z => absurd z.1 (by decide))]
        refine r_tableIn (pc := 14) (off := 50) (tgt := 64) dX11_of_14 (by decide) (by decide) (by decide +kernel) (by decide) ?_
        refine r_aload_n (pc := 64) 0 dX11_of_64 rfl ?_
        refine r_getR (pc := 65) fl_X11_15 (nl_is hc) (nl_f0 hc) dX11_of_65 ?_
        refine r_getR (pc := 68) fl_X11_126 (pt_is (cs_pt3 hc)) (pt_f1 (cs_pt3 hc)) dX11_of_68 ?_
        refine r_iload_n (pc := 71) 1 dX11_of_71 rfl ?_
        refine r_iald (pc := 72) (j := k) (pt_r1 (cs_pt3 hc)) rfl (by omega) (by decide) dX11_of_72 ?_
        refine r_iret (pc := 73) rfl ?_ (Nat.le_of_ble_eq_true rfl) (Nat.le_of_ble_eq_true rfl) dX11_of_73
        rw [pv_li hv (by omega)]; exact ⟨rfl, Fr.rf⟩
      · rw [if_neg (fun z => absurd z.1 (by decide))]
        refine r_tableIn (pc := 14) (off := 60) (tgt := 74) dX11_of_14 (by decide) (by decide) (by decide +kernel) (by decide) ?_
        refine r_aload_n (pc := 74) 0 dX11_of_74 rfl ?_
        refine r_getR (pc := 75) fl_X11_15 (nl_is hc) (nl_f0 hc) dX11_of_75 ?_
        refine r_getR (pc := 78) fl_X11_129 (pt_is (cs_pt3 hc)) (pt_f2 (cs_pt3 hc)) dX11_of_78 ?_
        refine r_iload_n (pc := 81) 1 dX11_of_81 rfl ?_
        refine r_iald (pc := 82) (j := k) (pt_r2 (cs_pt3 hc)) rfl (by omega) (by decide) dX11_of_82 ?_
        refine r_iret (pc := 83) rfl ?_ (Nat.le_of_ble_eq_true rfl) (Nat.le_of_ble_eq_true rfl) dX11_of_83
        rw [pv_ye hv (by omega)]; exact ⟨rfl, Fr.rf⟩
      · rw [if_neg (fun z => absurd z.1 (by decide))]
        refine r_tableIn (pc := 14) (off := 70) (tgt := 84) dX11_of_14 (by decide) (by decide) (by decide +kernel) (by decide) ?_
        refine r_aload_n (pc := 84) 0 dX11_of_84 rfl ?_
        refine r_getR (pc := 85) fl_X11_15 (nl_is hc) (nl_f0 hc) dX11_of_85 ?_
        refine r_getR (pc := 88) fl_X11_132 (pt_is (cs_pt3 hc)) (pt_f3 (cs_pt3 hc)) dX11_of_88 ?_
        refine r_iload_n (pc := 91) 1 dX11_of_91 rfl ?_
        refine r_iald (pc := 92) (j := k) (pt_r3 (cs_pt3 hc)) rfl (by omega) (by decide) dX11_of_92 ?_
        refine r_iret (pc := 93) rfl ?_ (Nat.le_of_ble_eq_true rfl) (Nat.le_of_ble_eq_true rfl) dX11_of_93
        rw [pv_ea hv (by omega)]; exact ⟨rfl, Fr.rf⟩
      · rw [if_neg (fun z => absurd z.1 (by decide))]
        refine r_tableIn (pc := 14) (off := 80) (tgt := 94) dX11_of_14 (by decide) (by decide) (by decide +kernel) (by decide) ?_
        refine r_aload_n (pc := 94) 0 dX11_of_94 rfl ?_
        refine r_getR (pc := 95) fl_X11_15 (nl_is hc) (nl_f0 hc) dX11_of_95 ?_
        refine r_getR (pc := 98) fl_X11_135 (pt_is (cs_pt3 hc)) (pt_f4 (cs_pt3 hc)) dX11_of_98 ?_
        refine r_iload_n (pc := 101) 1 dX11_of_101 rfl ?_
        refine r_iald (pc := 102) (j := k) (pt_r4 (cs_pt3 hc)) rfl (by omega) (by decide) dX11_of_102 ?_
        refine r_iret (pc := 103) rfl ?_ (Nat.le_of_ble_eq_true rfl) (Nat.le_of_ble_eq_true rfl) dX11_of_103
        rw [pv_go hv (by omega)]; exact ⟨rfl, Fr.rf⟩
      · rw [if_neg (fun z => absurd z.1 (by decide))]
        refine r_tableIn (pc := 14) (off := 90) (tgt := 104) dX11_of_14 (by decide) (by decide) (by decide +kernel) (by decide) ?_
        refine r_aload_n (pc := 104) 0 dX11_of_104 rfl ?_
        refine r_getR (pc := 105) fl_X11_15 (nl_is hc) (nl_f0 hc) dX11_of_105 ?_
        refine r_getR (pc := 108) fl_X11_138 (pt_is (cs_pt3 hc)) (pt_f5 (cs_pt3 hc)) dX11_of_108 ?_
        refine r_iload_n (pc := 111) 1 dX11_of_111 rfl ?_
        refine r_iald (pc := 112) (j := k) (pt_r5 (cs_pt3 hc)) rfl (by omega) (by decide) dX11_of_112 ?_
        refine r_iret (pc := 113) rfl ?_ (Nat.le_of_ble_eq_true rfl) (Nat.le_of_ble_eq_true rfl) dX11_of_113
        rw [pv_sh hv (by omega)]; exact ⟨rfl, Fr.rf⟩
      · rw [if_neg (fun z => absurd z.1 (by decide))]
        refine r_tableIn (pc := 14) (off := 100) (tgt := 114) dX11_of_14 (by decide) (by decide) (by decide +kernel) (by decide) ?_
        refine r_aload_n (pc := 114) 0 dX11_of_114 rfl ?_
        refine r_getR (pc := 115) fl_X11_15 (nl_is hc) (nl_f0 hc) dX11_of_115 ?_
        refine r_iload_n (pc := 118) 1 dX11_of_118 rfl ?_
        refine r_dV (pc := 119) (As := [_]) mv_X5_spentBy ml_X11_141 (c5_spentBy hp hv (by omega) hy ey) (pt_is (cs_pt3 hc)) rfl rfl (Nat.le_of_ble_eq_true rfl) (Nat.le_of_ble_eq_true rfl) (Nat.le_of_ble_eq_true rfl) (Nat.le_of_ble_eq_true rfl) (Nat.le_of_ble_eq_true rfl) dX11_of_119 ?_
        refine r_iret (pc := 122) rfl ?_ (Nat.le_of_ble_eq_true rfl) (Nat.le_of_ble_eq_true rfl) dX11_of_122
        exact ⟨rfl, Fr.rf⟩
      · refine r_tableIn (pc := 14) (off := 109) (tgt := 123) dX11_of_14 (by decide) (by decide) (by decide +kernel) (by decide) ?_
        refine r_aload_n (pc := 123) 0 dX11_of_123 rfl ?_
        refine r_iload_n (pc := 124) 1 dX11_of_124 rfl ?_
        refine r_sipush (pc := 125) (263) dX11_of_125 rfl ?_
        refine r_callV (pc := 128) (As := [_, _]) mv_X11_askedNow ml_X11_144 (c11_askedNow (hd := 0) hL0 (by decide) hk) (nl_is hc) rfl rfl (Nat.le_of_ble_eq_true rfl) (Nat.le_of_ble_eq_true rfl) (Nat.le_of_ble_eq_true rfl) (Nat.le_of_ble_eq_true rfl) (Nat.le_of_ble_eq_true rfl) dX11_of_128 (fun r h2 hp => ?_)
        obtain ⟨rfl, f2⟩ := hp
        show Wp E mX11_of _ _ _ _ [.int _] _ 0 0
        refine r_iret (pc := 131) rfl ?_ (Nat.le_of_ble_eq_true rfl) (Nat.le_of_ble_eq_true rfl) dX11_of_131
        refine ⟨?_, f2⟩
        cases ha : aliveF r k with
        | true => rw [if_pos rfl, if_pos rfl, if_neg (fun z => absurd z.2 (by decide))]; rfl
        | false => rw [if_neg (by decide), if_pos ⟨by decide, rfl⟩]
      · refine r_tableIn (pc := 14) (off := 118) (tgt := 132) dX11_of_14 (by decide) (by decide) (by decide +kernel) (by decide) ?_
        refine r_aload_n (pc := 132) 0 dX11_of_132 rfl ?_
        refine r_iload_n (pc := 133) 1 dX11_of_133 rfl ?_
        refine r_sipush (pc := 134) (264) dX11_of_134 rfl ?_
        refine r_callV (pc := 137) (As := [_, _]) mv_X11_askedNow ml_X11_144 (c11_askedNow (hd := 1) hL0 (by decide) hk) (nl_is hc) rfl rfl (Nat.le_of_ble_eq_true rfl) (Nat.le_of_ble_eq_true rfl) (Nat.le_of_ble_eq_true rfl) (Nat.le_of_ble_eq_true rfl) (Nat.le_of_ble_eq_true rfl) dX11_of_137 (fun r h2 hp => ?_)
        obtain ⟨rfl, f2⟩ := hp
        show Wp E mX11_of _ _ _ _ [.int _] _ 0 0
        refine r_iret (pc := 140) rfl ?_ (Nat.le_of_ble_eq_true rfl) (Nat.le_of_ble_eq_true rfl) dX11_of_140
        refine ⟨?_, f2⟩
        cases ha : aliveF r k with
        | true => rw [if_pos rfl, if_neg (by decide), if_pos rfl, if_neg (fun z => absurd z.2 (by decide))]; rfl
        | false => rw [if_neg (by decide), if_pos ⟨by decide, rfl⟩]
      · refine r_tableIn (pc := 14) (off := 127) (tgt := 141) dX11_of_14 (by decide) (by decide) (by decide +kernel) (by decide) ?_
        refine r_aload_n (pc := 141) 0 dX11_of_141 rfl ?_
        refine r_iload_n (pc := 142) 1 dX11_of_142 rfl ?_
        refine r_sipush (pc := 143) (265) dX11_of_143 rfl ?_
        refine r_callV (pc := 146) (As := [_, _]) mv_X11_askedNow ml_X11_144 (c11_askedNow (hd := 2) hL0 (by decide) hk) (nl_is hc) rfl rfl (Nat.le_of_ble_eq_true rfl) (Nat.le_of_ble_eq_true rfl) (Nat.le_of_ble_eq_true rfl) (Nat.le_of_ble_eq_true rfl) (Nat.le_of_ble_eq_true rfl) dX11_of_146 (fun r h2 hp => ?_)
        obtain ⟨rfl, f2⟩ := hp
        show Wp E mX11_of _ _ _ _ [.int _] _ 0 0
        refine r_iret (pc := 149) rfl ?_ (Nat.le_of_ble_eq_true rfl) (Nat.le_of_ble_eq_true rfl) dX11_of_149
        refine ⟨?_, f2⟩
        cases ha : aliveF r k with
        | true => rw [if_pos rfl, if_neg (by decide), if_neg (by decide), if_neg (fun z => absurd z.2 (by decide))]; rfl
        | false => rw [if_neg (by decide), if_pos ⟨by decide, rfl⟩]
    · rw [if_neg hw]
      refine r_tableOut (pc := 14) (tgt := 150) dX11_of_14 (by have := inN_out hw; omega) (by decide) ?_
      refine r_iconst (pc := 150) (-1) dX11_of_150 rfl ?_
      refine r_iret (pc := 151) rfl ?_ (Nat.le_of_ble_eq_true rfl) (Nat.le_of_ble_eq_true rfl) dX11_of_151
      exact ⟨by split <;> rfl, Fr.rf⟩
  · refine r_iconst (pc := 11) (-1) dX11_of_11 rfl ?_
    refine r_iret (pc := 12) rfl ?_ (Nat.le_of_ble_eq_true rfl) (Nat.le_of_ble_eq_true rfl) dX11_of_12
    exact ⟨by rw [ofF, if_neg (by rw [bI_0.mp c_8]; decide)], Fr.rf⟩
theorem c11_at {nc ns nl : Nat} {lw : Option Nat} {fo : Option (List Cl)} (hL : Lv E h x r nc ns nl lw fo) (s w : Int32) : Ct E 5 0 0 mX11_at [.ref x, .int s, .int w] h (pQ h x (.int (atF r fo nc ns s w))) := by
  obtain ⟨hc, hv, hrw, ⟨h3, hl6⟩, hlw, hfo⟩ := hL
  obtain ⟨hn, h6, hns, hs3, -⟩ := id hrw
  have hp := cs_pt3 hc
  have hpx : pOf x (x + 3) := Or.inl rfl
  refine Ct.of (by decide +kernel) (Nat.le_of_ble_eq_true rfl) ?_
  refine r_aload_n (pc := 0) 0 dX11_at_0 rfl ?_
  refine r_getR (pc := 1) fl_X11_15 (nl_is hc) (nl_f0 hc) dX11_at_1 ?_
  refine r_iload_n (pc := 4) 1 dX11_at_4 rfl ?_
  refine r_dV (pc := 5) (As := [_]) mv_X5_hasShip ml_X11_164 (c5_hasShip hp hv hns hs3 _) (pt_is (cs_pt3 hc)) rfl rfl (Nat.le_of_ble_eq_true rfl) (Nat.le_of_ble_eq_true rfl) (Nat.le_of_ble_eq_true rfl) (Nat.le_of_ble_eq_true rfl) (Nat.le_of_ble_eq_true rfl) dX11_at_5 ?_
  refine r_if_ne (pc := 8) (tgt := 13) dX11_at_8 (by decide) (fun c_8 => ?_) (fun c_8 => ?_)
  · have hcN := bI_n0.mp c_8
    rw [atF, if_pos hcN]
    obtain ⟨k, hk, rfl⟩ := inN_of (by omega) hcN
    rw [nI_clamp (by omega)]
    refine r_iload_n (pc := 13) 2 dX11_at_13 rfl ?_
    by_cases hw : inN w 4 = true
    · rw [if_pos hw]
      obtain ⟨j, hj, rfl⟩ := inN_of (by decide) hw
      rw [nI_clamp (by omega)]
      rcases (show j = 0 ∨ j = 1 ∨ j = 2 ∨ j = 3 by omega) with rfl | rfl | rfl | rfl
      · refine r_tableIn (pc := 14) (off := 30) (tgt := 44) dX11_at_14 (by decide) (by decide) (by decide +kernel) (by decide) ?_
        refine r_aload_n (pc := 44) 0 dX11_at_44 rfl ?_
        refine r_getR (pc := 45) fl_X11_15 (nl_is hc) (nl_f0 hc) dX11_at_45 ?_
        refine r_getR (pc := 48) fl_X11_167 (pt_is (cs_pt3 hc)) (pt_f7 (cs_pt3 hc)) dX11_at_48 ?_
        refine r_iload_n (pc := 51) 1 dX11_at_51 rfl ?_
        refine r_iald (pc := 52) (j := k) (pt_r7 (cs_pt3 hc)) rfl (by omega) (by decide) dX11_at_52 ?_
        refine r_iret (pc := 53) rfl ?_ (Nat.le_of_ble_eq_true rfl) (Nat.le_of_ble_eq_true rfl) dX11_at_53
        rw [pv_ne hv (by omega)]; exact ⟨rfl, Fr.rf⟩
      · refine r_tableIn (pc := 14) (off := 40) (tgt := 54) dX11_at_14 (by decide) (by decide) (by decide +kernel) (by decide) ?_
        refine r_aload_n (pc := 54) 0 dX11_at_54 rfl ?_
        refine r_getR (pc := 55) fl_X11_15 (nl_is hc) (nl_f0 hc) dX11_at_55 ?_
        refine r_iload_n (pc := 58) 1 dX11_at_58 rfl ?_
        refine r_dV (pc := 59) (As := [_]) mv_X5_crewOf ml_X11_170 (c5_crewOf hp hv hn h6 _) (pt_is (cs_pt3 hc)) rfl rfl (Nat.le_of_ble_eq_true rfl) (Nat.le_of_ble_eq_true rfl) (Nat.le_of_ble_eq_true rfl) (Nat.le_of_ble_eq_true rfl) (Nat.le_of_ble_eq_true rfl) dX11_at_59 ?_
        refine r_iret (pc := 62) rfl ?_ (Nat.le_of_ble_eq_true rfl) (Nat.le_of_ble_eq_true rfl) dX11_at_62
        exact ⟨rfl, Fr.rf⟩
      · refine r_tableIn (pc := 14) (off := 49) (tgt := 63) dX11_at_14 (by decide) (by decide) (by decide +kernel) (by decide) ?_
        refine r_aload_n (pc := 63) 0 dX11_at_63 rfl ?_
        refine r_getR (pc := 64) fl_X11_15 (nl_is hc) (nl_f0 hc) dX11_at_64 ?_
        refine r_iload_n (pc := 67) 1 dX11_at_67 rfl ?_
        refine r_dV (pc := 68) (As := [_]) mv_X5_missingOn ml_X11_173 (c5_missingOn hp hv hn h6 (by omega)) (pt_is (cs_pt3 hc)) rfl rfl (Nat.le_of_ble_eq_true rfl) (Nat.le_of_ble_eq_true rfl) (Nat.le_of_ble_eq_true rfl) (Nat.le_of_ble_eq_true rfl) (Nat.le_of_ble_eq_true rfl) dX11_at_68 ?_
        refine r_iret (pc := 71) rfl ?_ (Nat.le_of_ble_eq_true rfl) (Nat.le_of_ble_eq_true rfl) dX11_at_71
        exact ⟨rfl, Fr.rf⟩
      · refine r_tableIn (pc := 14) (off := 58) (tgt := 72) dX11_at_14 (by decide) (by decide) (by decide +kernel) (by decide) ?_
        refine r_aload_n (pc := 72) 0 dX11_at_72 rfl ?_
        refine r_getR (pc := 73) fl_X11_47 (nl_is hc) (nl_f5 hc) dX11_at_73 ?_
        refine r_aload_n (pc := 76) 0 dX11_at_76 rfl ?_
        refine r_getR (pc := 77) fl_X11_15 (nl_is hc) (nl_f0 hc) dX11_at_77 ?_
        refine r_iload_n (pc := 80) 1 dX11_at_80 rfl ?_
        refine r_callV (pc := 81) (As := [_, _]) mv_X0_barredFrom ml_X11_176 (c0_barredFrom hc hpx hv hn h6 (fun k hk => rw_y hrw hk) h3 hl6 hlw hfo _) (ca_37 hc) rfl rfl (Nat.le_of_ble_eq_true rfl) (Nat.le_of_ble_eq_true rfl) (Nat.le_of_ble_eq_true rfl) (Nat.le_of_ble_eq_true rfl) (Nat.le_of_ble_eq_true rfl) dX11_at_81 (fun r h2 hp => ?_)
        obtain ⟨rfl, f2⟩ := hp
        show Wp E mX11_at _ _ _ _ [.int _] _ 0 0
        refine r_iret (pc := 84) rfl ?_ (Nat.le_of_ble_eq_true rfl) (Nat.le_of_ble_eq_true rfl) dX11_at_84
        exact ⟨rfl, f2.mono (fun _ _ => ak_ro)⟩
    · rw [if_neg hw]
      refine r_tableOut (pc := 14) (tgt := 85) dX11_at_14 (by have := inN_out hw; omega) (by decide) ?_
      refine r_iconst (pc := 85) (-1) dX11_at_85 rfl ?_
      refine r_iret (pc := 86) rfl ?_ (Nat.le_of_ble_eq_true rfl) (Nat.le_of_ble_eq_true rfl) dX11_at_86
      exact ⟨rfl, Fr.rf⟩
  · refine r_iconst (pc := 11) (-1) dX11_at_11 rfl ?_
    refine r_iret (pc := 12) rfl ?_ (Nat.le_of_ble_eq_true rfl) (Nat.le_of_ble_eq_true rfl) dX11_at_12
    exact ⟨by rw [atF, if_neg (by rw [bI_0.mp c_8]; decide)], Fr.rf⟩
end OWN
