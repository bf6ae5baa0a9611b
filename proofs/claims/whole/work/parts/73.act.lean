/-! the class: an act; what is forgotten, taken back, counted -/
section ACT
variable {E : En} {h : Hp} {x : Nat} {r : Nat → Int32}
def actR (r : Nat → Int32) (fo : Option (List Cl)) (nc : Nat) (k a b : Int32) : Nat → Int32 := if k = 0 then va_up r (32 + a.toNatClampNeg) b else if k = 1 then dieR r a.toNatClampNeg b else if k = 2 then va_up r (20 + a.toNatClampNeg) b else passR r fo nc
theorem c1_act {nc ns nl nw u : Nat} {lw : Option Nat} {fo : Option (List Cl)} {K : Nat → Int32} {S : Nat → Nat → Int32} (hL : Lv E h x r nc ns nl lw fo) (hps : PsV h (x + 40) nw u K S) {k : Nat} (hk : k < 4) (a b : Int32) : Ct E 5 0 0 mX1_act [.ref (x + 39), .int (nI k), .int a, .int b] h (pAc h x (actV r fo nc ns (nI k) a b) (if 0 ≤ actV r fo nc ns (nI k) a b then actR r fo nc (nI k) a b else r) (kpP x nw u K S r (nI k) (actV r fo nc ns (nI k) a b))) := by
  have hL0 := hL
  obtain ⟨hc, hv, hrw, ⟨h3, hl6⟩, hlw, hfo⟩ := hL
  obtain ⟨hn, h6, hns, hs3, -, -, -, -, ⟨y, hy, ey⟩, -⟩ := id hrw
  have hp := cs_pt3 hc
  refine Ct.of (by decide +kernel) (Nat.le_of_ble_eq_true rfl) ?_
  rcases (by omega : k = 0 ∨ k = 1 ∨ k = 2 ∨ k = 3) with rfl | rfl | rfl | rfl
  · refine r_iload_n (pc := 0) 1 dX1_act_0 rfl ?_
    refine r_tableIn (pc := 1) (off := 27) (tgt := 28) dX1_act_1 (by decide) (by decide) (by decide +kernel) (by decide) ?_
    refine r_aload_n (pc := 28) 0 dX1_act_28 rfl ?_
    refine r_iload_n (pc := 29) 2 dX1_act_29 rfl ?_
    refine r_iload_n (pc := 30) 3 dX1_act_30 rfl ?_
    refine r_callV (pc := 31) (As := [_, _]) mv_X1_signOn ml_X1_35 (c1_signOn hL0 hps a b) (ca_39 hc) rfl rfl (Nat.le_of_ble_eq_true rfl) (Nat.le_of_ble_eq_true rfl) (Nat.le_of_ble_eq_true rfl) (Nat.le_of_ble_eq_true rfl) (Nat.le_of_ble_eq_true rfl) dX1_act_31 (fun r h2 hp => ?_)
    obtain ⟨rfl, q1, q2, q3⟩ := hp
    show Wp E mX1_act _ _ _ _ [.int _] _ 0 0
    refine r_iret (pc := 34) rfl ?_ (Nat.le_of_ble_eq_true rfl) (Nat.le_of_ble_eq_true rfl) dX1_act_34
    exact ⟨rfl, q1, q2, q3⟩
  · refine r_iload_n (pc := 0) 1 dX1_act_0 rfl ?_
    refine r_tableIn (pc := 1) (off := 34) (tgt := 35) dX1_act_1 (by decide) (by decide) (by decide +kernel) (by decide) ?_
    refine r_aload_n (pc := 35) 0 dX1_act_35 rfl ?_
    refine r_iload_n (pc := 36) 2 dX1_act_36 rfl ?_
    refine r_iload_n (pc := 37) 3 dX1_act_37 rfl ?_
    refine r_callV (pc := 38) (As := [_, _]) mv_X1_dieAs ml_X1_39 (c1_dieAs hL0 hps a b) (ca_39 hc) rfl rfl (Nat.le_of_ble_eq_true rfl) (Nat.le_of_ble_eq_true rfl) (Nat.le_of_ble_eq_true rfl) (Nat.le_of_ble_eq_true rfl) (Nat.le_of_ble_eq_true rfl) dX1_act_38 (fun r h2 hp => ?_)
    obtain ⟨rfl, q1, q2, q3⟩ := hp
    show Wp E mX1_act _ _ _ _ [.int _] _ 0 0
    refine r_iret (pc := 41) rfl ?_ (Nat.le_of_ble_eq_true rfl) (Nat.le_of_ble_eq_true rfl) dX1_act_41
    exact ⟨rfl, q1, q2, q3⟩
  · refine r_iload_n (pc := 0) 1 dX1_act_0 rfl ?_
    refine r_tableIn (pc := 1) (off := 41) (tgt := 42) dX1_act_1 (by decide) (by decide) (by decide +kernel) (by decide) ?_
    refine r_aload_n (pc := 42) 0 dX1_act_42 rfl ?_
    refine r_iload_n (pc := 43) 2 dX1_act_43 rfl ?_
    refine r_iload_n (pc := 44) 3 dX1_act_44 rfl ?_
    refine r_callV (pc := 45) (As := [_, _]) mv_X1_clipAs ml_X1_42 (c1_clipAs hL0 hps a b) (ca_39 hc) rfl rfl (Nat.le_of_ble_eq_true rfl) (Nat.le_of_ble_eq_true rfl) (Nat.le_of_ble_eq_true rfl) (Nat.le_of_ble_eq_true rfl) (Nat.le_of_ble_eq_true rfl) dX1_act_45 (fun r h2 hp => ?_)
    obtain ⟨rfl, q1, q2, q3⟩ := hp
    show Wp E mX1_act _ _ _ _ [.int _] _ 0 0
    refine r_iret (pc := 48) rfl ?_ (Nat.le_of_ble_eq_true rfl) (Nat.le_of_ble_eq_true rfl) dX1_act_48
    exact ⟨rfl, q1, q2, q3⟩
  · have eV : actV r fo nc ns (nI 3) a b = passV r := rfl
    have eR : actR r fo nc (nI 3) a b = passR r fo nc := rfl
    rw [eV, eR]
    refine r_iload_n (pc := 0) 1 dX1_act_0 rfl ?_
    refine r_tableOut (pc := 1) (tgt := 49) dX1_act_1 ((by decide)) (by decide) ?_
    refine r_aload_n (pc := 49) 0 dX1_act_49 rfl ?_
    refine r_getR (pc := 50) fl_X1_9 (ca_39 hc) (cf_39_0 hc) dX1_act_50 ?_
    refine r_getR (pc := 53) fl_X1_45 (pt_is (cs_pt3 hc)) (pt_f10 (cs_pt3 hc)) dX1_act_53 ?_
    refine r_iconst (pc := 56) (0) dX1_act_56 rfl ?_
    refine r_iald (pc := 57) (j := 0) (pt_r10 (cs_pt3 hc)) rfl (by decide) (by decide) dX1_act_57 ?_
    refine r_sipush (pc := 58) (999) dX1_act_58 rfl ?_
    refine r_icmp_lt (pc := 61) (tgt := 67) dX1_act_61 (by decide) (fun c_61 => ?_) (fun c_61 => ?_)
    · rw [pv_te hv (show 0 < 3 by decide)] at c_61
      have hne : ¬ r 5 = 999 := fun z => by
        have c2 : r 5 < 999 := c_61
        rw [z] at c2; exact absurd c2 (by decide)
      have e : passV r = r 5 + 1 := by unfold passV; rw [if_neg hne]
      have hpos : 0 ≤ passV r := by rw [e, ey, nI_1]; exact nI_pos' (by omega)
      have hpx : pOf x (x + 3) := Or.inl rfl
      refine r_aload_n (pc := 67) 0 dX1_act_67 rfl ?_
      refine r_getR (pc := 68) fl_X1_22 (ca_39 hc) (cf_39_2 hc) dX1_act_68 ?_
      refine r_iconst (pc := 71) (3) dX1_act_71 rfl ?_
      refine r_aload_n (pc := 72) 0 dX1_act_72 rfl ?_
      refine r_getR (pc := 73) fl_X1_9 (ca_39 hc) (cf_39_0 hc) dX1_act_73 ?_
      refine r_callV (pc := 76) (As := [_, _]) mv_X4_keep ml_X1_49 (c4_keep (cs_ps40 hc) hps hp hv (by omega) 3) (ps_is (cs_ps40 hc)) rfl rfl (Nat.le_of_ble_eq_true rfl) (Nat.le_of_ble_eq_true rfl) (Nat.le_of_ble_eq_true rfl) (Nat.le_of_ble_eq_true rfl) (Nat.le_of_ble_eq_true rfl) dX1_act_76 (fun r h2 hp => ?_)
      obtain ⟨rfl, f2, hps2⟩ := hp
      show Wp E mX1_act _ _ _ _ [] _ 0 0
      have g2 : Fr (acS x) h h2 := f2.mono (fun a k z => (Or.inr (Or.inr z) : acS x a k))
      have hc2 := hc.ac g2
      have hv2 : PtV h2 (x + 3) r := hv.fr f2 (fun i k hi => by unfold psW; omega)
      have hlw2 : LwA h2 (x + 3) r nl lw := ⟨fun z => by rw [f2.R (by unfold psW; omega)]; exact hlw.1 z, hlw.2⟩
      have hfo2 := hfo.far f2 (fun a k ha => by unfold psW; omega)
      refine r_aload_n (pc := 79) 0 dX1_act_79 rfl ?_
      refine r_getR (pc := 80) fl_X1_9 (ca_39 hc2) (cf_39_0 hc2) dX1_act_80 ?_
      refine r_aload_n (pc := 83) 0 dX1_act_83 rfl ?_
      refine r_getR (pc := 84) fl_X1_15 (ca_39 hc2) (cf_39_1 hc2) dX1_act_84 ?_
      refine r_callV (pc := 87) (As := [_]) mv_X5_passYear ml_X1_53 (c5_passYear hc2 hpx hv2 hrw h3 hl6 hlw2 hfo2) (pt_is (cs_pt3 hc2)) rfl rfl (Nat.le_of_ble_eq_true rfl) (Nat.le_of_ble_eq_true rfl) (Nat.le_of_ble_eq_true rfl) (Nat.le_of_ble_eq_true rfl) (Nat.le_of_ble_eq_true rfl) dX1_act_87 (fun r h4 hp => ?_)
      obtain ⟨rfl, f4, hv4⟩ := hp
      show Wp E mX1_act _ _ _ _ [] _ 0 0
      have g4 : Fr (acS x) h h4 := g2.tr (f4.mono (fun a k z => z.elim (fun w => (Or.inl w : acS x a k)) (fun w => (Or.inr (Or.inl w) : acS x a k))))
      have hc4 := hc.ac g4
      have hps4 : PsV h4 (x + 40) ((nw + 1) % 16) (kpU u) (kpF K u 3) (kpF S u r) := hps2.fr f4 (by unfold pyS akS ptW; omega) (by unfold pyS akS ptW; omega) (fun i k h1 h2 => by unfold pyS akS ptW; omega)
      refine r_aload_n (pc := 90) 0 dX1_act_90 rfl ?_
      refine r_getR (pc := 91) fl_X1_9 (ca_39 hc4) (cf_39_0 hc4) dX1_act_91 ?_
      refine r_getR (pc := 94) fl_X1_45 (pt_is (cs_pt3 hc4)) (pt_f10 (cs_pt3 hc4)) dX1_act_94 ?_
      refine r_iconst (pc := 97) (0) dX1_act_97 rfl ?_
      refine r_iald (pc := 98) (j := 0) (pt_r10 (cs_pt3 hc4)) rfl (by decide) (by decide) dX1_act_98 ?_
      refine r_iret (pc := 99) rfl ?_ (Nat.le_of_ble_eq_true rfl) (Nat.le_of_ble_eq_true rfl) dX1_act_99
      refine ⟨?_, g4, ?_, kpP_y hpos hps4⟩
      · rw [pv_te hv4 (show 0 < 3 by decide), e]
        unfold passR
        rw [va_up_self]
      · rw [if_pos hpos]; exact hv4
    · rw [pv_te hv (show 0 < 3 by decide)] at c_61
      have heq : r 5 = 999 := by
        have c2 : ¬ nI y < nI 999 := by rw [← ey]; exact c_61
        rw [ey, show y = 999 by
          rcases Nat.lt_or_ge y 999 with z | z
          · exact absurd (nI_lt z (by decide)) c2
          · omega]; rfl
      have e : passV r = -3 := by unfold passV; rw [if_pos heq]
      rw [e]
      refine r_bipush (pc := 64) (-3) dX1_act_64 rfl ?_
      refine r_iret (pc := 66) rfl ?_ (Nat.le_of_ble_eq_true rfl) (Nat.le_of_ble_eq_true rfl) dX1_act_66
      exact ⟨rfl, Fr.rf, by rw [if_neg (by decide)]; exact hv, kpP_n (by decide) hps⟩
theorem c1_howManyKept (hc : CS E h x) {u : Nat} (hu : hI h (x + 40) 3 = nI u) : Ct E 1 0 0 mX1_howManyKept [.ref (x + 39)] h (po (some (.int (nI u))) h) := by
  refine Ct.of (by decide +kernel) (Nat.le_of_ble_eq_true rfl) ?_
  refine r_aload_n (pc := 0) 0 dX1_howManyKept_0 rfl ?_
  refine r_getR (pc := 1) fl_X1_22 (ca_39 hc) (cf_39_2 hc) dX1_howManyKept_1 ?_
  refine r_dV (pc := 4) (As := []) mv_X4_howMany ml_X1_106 (c4_howMany (cs_ps40 hc) hu) (ps_is (cs_ps40 hc)) rfl rfl (Nat.le_of_ble_eq_true rfl) (Nat.le_of_ble_eq_true rfl) (Nat.le_of_ble_eq_true rfl) (Nat.le_of_ble_eq_true rfl) (Nat.le_of_ble_eq_true rfl) dX1_howManyKept_4 ?_
  refine r_iret (pc := 7) rfl ?_ (Nat.le_of_ble_eq_true rfl) (Nat.le_of_ble_eq_true rfl) dX1_howManyKept_7
  exact ⟨rfl, rfl⟩
theorem c1_forgetPast (hc : CS E h x) : Ct E 1 0 0 mX1_forgetPast [.ref (x + 39)] h (po none (wI h (x + 40) 3 0)) := by
  refine Ct.of (by decide +kernel) (Nat.le_of_ble_eq_true rfl) ?_
  refine r_aload_n (pc := 0) 0 dX1_forgetPast_0 rfl ?_
  refine r_getR (pc := 1) fl_X1_22 (ca_39 hc) (cf_39_2 hc) dX1_forgetPast_1 ?_
  refine r_dV0 (pc := 4) (As := []) mv_X4_empty ml_X1_110 (c4_empty (cs_ps40 hc)) (ps_is (cs_ps40 hc)) rfl rfl (Nat.le_of_ble_eq_true rfl) (Nat.le_of_ble_eq_true rfl) (Nat.le_of_ble_eq_true rfl) (Nat.le_of_ble_eq_true rfl) (Nat.le_of_ble_eq_true rfl) dX1_forgetPast_4 ?_
  refine r_vret (pc := 7) rfl ?_ (Nat.le_of_ble_eq_true rfl) (Nat.le_of_ble_eq_true rfl) dX1_forgetPast_7
  exact ⟨rfl, rfl⟩
theorem c1_takeBack (hc : CS E h x) (hv : PtV h (x + 3) r) {nw u : Nat} {K : Nat → Int32} {S : Nat → Nat → Int32} (hps : PsV h (x + 40) nw u K S) : Ct E 3 0 0 mX1_takeBack [.ref (x + 39)] h (fun v h' => (u = 0 → v = some (.int (-1)) ∧ h' = h) ∧ (0 < u → v = some (.int (K (u - 1))) ∧ Fr (tkS (x + 40) (x + 3)) h h' ∧ PtV h' (x + 3) (bkR r (S (u - 1))) ∧ PsV h' (x + 40) ((nw + 15) % 16) (u - 1) K S)) := by
  refine Ct.of (by decide +kernel) (Nat.le_of_ble_eq_true rfl) ?_
  rcases Nat.eq_zero_or_pos u with hu | hu
  · have hu0 : hI h (x + 40) 3 = nI 0 := by rw [hps.2.1, hu]
    refine r_aload_n (pc := 0) 0 dX1_takeBack_0 rfl ?_
    refine r_getR (pc := 1) fl_X1_22 (ca_39 hc) (cf_39_2 hc) dX1_takeBack_1 ?_
    refine r_aload_n (pc := 4) 0 dX1_takeBack_4 rfl ?_
    refine r_getR (pc := 5) fl_X1_9 (ca_39 hc) (cf_39_0 hc) dX1_takeBack_5 ?_
    refine r_dV (pc := 8) (As := [_]) mv_X4_takeNewest ml_X1_102 (c4_takeNone (cs_ps40 hc) hu0) (ps_is (cs_ps40 hc)) rfl rfl (Nat.le_of_ble_eq_true rfl) (Nat.le_of_ble_eq_true rfl) (Nat.le_of_ble_eq_true rfl) (Nat.le_of_ble_eq_true rfl) (Nat.le_of_ble_eq_true rfl) dX1_takeBack_8 ?_
    refine r_iret (pc := 11) rfl ?_ (Nat.le_of_ble_eq_true rfl) (Nat.le_of_ble_eq_true rfl) dX1_takeBack_11
    exact ⟨fun _ => ⟨rfl, rfl⟩, fun z => absurd z (by omega)⟩
  · refine r_aload_n (pc := 0) 0 dX1_takeBack_0 rfl ?_
    refine r_getR (pc := 1) fl_X1_22 (ca_39 hc) (cf_39_2 hc) dX1_takeBack_1 ?_
    refine r_aload_n (pc := 4) 0 dX1_takeBack_4 rfl ?_
    refine r_getR (pc := 5) fl_X1_9 (ca_39 hc) (cf_39_0 hc) dX1_takeBack_5 ?_
    refine r_callV (pc := 8) (As := [_]) mv_X4_takeNewest ml_X1_102 (c4_takeNewest (cs_ps40 hc) hps hu (cs_pt3 hc) hv (by omega)) (ps_is (cs_ps40 hc)) rfl rfl (Nat.le_of_ble_eq_true rfl) (Nat.le_of_ble_eq_true rfl) (Nat.le_of_ble_eq_true rfl) (Nat.le_of_ble_eq_true rfl) (Nat.le_of_ble_eq_true rfl) dX1_takeBack_8 (fun r h2 hp => ?_)
    obtain ⟨rfl, q1, q2, q3⟩ := hp
    show Wp E mX1_takeBack _ _ _ _ [.int _] _ 0 0
    refine r_iret (pc := 11) rfl ?_ (Nat.le_of_ble_eq_true rfl) (Nat.le_of_ble_eq_true rfl) dX1_takeBack_11
    exact ⟨fun z => absurd z (by omega), fun _ => ⟨rfl, q1, q2, q3⟩⟩
end ACT
