/-! the class's own methods: law() -/
section OWN16
variable {E : En} {h h1 h2 : Hp} {x n : Nat} {μ : Mu} {wl wo wh : Nat → Int64}
def pLC (E : En) (h : Hp) (x : Nat) (μ : Mu) (n nl : Nat) (wl wo wh : Nat → Int64) : Option Value → Hp → Prop := fun v h' => Kp x h h' ∧ if nl = 6 then v = some (.int (-5)) ∧ CR E h' x (tellM (up2 (up2 μ 0 0 0) 0 13 0) (-5)) else ∃ R, LawRun wl wo wh (tk (μ 9) n) 13 0 0 0 R ∧ (match R with
  | .inl j => v = some (.int (-6)) ∧ CR E h' x (tellM (up2 (up2 μ 0 13 0) 0 18 (nI (tk (μ 9) n j).1)) (-6))
  | .inr cls => v = some (.int (nI nl)) ∧ ∀ R', R' 3 = nI (nl + 1) → LawOK R' nl cls → (∀ j, j ≠ 3 → (j < 50 + 900 * nl ∨ 50 + 900 * nl + 900 ≤ j) → R' j = μ 2 j) → CR E h' x (tellM (setR (up2 (up2 μ 0 13 0) 0 18 (-1)) R') (nI nl)))
theorem c11_law {nc ns nl sg : Nat} (hw : Wls wl wo) (hh : Whs wh 7) (hr : CR E h x μ) (hg : GM μ nc ns nl sg) (hn : μ 0 13 = nI n) (h4 : n ≤ 400) (top : x + 135 < eZ E + hN h) : Ct E 44 6 869 mX11_law [.ref x] h (pLC E h x μ n nl wl wo wh) := by
  have hc := hr.1
  have hv := hr.2.1.1
  have hnl := hg.1.2.1.1
  have hl6 := hg.1.2.1.2
  refine Ct.of (by decide +kernel) (Nat.le_of_ble_eq_true rfl) ?_
  refine r_aload_n (pc := 0) 0 dX11_law_0 rfl ?_
  refine r_getR (pc := 1) fl_X11_15 (nl_is hc) (nl_f0 hc) dX11_law_1 ?_
  refine r_getI (pc := 4) fl_X11_206 (pt_is (cs_pt3 hc)) dX11_law_4 ?_
  refine r_bipush (pc := 7) (6) dX11_law_7 rfl ?_
  rw [pv_3 hv, hnl]
  refine r_icmp_lt (pc := 9) (tgt := 27) dX11_law_9 (by decide) (fun c_9 => ?_) (fun c_9 => ?_)
  · have hlt : nl < 6 := by
      rcases Nat.lt_or_ge nl 6 with z | z
      · exact z
      · exact absurd c_9 (by rw [show nl = 6 by omega]; decide)
    refine r_aload_n (pc := 27) 0 dX11_law_27 rfl ?_
    refine r_aload_n (pc := 28) 0 dX11_law_28 rfl ?_
    refine r_getR (pc := 29) fl_X11_38 (nl_is hc) (nl_f4 hc) dX11_law_29 ?_
    refine r_aload_n (pc := 32) 0 dX11_law_32 rfl ?_
    refine r_getR (pc := 33) fl_X11_31 (nl_is hc) (nl_f3 hc) dX11_law_33 ?_
    refine r_iconst (pc := 36) (1) dX11_law_36 rfl ?_
    refine r_callV (pc := 37) (As := [_, _]) mv_X6_read ml_X11_209 (c6_readL hw hh hr hn h4) (ca_26 hc) rfl rfl (Nat.le_of_ble_eq_true rfl) (Nat.le_of_ble_eq_true rfl) (Nat.le_of_ble_eq_true rfl) (Nat.le_of_ble_eq_true rfl) (Nat.le_of_ble_eq_true rfl) dX11_law_37 (fun r g2 hp => ?_)
    obtain ⟨⟨f2, h24⟩, R, hRn, hm⟩ := hp
    have hr2 := hr.read f2 h24
    have k2 : Kp x h g2 := re_kp f2
    have hc2 := hr2.1
    have eN : hN g2 = hN h := by unfold hN; rw [f2.1]
    cases R with
    | inl j =>
      subst hm
      show Wp E mX11_law _ _ _ _ [.int _, .ref x] _ 0 0
      have hj := tk_from (μ 9) n j
      have hr3 := hr2.cnt (k := 12) (j := 18) (Or.inr (Or.inl ⟨rfl, rfl⟩)) (nI (tk (μ 9) n j).1)
      have hc3 := hr3.1
      refine r_putI (pc := 40) fp_X11_93 (nl_is hc2) dX11_law_40 ?_
      refine r_aload_n (pc := 43) 0 dX11_law_43 rfl ?_
      refine r_getI (pc := 44) fl_X11_93 (nl_is hc2) dX11_law_44 ?_
      rw [hI_at]
      refine r_iconst (pc := 47) (-1) dX11_law_47 rfl ?_
      refine r_icmp_eq (pc := 48) (tgt := 58) dX11_law_48 (by decide) (fun c_48 => ?_) (fun c_48 => ?_)
      · exact absurd c_48.symm (m1_nI (by omega))
      · refine r_aload_n (pc := 51) 0 dX11_law_51 rfl ?_
        refine r_bipush (pc := 52) (-6) dX11_law_52 rfl ?_
        refine r_dV (pc := 54) (As := [_]) mv_X11_refused ml_X11_106 (c11_refused hc3 (-6) (j := 6) (by decide) (by decide) (by decide)) (nl_is hc3) rfl rfl (Nat.le_of_ble_eq_true rfl) (Nat.le_of_ble_eq_true rfl) (Nat.le_of_ble_eq_true rfl) (Nat.le_of_ble_eq_true rfl) (Nat.le_of_ble_eq_true rfl) dX11_law_54 ?_
        refine r_iret (pc := 57) rfl ?_ (Nat.le_of_ble_eq_true rfl) (Nat.le_of_ble_eq_true rfl) dX11_law_57
        refine ⟨(k2.tr (kp_wI (by omega))).tr kp_to, ?_⟩
        rw [if_neg (by omega)]
        exact ⟨.inl j, hRn, rfl, hr3.tell _ t_6⟩
    | inr cls =>
      obtain ⟨rfl, hlw⟩ := hm
      show Wp E mX11_law _ _ _ _ [.int _, .ref x] _ 0 0
      have hr3 := hr2.cnt (k := 12) (j := 18) (Or.inr (Or.inl ⟨rfl, rfl⟩)) (-1)
      have f3 : Fr (fun a k => a = x ∧ k = 12) g2 (wI g2 x 12 (-1)) := Fr.wI ⟨rfl, rfl⟩
      have hlw3 : LwT E (wI g2 x 12 (-1)) (x + 27) 400 cls := hlw.fr f3 (fun i k hi z => by omega)
      have k3 : Kp x h (wI g2 x 12 (-1)) := k2.tr (kp_wI (by omega))
      have eN3 : hN (wI g2 x 12 (-1)) = hN h := by rw [← eN]; rfl
      refine r_putI (pc := 40) fp_X11_93 (nl_is hc2) dX11_law_40 ?_
      refine r_aload_n (pc := 43) 0 dX11_law_43 rfl ?_
      refine r_getI (pc := 44) fl_X11_93 (nl_is hc2) dX11_law_44 ?_
      rw [hI_at]
      generalize wI g2 x 12 (-1) = g3 at hr3 hlw3 k3 eN3 ⊢
      have hc3 := hr3.1
      have hg3 : GM (up2 (up2 μ 0 13 0) 0 18 (-1)) nc ns nl sg := (hg.up (by decide)).up (by decide)
      have e32 : up2 (up2 μ 0 13 0) 0 18 (-1) 2 = μ 2 := by funext j; rw [up2_ne (by omega), up2_ne (by omega)]
      obtain ⟨sz, hsz, es⟩ : ∃ sz, sz ≤ 400 ∧ hI g3 (x + 27) 6 = nI sz := by
        obtain ⟨-, -, -, -, sz, g1, g2, -⟩ := hlw3
        exact ⟨sz, g1, g2⟩
      refine r_iconst (pc := 47) (-1) dX11_law_47 rfl ?_
      refine r_icmp_eq (pc := 48) (tgt := 58) dX11_law_48 (by decide) (fun c_48 => ?_) (fun c_48 => ?_)
      · refine r_aload_n (pc := 58) 0 dX11_law_58 rfl ?_
        refine r_aload_n (pc := 59) 0 dX11_law_59 rfl ?_
        refine r_getR (pc := 60) fl_X11_15 (nl_is hc3) (nl_f0 hc3) dX11_law_60 ?_
        refine r_aload_n (pc := 63) 0 dX11_law_63 rfl ?_
        refine r_getR (pc := 64) fl_X11_38 (nl_is hc3) (nl_f4 hc3) dX11_law_64 ?_
        refine r_getR (pc := 67) fl_X11_213 (ca_26 hc3) (cf_26_0 hc3) dX11_law_67 ?_
        refine r_callV (pc := 70) (As := []) mv_X10_copied ml_X11_217 (c10_copied (cs_tx27 hc3) es hsz) (ca_27 hc3) rfl rfl (Nat.le_of_ble_eq_true rfl) (Nat.le_of_ble_eq_true rfl) (Nat.le_of_ble_eq_true rfl) (Nat.le_of_ble_eq_true rfl) (show 0 + (69 + sz + sz) ≤ 869 by omega) dX11_law_70 (fun r g4 hp => ?_)
        obtain ⟨rfl, hcp⟩ := hp
        show Wp E mX11_law _ _ _ _ [.ref _, .ref _, .ref x] _ _ _
        have hG : Gr E g3 g4 := ⟨by rw [hcp.1]; omega, fun b hb => hcp.2.1 b hb⟩
        have hr4 := hr3.up hG
        have hlw4 := hcp.law hlw3 es hsz
        have k4 : Kp x h g4 := k3.tr ⟨hG.1, fun a h1 h2 => hG.2 a (by rw [eN3]; omega)⟩
        have htw : x + 135 < eZ E + hN g3 := by rw [eN3]; exact top
        have hc4 := hr4.1
        have hv4 := hr4.2.1.1
        rw [e32] at hv4
        generalize eZ E + hN g3 = w at hcp hlw4 htw ⊢
        refine r_callV (pc := 73) (As := [_]) mv_X5_addLaw ml_X11_223 (c5_addLaw (cs_pt3 hc4) hv4 hnl hlt hlw4.1.1) (ca_3 hc4) rfl rfl (Nat.le_of_ble_eq_true rfl) (Nat.le_of_ble_eq_true rfl) (Nat.le_of_ble_eq_true rfl) (Nat.le_of_ble_eq_true rfl) (show 0 + (69 + sz + sz) + 0 ≤ 869 by omega) dX11_law_73 (fun r g5 hp => ?_)
        obtain ⟨rfl, e5, -⟩ := hp
        show Wp E mX11_law _ _ _ _ [.int _, .ref x] _ _ _
        have all : ∀ R', R' 3 = nI (nl + 1) → LawOK R' nl cls → (∀ j, j ≠ 3 → (j < 50 + 900 * nl ∨ 50 + 900 * nl + 900 ≤ j) → R' j = μ 2 j) → CR E g5 x (setR (up2 (up2 μ 0 13 0) 0 18 (-1)) R') := fun R' a1 a2 a3 => by
          rw [e5]
          exact hr4.law hg3 hlt htw hlw4 a1 a2 (fun j h1 h2 => by rw [e32]; exact a3 j h1 h2)
        have f5 : Fr (fun a k => (a = x + 3 ∧ k = 11) ∨ (a = x + 3 + 9 ∧ k = nl)) g4 g5 := by
          rw [e5]; exact (Fr.wI (Or.inl ⟨rfl, rfl⟩)).tr (Fr.wR (Or.inr ⟨rfl, rfl⟩))
        have hc5 : CS E g5 x := hc4.fr f5 (fun a k hq z => by
          refine csP_cf (p := x + 3) (Or.inl rfl) hq ?_
          unfold cfS ptW; omega)
        have k5 : Kp x h g5 := k4.tr (f5.kp (fun a k z => by omega))
        refine r_callV (pc := 76) (As := [_]) mv_X11_allowed ml_X11_120 (c11_allowed hc5 (nI nl)) (ca_0 hc5) rfl rfl (Nat.le_of_ble_eq_true rfl) (Nat.le_of_ble_eq_true rfl) (Nat.le_of_ble_eq_true rfl) (Nat.le_of_ble_eq_true rfl) (show 0 + (69 + sz + sz) + 0 + 0 ≤ 869 by omega) dX11_law_76 (fun r g6 hp => ?_)
        obtain ⟨rfl, rfl⟩ := hp
        show Wp E mX11_law _ _ _ _ [.int _] _ _ _
        refine r_iret (pc := 79) rfl ?_ (Nat.le_of_ble_eq_true rfl) (show 0 + (69 + sz + sz) + 0 + 0 ≤ 869 by omega) dX11_law_79
        refine ⟨k5.tr (kp_wI (by omega)), ?_⟩
        rw [if_neg (by omega)]
        refine ⟨.inr cls, hRn, rfl, fun R' a1 a2 a3 => ?_⟩
        have htl := (all R' a1 a2 a3).tell (nI nl) (t_p (nI_pos' (by omega)))
        rw [toH_p (Int32.not_lt.mpr (nI_pos' (by omega)))] at htl
        exact htl
      · exact absurd rfl c_48
  · have h66 : nl = 6 := by
      rcases Nat.lt_or_ge nl 6 with z | z
      · exact absurd (nI_lt (b := 6) z (by decide)) c_9
      · omega
    have hz : CR E (wI h (x + 24) 1 0) x (up2 (up2 μ 0 0 0) 0 13 0) := hr.th.size (t := 0) (by omega)
    have hcz := hz.1
    refine r_aload_n (pc := 12) 0 dX11_law_12 rfl ?_
    refine r_getR (pc := 13) fl_X11_31 (nl_is hc) (nl_f3 hc) dX11_law_13 ?_
    refine r_iconst (pc := 16) (0) dX11_law_16 rfl ?_
    refine r_putI (pc := 17) fp_X11_194 (ca_24 hc) dX11_law_17 ?_
    refine r_aload_n (pc := 20) 0 dX11_law_20 rfl ?_
    refine r_bipush (pc := 21) (-5) dX11_law_21 rfl ?_
    refine r_dV (pc := 23) (As := [_]) mv_X11_refused ml_X11_106 (c11_refused hcz (-5) (j := 5) (by decide) (by decide) (by decide)) (nl_is hcz) rfl rfl (Nat.le_of_ble_eq_true rfl) (Nat.le_of_ble_eq_true rfl) (Nat.le_of_ble_eq_true rfl) (Nat.le_of_ble_eq_true rfl) (Nat.le_of_ble_eq_true rfl) dX11_law_23 ?_
    refine r_iret (pc := 26) rfl ?_ (Nat.le_of_ble_eq_true rfl) (Nat.le_of_ble_eq_true rfl) dX11_law_26
    refine ⟨(kp_wI (by omega)).tr kp_to, ?_⟩
    rw [if_pos h66]
    exact ⟨rfl, hz.tell _ t_5⟩
end OWN16
