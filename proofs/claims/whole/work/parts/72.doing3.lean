/-! the class: to die; an act -/
section DOING3
variable {E : En} {h : Hp} {x : Nat} {r : Nat → Int32}
theorem inN_10 {s : Int32} : inN s 10 = (decide (s = 9) || inN s 9) := by
  unfold inN
  by_cases h9 : s = 9
  · subst h9; decide
  · rw [decide_eq_false h9, Bool.false_or]
    congr 1
    have n9 : s.toInt ≠ 9 := fun z => h9 (Int32.toInt_inj.mp (z.trans (by decide)))
    apply propext
    omega
theorem c1_dieAs {nc ns nl nw u : Nat} {lw : Option Nat} {fo : Option (List Cl)} {K : Nat → Int32} {S : Nat → Nat → Int32} (hL : Lv E h x r nc ns nl lw fo) (hps : PsV h (x + 40) nw u K S) (c s : Int32) : Ct E 3 0 0 mX1_dieAs [.ref (x + 39), .int c, .int s] h (pAc h x (dieV r nc c s) (if 0 ≤ dieV r nc c s then dieR r c.toNatClampNeg s else r) (kpP x nw u K S r 1 (dieV r nc c s))) := by
  obtain ⟨hc, hv, hrw, ⟨h3, hl6⟩, hlw, hfo⟩ := hL
  obtain ⟨hn, h6, hns, hs3, -⟩ := id hrw
  have hp := cs_pt3 hc
  refine Ct.of (by decide +kernel) (Nat.le_of_ble_eq_true rfl) ?_
  have at15 : inN s 10 = true → Wp E mX1_dieAs (Rm 3 0 0) (Qm E (pAc h x (dieV r nc c s) (if 0 ≤ dieV r nc c s then dieR r c.toNatClampNeg s else r) (kpP x nw u K S r 1 (dieV r nc c s))) 0 0) 15 [(0, .ref (x + 39)), (1, .int c), (2, .int s)] [] h 0 0 := by
    intro hs10
    refine r_aload_n (pc := 15) 0 dX1_dieAs_15 rfl ?_
    refine r_getR (pc := 16) fl_X1_9 (ca_39 hc) (cf_39_0 hc) dX1_dieAs_16 ?_
    refine r_iload_n (pc := 19) 1 dX1_dieAs_19 rfl ?_
    refine r_dV (pc := 20) (As := [_]) mv_X5_hasCat ml_X1_57 (c5_hasCat hp hv hn h6 _) (pt_is (cs_pt3 hc)) rfl rfl (Nat.le_of_ble_eq_true rfl) (Nat.le_of_ble_eq_true rfl) (Nat.le_of_ble_eq_true rfl) (Nat.le_of_ble_eq_true rfl) (Nat.le_of_ble_eq_true rfl) dX1_dieAs_20 ?_
    refine r_if_ne (pc := 23) (tgt := 29) dX1_dieAs_23 (by decide) (fun c_23 => ?_) (fun c_23 => ?_)
    · have hcN := bI_n0.mp c_23
      obtain ⟨k, hk, ek⟩ := inN_of (by omega) hcN
      obtain ⟨y, hy, ey⟩ := rw_y hrw (show k < 6 by omega)
      have at62 : ∀ g : Bool, g = decide ((s = 9 ∧ r (14 + k) = 0) ∨ (¬ s = 9 ∧ isB (r (14 + k)) s = true)) → Wp E mX1_dieAs (Rm 3 0 0) (Qm E (pAc h x (dieV r nc c s) (if 0 ≤ dieV r nc c s then dieR r c.toNatClampNeg s else r) (kpP x nw u K S r 1 (dieV r nc c s))) 0 0) 62 [(0, .ref (x + 39)), (1, .int c), (2, .int s), (3, .int (r (14 + k)))] [.int (bI g)] h 0 0 := by
        intro g hg
        have no3 : ∀ v4 : Int32, ¬ (aliveF r k = true ∧ ((s = 9 ∧ r (14 + k) = 0) ∨ (¬ s = 9 ∧ isB (r (14 + k)) s = true))) → Wp E mX1_dieAs (Rm 3 0 0) (Qm E (pAc h x (dieV r nc c s) (if 0 ≤ dieV r nc c s then dieR r c.toNatClampNeg s else r) (kpP x nw u K S r 1 (dieV r nc c s))) 0 0) 80 [(0, .ref (x + 39)), (1, .int c), (2, .int s), (3, .int (r (14 + k))), (4, .int v4)] [] h 0 0 := by
          intro v4 hno
          have e : dieV r nc c s = -3 := by unfold dieV; rw [if_pos hs10, if_pos hcN, ek, nI_clamp (by omega), if_neg hno]
          rw [e]
          refine r_bipush (pc := 80) (-3) dX1_dieAs_80 rfl ?_
          refine r_iret (pc := 82) rfl ?_ (Nat.le_of_ble_eq_true rfl) (Nat.le_of_ble_eq_true rfl) dX1_dieAs_82
          exact ⟨rfl, Fr.rf, by rw [if_neg (by decide)]; exact hv, kpP_n (by decide) hps⟩
        refine r_istore (pc := 62) (lv' := [(0, _), (1, _), (2, _), (3, _), (4, _)]) dX1_dieAs_62 (Nat.le_of_ble_eq_true rfl) rfl ?_
        refine r_aload_n (pc := 64) 0 dX1_dieAs_64 rfl ?_
        refine r_getR (pc := 65) fl_X1_9 (ca_39 hc) (cf_39_0 hc) dX1_dieAs_65 ?_
        refine r_iload_n (pc := 68) 1 dX1_dieAs_68 rfl ?_
        refine r_dV (pc := 69) (As := [_]) mv_X5_isHere ml_X1_64 (c5_isHere hp hv hn h6 _) (pt_is (cs_pt3 hc)) rfl rfl (Nat.le_of_ble_eq_true rfl) (Nat.le_of_ble_eq_true rfl) (Nat.le_of_ble_eq_true rfl) (Nat.le_of_ble_eq_true rfl) (Nat.le_of_ble_eq_true rfl) dX1_dieAs_69 ?_
        refine r_if_eq (pc := 72) (tgt := 80) dX1_dieAs_72 (by decide) (fun c_72 => ?_) (fun c_72 => ?_)
        · have hz := bI_0.mp c_72
          unfold hereB at hz
          rw [hcN, ek, nI_clamp (by omega), Bool.true_and] at hz
          exact no3 _ (fun z => by rw [hz] at z; exact absurd z.1 (by decide))
        · have hz := bI_n0.mp c_72
          unfold hereB at hz
          rw [hcN, ek, nI_clamp (by omega), Bool.true_and] at hz
          refine r_iload (pc := 75) 4 dX1_dieAs_75 rfl ?_
          refine r_if_ne (pc := 77) (tgt := 83) dX1_dieAs_77 (by decide) (fun c_77 => ?_) (fun c_77 => ?_)
          · have hgt := bI_n0.mp c_77
            rw [hgt] at hg
            have hcan := of_decide_eq_true hg.symm
            have e : dieV r nc c s = onesN (yetF (r (14 + k)) s) 9 := by unfold dieV; rw [if_pos hs10, if_pos hcN, ek, nI_clamp (by omega), if_pos ⟨hz, hcan⟩]
            have hpos : 0 ≤ dieV r nc c s := by rw [e]; exact onesN_p _
            have hd2 : (s = 9 ∧ r (14 + k) = 0) ∨ (¬ s = 9 ∧ ¬ r (14 + k) = 0) := by
              rcases hcan with z | z
              · exact Or.inl z
              · refine Or.inr ⟨z.1, fun w => ?_⟩
                rw [inN_10, decide_eq_false z.1, Bool.false_or] at hs10
                obtain ⟨l, hl, el⟩ := inN_of (by decide) hs10
                have := z.2
                rw [w, el, bit_n0 l hl] at this
                cases this
            refine r_aload_n (pc := 83) 0 dX1_dieAs_83 rfl ?_
            refine r_getR (pc := 84) fl_X1_22 (ca_39 hc) (cf_39_2 hc) dX1_dieAs_84 ?_
            refine r_iconst (pc := 87) (1) dX1_dieAs_87 rfl ?_
            refine r_aload_n (pc := 88) 0 dX1_dieAs_88 rfl ?_
            refine r_getR (pc := 89) fl_X1_9 (ca_39 hc) (cf_39_0 hc) dX1_dieAs_89 ?_
            refine r_callV (pc := 92) (As := [_, _]) mv_X4_keep ml_X1_49 (c4_keep (cs_ps40 hc) hps hp hv (by omega) 1) (ps_is (cs_ps40 hc)) rfl rfl (Nat.le_of_ble_eq_true rfl) (Nat.le_of_ble_eq_true rfl) (Nat.le_of_ble_eq_true rfl) (Nat.le_of_ble_eq_true rfl) (Nat.le_of_ble_eq_true rfl) dX1_dieAs_92 (fun r h3 hp => ?_)
            obtain ⟨rfl, f3, hps3⟩ := hp
            show Wp E mX1_dieAs _ _ _ _ [] _ 0 0
            have g3 : Fr (acS x) h h3 := f3.mono (fun a k z => (Or.inr (Or.inr z) : acS x a k))
            have hc3 := hc.ac g3
            have hv3 : PtV h3 (x + 3) r := hv.fr f3 (fun i k hi => by unfold psW; omega)
            have hel := c5_endLife (cs_pt3 hc3) hv3 (show k < 6 by omega) s
            rw [← ek, endR_die hd2 (by omega)] at hel
            refine r_aload_n (pc := 95) 0 dX1_dieAs_95 rfl ?_
            refine r_getR (pc := 96) fl_X1_9 (ca_39 hc3) (cf_39_0 hc3) dX1_dieAs_96 ?_
            refine r_iload_n (pc := 99) 1 dX1_dieAs_99 rfl ?_
            refine r_iload_n (pc := 100) 2 dX1_dieAs_100 rfl ?_
            refine r_callV (pc := 101) (As := [_, _]) mv_X5_endLife ml_X1_95 (hel) (pt_is (cs_pt3 hc3)) rfl rfl (Nat.le_of_ble_eq_true rfl) (Nat.le_of_ble_eq_true rfl) (Nat.le_of_ble_eq_true rfl) (Nat.le_of_ble_eq_true rfl) (Nat.le_of_ble_eq_true rfl) dX1_dieAs_101 (fun r h4 hp => ?_)
            obtain ⟨rfl, f4, hv4⟩ := hp
            show Wp E mX1_dieAs _ _ _ _ [] _ 0 0
            have g4 : Fr (acS x) h h4 := g3.tr (f4.mono (fun a k z => (Or.inr (Or.inl z) : acS x a k)))
            have hc4 := hc.ac g4
            have hps4 : PsV h4 (x + 40) ((nw + 1) % 16) (kpU u) (kpF K u 1) (kpF S u r) := hps3.fr f4 (by unfold ptW; omega) (by unfold ptW; omega) (fun i k h1 h2 => by unfold ptW; omega)
            have eyt : dieR r k s (14 + k) = yetF (r (14 + k)) s := by unfold dieR; rw [va_up_ne _ _ (by omega), va_up_self]
            have hbits : ∃ y2, y2 < 512 ∧ yetF (r (14 + k)) s = nI y2 := by
              unfold yetF
              rcases hd2 with z | z
              · rw [if_pos z.1, z.2]; exact ⟨0, by decide, by decide⟩
              · rw [if_neg z.1, ey]
                rw [inN_10, decide_eq_false z.1, Bool.false_or] at hs10
                obtain ⟨l, hl, el⟩ := inN_of (by decide) hs10
                rw [el, and9 y hy l hl]
                exact ⟨_, by omega, rfl⟩
            obtain ⟨y2, hy2, ey2⟩ := hbits
            refine r_aload_n (pc := 104) 0 dX1_dieAs_104 rfl ?_
            refine r_getR (pc := 105) fl_X1_9 (ca_39 hc4) (cf_39_0 hc4) dX1_dieAs_105 ?_
            refine r_getR (pc := 108) fl_X1_88 (pt_is (cs_pt3 hc4)) (pt_f2 (cs_pt3 hc4)) dX1_dieAs_108 ?_
            refine r_iload_n (pc := 111) 1 dX1_dieAs_111 rfl ?_
            refine r_iald (pc := 112) (j := k) (pt_r2 (cs_pt3 hc4)) ek (by omega) (by decide) dX1_dieAs_112 ?_
            refine r_dS (pc := 113) (As := [_]) ms_J6_bitCount_0f7a4 ml_X1_80 (ct_bitCount _) rfl rfl (Nat.le_of_ble_eq_true rfl) (Nat.le_of_ble_eq_true rfl) (Nat.le_of_ble_eq_true rfl) (Nat.le_of_ble_eq_true rfl) (Nat.le_of_ble_eq_true rfl) dX1_dieAs_113 ?_
            refine r_iret (pc := 116) rfl ?_ (Nat.le_of_ble_eq_true rfl) (Nat.le_of_ble_eq_true rfl) dX1_dieAs_116
            refine ⟨?_, g4, ?_, kpP_y hpos hps4⟩
            · rw [pv_ye hv4 (by omega), eyt, e, ey2, bcF_ones hy2]
            · rw [if_pos hpos, ek, nI_clamp (by omega)]; exact hv4
          · have hgt := bI_0.mp c_77
            rw [hgt] at hg
            exact no3 _ (fun z => of_decide_eq_false hg.symm z.2)
      refine r_aload_n (pc := 29) 0 dX1_dieAs_29 rfl ?_
      refine r_getR (pc := 30) fl_X1_9 (ca_39 hc) (cf_39_0 hc) dX1_dieAs_30 ?_
      refine r_getR (pc := 33) fl_X1_88 (pt_is (cs_pt3 hc)) (pt_f2 (cs_pt3 hc)) dX1_dieAs_33 ?_
      refine r_iload_n (pc := 36) 1 dX1_dieAs_36 rfl ?_
      refine r_iald (pc := 37) (j := k) (pt_r2 (cs_pt3 hc)) ek (by omega) (by decide) dX1_dieAs_37 ?_
      rw [pv_ye hv (by omega)]
      refine r_istore_n (pc := 38) (lv' := [(0, _), (1, _), (2, _), (3, _)]) dX1_dieAs_38 (Nat.le_of_ble_eq_true rfl) rfl ?_
      refine r_iload_n (pc := 39) 2 dX1_dieAs_39 rfl ?_
      refine r_bipush (pc := 40) (9) dX1_dieAs_40 rfl ?_
      refine r_icmp_ne (pc := 42) (tgt := 57) dX1_dieAs_42 (by decide) (fun c_42 => ?_) (fun c_42 => ?_)
      · refine r_iload_n (pc := 57) 3 dX1_dieAs_57 rfl ?_
        refine r_iload_n (pc := 58) 2 dX1_dieAs_58 rfl ?_
        refine r_dN (pc := 59) (As := [_, _]) ms_X11_hasBit mk_X1_91 (ct_hasBit _ _) rfl rfl (Nat.le_of_ble_eq_true rfl) (Nat.le_of_ble_eq_true rfl) (Nat.le_of_ble_eq_true rfl) (Nat.le_of_ble_eq_true rfl) (Nat.le_of_ble_eq_true rfl) dX1_dieAs_59 ?_
        refine at62 _ ?_
        cases hb : isB (r (14 + k)) s with
        | true => rw [decide_eq_true (Or.inr ⟨c_42, rfl⟩)]
        | false => rw [decide_eq_false (fun z => z.elim (fun w => c_42 w.1) (fun w => by cases w.2))]
      · refine r_iload_n (pc := 45) 3 dX1_dieAs_45 rfl ?_
        refine r_if_ne (pc := 46) (tgt := 53) dX1_dieAs_46 (by decide) (fun c_46 => ?_) (fun c_46 => ?_)
        · refine r_iconst (pc := 53) (0) dX1_dieAs_53 rfl ?_
          refine r_goto (pc := 54) (tgt := 62) dX1_dieAs_54 (by decide) ?_
          exact at62 false (by rw [decide_eq_false (fun z => z.elim (fun w => c_46 w.2) (fun w => w.1 c_42))])
        · refine r_iconst (pc := 49) (1) dX1_dieAs_49 rfl ?_
          refine r_goto (pc := 50) (tgt := 62) dX1_dieAs_50 (by decide) ?_
          exact at62 true (by rw [decide_eq_true (Or.inl ⟨c_42, c_46⟩)])
    · have e : dieV r nc c s = -2 := by unfold dieV; rw [if_pos hs10, if_neg (by rw [bI_0.mp c_23]; decide)]
      rw [e]
      refine r_bipush (pc := 26) (-2) dX1_dieAs_26 rfl ?_
      refine r_iret (pc := 28) rfl ?_ (Nat.le_of_ble_eq_true rfl) (Nat.le_of_ble_eq_true rfl) dX1_dieAs_28
      exact ⟨rfl, Fr.rf, by rw [if_neg (by decide)]; exact hv, kpP_n (by decide) hps⟩
  refine r_iload_n (pc := 0) 2 dX1_dieAs_0 rfl ?_
  refine r_bipush (pc := 1) (9) dX1_dieAs_1 rfl ?_
  refine r_icmp_eq (pc := 3) (tgt := 15) dX1_dieAs_3 (by decide) (fun c_3 => ?_) (fun c_3 => ?_)
  · exact at15 (by rw [inN_10, decide_eq_true c_3, Bool.true_or])
  · refine r_iload_n (pc := 6) 2 dX1_dieAs_6 rfl ?_
    refine r_dN (pc := 7) (As := [_]) ms_X11_isLife mk_X1_85 (ct_cisLife _) rfl rfl (Nat.le_of_ble_eq_true rfl) (Nat.le_of_ble_eq_true rfl) (Nat.le_of_ble_eq_true rfl) (Nat.le_of_ble_eq_true rfl) (Nat.le_of_ble_eq_true rfl) dX1_dieAs_7 ?_
    refine r_if_ne (pc := 10) (tgt := 15) dX1_dieAs_10 (by decide) (fun c_10 => ?_) (fun c_10 => ?_)
    · exact at15 (by rw [inN_10, bI_n0.mp c_10, Bool.or_true])
    · have e : dieV r nc c s = -1 := by unfold dieV; rw [if_neg (by rw [inN_10, decide_eq_false c_3, bI_0.mp c_10]; decide)]
      rw [e]
      refine r_iconst (pc := 13) (-1) dX1_dieAs_13 rfl ?_
      refine r_iret (pc := 14) rfl ?_ (Nat.le_of_ble_eq_true rfl) (Nat.le_of_ble_eq_true rfl) dX1_dieAs_14
      exact ⟨rfl, Fr.rf, by rw [if_neg (by decide)]; exact hv, kpP_n (by decide) hps⟩
end DOING3
