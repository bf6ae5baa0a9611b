/-! the class's own methods: sums over cats, counts -/
section OWN3
variable {E : En} {h : Hp} {x : Nat} {r : Nat → Int32}
theorem alive_set : ∀ n, n ≤ 9 → SetIs (aliveN r n) n (aliveF r)
  | 0, _ => SetIs.z
  | n + 1, hn => by
    have ih := alive_set n (by omega)
    rw [aliveN]
    cases hb : aliveF r n with
    | true => rw [if_pos rfl]; exact ih.yes (by omega) hb
    | false => rw [if_neg (by decide), Int32.or_zero]; exact ih.no hb
theorem lives_cg {a b : Int32} : ∀ n, (∀ k, k < n → aliveF r k = true → isB a (nI k) = isB b (nI k)) → livesN r a n = livesN r b n
  | 0, _ => rfl
  | n + 1, hh => by
    rw [livesN, livesN, lives_cg n (fun k hk => hh k (by omega))]
    congr 1
    cases hb : aliveF r n with
    | true => rw [hh n (by omega) hb]
    | false => rw [if_neg (fun z => absurd z.2 (by decide)), if_neg (fun z => absurd z.2 (by decide))]
theorem t63 : ∀ k, k < 6 → isB (63 : Int32) (nI k) = true := by decide
theorem c11_unused (hc : CS E h x) (hv : PtV h (x + 3) r) {n : Nat} (hn : r 0 = nI n) (h6 : n ≤ 6) : Ct E 2 0 0 mX11_unused [.ref x] h (po (some (.int (511 &&& (livesN r (aliveN r n) n ^^^ -1)))) h) := by
  have hp := cs_pt3 hc
  obtain ⟨y, hy, e, hb⟩ := alive_set (r := r) n (by omega)
  have eL : livesN r 63 n = livesN r (aliveN r n) n := lives_cg n (fun k hk ha => by rw [t63 k (by omega), e, isB9 y hy k (by omega), hb k (by omega), decide_eq_true hk, ha]; rfl)
  refine Ct.of (by decide +kernel) (Nat.le_of_ble_eq_true rfl) ?_
  refine r_sipush (pc := 0) (511) dX11_unused_0 rfl ?_
  refine r_aload_n (pc := 3) 0 dX11_unused_3 rfl ?_
  refine r_getR (pc := 4) fl_X11_15 (nl_is hc) (nl_f0 hc) dX11_unused_4 ?_
  refine r_bipush (pc := 7) (63) dX11_unused_7 rfl ?_
  refine r_dV (pc := 9) (As := [_]) mv_X5_livesOf ml_X11_287 (c5_livesOf hp hv hn h6 _) (pt_is (cs_pt3 hc)) rfl rfl (Nat.le_of_ble_eq_true rfl) (Nat.le_of_ble_eq_true rfl) (Nat.le_of_ble_eq_true rfl) (Nat.le_of_ble_eq_true rfl) (Nat.le_of_ble_eq_true rfl) dX11_unused_9 ?_
  rw [eL]
  refine r_iconst (pc := 12) (-1) dX11_unused_12 rfl ?_
  refine r_ixor (pc := 13) dX11_unused_13 ?_
  refine r_iand (pc := 14) dX11_unused_14 ?_
  refine r_iret (pc := 15) rfl ?_ (Nat.le_of_ble_eq_true rfl) (Nat.le_of_ble_eq_true rfl) dX11_unused_15
  exact ⟨rfl, rfl⟩
theorem c11_frauds (hc : CS E h x) (hv : PtV h (x + 3) r) {n : Nat} (hn : r 0 = nI n) (h6 : n ≤ 6) : Ct E 2 0 0 mX11_frauds [.ref x] h (po (some (.int (frauN r n))) h) := by
  have hp := cs_pt3 hc
  refine Ct.of (by decide +kernel) (Nat.le_of_ble_eq_true rfl) ?_
  refine r_iconst (pc := 0) (0) dX11_frauds_0 rfl ?_
  refine r_istore_n (pc := 1) (lv' := [(0, _), (1, _)]) dX11_frauds_1 (Nat.le_of_ble_eq_true rfl) rfl ?_
  refine r_iconst (pc := 2) (0) dX11_frauds_2 rfl ?_
  refine r_istore_n (pc := 3) (lv' := [(0, _), (1, _), (2, _)]) dX11_frauds_3 (Nat.le_of_ble_eq_true rfl) rfl ?_
  have loop : ∀ k, k ≤ n → Wp E mX11_frauds (Rm 2 0 0) (Qm E (po (some (.int (frauN r n))) h) 0 0) 4 [(0, .ref x), (1, .int (frauN r k)), (2, .int (nI k))] [] h 0 0 := by
    refine upTo (fun k hk ih => ?_) ?_
    · have eh : hereB r n (nI k) = aliveF r k := by unfold hereB; rw [inN_nI (by omega), decide_eq_true hk, Bool.true_and, nI_clamp (by omega)]
      have no : ¬ (aliveF r k = true ∧ ¬ r (20 + k) = 9 ∧ ¬ r (20 + k) = r (8 + k)) → ∀ v3 : Int32, Wp E mX11_frauds (Rm 2 0 0) (Qm E (po (some (.int (frauN r n))) h) 0 0) 77 [(0, .ref x), (1, .int (frauN r k)), (2, .int (nI k)), (3, .int v3)] [] h 0 0 := by
        intro hno v3
        have e9 : frauN r (k + 1) = frauN r k := by rw [frauN, if_neg hno, Int32.or_zero]
        rw [e9] at ih
        refine r_iinc (pc := 77) (v := _ + (1)) (lv' := [(0, _), (1, _), (2, _), (3, _)]) 2 dX11_frauds_77 rfl rfl (Nat.le_of_ble_eq_true rfl) rfl ?_
        refine r_goto (pc := 80) (tgt := 4) dX11_frauds_80 (by decide) ?_
        refine r_sub [0, 1, 2] rfl ?_
        rw [nI_1]; exact ih
      have at34 : ∀ b : Bool, b = decide (¬ r (20 + k) = 9) → Wp E mX11_frauds (Rm 2 0 0) (Qm E (po (some (.int (frauN r n))) h) 0 0) 34 [(0, .ref x), (1, .int (frauN r k)), (2, .int (nI k))] [.int (bI b)] h 0 0 := by
        rintro b rfl
        refine r_istore_n (pc := 34) (lv' := [(0, _), (1, _), (2, _), (3, _)]) dX11_frauds_34 (Nat.le_of_ble_eq_true rfl) rfl ?_
        refine r_aload_n (pc := 35) 0 dX11_frauds_35 rfl ?_
        refine r_getR (pc := 36) fl_X11_15 (nl_is hc) (nl_f0 hc) dX11_frauds_36 ?_
        refine r_iload_n (pc := 39) 2 dX11_frauds_39 rfl ?_
        refine r_dV (pc := 40) (As := [_]) mv_X5_isHere ml_X11_148 (c5_isHere hp hv hn h6 _) (pt_is (cs_pt3 hc)) rfl rfl (Nat.le_of_ble_eq_true rfl) (Nat.le_of_ble_eq_true rfl) (Nat.le_of_ble_eq_true rfl) (Nat.le_of_ble_eq_true rfl) (Nat.le_of_ble_eq_true rfl) dX11_frauds_40 ?_
        refine r_if_eq (pc := 43) (tgt := 77) dX11_frauds_43 (by decide) (fun c_43 => ?_) (fun c_43 => ?_)
        · rw [eh] at c_43
          exact no (fun z => by rw [bI_0.mp c_43] at z; exact absurd z.1 (by decide)) _
        · rw [eh] at c_43
          refine r_iload_n (pc := 46) 3 dX11_frauds_46 rfl ?_
          refine r_if_eq (pc := 47) (tgt := 77) dX11_frauds_47 (by decide) (fun c_47 => ?_) (fun c_47 => ?_)
          · exact no (fun z => of_decide_eq_false (bI_0.mp c_47) z.2.1) _
          · refine r_aload_n (pc := 50) 0 dX11_frauds_50 rfl ?_
            refine r_getR (pc := 51) fl_X11_15 (nl_is hc) (nl_f0 hc) dX11_frauds_51 ?_
            refine r_getR (pc := 54) fl_X11_132 (pt_is (cs_pt3 hc)) (pt_f3 (cs_pt3 hc)) dX11_frauds_54 ?_
            refine r_iload_n (pc := 57) 2 dX11_frauds_57 rfl ?_
            refine r_iald (pc := 58) (j := k) (pt_r3 (cs_pt3 hc)) rfl (by omega) (by decide) dX11_frauds_58 ?_
            refine r_aload_n (pc := 59) 0 dX11_frauds_59 rfl ?_
            refine r_getR (pc := 60) fl_X11_15 (nl_is hc) (nl_f0 hc) dX11_frauds_60 ?_
            refine r_getR (pc := 63) fl_X11_126 (pt_is (cs_pt3 hc)) (pt_f1 (cs_pt3 hc)) dX11_frauds_63 ?_
            refine r_iload_n (pc := 66) 2 dX11_frauds_66 rfl ?_
            refine r_iald (pc := 67) (j := k) (pt_r1 (cs_pt3 hc)) rfl (by omega) (by decide) dX11_frauds_67 ?_
            refine r_icmp_eq (pc := 68) (tgt := 77) dX11_frauds_68 (by decide) (fun c_68 => ?_) (fun c_68 => ?_)
            · rw [pv_ea hv (by omega), pv_li hv (by omega)] at c_68
              exact no (fun z => z.2.2 c_68) _
            · rw [pv_ea hv (by omega), pv_li hv (by omega)] at c_68
              have e9 : frauN r (k + 1) = frauN r k ||| 1 <<< (nI k &&& 31) := by rw [frauN, if_pos ⟨bI_n0.mp c_43, of_decide_eq_true (bI_n0.mp c_47), c_68⟩]
              rw [e9] at ih
              refine r_iload_n (pc := 71) 1 dX11_frauds_71 rfl ?_
              refine r_iconst (pc := 72) (1) dX11_frauds_72 rfl ?_
              refine r_iload_n (pc := 73) 2 dX11_frauds_73 rfl ?_
              refine r_ishl (pc := 74) dX11_frauds_74 ?_
              refine r_ior (pc := 75) dX11_frauds_75 ?_
              refine r_istore_n (pc := 76) (lv' := [(0, _), (1, _), (2, _), (3, _)]) dX11_frauds_76 (Nat.le_of_ble_eq_true rfl) rfl ?_
              refine r_iinc (pc := 77) (v := _ + (1)) (lv' := [(0, _), (1, _), (2, _), (3, _)]) 2 dX11_frauds_77 rfl rfl (Nat.le_of_ble_eq_true rfl) rfl ?_
              refine r_goto (pc := 80) (tgt := 4) dX11_frauds_80 (by decide) ?_
              refine r_sub [0, 1, 2] rfl ?_
              rw [nI_1]; exact ih
      refine r_iload_n (pc := 4) 2 dX11_frauds_4 rfl ?_
      refine r_aload_n (pc := 5) 0 dX11_frauds_5 rfl ?_
      refine r_getR (pc := 6) fl_X11_15 (nl_is hc) (nl_f0 hc) dX11_frauds_6 ?_
      refine r_getI (pc := 9) fl_X11_110 (pt_is (cs_pt3 hc)) dX11_frauds_9 ?_
      rw [pv_0 hv, hn]
      refine r_icmp_ge (pc := 12) (tgt := 83) dX11_frauds_12 (by decide) (fun c_12 => ?_) (fun c_12 => ?_)
      · exact absurd c_12 (nI_ge hk (by omega))
      · refine r_aload_n (pc := 15) 0 dX11_frauds_15 rfl ?_
        refine r_getR (pc := 16) fl_X11_15 (nl_is hc) (nl_f0 hc) dX11_frauds_16 ?_
        refine r_getR (pc := 19) fl_X11_132 (pt_is (cs_pt3 hc)) (pt_f3 (cs_pt3 hc)) dX11_frauds_19 ?_
        refine r_iload_n (pc := 22) 2 dX11_frauds_22 rfl ?_
        refine r_iald (pc := 23) (j := k) (pt_r3 (cs_pt3 hc)) rfl (by omega) (by decide) dX11_frauds_23 ?_
        refine r_bipush (pc := 24) (9) dX11_frauds_24 rfl ?_
        refine r_icmp_eq (pc := 26) (tgt := 33) dX11_frauds_26 (by decide) (fun c_26 => ?_) (fun c_26 => ?_)
        · rw [pv_ea hv (by omega)] at c_26
          refine r_iconst (pc := 33) (0) dX11_frauds_33 rfl ?_
          exact at34 false (decide_eq_false (fun z => z c_26)).symm
        · rw [pv_ea hv (by omega)] at c_26
          refine r_iconst (pc := 29) (1) dX11_frauds_29 rfl ?_
          refine r_goto (pc := 30) (tgt := 34) dX11_frauds_30 (by decide) ?_
          exact at34 true (decide_eq_true c_26).symm
    · refine r_iload_n (pc := 4) 2 dX11_frauds_4 rfl ?_
      refine r_aload_n (pc := 5) 0 dX11_frauds_5 rfl ?_
      refine r_getR (pc := 6) fl_X11_15 (nl_is hc) (nl_f0 hc) dX11_frauds_6 ?_
      refine r_getI (pc := 9) fl_X11_110 (pt_is (cs_pt3 hc)) dX11_frauds_9 ?_
      rw [pv_0 hv, hn]
      refine r_icmp_ge (pc := 12) (tgt := 83) dX11_frauds_12 (by decide) (fun c_12 => ?_) (fun c_12 => ?_)
      · refine r_iload_n (pc := 83) 1 dX11_frauds_83 rfl ?_
        refine r_iret (pc := 84) rfl ?_ (Nat.le_of_ble_eq_true rfl) (Nat.le_of_ble_eq_true rfl) dX11_frauds_84
        exact ⟨rfl, rfl⟩
      · exact absurd (nI_le (a := n) (b := n) (Nat.le_refl _) (by omega)) c_12
  exact loop 0 (by omega)
theorem c11_drawn {rb : Nat → Int32} {μ : Mu} (hc : CS E h x) (hv : PtV h (x + 14) rb) {n : Nat} (hn : rb 0 = nI n) (h6 : n ≤ 6) (hr : ∀ k, k < n → rb (8 + k) = μ 33 k ∧ bcF (rb (14 + k)) = μ 33 (6 + k) ∧ rb (26 + k) = μ 33 (12 + k)) (c w : Int32) : Ct E 1 0 0 mX11_drawn [.ref x, .int c, .int w] h (po (some (.int (drawnM μ n c w))) h) := by
  have hp := cs_pt14 hc
  refine Ct.of (by decide +kernel) (Nat.le_of_ble_eq_true rfl) ?_
  refine r_aload_n (pc := 0) 0 dX11_drawn_0 rfl ?_
  refine r_getR (pc := 1) fl_X11_25 (nl_is hc) (nl_f2 hc) dX11_drawn_1 ?_
  refine r_iload_n (pc := 4) 1 dX11_drawn_4 rfl ?_
  refine r_dV (pc := 5) (As := [_]) mv_X5_hasCat ml_X11_123 (c5_hasCat hp hv hn h6 _) (pt_is (cs_pt14 hc)) rfl rfl (Nat.le_of_ble_eq_true rfl) (Nat.le_of_ble_eq_true rfl) (Nat.le_of_ble_eq_true rfl) (Nat.le_of_ble_eq_true rfl) (Nat.le_of_ble_eq_true rfl) dX11_drawn_5 ?_
  refine r_if_ne (pc := 8) (tgt := 13) dX11_drawn_8 (by decide) (fun c_8 => ?_) (fun c_8 => ?_)
  · have hcN := bI_n0.mp c_8
    obtain ⟨k, hk, rfl⟩ := inN_of (by omega) hcN
    obtain ⟨e1, e2, e3⟩ := hr k hk
    refine r_iload_n (pc := 13) 2 dX11_drawn_13 rfl ?_
    by_cases hw : inN w 3 = true
    · rw [drawnM, if_pos ⟨hcN, hw⟩]
      obtain ⟨j, hj, rfl⟩ := inN_of (by decide) hw
      rw [nI_clamp (by omega), nI_clamp (by omega)]
      rcases (show j = 0 ∨ j = 1 ∨ j = 2 by omega) with rfl | rfl | rfl
      · refine r_tableIn (pc := 14) (off := 26) (tgt := 40) dX11_drawn_14 (by decide) (by decide) (by decide +kernel) (by decide) ?_
        refine r_aload_n (pc := 40) 0 dX11_drawn_40 rfl ?_
        refine r_getR (pc := 41) fl_X11_25 (nl_is hc) (nl_f2 hc) dX11_drawn_41 ?_
        refine r_getR (pc := 44) fl_X11_126 (pt_is (cs_pt14 hc)) (pt_f1 (cs_pt14 hc)) dX11_drawn_44 ?_
        refine r_iload_n (pc := 47) 1 dX11_drawn_47 rfl ?_
        refine r_iald (pc := 48) (j := k) (pt_r1 (cs_pt14 hc)) rfl (by omega) (by decide) dX11_drawn_48 ?_
        refine r_iret (pc := 49) rfl ?_ (Nat.le_of_ble_eq_true rfl) (Nat.le_of_ble_eq_true rfl) dX11_drawn_49
        rw [pv_li hv (by omega), e1, Nat.mul_zero, Nat.zero_add]; exact ⟨rfl, rfl⟩
      · refine r_tableIn (pc := 14) (off := 36) (tgt := 50) dX11_drawn_14 (by decide) (by decide) (by decide +kernel) (by decide) ?_
        refine r_aload_n (pc := 50) 0 dX11_drawn_50 rfl ?_
        refine r_getR (pc := 51) fl_X11_25 (nl_is hc) (nl_f2 hc) dX11_drawn_51 ?_
        refine r_getR (pc := 54) fl_X11_129 (pt_is (cs_pt14 hc)) (pt_f2 (cs_pt14 hc)) dX11_drawn_54 ?_
        refine r_iload_n (pc := 57) 1 dX11_drawn_57 rfl ?_
        refine r_iald (pc := 58) (j := k) (pt_r2 (cs_pt14 hc)) rfl (by omega) (by decide) dX11_drawn_58 ?_
        refine r_dS (pc := 59) (As := [_]) ms_J6_bitCount_0f7a4 ml_X11_290 (ct_bitCount _) rfl rfl (Nat.le_of_ble_eq_true rfl) (Nat.le_of_ble_eq_true rfl) (Nat.le_of_ble_eq_true rfl) (Nat.le_of_ble_eq_true rfl) (Nat.le_of_ble_eq_true rfl) dX11_drawn_59 ?_
        refine r_iret (pc := 62) rfl ?_ (Nat.le_of_ble_eq_true rfl) (Nat.le_of_ble_eq_true rfl) dX11_drawn_62
        rw [pv_ye hv (by omega), e2]; exact ⟨rfl, rfl⟩
      · refine r_tableIn (pc := 14) (off := 49) (tgt := 63) dX11_drawn_14 (by decide) (by decide) (by decide +kernel) (by decide) ?_
        refine r_aload_n (pc := 63) 0 dX11_drawn_63 rfl ?_
        refine r_getR (pc := 64) fl_X11_25 (nl_is hc) (nl_f2 hc) dX11_drawn_64 ?_
        refine r_getR (pc := 67) fl_X11_135 (pt_is (cs_pt14 hc)) (pt_f4 (cs_pt14 hc)) dX11_drawn_67 ?_
        refine r_iload_n (pc := 70) 1 dX11_drawn_70 rfl ?_
        refine r_iald (pc := 71) (j := k) (pt_r4 (cs_pt14 hc)) rfl (by omega) (by decide) dX11_drawn_71 ?_
        refine r_iret (pc := 72) rfl ?_ (Nat.le_of_ble_eq_true rfl) (Nat.le_of_ble_eq_true rfl) dX11_drawn_72
        rw [pv_go hv (by omega), e3]; exact ⟨rfl, rfl⟩
    · rw [drawnM, if_neg (fun z => hw z.2)]
      refine r_tableOut (pc := 14) (tgt := 73) dX11_drawn_14 (by have := inN_out hw; omega) (by decide) ?_
      refine r_iconst (pc := 73) (-1) dX11_drawn_73 rfl ?_
      refine r_iret (pc := 74) rfl ?_ (Nat.le_of_ble_eq_true rfl) (Nat.le_of_ble_eq_true rfl) dX11_drawn_74
      exact ⟨rfl, rfl⟩
  · refine r_iconst (pc := 11) (-1) dX11_drawn_11 rfl ?_
    refine r_iret (pc := 12) rfl ?_ (Nat.le_of_ble_eq_true rfl) (Nat.le_of_ble_eq_true rfl) dX11_drawn_12
    rw [drawnM, if_neg (fun z => by rw [bI_0.mp c_8] at z; exact absurd z.1 (by decide))]
    exact ⟨rfl, rfl⟩
theorem c11_count {μ : Mu} (hc : CS E h x) (hv : PtV h (x + 3) (μ 2)) {n u : Nat} (hn : μ 2 0 = nI n) (h6 : n ≤ 6) (hu : μ 0 8 = nI u) (hku : hI h (x + 40) 3 = nI u) (ht : hI h (x + 24) 1 = μ 0 13) (hrf : ∀ j, j < 7 → hI h (x + 101) j = μ 1 j) (w : Int32) : Ct E 2 0 0 mX11_count [.ref x, .int w] h (po (some (.int (countF μ n w))) h) := by
  have hp := cs_pt3 hc
  refine Ct.of (by decide +kernel) (Nat.le_of_ble_eq_true rfl) ?_
  refine r_iload_n (pc := 0) 1 dX11_count_0 rfl ?_
  by_cases hw : inN w 17 = true
  · obtain ⟨j, hj, rfl⟩ := inN_of (by decide) hw
    rw [countF_at μ n j hj]
    rcases (show j = 0 ∨ j = 1 ∨ j = 2 ∨ j = 3 ∨ j = 4 ∨ j = 5 ∨ j = 6 ∨ j = 7 ∨ j = 8 ∨ j = 9 ∨ j = 10 ∨ j = 11 ∨ j = 12 ∨ j = 13 ∨ j = 14 ∨ j = 15 ∨ j = 16 by omega) with rfl | rfl | rfl | rfl | rfl | rfl | rfl | rfl | rfl | rfl | rfl | rfl | rfl | rfl | rfl | rfl | rfl
    · refine r_tableIn (pc := 1) (off := 83) (tgt := 84) dX11_count_1 (by decide) (by decide) (by decide +kernel) (by decide) ?_
      refine r_aload_n (pc := 84) 0 dX11_count_84 rfl ?_
      refine r_getR (pc := 85) fl_X11_15 (nl_is hc) (nl_f0 hc) dX11_count_85 ?_
      refine r_getI (pc := 88) fl_X11_110 (pt_is (cs_pt3 hc)) dX11_count_88 ?_
      refine r_iret (pc := 91) rfl ?_ (Nat.le_of_ble_eq_true rfl) (Nat.le_of_ble_eq_true rfl) dX11_count_91
      rw [pv_0 hv]; exact ⟨rfl, rfl⟩
    · refine r_tableIn (pc := 1) (off := 91) (tgt := 92) dX11_count_1 (by decide) (by decide) (by decide +kernel) (by decide) ?_
      refine r_aload_n (pc := 92) 0 dX11_count_92 rfl ?_
      refine r_getR (pc := 93) fl_X11_15 (nl_is hc) (nl_f0 hc) dX11_count_93 ?_
      refine r_dV (pc := 96) (As := []) mv_X5_howManyAlive ml_X11_321 (c5_howManyAlive hp hv hn h6) (pt_is (cs_pt3 hc)) rfl rfl (Nat.le_of_ble_eq_true rfl) (Nat.le_of_ble_eq_true rfl) (Nat.le_of_ble_eq_true rfl) (Nat.le_of_ble_eq_true rfl) (Nat.le_of_ble_eq_true rfl) dX11_count_96 ?_
      refine r_iret (pc := 99) rfl ?_ (Nat.le_of_ble_eq_true rfl) (Nat.le_of_ble_eq_true rfl) dX11_count_99
      rw [alive_ones h6]; exact ⟨rfl, rfl⟩
    · refine r_tableIn (pc := 1) (off := 99) (tgt := 100) dX11_count_1 (by decide) (by decide) (by decide +kernel) (by decide) ?_
      refine r_aload_n (pc := 100) 0 dX11_count_100 rfl ?_
      refine r_getR (pc := 101) fl_X11_15 (nl_is hc) (nl_f0 hc) dX11_count_101 ?_
      refine r_getI (pc := 104) fl_X11_158 (pt_is (cs_pt3 hc)) dX11_count_104 ?_
      refine r_iret (pc := 107) rfl ?_ (Nat.le_of_ble_eq_true rfl) (Nat.le_of_ble_eq_true rfl) dX11_count_107
      rw [pv_1 hv]; exact ⟨rfl, rfl⟩
    · refine r_tableIn (pc := 1) (off := 107) (tgt := 108) dX11_count_1 (by decide) (by decide) (by decide +kernel) (by decide) ?_
      refine r_aload_n (pc := 108) 0 dX11_count_108 rfl ?_
      refine r_getR (pc := 109) fl_X11_15 (nl_is hc) (nl_f0 hc) dX11_count_109 ?_
      refine r_getI (pc := 112) fl_X11_262 (pt_is (cs_pt3 hc)) dX11_count_112 ?_
      refine r_iret (pc := 115) rfl ?_ (Nat.le_of_ble_eq_true rfl) (Nat.le_of_ble_eq_true rfl) dX11_count_115
      rw [pv_2 hv]; exact ⟨rfl, rfl⟩
    · refine r_tableIn (pc := 1) (off := 115) (tgt := 116) dX11_count_1 (by decide) (by decide) (by decide +kernel) (by decide) ?_
      refine r_aload_n (pc := 116) 0 dX11_count_116 rfl ?_
      refine r_getR (pc := 117) fl_X11_15 (nl_is hc) (nl_f0 hc) dX11_count_117 ?_
      refine r_getI (pc := 120) fl_X11_206 (pt_is (cs_pt3 hc)) dX11_count_120 ?_
      refine r_iret (pc := 123) rfl ?_ (Nat.le_of_ble_eq_true rfl) (Nat.le_of_ble_eq_true rfl) dX11_count_123
      rw [pv_3 hv]; exact ⟨rfl, rfl⟩
    · refine r_tableIn (pc := 1) (off := 123) (tgt := 124) dX11_count_1 (by decide) (by decide) (by decide +kernel) (by decide) ?_
      refine r_aload_n (pc := 124) 0 dX11_count_124 rfl ?_
      refine r_getR (pc := 125) fl_X11_56 (nl_is hc) (nl_f6 hc) dX11_count_125 ?_
      refine r_dV (pc := 128) (As := []) mv_X1_howManyKept ml_X11_324 (c1_howManyKept hc hku) (ca_39 hc) rfl rfl (Nat.le_of_ble_eq_true rfl) (Nat.le_of_ble_eq_true rfl) (Nat.le_of_ble_eq_true rfl) (Nat.le_of_ble_eq_true rfl) (Nat.le_of_ble_eq_true rfl) dX11_count_128 ?_
      refine r_iret (pc := 131) rfl ?_ (Nat.le_of_ble_eq_true rfl) (Nat.le_of_ble_eq_true rfl) dX11_count_131
      rw [← hu]; exact ⟨rfl, rfl⟩
    · refine r_tableIn (pc := 1) (off := 131) (tgt := 132) dX11_count_1 (by decide) (by decide) (by decide +kernel) (by decide) ?_
      refine r_aload_n (pc := 132) 0 dX11_count_132 rfl ?_
      refine r_getR (pc := 133) fl_X11_31 (nl_is hc) (nl_f3 hc) dX11_count_133 ?_
      refine r_getI (pc := 136) fl_X11_194 (ca_24 hc) dX11_count_136 ?_
      refine r_iret (pc := 139) rfl ?_ (Nat.le_of_ble_eq_true rfl) (Nat.le_of_ble_eq_true rfl) dX11_count_139
      rw [ht]; exact ⟨rfl, rfl⟩
    · refine r_tableIn (pc := 1) (off := 139) (tgt := 140) dX11_count_1 (by decide) (by decide) (by decide +kernel) (by decide) ?_
      refine r_aload_n (pc := 140) 0 dX11_count_140 rfl ?_
      refine r_getR (pc := 141) fl_X11_85 (nl_is hc) (nl_f10 hc) dX11_count_141 ?_
      refine r_iconst (pc := 144) (1) dX11_count_144 rfl ?_
      refine r_iald (pc := 145) (j := 1) (cr_101 hc) rfl (by decide) (by decide) dX11_count_145 ?_
      refine r_iret (pc := 146) rfl ?_ (Nat.le_of_ble_eq_true rfl) (Nat.le_of_ble_eq_true rfl) dX11_count_146
      rw [hrf 1 (by decide)]; exact ⟨rfl, rfl⟩
    · refine r_tableIn (pc := 1) (off := 146) (tgt := 147) dX11_count_1 (by decide) (by decide) (by decide +kernel) (by decide) ?_
      refine r_aload_n (pc := 147) 0 dX11_count_147 rfl ?_
      refine r_getR (pc := 148) fl_X11_85 (nl_is hc) (nl_f10 hc) dX11_count_148 ?_
      refine r_iconst (pc := 151) (2) dX11_count_151 rfl ?_
      refine r_iald (pc := 152) (j := 2) (cr_101 hc) rfl (by decide) (by decide) dX11_count_152 ?_
      refine r_iret (pc := 153) rfl ?_ (Nat.le_of_ble_eq_true rfl) (Nat.le_of_ble_eq_true rfl) dX11_count_153
      rw [hrf 2 (by decide)]; exact ⟨rfl, rfl⟩
    · refine r_tableIn (pc := 1) (off := 153) (tgt := 154) dX11_count_1 (by decide) (by decide) (by decide +kernel) (by decide) ?_
      refine r_aload_n (pc := 154) 0 dX11_count_154 rfl ?_
      refine r_getR (pc := 155) fl_X11_85 (nl_is hc) (nl_f10 hc) dX11_count_155 ?_
      refine r_iconst (pc := 158) (3) dX11_count_158 rfl ?_
      refine r_iald (pc := 159) (j := 3) (cr_101 hc) rfl (by decide) (by decide) dX11_count_159 ?_
      refine r_iret (pc := 160) rfl ?_ (Nat.le_of_ble_eq_true rfl) (Nat.le_of_ble_eq_true rfl) dX11_count_160
      rw [hrf 3 (by decide)]; exact ⟨rfl, rfl⟩
    · refine r_tableIn (pc := 1) (off := 160) (tgt := 161) dX11_count_1 (by decide) (by decide) (by decide +kernel) (by decide) ?_
      refine r_aload_n (pc := 161) 0 dX11_count_161 rfl ?_
      refine r_getR (pc := 162) fl_X11_85 (nl_is hc) (nl_f10 hc) dX11_count_162 ?_
      refine r_iconst (pc := 165) (5) dX11_count_165 rfl ?_
      refine r_iald (pc := 166) (j := 5) (cr_101 hc) rfl (by decide) (by decide) dX11_count_166 ?_
      refine r_iret (pc := 167) rfl ?_ (Nat.le_of_ble_eq_true rfl) (Nat.le_of_ble_eq_true rfl) dX11_count_167
      rw [hrf 5 (by decide)]; exact ⟨rfl, rfl⟩
    · refine r_tableIn (pc := 1) (off := 167) (tgt := 168) dX11_count_1 (by decide) (by decide) (by decide +kernel) (by decide) ?_
      refine r_aload_n (pc := 168) 0 dX11_count_168 rfl ?_
      refine r_getR (pc := 169) fl_X11_85 (nl_is hc) (nl_f10 hc) dX11_count_169 ?_
      refine r_bipush (pc := 172) (6) dX11_count_172 rfl ?_
      refine r_iald (pc := 174) (j := 6) (cr_101 hc) rfl (by decide) (by decide) dX11_count_174 ?_
      refine r_iret (pc := 175) rfl ?_ (Nat.le_of_ble_eq_true rfl) (Nat.le_of_ble_eq_true rfl) dX11_count_175
      rw [hrf 6 (by decide)]; exact ⟨rfl, rfl⟩
    · refine r_tableIn (pc := 1) (off := 175) (tgt := 176) dX11_count_1 (by decide) (by decide) (by decide +kernel) (by decide) ?_
      refine r_aload_n (pc := 176) 0 dX11_count_176 rfl ?_
      refine r_getR (pc := 177) fl_X11_15 (nl_is hc) (nl_f0 hc) dX11_count_177 ?_
      refine r_getI (pc := 180) fl_X11_239 (pt_is (cs_pt3 hc)) dX11_count_180 ?_
      refine r_iret (pc := 183) rfl ?_ (Nat.le_of_ble_eq_true rfl) (Nat.le_of_ble_eq_true rfl) dX11_count_183
      rw [pv_4 hv]; exact ⟨rfl, rfl⟩
    · refine r_tableIn (pc := 1) (off := 183) (tgt := 184) dX11_count_1 (by decide) (by decide) (by decide +kernel) (by decide) ?_
      refine r_aload_n (pc := 184) 0 dX11_count_184 rfl ?_
      refine r_getR (pc := 185) fl_X11_15 (nl_is hc) (nl_f0 hc) dX11_count_185 ?_
      refine r_getR (pc := 188) fl_X11_183 (pt_is (cs_pt3 hc)) (pt_f10 (cs_pt3 hc)) dX11_count_188 ?_
      refine r_iconst (pc := 191) (0) dX11_count_191 rfl ?_
      refine r_iald (pc := 192) (j := 0) (pt_r10 (cs_pt3 hc)) rfl (by decide) (by decide) dX11_count_192 ?_
      refine r_iret (pc := 193) rfl ?_ (Nat.le_of_ble_eq_true rfl) (Nat.le_of_ble_eq_true rfl) dX11_count_193
      rw [pv_te hv (show 0 < 3 by decide)]; exact ⟨rfl, rfl⟩
    · refine r_tableIn (pc := 1) (off := 193) (tgt := 194) dX11_count_1 (by decide) (by decide) (by decide +kernel) (by decide) ?_
      refine r_aload_n (pc := 194) 0 dX11_count_194 rfl ?_
      refine r_getR (pc := 195) fl_X11_15 (nl_is hc) (nl_f0 hc) dX11_count_195 ?_
      refine r_getR (pc := 198) fl_X11_183 (pt_is (cs_pt3 hc)) (pt_f10 (cs_pt3 hc)) dX11_count_198 ?_
      refine r_iconst (pc := 201) (1) dX11_count_201 rfl ?_
      refine r_iald (pc := 202) (j := 1) (pt_r10 (cs_pt3 hc)) rfl (by decide) (by decide) dX11_count_202 ?_
      refine r_iret (pc := 203) rfl ?_ (Nat.le_of_ble_eq_true rfl) (Nat.le_of_ble_eq_true rfl) dX11_count_203
      rw [pv_te hv (show 1 < 3 by decide)]; exact ⟨rfl, rfl⟩
    · refine r_tableIn (pc := 1) (off := 203) (tgt := 204) dX11_count_1 (by decide) (by decide) (by decide +kernel) (by decide) ?_
      refine r_aload_n (pc := 204) 0 dX11_count_204 rfl ?_
      refine r_getR (pc := 205) fl_X11_15 (nl_is hc) (nl_f0 hc) dX11_count_205 ?_
      refine r_getR (pc := 208) fl_X11_183 (pt_is (cs_pt3 hc)) (pt_f10 (cs_pt3 hc)) dX11_count_208 ?_
      refine r_iconst (pc := 211) (2) dX11_count_211 rfl ?_
      refine r_iald (pc := 212) (j := 2) (pt_r10 (cs_pt3 hc)) rfl (by decide) (by decide) dX11_count_212 ?_
      refine r_iret (pc := 213) rfl ?_ (Nat.le_of_ble_eq_true rfl) (Nat.le_of_ble_eq_true rfl) dX11_count_213
      rw [pv_te hv (show 2 < 3 by decide)]; exact ⟨rfl, rfl⟩
    · refine r_tableIn (pc := 1) (off := 213) (tgt := 214) dX11_count_1 (by decide) (by decide) (by decide +kernel) (by decide) ?_
      refine r_aload_n (pc := 214) 0 dX11_count_214 rfl ?_
      refine r_getR (pc := 215) fl_X11_15 (nl_is hc) (nl_f0 hc) dX11_count_215 ?_
      refine r_dV (pc := 218) (As := []) mv_X5_allGold ml_X11_327 (c5_allGold hp hv hn h6) (pt_is (cs_pt3 hc)) rfl rfl (Nat.le_of_ble_eq_true rfl) (Nat.le_of_ble_eq_true rfl) (Nat.le_of_ble_eq_true rfl) (Nat.le_of_ble_eq_true rfl) (Nat.le_of_ble_eq_true rfl) dX11_count_218 ?_
      refine r_iret (pc := 221) rfl ?_ (Nat.le_of_ble_eq_true rfl) (Nat.le_of_ble_eq_true rfl) dX11_count_221
      exact ⟨rfl, rfl⟩
  · rw [countF, if_neg hw]
    refine r_tableOut (pc := 1) (tgt := 222) dX11_count_1 (by have := inN_out hw; omega) (by decide) ?_
    refine r_iconst (pc := 222) (-1) dX11_count_222 rfl ?_
    refine r_iret (pc := 223) rfl ?_ (Nat.le_of_ble_eq_true rfl) (Nat.le_of_ble_eq_true rfl) dX11_count_223
    exact ⟨rfl, rfl⟩
/-- one that is gone is on no ship -/
def Gn (r : Nat → Int32) : Prop := ∀ k, k < 6 → r (8 + k) = -1 → r (32 + k) = -1
theorem c11_safe {nc ns nl : Nat} {lw : Option Nat} {fo : Option (List Cl)} (hL : Lv E h x r nc ns nl lw fo) (hg : Gn r) (s : Int32) : Ct E 3 0 0 mX11_safe [.ref x, .int s] h (pQ h x (.long (safeF r fo nc ns s))) := by
  obtain ⟨hc, hv, hrw, ⟨h3, hl6⟩, hlw, hfo⟩ := hL
  obtain ⟨hn, h6, hns, hs3, -⟩ := id hrw
  have hp := cs_pt3 hc
  have hpx : pOf x (x + 3) := Or.inl rfl
  obtain ⟨d, hd10, ed⟩ := hrw.2.2.2.2.2.2.2.2.2.1
  refine Ct.of (by decide +kernel) (Nat.le_of_ble_eq_true rfl) ?_
  refine r_aload_n (pc := 0) 0 dX11_safe_0 rfl ?_
  refine r_getR (pc := 1) fl_X11_15 (nl_is hc) (nl_f0 hc) dX11_safe_1 ?_
  refine r_iload_n (pc := 4) 1 dX11_safe_4 rfl ?_
  refine r_dV (pc := 5) (As := [_]) mv_X5_hasShip ml_X11_164 (c5_hasShip hp hv hns hs3 _) (pt_is (cs_pt3 hc)) rfl rfl (Nat.le_of_ble_eq_true rfl) (Nat.le_of_ble_eq_true rfl) (Nat.le_of_ble_eq_true rfl) (Nat.le_of_ble_eq_true rfl) (Nat.le_of_ble_eq_true rfl) dX11_safe_5 ?_
  refine r_if_ne (pc := 8) (tgt := 15) dX11_safe_8 (by decide) (fun c_8 => ?_) (fun c_8 => ?_)
  · have hsN := bI_n0.mp c_8
    rw [safeF, if_pos hsN]
    obtain ⟨sh, hsh, es⟩ := inN_of (by omega) hsN
    refine r_ldc2_w (pc := 15) cs_X11_295 dX11_safe_15 ?_
    refine r_lstore_n (pc := 18) (lv' := [(0, _), (1, _), (2, _)]) dX11_safe_18 (Nat.le_of_ble_eq_true rfl) rfl ?_
    refine r_iconst (pc := 19) (0) dX11_safe_19 rfl ?_
    refine r_istore (pc := 20) (lv' := [(0, _), (1, _), (2, _), (4, _)]) dX11_safe_20 (Nat.le_of_ble_eq_true rfl) rfl ?_
    have loop : ∀ k, k ≤ nc → ∀ hh : Hp, Fr (akS x) h hh → Wp E mX11_safe (Rm 3 0 0) (Qm E (pQ h x (.long (safeN r fo s nc))) 0 0) 22 [(0, .ref x), (1, .int s), (2, .long (safeN r fo s k)), (4, .int (nI k))] [] hh 0 0 := by
      refine upTo (fun k hk ih => ?_) ?_
      · intro hh fr
        have hch := hc.ak fr
        have hvh := hv.ak hpx fr
        have hph := cs_pt3 hch
        refine r_iload (pc := 22) 3 dX11_safe_22 rfl ?_
        refine r_aload_n (pc := 24) 0 dX11_safe_24 rfl ?_
        refine r_getR (pc := 25) fl_X11_15 (nl_is hch) (nl_f0 hch) dX11_safe_25 ?_
        refine r_getI (pc := 28) fl_X11_110 (pt_is (cs_pt3 hch)) dX11_safe_28 ?_
        rw [pv_0 hvh, hn]
        refine r_icmp_ge (pc := 31) (tgt := 88) dX11_safe_31 (by decide) (fun c_31 => ?_) (fun c_31 => ?_)
        · exact absurd c_31 (nI_ge hk (by omega))
        · refine r_aload_n (pc := 34) 0 dX11_safe_34 rfl ?_
          refine r_getR (pc := 35) fl_X11_15 (nl_is hch) (nl_f0 hch) dX11_safe_35 ?_
          refine r_getR (pc := 38) fl_X11_138 (pt_is (cs_pt3 hch)) (pt_f5 (cs_pt3 hch)) dX11_safe_38 ?_
          refine r_iload (pc := 41) 3 dX11_safe_41 rfl ?_
          refine r_iald (pc := 43) (j := k) (pt_r5 (cs_pt3 hch)) rfl (by omega) (by decide) dX11_safe_43 ?_
          refine r_iload_n (pc := 44) 1 dX11_safe_44 rfl ?_
          refine r_icmp_ne (pc := 45) (tgt := 82) dX11_safe_45 (by decide) (fun c_45 => ?_) (fun c_45 => ?_)
          · rw [pv_sh hvh (by omega)] at c_45
            have e9 : safeN r fo s (k + 1) = safeN r fo s k := by rw [safeN, if_neg c_45]
            rw [e9] at ih
            refine r_iinc (pc := 82) (v := _ + (1)) (lv' := [(0, _), (1, _), (2, _), (4, _)]) 3 dX11_safe_82 rfl rfl (Nat.le_of_ble_eq_true rfl) rfl ?_
            refine r_goto (pc := 85) (tgt := 22) dX11_safe_85 (by decide) ?_
            rw [nI_1]; exact ih hh fr
          · rw [pv_sh hvh (by omega)] at c_45
            have e9 : safeN r fo s (k + 1) = safeN r fo s k * (10 - dareF r fo k (r (8 + k)) (spentF r k)).toInt64 / 10 := by rw [safeN, if_pos c_45]
            rw [e9] at ih
            have ha : aliveF r k = true := decide_eq_true (fun z => by rw [hg k (by omega) z, es] at c_45; exact m1_nI (by omega) c_45)
            obtain ⟨li, y, hli, eli, hy, ey⟩ := alive_cat hrw (show k < 6 by omega) ha
            have hlwh : LwA hh (x + 3) r nl lw := hlw.si hpx (fr.mono (fun _ _ => ak_si))
            refine r_aload_n (pc := 48) 0 dX11_safe_48 rfl ?_
            refine r_getR (pc := 49) fl_X11_47 (nl_is hch) (nl_f5 hch) dX11_safe_49 ?_
            refine r_aload_n (pc := 52) 0 dX11_safe_52 rfl ?_
            refine r_getR (pc := 53) fl_X11_15 (nl_is hch) (nl_f0 hch) dX11_safe_53 ?_
            refine r_iload (pc := 56) 3 dX11_safe_56 rfl ?_
            refine r_callV (pc := 58) (As := [_, _]) mv_X0_about ml_X11_151 (c0_about hch hpx hvh (by omega) (by omega) ey h3 hl6 hlwh) (ca_37 hch) rfl rfl (Nat.le_of_ble_eq_true rfl) (Nat.le_of_ble_eq_true rfl) (Nat.le_of_ble_eq_true rfl) (Nat.le_of_ble_eq_true rfl) (Nat.le_of_ble_eq_true rfl) dX11_safe_58 (fun r h2 hp => ?_)
            obtain ⟨rfl, f2, ha2⟩ := hp
            show Wp E mX11_safe _ _ _ _ [] _ 0 0
            have fr2 := fr.tr f2
            have hc2 := hc.ak fr2
            have ha3 := ha2
            rw [eli] at ha3
            refine r_lload_n (pc := 61) 2 dX11_safe_61 rfl ?_
            refine r_bipush (pc := 62) (10) dX11_safe_62 rfl ?_
            refine r_aload_n (pc := 64) 0 dX11_safe_64 rfl ?_
            refine r_getR (pc := 65) fl_X11_47 (nl_is hc2) (nl_f5 hc2) dX11_safe_65 ?_
            refine r_sipush (pc := 68) (264) dX11_safe_68 rfl ?_
            refine r_callV (pc := 71) (As := [_]) mv_X0_tells ml_X11_155 (ask_at (hd := 1) (on := 0) hc2 ha3 (Int32.add_zero _).symm (hfo.ak fr2) hli hd10 ed (by decide)) (ca_37 hc2) rfl rfl (Nat.le_of_ble_eq_true rfl) (Nat.le_of_ble_eq_true rfl) (Nat.le_of_ble_eq_true rfl) (Nat.le_of_ble_eq_true rfl) (Nat.le_of_ble_eq_true rfl) dX11_safe_71 (fun r h4 hp => ?_)
            obtain ⟨rfl, hr4⟩ := hp
            show Wp E mX11_safe _ _ _ _ [.int _, .int _, .long _] _ 0 0
            rw [tell_dare, ← eli]
            refine r_isub (pc := 74) dX11_safe_74 ?_
            refine r_i2l (pc := 75) dX11_safe_75 ?_
            refine r_lmul (pc := 76) dX11_safe_76 ?_
            refine r_ldc2_w (pc := 77) cs_X11_297 dX11_safe_77 ?_
            refine r_ldiv (pc := 80) dX11_safe_80 (by decide) ?_
            refine r_lstore_n (pc := 81) (lv' := [(0, _), (1, _), (2, _), (4, _)]) dX11_safe_81 (Nat.le_of_ble_eq_true rfl) rfl ?_
            refine r_iinc (pc := 82) (v := _ + (1)) (lv' := [(0, _), (1, _), (2, _), (4, _)]) 3 dX11_safe_82 rfl rfl (Nat.le_of_ble_eq_true rfl) rfl ?_
            refine r_goto (pc := 85) (tgt := 22) dX11_safe_85 (by decide) ?_
            rw [nI_1]
            exact ih h4 (fr2.tr hr4.ak)
      · intro hh fr
        have hch := hc.ak fr
        have hvh := hv.ak hpx fr
        refine r_iload (pc := 22) 3 dX11_safe_22 rfl ?_
        refine r_aload_n (pc := 24) 0 dX11_safe_24 rfl ?_
        refine r_getR (pc := 25) fl_X11_15 (nl_is hch) (nl_f0 hch) dX11_safe_25 ?_
        refine r_getI (pc := 28) fl_X11_110 (pt_is (cs_pt3 hch)) dX11_safe_28 ?_
        rw [pv_0 hvh, hn]
        refine r_icmp_ge (pc := 31) (tgt := 88) dX11_safe_31 (by decide) (fun c_31 => ?_) (fun c_31 => ?_)
        · refine r_lload_n (pc := 88) 2 dX11_safe_88 rfl ?_
          refine r_lret (pc := 89) rfl ?_ (Nat.le_of_ble_eq_true rfl) (Nat.le_of_ble_eq_true rfl) dX11_safe_89
          exact ⟨rfl, fr.mono (fun _ _ => ak_ro)⟩
        · exact absurd (nI_le (a := nc) (b := nc) (Nat.le_refl _) (by omega)) c_31
    exact loop 0 (by omega) h Fr.rf
  · refine r_ldc2_w (pc := 11) cs_X11_249 dX11_safe_11 ?_
    refine r_lret (pc := 14) rfl ?_ (Nat.le_of_ble_eq_true rfl) (Nat.le_of_ble_eq_true rfl) dX11_safe_14
    exact ⟨by rw [safeF, if_neg (by rw [bI_0.mp c_8]; decide)], Fr.rf⟩
end OWN3
