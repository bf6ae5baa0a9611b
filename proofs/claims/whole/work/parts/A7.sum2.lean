/-! the class's reader: sums -/
section SUM2
variable {E : En} {x n N : Nat} {b : Nat → Int32} {od test : Bool} {wl wo : Nat → Int64}
theorem c6_hasSum {D d : Nat} (HP : CtR E x b n N od mX6_hasTerm D d (fun i lv => semT (mcO b n od test wl wo) d i lv) (fun i lv => falT (mcO b n od test wl wo) d i lv)) : CtR E x b n N od mX6_hasSum (D + 1) d (fun i lv => semS (mcO b n od test wl wo) d i lv) (fun i lv => falS (mcO b n od test wl wo) d i lv) := by
  intro h i lv c hr
  have hr0 := hr
  obtain ⟨⟨hc, ht⟩, ⟨hi, hN⟩, -⟩ := hr
  refine Ct.of (by decide +kernel) (Nat.le_of_ble_eq_true rfl) ?_
  have loop : ∀ (fu : Nat) (hh : Hp) (i1 lv1 c1 : Nat) (s1 : Sm), N - i1 < fu → Fr (rdS x c) h hh → RdH E hh x b n N od i1 lv1 c1 → i < i1 → lv < lv1 → c < c1 → c1 + i ≤ i1 + c → CSeg (hI hh (x + 31)) (hI hh (x + 32)) (wlw od) c c1 (lv1 - lv) s1 → Bd s1 → (sgnA (tk b n i1) = -1 ∨ sgnA (tk b n i1) = 20 ∨ sgnA (tk b n i1) = 21) → (∀ pl, Tb 5 pl → ∃ P s2, Gos (mcO b n od test wl wo) (1, i, lv, d, pl, sZ) (3, i1, lv1, d, P, s2) ∧ Ey 5 P s2 pl s1 ∧ cmpA P = cmpA pl) → Wp E mX6_hasSum (Rm (D + 1) 0 0) (Qm E (pRe E h x b n N od i lv c (semS (mcO b n od test wl wo) d i lv) (falS (mcO b n od test wl wo) d i lv)) 0 0) 10 [(0, .ref (x + 26)), (1, .int (nI d))] [] hh 0 0 := by
    intro fu
    induction fu with
    | zero =>
      intro hh i1 lv1 c1 s1 hfu fr hr1 a1 a2 a3 a4 hseg hbd hlo hgo
      omega
    | succ fu IH =>
      intro hh i1 lv1 c1 s1 hfu fr hr1 a1 a2 a3 a4 hseg hbd hlo hgo
      obtain ⟨⟨hc1, ht1⟩, ⟨hi1, hN1⟩, -, -, -, hci1⟩ := id hr1
      have h400 := ht1.2.1
      have hkr := ht1.kr hN1
      have hsg := hkr.sgn
      have fin : ¬ (hI hh (x + 34) i1 = 43 ∨ hI hh (x + 34) i1 = 45) → Wp E mX6_hasSum (Rm (D + 1) 0 0) (Qm E (pRe E h x b n N od i lv c (semS (mcO b n od test wl wo) d i lv) (falS (mcO b n od test wl wo) d i lv)) 0 0) 92 [(0, .ref (x + 26)), (1, .int (nI d))] [] hh 0 0 := by
        intro hno
        refine r_iconst (pc := 92) (1) dX6_hasSum_92 rfl ?_
        refine r_zret (pc := 93) rfl (by decide) ?_ (Nat.le_of_ble_eq_true rfl) (Nat.le_of_ble_eq_true rfl) dX6_hasSum_93
        refine ⟨fr, Or.inl ⟨rfl, i1, lv1, c1, s1, hr1, a1, a2, a3, a4, hseg, hbd, ?_, hgo⟩⟩
        show sgnA (tk b n i1) = -1
        rcases hlo with z | z | z
        · exact z
        · rw [hsg] at z; unfold sgK at z
          rw [if_neg (fun w => hno (Or.inl w)), if_neg (fun w => hno (Or.inr w))] at z
          split at z
          · exact absurd z (by decide)
          · split at z
            · exact absurd z (by decide)
            · split at z <;> exact absurd z (by decide)
        · rw [hsg] at z; unfold sgK at z
          rw [if_neg (fun w => hno (Or.inl w)), if_neg (fun w => hno (Or.inr w))] at z
          split at z
          · exact absurd z (by decide)
          · split at z
            · exact absurd z (by decide)
            · split at z <;> exact absurd z (by decide)
      have go : (hI hh (x + 34) i1 = 43 ∨ hI hh (x + 34) i1 = 45) → Wp E mX6_hasSum (Rm (D + 1) 0 0) (Qm E (pRe E h x b n N od i lv c (semS (mcO b n od test wl wo) d i lv) (falS (mcO b n od test wl wo) d i lv)) 0 0) 49 [(0, .ref (x + 26)), (1, .int (nI d))] [] hh 0 0 := by
        intro hop
        obtain ⟨o1, o2, o3, o4⟩ := sgK_pm hop
        have hiN : i1 < N := by
          rcases Nat.lt_or_ge i1 N with z | z
          · exact z
          · have q1 := hkr.en.mpr ((ht1.end hN1).mpr (by omega))
            rw [q1] at hop
            rcases hop with w | w <;> exact absurd w (by decide)
        refine r_aload_n (pc := 49) 0 dX6_hasSum_49 rfl ?_
        refine r_getR (pc := 50) fl_X6_24 (ca_26 hc1) (cf_26_2 hc1) dX6_hasSum_50 ?_
        refine r_aload_n (pc := 53) 0 dX6_hasSum_53 rfl ?_
        refine r_getI (pc := 54) fl_X6_69 (ca_26 hc1) dX6_hasSum_54 ?_
        rw [hi1]
        refine r_iald (pc := 57) (j := i1) (cr_34 hc1) rfl (by omega) (by decide) dX6_hasSum_57 ?_
        refine r_istore_n (pc := 58) (lv' := [(0, _), (1, _), (2, _)]) dX6_hasSum_58 (Nat.le_of_ble_eq_true rfl) rfl ?_
        refine r_aload_n (pc := 59) 0 dX6_hasSum_59 rfl ?_
        refine r_dup (pc := 60) dX6_hasSum_60 rfl ?_
        refine r_getI (pc := 61) fl_X6_69 (ca_26 hc1) dX6_hasSum_61 ?_
        rw [hi1]
        refine r_iconst (pc := 64) (1) dX6_hasSum_64 rfl ?_
        refine r_iadd (pc := 65) dX6_hasSum_65 ?_
        rw [nI_1]
        refine r_putI (pc := 66) fp_X6_69 (ca_26 hc1) dX6_hasSum_66 ?_
        have hr2 := hr1.now (i' := i1 + 1) (by omega) (by omega)
        have f2 : Fr (rdS x c) h (wI hh (x + 26) 6 (nI (i1 + 1))) := fr.tr (Fr.wI (by unfold rdS; omega))
        have ek : hI (wI hh (x + 26) 6 (nI (i1 + 1))) (x + 31) = hI hh (x + 31) ∧ hI (wI hh (x + 26) 6 (nI (i1 + 1))) (x + 32) = hI hh (x + 32) := ⟨by funext j; exact hI_ne (by omega), by funext j; exact hI_ne (by omega)⟩
        generalize wI hh (x + 26) 6 (nI (i1 + 1)) = h2 at hr2 f2 ek ⊢
        have hc2 := hr2.1.1
        have hsg2 : sgnA (tk b n i1) = sgK (hI hh (x + 34) i1) := hsg
        have stp : ∀ pl, Tb 5 pl → Gos (mcO b n od test wl wo) (1, i, lv, d, pl, sZ) (1, i1 + 1, lv1, d, (sgK (hI hh (x + 34) i1), s1) :: pl, sZ) := by
          intro pl hT
          obtain ⟨P, s2, g1, g2, g3⟩ := hgo pl hT
          have g4 : Gos (mcO b n od test wl wo) (3, i1, lv1, d, P, s2) (1, i1 + 1, lv1, d, (sgnA (tk b n i1), s1) :: pl, sZ) := go_op (v := 5) (by show opO (sgnA (tk b n i1)); rw [hsg2]; exact o1) g2 (by show bndF (sgnA (tk b n i1)) ≤ 5; rw [hsg2, o2]; decide) (by show Tb (bndF (sgnA (tk b n i1))) pl; rw [hsg2, o2]; exact hT)
          rw [hsg2] at g4
          exact g1.tr g4
        have hT6 : ∀ pl : List PE, Tb 6 ((sgK (hI hh (x + 34) i1), s1) :: pl) := fun pl => by
          show bndF (sgK (hI hh (x + 34) i1)) < 6
          rw [o2]; decide
        refine r_aload_n (pc := 69) 0 dX6_hasSum_69 rfl ?_
        refine r_iload_n (pc := 70) 1 dX6_hasSum_70 rfl ?_
        refine r_callV (pc := 71) (As := [_]) mv_X6_hasTerm ml_X6_158 (HP h2 (i1 + 1) lv1 c1 hr2) (ca_26 hc2) rfl rfl (Nat.le_of_ble_eq_true rfl) (fr_le (by omega)) (lo_le (by decide) (by omega)) (Nat.le_of_ble_eq_true rfl) (Nat.le_of_ble_eq_true rfl) dX6_hasSum_71 (fun r h3 hp => ?_)
        obtain ⟨f3, ⟨rfl, i3, lv3, c3, s3, hr3, b1, b2, b3, b4, hseg3, hbd3, hlo3, hgo3⟩ | ⟨rfl, j, hj, hjN, hf⟩⟩ := hp
        · show Wp E mX6_hasSum _ _ _ _ [.int _] _ 0 0
          have hc3 := hr3.1.1
          refine r_if_ne (pc := 74) (tgt := 79) dX6_hasSum_74 (by decide) (fun c_74 => ?_) (fun c_74 => ?_)
          · refine r_aload_n (pc := 79) 0 dX6_hasSum_79 rfl ?_
            refine r_getR (pc := 80) fl_X6_14 (ca_26 hc3) (cf_26_0 hc3) dX6_hasSum_80 ?_
            refine r_iload_n (pc := 83) 2 dX6_hasSum_83 rfl ?_
            refine r_iconst (pc := 84) (0) dX6_hasSum_84 rfl ?_
            refine r_dV (pc := 85) (As := [_, _]) mv_X10_add ml_X6_148 (c6_add hr3 (by omega) _ _) (tx_is (cs_tx27 hc3)) rfl rfl (Nat.le_of_ble_eq_true rfl) (fr_le (by omega)) (lo_le (by decide) (by omega)) (Nat.le_of_ble_eq_true rfl) (Nat.le_of_ble_eq_true rfl) dX6_hasSum_85 ?_
            refine r_pop (pc := 88) dX6_hasSum_88 rfl ?_
            refine r_goto (pc := 89) (tgt := 10) dX6_hasSum_89 (by decide) ?_
            refine r_sub [0, 1] rfl ?_
            have hr4 := hr3.add (o := hI hh (x + 34) i1) (w := 0) (by omega)
            have f34 := f3.mono (fun a k z => rdS_mono (c := c) (by omega) z)
            have f4 : Fr (rdS x c) h (adH h3 x c3 (hI hh (x + 34) i1) 0) := (f2.tr f34).tr (adH_fr.mono (fun a k z => rdS_mono (c := c) (by omega) z))
            refine IH _ i3 lv3 (c3 + 1) (sBin (copO (hI hh (x + 34) i1)) s1 s3) (by have := hr3.2.1.2; omega) f4 hr4 (by omega) (by omega) (by omega) (by omega) ?_ (Bd.bin _ _) hlo3 ?_
            · have e1 : ∀ k, c ≤ k → k < c1 → hI (adH h3 x c3 (hI hh (x + 34) i1) 0) (x + 31) k = hI hh (x + 31) k ∧ hI (adH h3 x c3 (hI hh (x + 34) i1) 0) (x + 32) k = hI hh (x + 32) k := fun k k1 k2 => by
                rw [(adH_lo (show k < c3 by omega)).1, (adH_lo (show k < c3 by omega)).2, f3.I (by unfold rdS; omega), f3.I (by unfold rdS; omega), ek.1, ek.2]; exact ⟨rfl, rfl⟩
              have e2 : ∀ k, c1 ≤ k → k < c3 → hI (adH h3 x c3 (hI hh (x + 34) i1) 0) (x + 31) k = hI h3 (x + 31) k ∧ hI (adH h3 x c3 (hI hh (x + 34) i1) 0) (x + 32) k = hI h3 (x + 32) k := fun k k1 k2 => adH_lo k2
              have q := CSeg_bin (CSeg_cong e1 hseg) (CSeg_cong e2 hseg3) (by rw [adH_O]; exact o4)
              rw [adH_O, show lv1 - lv + (lv3 - lv1) = lv3 - lv by omega] at q
              exact q
            · intro pl hT
              obtain ⟨P, s2, g1, g2, g3⟩ := hgo3 _ (hT6 pl)
              refine ⟨P, s2, (stp pl hT).tr g1, ?_, g3.trans (cmp_op o1)⟩
              have q := Ey.top (v := 5) (y := (sgK (hI hh (x + 34) i1), s1)) (pl := pl) (s := s3) (by show (5 : Int32) ≤ bndF (sgK (hI hh (x + 34) i1)); rw [o2]; decide) (opO_31 o1).1
              rw [cmb_op o1] at q
              rw [o3]
              exact (g2.mono (by decide)).tr q
          · exact absurd (show (1 : Int32) = 0 from c_74) (by decide)
        · show Wp E mX6_hasSum _ _ _ _ [.int _] _ 0 0
          refine r_if_ne (pc := 74) (tgt := 79) dX6_hasSum_74 (by decide) (fun c_74 => ?_) (fun c_74 => ?_)
          · exact absurd rfl c_74
          · refine r_iconst (pc := 77) (0) dX6_hasSum_77 rfl ?_
            refine r_zret (pc := 78) rfl (by decide) ?_ (Nat.le_of_ble_eq_true rfl) (Nat.le_of_ble_eq_true rfl) dX6_hasSum_78
            exact ⟨f2.tr (f3.mono (fun a k z => rdS_mono (c := c) (by omega) z)), Or.inr ⟨rfl, j, hj, hjN, fun pl hT => (stp pl hT).fl (hf _ (hT6 pl))⟩⟩
      refine r_aload_n (pc := 10) 0 dX6_hasSum_10 rfl ?_
      refine r_getI (pc := 11) fl_X6_69 (ca_26 hc1) dX6_hasSum_11 ?_
      refine r_aload_n (pc := 14) 0 dX6_hasSum_14 rfl ?_
      refine r_getI (pc := 15) fl_X6_86 (ca_26 hc1) dX6_hasSum_15 ?_
      rw [hi1, ht1.1]
      refine r_icmp_ge (pc := 18) (tgt := 92) dX6_hasSum_18 (by decide) (fun c_18 => ?_) (fun c_18 => ?_)
      · exact absurd c_18 (nI_ge (by omega) (by omega))
      · refine r_aload_n (pc := 21) 0 dX6_hasSum_21 rfl ?_
        refine r_getR (pc := 22) fl_X6_24 (ca_26 hc1) (cf_26_2 hc1) dX6_hasSum_22 ?_
        refine r_aload_n (pc := 25) 0 dX6_hasSum_25 rfl ?_
        refine r_getI (pc := 26) fl_X6_69 (ca_26 hc1) dX6_hasSum_26 ?_
        rw [hi1]
        refine r_iald (pc := 29) (j := i1) (cr_34 hc1) rfl (by omega) (by decide) dX6_hasSum_29 ?_
        refine r_bipush (pc := 30) (43) dX6_hasSum_30 rfl ?_
        refine r_icmp_eq (pc := 32) (tgt := 49) dX6_hasSum_32 (by decide) (fun c_32 => ?_) (fun c_32 => ?_)
        · exact go (Or.inl c_32)
        · refine r_aload_n (pc := 35) 0 dX6_hasSum_35 rfl ?_
          refine r_getR (pc := 36) fl_X6_24 (ca_26 hc1) (cf_26_2 hc1) dX6_hasSum_36 ?_
          refine r_aload_n (pc := 39) 0 dX6_hasSum_39 rfl ?_
          refine r_getI (pc := 40) fl_X6_69 (ca_26 hc1) dX6_hasSum_40 ?_
          rw [hi1]
          refine r_iald (pc := 43) (j := i1) (cr_34 hc1) rfl (by omega) (by decide) dX6_hasSum_43 ?_
          refine r_bipush (pc := 44) (45) dX6_hasSum_44 rfl ?_
          refine r_icmp_ne (pc := 46) (tgt := 92) dX6_hasSum_46 (by decide) (fun c_46 => ?_) (fun c_46 => ?_)
          · exact fin (fun z => z.elim c_32 c_46)
          · exact go (Or.inr c_46)
  refine r_aload_n (pc := 0) 0 dX6_hasSum_0 rfl ?_
  refine r_iload_n (pc := 1) 1 dX6_hasSum_1 rfl ?_
  refine r_callV (pc := 2) (As := [_]) mv_X6_hasTerm ml_X6_158 (HP h i lv c hr0) (ca_26 hc) rfl rfl (Nat.le_of_ble_eq_true rfl) (fr_le (by omega)) (lo_le (by decide) (by omega)) (Nat.le_of_ble_eq_true rfl) (Nat.le_of_ble_eq_true rfl) dX6_hasSum_2 (fun r h1 hp => ?_)
  obtain ⟨f1, ⟨rfl, i1, lv1, c1, s1, hr1, a1, a2, a3, a4, hseg, hbd, hlo, hgo⟩ | ⟨rfl, j, hj, hjN, hf⟩⟩ := hp
  · show Wp E mX6_hasSum _ _ _ _ [.int _] _ 0 0
    refine r_if_ne (pc := 5) (tgt := 10) dX6_hasSum_5 (by decide) (fun c_5 => ?_) (fun c_5 => ?_)
    · refine loop (N - i1 + 1) h1 i1 lv1 c1 s1 (by omega) f1 hr1 a1 a2 a3 a4 hseg hbd hlo (fun pl hT => ?_)
      obtain ⟨P, s2, g1, g2, g3⟩ := hgo pl (hT.mono (by decide))
      exact ⟨P, s2, g1, g2.mono (by decide), g3⟩
    · exact absurd (show (1 : Int32) = 0 from c_5) (by decide)
  · show Wp E mX6_hasSum _ _ _ _ [.int _] _ 0 0
    refine r_if_ne (pc := 5) (tgt := 10) dX6_hasSum_5 (by decide) (fun c_5 => ?_) (fun c_5 => ?_)
    · exact absurd rfl c_5
    · refine r_iconst (pc := 8) (0) dX6_hasSum_8 rfl ?_
      refine r_zret (pc := 9) rfl (by decide) ?_ (Nat.le_of_ble_eq_true rfl) (Nat.le_of_ble_eq_true rfl) dX6_hasSum_9
      exact ⟨f1, Or.inr ⟨rfl, j, hj, hjN, fun pl hT => hf pl (hT.mono (by decide))⟩⟩
def CtB (E : En) (x : Nat) (b : Nat → Int32) (n N : Nat) (od : Bool) (D d a0 a1 : Nat) (SEM : Nat → Nat → Nat → Nat → Sm → Prop) (FAL : Nat → Nat → Nat → Prop) : Prop := ∀ (h : Hp) (i lv c : Nat), RdH E h x b n N od i lv c → tS (tk b n i) (nI a0) = true → Ct E D 0 0 mX6_hasBracketed [.ref (x + 26), .int (nI d), .int (nI a1)] h (pRe E h x b n N od i lv c (SEM i lv) (FAL i lv))
theorem c6_hasPart {D d : Nat} (hw : Wls wl wo) (hD : 3 ≤ D) (HB : CtB E x b n N od D d 91 93 (fun i lv => semP (mcO b n od test wl wo) d i lv) (fun i lv => falP (mcO b n od test wl wo) d i lv)) : CtR E x b n N od mX6_hasPart (D + 1) d (fun i lv => semP (mcO b n od test wl wo) d i lv) (fun i lv => falP (mcO b n od test wl wo) d i lv) := by
  intro h i lv c hr
  obtain ⟨⟨hc, ht⟩, ⟨hi, hN⟩, -⟩ := id hr
  have hkr := ht.kr hN
  refine Ct.of (by decide +kernel) (Nat.le_of_ble_eq_true rfl) ?_
  refine r_aload_n (pc := 0) 0 dX6_hasPart_0 rfl ?_
  refine r_dV (pc := 1) (As := []) mv_X6_kindNow ml_X6_79 (c6_kindNow hc ht hi hN) (ca_26 hc) rfl rfl (Nat.le_of_ble_eq_true rfl) (fr_le (by omega)) (lo_le (by decide) (by omega)) (Nat.le_of_ble_eq_true rfl) (Nat.le_of_ble_eq_true rfl) dX6_hasPart_1 ?_
  refine r_istore_n (pc := 4) (lv' := [(0, _), (1, _), (2, _)]) dX6_hasPart_4 (Nat.le_of_ble_eq_true rfl) rfl ?_
  refine r_iload_n (pc := 5) 2 dX6_hasPart_5 rfl ?_
  refine r_bipush (pc := 6) (91) dX6_hasPart_6 rfl ?_
  refine r_icmp_ne (pc := 8) (tgt := 19) dX6_hasPart_8 (by decide) (fun c_8 => ?_) (fun c_8 => ?_)
  · have hno : tS (tk b n i) 91 = false := by
      have := hkr.sgb (a := 91) (by decide)
      rw [show tS (tk b n i) 91 = tS (tk b n i) (nI 91) from rfl, this]
      exact decide_eq_false c_8
    exact c6_leaf hw hr (by omega) hno
  · have hyes : tS (tk b n i) (nI 91) = true := (hkr.sg (by decide)).mp c_8
    refine r_aload_n (pc := 11) 0 dX6_hasPart_11 rfl ?_
    refine r_iload_n (pc := 12) 1 dX6_hasPart_12 rfl ?_
    refine r_bipush (pc := 13) (93) dX6_hasPart_13 rfl ?_
    refine r_callV (pc := 15) (As := [_, _]) mv_X6_hasBracketed ml_X6_151 (HB h i lv c hr hyes) (ca_26 hc) rfl rfl (Nat.le_of_ble_eq_true rfl) (fr_le (by omega)) (lo_le (by decide) (by omega)) (Nat.le_of_ble_eq_true rfl) (Nat.le_of_ble_eq_true rfl) dX6_hasPart_15 (fun r h1 hp => ?_)
    obtain ⟨f1, ⟨rfl, hs⟩ | ⟨rfl, hs⟩⟩ := hp
    · show Wp E mX6_hasPart _ _ _ _ [.int _] _ 0 0
      refine r_zret (pc := 18) rfl (by decide) ?_ (Nat.le_of_ble_eq_true rfl) (Nat.le_of_ble_eq_true rfl) dX6_hasPart_18
      exact ⟨f1, Or.inl ⟨rfl, hs⟩⟩
    · show Wp E mX6_hasPart _ _ _ _ [.int _] _ 0 0
      refine r_zret (pc := 18) rfl (by decide) ?_ (Nat.le_of_ble_eq_true rfl) (Nat.le_of_ble_eq_true rfl) dX6_hasPart_18
      exact ⟨f1, Or.inr ⟨rfl, hs⟩⟩
/-- no bracket more -/
theorem c6_brk8 {D a0 a1 : Nat} (tn y : Int32) (hy : ∀ i lv pl, tS (tk b n i) (nI a0) = true → aS (mcO b n od test wl wo) (tn, i, lv, 8, pl, sZ) = opnA y tn i lv 8 pl) (h4 : ¬ tn = 4) (SEM : Nat → Nat → Nat → Nat → Sm → Prop) : CtB E x b n N od D 8 a0 a1 SEM (fun i lv j => ∀ pl, Fls (mcO b n od test wl wo) (tn, i, lv, 8, pl, sZ) j) := by
  intro h i lv c hr hb
  obtain ⟨⟨hc, ht⟩, ⟨hi, hN⟩, -⟩ := id hr
  refine Ct.of (by decide +kernel) (Nat.le_of_ble_eq_true rfl) ?_
  refine r_iload_n (pc := 0) 1 dX6_hasBracketed_0 rfl ?_
  refine r_bipush (pc := 1) (8) dX6_hasBracketed_1 rfl ?_
  refine r_icmp_lt (pc := 3) (tgt := 8) dX6_hasBracketed_3 (by decide) (fun c_3 => ?_) (fun c_3 => ?_)
  · exact absurd (show nI 8 < 8 from c_3) (by decide)
  · refine r_iconst (pc := 6) (0) dX6_hasBracketed_6 rfl ?_
    refine r_zret (pc := 7) rfl (by decide) ?_ (Nat.le_of_ble_eq_true rfl) (Nat.le_of_ble_eq_true rfl) dX6_hasBracketed_7
    refine ⟨Fr.rf, Or.inr ⟨rfl, i, hi, hN, fun pl => Fls.one h4 ?_⟩⟩
    rw [hy i lv pl hb]
    unfold opnA
    rw [if_neg (by decide)]
/-- a sum between brackets -/
theorem c6_brkS {D d : Nat} (hd : d < 8) (HS : CtR E x b n N od mX6_hasSum D (d + 1) (fun i lv => semS (mcO b n od test wl wo) (d + 1) i lv) (fun i lv => falS (mcO b n od test wl wo) (d + 1) i lv)) : CtB E x b n N od (D + 1) d 91 93 (fun i lv => semP (mcO b n od test wl wo) d i lv) (fun i lv => falP (mcO b n od test wl wo) d i lv) := by
  intro h i lv c hr hb
  obtain ⟨⟨hc, ht⟩, ⟨hi, hN⟩, -, -, -, hci⟩ := id hr
  have hkr := ht.kr hN
  have hiN : i < N := by
    rcases Nat.lt_or_ge i N with z | z
    · exact z
    · have q1 := (ht.end hN).mpr (by omega)
      exact absurd q1 (tS_n0 hb)
  have op1 : ∀ pl, Gos (mcO b n od test wl wo) (1, i, lv, d, pl, sZ) (1, i + 1, lv, d + 1, (32, sZ) :: pl, sZ) := fun pl => by
    refine Gos.one (by show ¬ (1 : Int32) = 4; decide) ?_
    show rpA wl wo od (tk b n) i lv d pl = _
    unfold rpA
    rw [if_pos (show tS (tk b n i) 91 = true from hb)]
    unfold opnA
    rw [if_pos hd]
  have hT5 : ∀ pl : List PE, Tb 5 ((32, sZ) :: pl) := fun pl => by show bndF 32 < 5; decide
  refine Ct.of (by decide +kernel) (Nat.le_of_ble_eq_true rfl) ?_
  refine r_iload_n (pc := 0) 1 dX6_hasBracketed_0 rfl ?_
  refine r_bipush (pc := 1) (8) dX6_hasBracketed_1 rfl ?_
  refine r_icmp_lt (pc := 3) (tgt := 8) dX6_hasBracketed_3 (by decide) (fun c_3 => ?_) (fun c_3 => ?_)
  · refine r_aload_n (pc := 8) 0 dX6_hasBracketed_8 rfl ?_
    refine r_dup (pc := 9) dX6_hasBracketed_9 rfl ?_
    refine r_getI (pc := 10) fl_X6_69 (ca_26 hc) dX6_hasBracketed_10 ?_
    rw [hi]
    refine r_iconst (pc := 13) (1) dX6_hasBracketed_13 rfl ?_
    refine r_iadd (pc := 14) dX6_hasBracketed_14 ?_
    rw [nI_1]
    refine r_putI (pc := 15) fp_X6_69 (ca_26 hc) dX6_hasBracketed_15 ?_
    have hr2 := hr.now (i' := i + 1) (by omega) (by omega)
    have f2 : Fr (rdS x c) h (wI h (x + 26) 6 (nI (i + 1))) := Fr.wI (by unfold rdS; omega)
    generalize wI h (x + 26) 6 (nI (i + 1)) = h2 at hr2 f2 ⊢
    have hc2 := hr2.1.1
    refine r_iload_n (pc := 18) 2 dX6_hasBracketed_18 rfl ?_
    refine r_bipush (pc := 19) (41) dX6_hasBracketed_19 rfl ?_
    refine r_icmp_ne (pc := 21) (tgt := 37) dX6_hasBracketed_21 (by decide) (fun c_21 => ?_) (fun c_21 => ?_)
    · refine r_aload_n (pc := 37) 0 dX6_hasBracketed_37 rfl ?_
      refine r_iload_n (pc := 38) 1 dX6_hasBracketed_38 rfl ?_
      refine r_iconst (pc := 39) (1) dX6_hasBracketed_39 rfl ?_
      refine r_iadd (pc := 40) dX6_hasBracketed_40 ?_
      rw [nI_1]
      refine r_callV (pc := 41) (As := [_]) mv_X6_hasSum ml_X6_130 (HS h2 (i + 1) lv c hr2) (ca_26 hc2) rfl rfl (Nat.le_of_ble_eq_true rfl) (fr_le (by omega)) (lo_le (by decide) (by omega)) (Nat.le_of_ble_eq_true rfl) (Nat.le_of_ble_eq_true rfl) dX6_hasBracketed_41 (fun r h3 hp => ?_)
      obtain ⟨f3, ⟨rfl, i3, lv3, c3, s3, hr3, b1, b2, b3, b4, hseg3, hbd3, hlo3, hgo3⟩ | ⟨rfl, j, hj, hjN, hf⟩⟩ := hp
      · show Wp E mX6_hasBracketed _ _ _ _ [.int _] _ 0 0
        obtain ⟨⟨hc3, ht3⟩, ⟨hi3, hN3⟩, -⟩ := id hr3
        have hkr3 := ht3.kr hN3
        -- the machine stands behind the sum, within the bracket
        have beh : ∀ pl, ∃ P s2, Gos (mcO b n od test wl wo) (1, i, lv, d, pl, sZ) (3, i3, lv3, d + 1, P, s2) ∧ aS (mcO b n od test wl wo) (3, i3, lv3, d + 1, P, s2) = if tS (tk b n i3) 93 = true then some (.inr (3, i3 + 1, lv3, d, pl, s3)) else some (.inl i3) := by
          intro pl
          obtain ⟨P, s2, g1, g2, g3⟩ := hgo3 _ (hT5 pl)
          refine ⟨P, s2, (op1 pl).tr g1, ?_⟩
          show bsA (tk b n) test i3 lv3 (d + 1) P s2 = _
          unfold bsA
          rw [if_neg (fun z => z hlo3), g2.2, if_pos (show innA ((32, sZ) :: pl) = 32 from rfl), g2.1 5 (by decide), (hT5 pl).st]
          congr 1
        refine r_if_eq (pc := 44) (tgt := 59) dX6_hasBracketed_44 (by decide) (fun c_44 => ?_) (fun c_44 => ?_)
        · exact absurd (show (1 : Int32) = 0 from c_44) (by decide)
        · refine r_aload_n (pc := 47) 0 dX6_hasBracketed_47 rfl ?_
          refine r_iload_n (pc := 48) 2 dX6_hasBracketed_48 rfl ?_
          refine r_callV (pc := 49) (As := [_]) mv_X6_takes ml_X6_82 (c6_takes hc3 ht3 hi3 hN3 (k := nI 93) (by decide)) (ca_26 hc3) rfl rfl (Nat.le_of_ble_eq_true rfl) (fr_le (by omega)) (lo_le (by decide) (by omega)) (Nat.le_of_ble_eq_true rfl) (Nat.le_of_ble_eq_true rfl) dX6_hasBracketed_49 (fun r h4 hp => ?_)
          rcases hp with ⟨hk, hlt, rfl, rfl⟩ | ⟨hk, rfl, rfl⟩
          · show Wp E mX6_hasBracketed _ _ _ _ [.int _] _ 0 0
            refine r_if_eq (pc := 52) (tgt := 59) dX6_hasBracketed_52 (by decide) (fun c_52 => ?_) (fun c_52 => ?_)
            · exact absurd (show (1 : Int32) = 0 from c_52) (by decide)
            · refine r_iconst (pc := 55) (1) dX6_hasBracketed_55 rfl ?_
              refine r_goto (pc := 56) (tgt := 60) dX6_hasBracketed_56 (by decide) ?_
              refine r_zret (pc := 60) rfl (by decide) ?_ (Nat.le_of_ble_eq_true rfl) (Nat.le_of_ble_eq_true rfl) dX6_hasBracketed_60
              have hyes : tS (tk b n i3) 93 = true := (hkr3.sg (a := 93) (by decide)).mp hk
              refine ⟨(f2.tr f3).tr (Fr.wI (by unfold rdS; omega)), Or.inl ⟨rfl, i3 + 1, lv3, c3, s3, hr3.now (by omega) (by omega), by omega, b2, b3, by omega, CSeg_cong (fun k _ _ => ⟨hI_ne (by omega), hI_ne (by omega)⟩) hseg3, hbd3, fun pl => ?_⟩⟩
              obtain ⟨P, s2, g1, g2⟩ := beh pl
              rw [if_pos hyes] at g2
              exact g1.tr (Gos.one (by show ¬ (3 : Int32) = 4; decide) g2)
          · show Wp E mX6_hasBracketed _ _ _ _ [.int _] _ 0 0
            refine r_if_eq (pc := 52) (tgt := 59) dX6_hasBracketed_52 (by decide) (fun c_52 => ?_) (fun c_52 => ?_)
            · refine r_iconst (pc := 59) (0) dX6_hasBracketed_59 rfl ?_
              refine r_zret (pc := 60) rfl (by decide) ?_ (Nat.le_of_ble_eq_true rfl) (Nat.le_of_ble_eq_true rfl) dX6_hasBracketed_60
              refine ⟨f2.tr f3, Or.inr ⟨rfl, i3, hi3, hN3, fun pl => ?_⟩⟩
              obtain ⟨P, s2, g1, g2⟩ := beh pl
              rw [if_neg (show ¬ tS (tk b n i3) 93 = true from fun z => hk ((hkr3.sg (a := 93) (by decide)).mpr z))] at g2
              exact g1.fl (Fls.one (by show ¬ (3 : Int32) = 4; decide) g2)
            · exact absurd rfl c_52
      · show Wp E mX6_hasBracketed _ _ _ _ [.int _] _ 0 0
        refine r_if_eq (pc := 44) (tgt := 59) dX6_hasBracketed_44 (by decide) (fun c_44 => ?_) (fun c_44 => ?_)
        · refine r_iconst (pc := 59) (0) dX6_hasBracketed_59 rfl ?_
          refine r_zret (pc := 60) rfl (by decide) ?_ (Nat.le_of_ble_eq_true rfl) (Nat.le_of_ble_eq_true rfl) dX6_hasBracketed_60
          exact ⟨f2.tr f3, Or.inr ⟨rfl, j, hj, hjN, fun pl => (op1 pl).fl (hf _ (hT5 pl))⟩⟩
        · exact absurd rfl c_44
    · exact absurd c_21 (by decide)
  · exact absurd (nI_lt (b := 8) hd (by decide)) c_3
end SUM2
