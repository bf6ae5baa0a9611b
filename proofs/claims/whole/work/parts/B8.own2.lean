/-! the class's own methods: questions on paper -/
section OWN2
variable {E : En} {h : Hp} {x : Nat} {r : Nat → Int32}
theorem in_le {w : Int32} {b : Nat} (hb : b < 2 ^ 31) : inN w (b + 1) = true ↔ (0 ≤ w ∧ w ≤ nI b) := by
  unfold inN
  rw [decide_eq_true_iff, fa_le, fa_le, nI_toInt hb]
  show _ ↔ ((0 : Int) ≤ _ ∧ _)
  constructor <;> intro q <;> omega
theorem here_of {nc : Nat} {c : Int32} (h6 : nc ≤ 6) (hb : hereB r nc c = true) : ∃ k, k < nc ∧ c = nI k ∧ aliveF r k = true := by
  unfold hereB at hb
  rw [Bool.and_eq_true] at hb
  obtain ⟨k, hk, rfl⟩ := inN_of (by omega) hb.1
  rw [nI_clamp (by omega)] at hb
  exact ⟨k, hk, rfl, hb.2⟩
theorem here_not {nc : Nat} {c : Int32} (hb : hereB r nc c = false) : ¬ (inN c nc = true ∧ aliveF r c.toNatClampNeg = true) := fun z => by
  unfold hereB at hb
  rw [z.1, z.2] at hb
  cases hb
theorem alive_cat {nc ns : Nat} (hrw : RwOK r nc ns) {k : Nat} (hk : k < 6) (ha : aliveF r k = true) : ∃ li y, li < 9 ∧ r (8 + k) = nI li ∧ y < 511 ∧ r (14 + k) = nI y := by
  obtain ⟨li, hli, eli⟩ := alive_li hrw hk ha
  obtain ⟨y, hy, ey, hb⟩ := (hrw.2.2.2.2.1 k hk).2
  exact ⟨li, y, hli, eli, yet511 (r := r) (k := k) hy hli (hb li hli eli), ey⟩
theorem c11_had {nc ns nl : Nat} {lw : Option Nat} {fo : Option (List Cl)} (hL : Lv E h x r nc ns nl lw fo) (c n : Int32) : Ct E 6 0 0 mX11_had [.ref x, .int c, .int n] h (pQ h x (.long (hadF1 r fo nc c n))) := by
  obtain ⟨hc, hv, hrw, ⟨h3, hl6⟩, hlw, hfo⟩ := hL
  obtain ⟨hn, h6, hns, hs3, -⟩ := id hrw
  have hp := cs_pt3 hc
  have hpx : pOf x (x + 3) := Or.inl rfl
  refine Ct.of (by decide +kernel) (Nat.le_of_ble_eq_true rfl) ?_
  have no : ¬ (inN c nc = true ∧ inN n 10 = true ∧ aliveF r c.toNatClampNeg = true) → Wp E mX11_had (Rm 6 0 0) (Qm E (pQ h x (.long (hadF1 r fo nc c n))) 0 0) 21 [(0, .ref x), (1, .int c), (2, .int n)] [] h 0 0 := by
    intro hno
    refine r_ldc2_w (pc := 21) cs_X11_249 dX11_had_21 ?_
    refine r_lret (pc := 24) rfl ?_ (Nat.le_of_ble_eq_true rfl) (Nat.le_of_ble_eq_true rfl) dX11_had_24
    exact ⟨by rw [hadF1, if_neg hno], Fr.rf⟩
  refine r_aload_n (pc := 0) 0 dX11_had_0 rfl ?_
  refine r_getR (pc := 1) fl_X11_15 (nl_is hc) (nl_f0 hc) dX11_had_1 ?_
  refine r_iload_n (pc := 4) 1 dX11_had_4 rfl ?_
  refine r_dV (pc := 5) (As := [_]) mv_X5_isHere ml_X11_148 (c5_isHere hp hv hn h6 _) (pt_is (cs_pt3 hc)) rfl rfl (Nat.le_of_ble_eq_true rfl) (Nat.le_of_ble_eq_true rfl) (Nat.le_of_ble_eq_true rfl) (Nat.le_of_ble_eq_true rfl) (Nat.le_of_ble_eq_true rfl) dX11_had_5 ?_
  refine r_if_eq (pc := 8) (tgt := 21) dX11_had_8 (by decide) (fun c_8 => ?_) (fun c_8 => ?_)
  · exact no (fun z => here_not (bI_0.mp c_8) ⟨z.1, z.2.2⟩)
  · obtain ⟨k, hk, ek, ha⟩ := here_of h6 (bI_n0.mp c_8)
    refine r_iload_n (pc := 11) 2 dX11_had_11 rfl ?_
    refine r_if_lt (pc := 12) (tgt := 21) dX11_had_12 (by decide) (fun c_12 => ?_) (fun c_12 => ?_)
    · exact no (fun z => absurd ((in_le (b := 9) (by decide)).mp z.2.1).1 (Int32.not_le.mpr c_12))
    · refine r_iload_n (pc := 15) 2 dX11_had_15 rfl ?_
      refine r_bipush (pc := 16) (9) dX11_had_16 rfl ?_
      refine r_icmp_le (pc := 18) (tgt := 25) dX11_had_18 (by decide) (fun c_18 => ?_) (fun c_18 => ?_)
      · have hin : inN n 10 = true := (in_le (b := 9) (by decide)).mpr ⟨Int32.not_lt.mp c_12, c_18⟩
        obtain ⟨q, hq, eq⟩ := inN_of (by decide) hin
        obtain ⟨li, y, hli, eli, hy, ey⟩ := alive_cat hrw (show k < 6 by omega) ha
        subst ek eq
        refine r_aload_n (pc := 25) 0 dX11_had_25 rfl ?_
        refine r_getR (pc := 26) fl_X11_74 (nl_is hc) (nl_f8 hc) dX11_had_26 ?_
        refine r_aload_n (pc := 29) 0 dX11_had_29 rfl ?_
        refine r_getR (pc := 30) fl_X11_15 (nl_is hc) (nl_f0 hc) dX11_had_30 ?_
        refine r_iload_n (pc := 33) 1 dX11_had_33 rfl ?_
        refine r_iload_n (pc := 34) 2 dX11_had_34 rfl ?_
        refine r_callV (pc := 35) (As := [_, _, _]) mv_X2_hadBy ml_X11_251 (c2_hadBy hc hpx hv hrw h3 hl6 hlw hfo (by omega) eli hli ey hy (by omega)) (ca_90 hc) rfl rfl (Nat.le_of_ble_eq_true rfl) (Nat.le_of_ble_eq_true rfl) (Nat.le_of_ble_eq_true rfl) (Nat.le_of_ble_eq_true rfl) (Nat.le_of_ble_eq_true rfl) dX11_had_35 (fun r h2 hp => ?_)
        obtain ⟨rfl, f2⟩ := hp
        show Wp E mX11_had _ _ _ _ [.long _] _ 0 0
        refine r_lret (pc := 38) rfl ?_ (Nat.le_of_ble_eq_true rfl) (Nat.le_of_ble_eq_true rfl) dX11_had_38
        refine ⟨?_, f2.mono (fun _ _ => fo_ro)⟩
        rw [hadF1, nI_clamp (by omega), if_pos ⟨by rw [inN_nI (by omega)]; exact decide_eq_true hk, hin, ha⟩, nI_clamp (by omega), eli, ey, nI_clamp (by omega), nI_clamp (by omega)]
      · exact no (fun z => absurd ((in_le (b := 9) (by decide)).mp z.2.1).2 c_18)
theorem c11_next {nc ns nl : Nat} {lw : Option Nat} {fo : Option (List Cl)} (hL : Lv E h x r nc ns nl lw fo) (c n : Int32) : Ct E 6 0 0 mX11_next [.ref x, .int c, .int n] h (pQ h x (.int (nextF r fo nc c n))) := by
  obtain ⟨hc, hv, hrw, ⟨h3, hl6⟩, hlw, hfo⟩ := hL
  obtain ⟨hn, h6, hns, hs3, -⟩ := id hrw
  have hp := cs_pt3 hc
  have hpx : pOf x (x + 3) := Or.inl rfl
  refine Ct.of (by decide +kernel) (Nat.le_of_ble_eq_true rfl) ?_
  have no : ¬ (inN c nc = true ∧ inN n 10 = true ∧ aliveF r c.toNatClampNeg = true) → Wp E mX11_next (Rm 6 0 0) (Qm E (pQ h x (.int (nextF r fo nc c n))) 0 0) 21 [(0, .ref x), (1, .int c), (2, .int n)] [] h 0 0 := by
    intro hno
    refine r_iconst (pc := 21) (-1) dX11_next_21 rfl ?_
    refine r_iret (pc := 22) rfl ?_ (Nat.le_of_ble_eq_true rfl) (Nat.le_of_ble_eq_true rfl) dX11_next_22
    exact ⟨by rw [nextF, if_neg hno], Fr.rf⟩
  refine r_aload_n (pc := 0) 0 dX11_next_0 rfl ?_
  refine r_getR (pc := 1) fl_X11_15 (nl_is hc) (nl_f0 hc) dX11_next_1 ?_
  refine r_iload_n (pc := 4) 1 dX11_next_4 rfl ?_
  refine r_dV (pc := 5) (As := [_]) mv_X5_isHere ml_X11_148 (c5_isHere hp hv hn h6 _) (pt_is (cs_pt3 hc)) rfl rfl (Nat.le_of_ble_eq_true rfl) (Nat.le_of_ble_eq_true rfl) (Nat.le_of_ble_eq_true rfl) (Nat.le_of_ble_eq_true rfl) (Nat.le_of_ble_eq_true rfl) dX11_next_5 ?_
  refine r_if_eq (pc := 8) (tgt := 21) dX11_next_8 (by decide) (fun c_8 => ?_) (fun c_8 => ?_)
  · exact no (fun z => here_not (bI_0.mp c_8) ⟨z.1, z.2.2⟩)
  · obtain ⟨k, hk, ek, ha⟩ := here_of h6 (bI_n0.mp c_8)
    refine r_iload_n (pc := 11) 2 dX11_next_11 rfl ?_
    refine r_if_lt (pc := 12) (tgt := 21) dX11_next_12 (by decide) (fun c_12 => ?_) (fun c_12 => ?_)
    · exact no (fun z => absurd ((in_le (b := 9) (by decide)).mp z.2.1).1 (Int32.not_le.mpr c_12))
    · refine r_iload_n (pc := 15) 2 dX11_next_15 rfl ?_
      refine r_bipush (pc := 16) (9) dX11_next_16 rfl ?_
      refine r_icmp_le (pc := 18) (tgt := 23) dX11_next_18 (by decide) (fun c_18 => ?_) (fun c_18 => ?_)
      · have hin : inN n 10 = true := (in_le (b := 9) (by decide)).mpr ⟨Int32.not_lt.mp c_12, c_18⟩
        obtain ⟨q, hq, eq⟩ := inN_of (by decide) hin
        obtain ⟨li, y, hli, eli, hy, ey⟩ := alive_cat hrw (show k < 6 by omega) ha
        subst ek eq
        refine r_aload_n (pc := 23) 0 dX11_next_23 rfl ?_
        refine r_getR (pc := 24) fl_X11_74 (nl_is hc) (nl_f8 hc) dX11_next_24 ?_
        refine r_aload_n (pc := 27) 0 dX11_next_27 rfl ?_
        refine r_getR (pc := 28) fl_X11_15 (nl_is hc) (nl_f0 hc) dX11_next_28 ?_
        refine r_iload_n (pc := 31) 1 dX11_next_31 rfl ?_
        refine r_iload_n (pc := 32) 2 dX11_next_32 rfl ?_
        refine r_callV (pc := 33) (As := [_, _, _]) mv_X2_bestNext ml_X11_255 (c2_bestNext hc hpx hv hrw h3 hl6 hlw hfo (by omega) eli hli ey hy (by omega)) (ca_90 hc) rfl rfl (Nat.le_of_ble_eq_true rfl) (Nat.le_of_ble_eq_true rfl) (Nat.le_of_ble_eq_true rfl) (Nat.le_of_ble_eq_true rfl) (Nat.le_of_ble_eq_true rfl) dX11_next_33 (fun r h2 hp => ?_)
        obtain ⟨rfl, f2⟩ := hp
        show Wp E mX11_next _ _ _ _ [.int _] _ 0 0
        refine r_iret (pc := 36) rfl ?_ (Nat.le_of_ble_eq_true rfl) (Nat.le_of_ble_eq_true rfl) dX11_next_36
        refine ⟨?_, f2.mono (fun _ _ => fo_ro)⟩
        rw [nextF, nI_clamp (by omega), if_pos ⟨by rw [inN_nI (by omega)]; exact decide_eq_true hk, hin, ha⟩, nI_clamp (by omega), ey, nI_clamp (by omega)]
      · exact no (fun z => absurd ((in_le (b := 9) (by decide)).mp z.2.1).2 c_18)
theorem c11_likely {nc ns nl : Nat} {lw : Option Nat} {fo : Option (List Cl)} (hL : Lv E h x r nc ns nl lw fo) (c n : Int32) : Ct E 5 0 0 mX11_likely [.ref x, .int c, .int n] h (pQ h x (.long (likF r fo nc c n))) := by
  obtain ⟨hc, hv, hrw, ⟨h3, hl6⟩, hlw, hfo⟩ := hL
  obtain ⟨hn, h6, hns, hs3, -⟩ := id hrw
  have hp := cs_pt3 hc
  have hpx : pOf x (x + 3) := Or.inl rfl
  refine Ct.of (by decide +kernel) (Nat.le_of_ble_eq_true rfl) ?_
  have no : ¬ (inN c nc = true ∧ inN n 61 = true) → Wp E mX11_likely (Rm 5 0 0) (Qm E (pQ h x (.long (likF r fo nc c n))) 0 0) 21 [(0, .ref x), (1, .int c), (2, .int n)] [] h 0 0 := by
    intro hno
    refine r_ldc2_w (pc := 21) cs_X11_249 dX11_likely_21 ?_
    refine r_lret (pc := 24) rfl ?_ (Nat.le_of_ble_eq_true rfl) (Nat.le_of_ble_eq_true rfl) dX11_likely_24
    exact ⟨by rw [likF, if_neg hno], Fr.rf⟩
  refine r_aload_n (pc := 0) 0 dX11_likely_0 rfl ?_
  refine r_getR (pc := 1) fl_X11_15 (nl_is hc) (nl_f0 hc) dX11_likely_1 ?_
  refine r_iload_n (pc := 4) 1 dX11_likely_4 rfl ?_
  refine r_dV (pc := 5) (As := [_]) mv_X5_hasCat ml_X11_123 (c5_hasCat hp hv hn h6 _) (pt_is (cs_pt3 hc)) rfl rfl (Nat.le_of_ble_eq_true rfl) (Nat.le_of_ble_eq_true rfl) (Nat.le_of_ble_eq_true rfl) (Nat.le_of_ble_eq_true rfl) (Nat.le_of_ble_eq_true rfl) dX11_likely_5 ?_
  refine r_if_eq (pc := 8) (tgt := 21) dX11_likely_8 (by decide) (fun c_8 => ?_) (fun c_8 => ?_)
  · exact no (fun z => by rw [bI_0.mp c_8] at z; exact absurd z.1 (by decide))
  · have hcN := bI_n0.mp c_8
    obtain ⟨k, hk, ek⟩ := inN_of (by omega) hcN
    refine r_iload_n (pc := 11) 2 dX11_likely_11 rfl ?_
    refine r_if_lt (pc := 12) (tgt := 21) dX11_likely_12 (by decide) (fun c_12 => ?_) (fun c_12 => ?_)
    · exact no (fun z => absurd ((in_le (b := 60) (by decide)).mp z.2).1 (Int32.not_le.mpr c_12))
    · refine r_iload_n (pc := 15) 2 dX11_likely_15 rfl ?_
      refine r_bipush (pc := 16) (60) dX11_likely_16 rfl ?_
      refine r_icmp_le (pc := 18) (tgt := 25) dX11_likely_18 (by decide) (fun c_18 => ?_) (fun c_18 => ?_)
      · have hin : inN n 61 = true := (in_le (b := 60) (by decide)).mpr ⟨Int32.not_lt.mp c_12, c_18⟩
        obtain ⟨q, hq, eq⟩ := inN_of (by decide) hin
        subst ek eq
        have eh : hereB r nc (nI k) = aliveF r k := by unfold hereB; rw [hcN, Bool.true_and, nI_clamp (by omega)]
        rw [likF, if_pos ⟨hcN, hin⟩, nI_clamp (by omega), nI_clamp (by omega)]
        refine r_aload_n (pc := 25) 0 dX11_likely_25 rfl ?_
        refine r_getR (pc := 26) fl_X11_15 (nl_is hc) (nl_f0 hc) dX11_likely_26 ?_
        refine r_iload_n (pc := 29) 1 dX11_likely_29 rfl ?_
        refine r_dV (pc := 30) (As := [_]) mv_X5_isHere ml_X11_148 (c5_isHere hp hv hn h6 _) (pt_is (cs_pt3 hc)) rfl rfl (Nat.le_of_ble_eq_true rfl) (Nat.le_of_ble_eq_true rfl) (Nat.le_of_ble_eq_true rfl) (Nat.le_of_ble_eq_true rfl) (Nat.le_of_ble_eq_true rfl) dX11_likely_30 ?_
        refine r_if_eq (pc := 33) (tgt := 52) dX11_likely_33 (by decide) (fun c_33 => ?_) (fun c_33 => ?_)
        · have ha := bI_0.mp c_33
          rw [eh] at ha
          refine r_lconst (pc := 52) (0) dX11_likely_52 rfl ?_
          refine r_lret (pc := 53) rfl ?_ (Nat.le_of_ble_eq_true rfl) (Nat.le_of_ble_eq_true rfl) dX11_likely_53
          exact ⟨by rw [if_neg (by rw [ha]; decide)], Fr.rf⟩
        · have ha := bI_n0.mp c_33
          rw [eh] at ha
          obtain ⟨li, y, hli, eli, hy, ey⟩ := alive_cat hrw (show k < 6 by omega) ha
          refine r_aload_n (pc := 36) 0 dX11_likely_36 rfl ?_
          refine r_getR (pc := 37) fl_X11_74 (nl_is hc) (nl_f8 hc) dX11_likely_37 ?_
          refine r_aload_n (pc := 40) 0 dX11_likely_40 rfl ?_
          refine r_getR (pc := 41) fl_X11_15 (nl_is hc) (nl_f0 hc) dX11_likely_41 ?_
          refine r_iload_n (pc := 44) 1 dX11_likely_44 rfl ?_
          refine r_iload_n (pc := 45) 2 dX11_likely_45 rfl ?_
          refine r_callV (pc := 46) (As := [_, _, _]) mv_X2_chanceToLast ml_X11_259 (c2_chanceToLast hc hpx hv hrw h3 hl6 hlw hfo (by omega) eli hli ey hy (by omega)) (ca_90 hc) rfl rfl (Nat.le_of_ble_eq_true rfl) (Nat.le_of_ble_eq_true rfl) (Nat.le_of_ble_eq_true rfl) (Nat.le_of_ble_eq_true rfl) (Nat.le_of_ble_eq_true rfl) dX11_likely_46 (fun r h2 hp => ?_)
          obtain ⟨rfl, f2⟩ := hp
          show Wp E mX11_likely _ _ _ _ [.long _] _ 0 0
          refine r_goto (pc := 49) (tgt := 53) dX11_likely_49 (by decide) ?_
          refine r_lret (pc := 53) rfl ?_ (Nat.le_of_ble_eq_true rfl) (Nat.le_of_ble_eq_true rfl) dX11_likely_53
          refine ⟨?_, f2.mono (fun _ _ => fo_ro)⟩
          rw [if_pos ha, ey, nI_clamp (by omega)]
      · exact no (fun z => absurd ((in_le (b := 60) (by decide)).mp z.2).2 c_18)
theorem c11_canBe {nc ns nl sg : Nat} {lw : Option Nat} {fo : Option (List Cl)} (hL : Lv E h x r nc ns nl lw fo) (hsg : r 2 = nI sg) (h8 : sg ≤ 8) (c : Int32) : Ct E 5 0 0 mX11_canBe [.ref x, .int c] h (pQ h x (.int (canF r fo nc sg c))) := by
  obtain ⟨hc, hv, hrw, ⟨h3, hl6⟩, hlw, hfo⟩ := hL
  obtain ⟨hn, h6, hns, hs3, -⟩ := id hrw
  have hp := cs_pt3 hc
  have hpx : pOf x (x + 3) := Or.inl rfl
  refine Ct.of (by decide +kernel) (Nat.le_of_ble_eq_true rfl) ?_
  refine r_aload_n (pc := 0) 0 dX11_canBe_0 rfl ?_
  refine r_getR (pc := 1) fl_X11_15 (nl_is hc) (nl_f0 hc) dX11_canBe_1 ?_
  refine r_iload_n (pc := 4) 1 dX11_canBe_4 rfl ?_
  refine r_dV (pc := 5) (As := [_]) mv_X5_hasCat ml_X11_123 (c5_hasCat hp hv hn h6 _) (pt_is (cs_pt3 hc)) rfl rfl (Nat.le_of_ble_eq_true rfl) (Nat.le_of_ble_eq_true rfl) (Nat.le_of_ble_eq_true rfl) (Nat.le_of_ble_eq_true rfl) (Nat.le_of_ble_eq_true rfl) dX11_canBe_5 ?_
  refine r_if_eq (pc := 8) (tgt := 26) dX11_canBe_8 (by decide) (fun c_8 => ?_) (fun c_8 => ?_)
  · refine r_iconst (pc := 26) (-1) dX11_canBe_26 rfl ?_
    refine r_iret (pc := 27) rfl ?_ (Nat.le_of_ble_eq_true rfl) (Nat.le_of_ble_eq_true rfl) dX11_canBe_27
    exact ⟨by rw [canF, if_neg (by rw [bI_0.mp c_8]; decide)], Fr.rf⟩
  · have hcN := bI_n0.mp c_8
    obtain ⟨k, hk, ek⟩ := inN_of (by omega) hcN
    subst ek
    refine r_aload_n (pc := 11) 0 dX11_canBe_11 rfl ?_
    refine r_getR (pc := 12) fl_X11_81 (nl_is hc) (nl_f9 hc) dX11_canBe_12 ?_
    refine r_aload_n (pc := 15) 0 dX11_canBe_15 rfl ?_
    refine r_getR (pc := 16) fl_X11_15 (nl_is hc) (nl_f0 hc) dX11_canBe_16 ?_
    refine r_iload_n (pc := 19) 1 dX11_canBe_19 rfl ?_
    refine r_callV (pc := 20) (As := [_, _]) mv_X8_livesItCanBe ml_X11_268 (c8_livesItCanBe hc hpx hv hrw h3 hl6 hlw hfo (by omega) hsg h8) (ca_96 hc) rfl rfl (Nat.le_of_ble_eq_true rfl) (Nat.le_of_ble_eq_true rfl) (Nat.le_of_ble_eq_true rfl) (Nat.le_of_ble_eq_true rfl) (Nat.le_of_ble_eq_true rfl) dX11_canBe_20 (fun r h2 hp => ?_)
    obtain ⟨rfl, f2, -⟩ := hp
    show Wp E mX11_canBe _ _ _ _ [.int _] _ 0 0
    refine r_goto (pc := 23) (tgt := 27) dX11_canBe_23 (by decide) ?_
    refine r_iret (pc := 27) rfl ?_ (Nat.le_of_ble_eq_true rfl) (Nat.le_of_ble_eq_true rfl) dX11_canBe_27
    exact ⟨by rw [canF, if_pos hcN, nI_clamp (by omega)], f2.mono (fun _ _ => ak_ro)⟩
theorem lkC_p {fo : Option (List Cl)} {k A : Nat} (hA : A < 512) (h0 : ¬ A = 0) : ∀ y, y ≤ 10 → ∃ q, q < 10 ∧ (lkC r fo k (nI A) y).1 = nI q
  | 0, _ => ⟨0, by decide, by rw [lkC_00]; rfl⟩
  | y + 1, hy => by
    rw [lkC_s hA h0]
    split
    · exact ⟨y, by omega, rfl⟩
    · exact lkC_p hA h0 y (by omega)
theorem c11_look {nc ns nl sg : Nat} {lw : Option Nat} {fo : Option (List Cl)} (hL : Lv E h x r nc ns nl lw fo) (hsg : r 2 = nI sg) (h8 : sg ≤ 8) (c w : Int32) : Ct E 6 0 0 mX11_look [.ref x, .int c, .int w] h (pQ h x (.int (lookF r fo nc sg c w))) := by
  obtain ⟨hc, hv, hrw, ⟨h3, hl6⟩, hlw, hfo⟩ := hL
  obtain ⟨hn, h6, hns, hs3, -⟩ := id hrw
  have hp := cs_pt3 hc
  have hpx : pOf x (x + 3) := Or.inl rfl
  refine Ct.of (by decide +kernel) (Nat.le_of_ble_eq_true rfl) ?_
  have no : ∀ hh : Hp, Fr (roS x) h hh → lookF r fo nc sg c w = -1 → Wp E mX11_look (Rm 6 0 0) (Qm E (pQ h x (.int (lookF r fo nc sg c w))) 0 0) 35 [(0, .ref x), (1, .int c), (2, .int w)] [] hh 0 0 := by
    intro hh fr e
    refine r_iconst (pc := 35) (-1) dX11_look_35 rfl ?_
    refine r_iret (pc := 36) rfl ?_ (Nat.le_of_ble_eq_true rfl) (Nat.le_of_ble_eq_true rfl) dX11_look_36
    exact ⟨by rw [e], fr⟩
  refine r_aload_n (pc := 0) 0 dX11_look_0 rfl ?_
  refine r_getR (pc := 1) fl_X11_15 (nl_is hc) (nl_f0 hc) dX11_look_1 ?_
  refine r_iload_n (pc := 4) 1 dX11_look_4 rfl ?_
  refine r_dV (pc := 5) (As := [_]) mv_X5_hasCat ml_X11_123 (c5_hasCat hp hv hn h6 _) (pt_is (cs_pt3 hc)) rfl rfl (Nat.le_of_ble_eq_true rfl) (Nat.le_of_ble_eq_true rfl) (Nat.le_of_ble_eq_true rfl) (Nat.le_of_ble_eq_true rfl) (Nat.le_of_ble_eq_true rfl) dX11_look_5 ?_
  refine r_if_eq (pc := 8) (tgt := 35) dX11_look_8 (by decide) (fun c_8 => ?_) (fun c_8 => ?_)
  · exact no h Fr.rf (by rw [lookF, if_neg (fun z => by rw [bI_0.mp c_8] at z; exact absurd z.1 (by decide))])
  · have hcN := bI_n0.mp c_8
    obtain ⟨k, hk, ek⟩ := inN_of (by omega) hcN
    refine r_iload_n (pc := 11) 2 dX11_look_11 rfl ?_
    refine r_if_lt (pc := 12) (tgt := 35) dX11_look_12 (by decide) (fun c_12 => ?_) (fun c_12 => ?_)
    · exact no h Fr.rf (by rw [lookF, if_neg (fun z => absurd ((in_le (b := 1) (by decide)).mp z.2).1 (Int32.not_le.mpr c_12))])
    · refine r_iload_n (pc := 15) 2 dX11_look_15 rfl ?_
      refine r_iconst (pc := 16) (1) dX11_look_16 rfl ?_
      refine r_icmp_gt (pc := 17) (tgt := 35) dX11_look_17 (by decide) (fun c_17 => ?_) (fun c_17 => ?_)
      · exact no h Fr.rf (by rw [lookF, if_neg (fun z => absurd ((in_le (b := 1) (by decide)).mp z.2).2 (Int32.not_le.mpr c_17))])
      · have hin : inN w 2 = true := (in_le (b := 1) (by decide)).mpr ⟨Int32.not_lt.mp c_12, Int32.not_lt.mp c_17⟩
        have eF : lookF r fo nc sg c w = (if (lkY r fo k (canN r fo k sg 9) 10).1 = -1 ∨ w = 0 then (lkY r fo k (canN r fo k sg 9) 10).1 else (lkY r fo k (canN r fo k sg 9) 10).2) := by
          rw [lookF, if_pos ⟨hcN, hin⟩, ek, nI_clamp (by omega)]
        have hfy := c8_hasFoundYear (k := k) hc hpx hv hrw h3 hl6 hlw hfo (by omega) hsg h8
        rw [← ek] at hfy
        refine r_aload_n (pc := 20) 0 dX11_look_20 rfl ?_
        refine r_getR (pc := 21) fl_X11_81 (nl_is hc) (nl_f9 hc) dX11_look_21 ?_
        refine r_aload_n (pc := 24) 0 dX11_look_24 rfl ?_
        refine r_getR (pc := 25) fl_X11_15 (nl_is hc) (nl_f0 hc) dX11_look_25 ?_
        refine r_iload_n (pc := 28) 1 dX11_look_28 rfl ?_
        refine r_callV (pc := 29) (As := [_, _]) mv_X8_hasFoundYear ml_X11_271 (hfy) (ca_96 hc) rfl rfl (Nat.le_of_ble_eq_true rfl) (Nat.le_of_ble_eq_true rfl) (Nat.le_of_ble_eq_true rfl) (Nat.le_of_ble_eq_true rfl) (Nat.le_of_ble_eq_true rfl) dX11_look_29 (fun r h2 hp => ?_)
        obtain ⟨rfl, f2, hfnd⟩ := hp
        show Wp E mX11_look _ _ _ _ [.int _] _ 0 0
        have fr2 : Fr (roS x) h h2 := f2.mono (fun _ _ => si_ro)
        have hc2 := hc.ro fr2
        refine r_if_ne (pc := 32) (tgt := 37) dX11_look_32 (by decide) (fun c_32 => ?_) (fun c_32 => ?_)
        · have hne := of_decide_eq_true (bI_n0.mp c_32)
          obtain ⟨e5, e6⟩ := hfnd hne
          obtain ⟨A, hA, eA, -⟩ := canN_set (r := r) (fo := fo) (k := k) (sg := sg) 9 (Nat.le_refl _)
          have hA0 : ¬ A = 0 := fun z => hne (by rw [eA, z]; rfl)
          obtain ⟨q, hq, e1⟩ := lkC_p (r := r) (fo := fo) (k := k) hA hA0 10 (Nat.le_refl _)
          rw [lkC_10, ← eA] at e1
          have hn1 : ¬ (lkY r fo k (canN r fo k sg 9) 10).1 = -1 := by rw [e1]; exact fun z => m1_nI (by omega) z.symm
          refine r_iload_n (pc := 37) 2 dX11_look_37 rfl ?_
          refine r_if_ne (pc := 38) (tgt := 51) dX11_look_38 (by decide) (fun c_38 => ?_) (fun c_38 => ?_)
          · refine r_aload_n (pc := 51) 0 dX11_look_51 rfl ?_
            refine r_getR (pc := 52) fl_X11_81 (nl_is hc2) (nl_f9 hc2) dX11_look_52 ?_
            refine r_getI (pc := 55) fl_X11_278 (ca_96 hc2) dX11_look_55 ?_
            refine r_iret (pc := 58) rfl ?_ (Nat.le_of_ble_eq_true rfl) (Nat.le_of_ble_eq_true rfl) dX11_look_58
            refine ⟨?_, fr2⟩
            rw [eF, if_neg (fun z => z.elim hn1 c_38), e6]
          · refine r_aload_n (pc := 41) 0 dX11_look_41 rfl ?_
            refine r_getR (pc := 42) fl_X11_81 (nl_is hc2) (nl_f9 hc2) dX11_look_42 ?_
            refine r_getI (pc := 45) fl_X11_275 (ca_96 hc2) dX11_look_45 ?_
            refine r_goto (pc := 48) (tgt := 58) dX11_look_48 (by decide) ?_
            refine r_iret (pc := 58) rfl ?_ (Nat.le_of_ble_eq_true rfl) (Nat.le_of_ble_eq_true rfl) dX11_look_58
            refine ⟨?_, fr2⟩
            rw [eF, if_pos (Or.inr c_38), e5]
        · have hz : canN r fo k sg 9 = 0 := Classical.byContradiction (of_decide_eq_false (bI_0.mp c_32))
          refine no h2 fr2 ?_
          rw [eF, hz, lkY_0, if_pos (Or.inl rfl)]
theorem c11_explained {nc ns nl sg : Nat} {lw : Option Nat} {fo : Option (List Cl)} (hL : Lv E h x r nc ns nl lw fo) (hsg : r 2 = nI sg) (h8 : sg ≤ 8) (c : Int32) : Ct E 6 0 0 mX11_explained [.ref x, .int c] h (pQ h x (.int (explF r fo nc sg c))) := by
  obtain ⟨hc, hv, hrw, ⟨h3, hl6⟩, hlw, hfo⟩ := hL
  obtain ⟨hn, h6, hns, hs3, -⟩ := id hrw
  have hp := cs_pt3 hc
  have hpx : pOf x (x + 3) := Or.inl rfl
  refine Ct.of (by decide +kernel) (Nat.le_of_ble_eq_true rfl) ?_
  refine r_aload_n (pc := 0) 0 dX11_explained_0 rfl ?_
  refine r_getR (pc := 1) fl_X11_15 (nl_is hc) (nl_f0 hc) dX11_explained_1 ?_
  refine r_iload_n (pc := 4) 1 dX11_explained_4 rfl ?_
  refine r_dV (pc := 5) (As := [_]) mv_X5_isHere ml_X11_148 (c5_isHere hp hv hn h6 _) (pt_is (cs_pt3 hc)) rfl rfl (Nat.le_of_ble_eq_true rfl) (Nat.le_of_ble_eq_true rfl) (Nat.le_of_ble_eq_true rfl) (Nat.le_of_ble_eq_true rfl) (Nat.le_of_ble_eq_true rfl) dX11_explained_5 ?_
  refine r_if_eq (pc := 8) (tgt := 26) dX11_explained_8 (by decide) (fun c_8 => ?_) (fun c_8 => ?_)
  · refine r_iconst (pc := 26) (-1) dX11_explained_26 rfl ?_
    refine r_iret (pc := 27) rfl ?_ (Nat.le_of_ble_eq_true rfl) (Nat.le_of_ble_eq_true rfl) dX11_explained_27
    exact ⟨by rw [explF, if_neg (here_not (bI_0.mp c_8))], Fr.rf⟩
  · obtain ⟨k, hk, ek, ha⟩ := here_of h6 (bI_n0.mp c_8)
    subst ek
    obtain ⟨li, y, hli, eli, hy, ey⟩ := alive_cat hrw (show k < 6 by omega) ha
    refine r_aload_n (pc := 11) 0 dX11_explained_11 rfl ?_
    refine r_getR (pc := 12) fl_X11_81 (nl_is hc) (nl_f9 hc) dX11_explained_12 ?_
    refine r_aload_n (pc := 15) 0 dX11_explained_15 rfl ?_
    refine r_getR (pc := 16) fl_X11_15 (nl_is hc) (nl_f0 hc) dX11_explained_16 ?_
    refine r_iload_n (pc := 19) 1 dX11_explained_19 rfl ?_
    refine r_callV (pc := 20) (As := [_, _]) mv_X8_fewestLives ml_X11_281 (c8_fewestLives hc hpx hv hrw h3 hl6 hlw hfo (by omega) eli hli ey hy hsg h8) (ca_96 hc) rfl rfl (Nat.le_of_ble_eq_true rfl) (Nat.le_of_ble_eq_true rfl) (Nat.le_of_ble_eq_true rfl) (Nat.le_of_ble_eq_true rfl) (Nat.le_of_ble_eq_true rfl) dX11_explained_20 (fun r h2 hp => ?_)
    obtain ⟨rfl, f2⟩ := hp
    show Wp E mX11_explained _ _ _ _ [.int _] _ 0 0
    refine r_goto (pc := 23) (tgt := 27) dX11_explained_23 (by decide) ?_
    refine r_iret (pc := 27) rfl ?_ (Nat.le_of_ble_eq_true rfl) (Nat.le_of_ble_eq_true rfl) dX11_explained_27
    refine ⟨?_, f2.mono (fun _ _ => si_ro)⟩
    have hin : inN (nI k) nc = true ∧ aliveF r k = true := ⟨by rw [inN_nI (by omega)]; exact decide_eq_true hk, ha⟩
    rw [explF, nI_clamp (by omega), if_pos hin]
end OWN2
