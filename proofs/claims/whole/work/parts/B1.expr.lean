/-! the class's reader: expressions, at any depth of brackets -/
section EXPR
variable {E : En} {x n N : Nat} {b : Nat → Int32} {od test : Bool} {wl wo : Nat → Int64}
theorem c6_brkT {D d : Nat} (hD : 2 ≤ D) (hd : d < 8) (HT : CtR E x b n N od mX6_hasTest D (d + 1) (fun i lv => semE (mcO b n od test wl wo) (d + 1) i lv) (fun i lv => falE (mcO b n od test wl wo) (d + 1) i lv)) : CtB E x b n N od (D + 1) d 40 41 (fun i lv => semR (mcO b n od test wl wo) d i lv) (fun i lv => falR (mcO b n od test wl wo) d i lv) := by
  intro h i lv c hr hb
  obtain ⟨⟨hc, ht⟩, ⟨hi, hN⟩, -, -, -, hci⟩ := id hr
  have hiN : i < N := by
    rcases Nat.lt_or_ge i N with z | z
    · exact z
    · have q1 := (ht.end hN).mpr (by omega)
      exact absurd q1 (tS_n0 hb)
  have hnw : tW (tk b n i) 14836 = false := tW_f (fun z => by
    have q1 := (of_decide_eq_true z).1
    have q2 := (of_decide_eq_true hb).1
    rw [q1] at q2; exact absurd q2 (by decide))
  have op1 : ∀ pl, Gos (mcO b n od test wl wo) (0, i, lv, d, pl, sZ) (0, i + 1, lv, d + 1, (31, sZ) :: pl, sZ) := fun pl => by
    refine Gos.one (by show ¬ (0 : Int32) = 4; decide) ?_
    show rplA wl wo od (tk b n) i lv d pl = _
    unfold rplA
    rw [hnw, if_neg (by decide), if_pos (show tS (tk b n i) 40 = true from hb)]
    unfold opnA
    rw [if_pos hd]
  have hT1 : ∀ pl : List PE, Tb 1 ((31, sZ) :: pl) := fun pl => by show bndF 31 < 1; decide
  have hIn : ∀ pl : List PE, InB test ((31, sZ) :: pl) := fun pl => Or.inl rfl
  refine Ct.of (by decide +kernel) (Nat.le_of_ble_eq_true rfl) ?_
  refine r_iload_n (pc := 0) 1 dX6_hasBracketed_0 rfl ?_
  refine r_bipush (pc := 1) (8) dX6_hasBracketed_1 rfl ?_
  refine r_icmp_lt (pc := 3) (tgt := 8) dX6_hasBracketed_3 (by decide) (fun c_3 => ?_) (fun c_3 => ?_)
  · refine r_aload_n (pc := 8) 0 dX6_hasBracketed_8 rfl ?_
    refine r_dup (pc := 9) dX6_hasBracketed_9 rfl ?_
    refine r_getI (pc := 10) fl_X6_69 (ca_26 hc) dX6_hasBracketed_10 ?_
    rw [hi]
    refine r_iconst (pc := 13) (1) dX6_hasBracketed_13 rfl ?_
    refine r_iadd (pc := 14) dX6_hasBracketed_14 ?_
    rw [nI_1]
    refine r_putI (pc := 15) fp_X6_69 (ca_26 hc) dX6_hasBracketed_15 ?_
    have hr2 := hr.now (i' := i + 1) (by omega) (by omega)
    have f2 : Fr (rdS x c) h (wI h (x + 26) 6 (nI (i + 1))) := Fr.wI (by unfold rdS; omega)
    generalize wI h (x + 26) 6 (nI (i + 1)) = h2 at hr2 f2 ⊢
    have hc2 := hr2.1.1
    refine r_iload_n (pc := 18) 2 dX6_hasBracketed_18 rfl ?_
    refine r_bipush (pc := 19) (41) dX6_hasBracketed_19 rfl ?_
    refine r_icmp_ne (pc := 21) (tgt := 37) dX6_hasBracketed_21 (by decide) (fun c_21 => ?_) (fun c_21 => ?_)
    · exact absurd rfl c_21
    · refine r_aload_n (pc := 24) 0 dX6_hasBracketed_24 rfl ?_
      refine r_iload_n (pc := 25) 1 dX6_hasBracketed_25 rfl ?_
      refine r_iconst (pc := 26) (1) dX6_hasBracketed_26 rfl ?_
      refine r_iadd (pc := 27) dX6_hasBracketed_27 ?_
      rw [nI_1]
      refine r_callV (pc := 28) (As := [_]) mv_X6_hasTest ml_X6_121 (HT h2 (i + 1) lv c hr2) (ca_26 hc2) rfl rfl (Nat.le_of_ble_eq_true rfl) (fr_le (by omega)) (lo_le (by decide) (by omega)) (Nat.le_of_ble_eq_true rfl) (Nat.le_of_ble_eq_true rfl) dX6_hasBracketed_28 (fun r h3 hp => ?_)
      obtain ⟨f3, ⟨rfl, i3, lv3, c3, s3, hr3, b1, b2, b3, b4, hseg3, hT3, ⟨n1, n2⟩, hgo3⟩ | ⟨rfl, j, hj, hjN, hf⟩⟩ := hp
      · show Wp E mX6_hasBracketed _ _ _ _ [.int _] _ 0 0
        obtain ⟨⟨hc3, ht3⟩, ⟨hi3, hN3⟩, -⟩ := id hr3
        have hkr3 := ht3.kr hN3
        have beh : ∀ pl, ∃ P s2, Gos (mcO b n od test wl wo) (0, i, lv, d, pl, sZ) (2, i3, lv3, d + 1, P, s2) ∧ aS (mcO b n od test wl wo) (2, i3, lv3, d + 1, P, s2) = if tS (tk b n i3) 41 = true then some (.inr (2, i3 + 1, lv3, d, pl, s3)) else some (.inl i3) := by
          intro pl
          obtain ⟨P, s2, g1, g2, g3⟩ := hgo3 _ (hT1 pl) (hIn pl)
          refine ⟨P, s2, (op1 pl).tr g1, ?_⟩
          show btA (tk b n) i3 lv3 (d + 1) P s2 = _
          unfold btA
          rw [show tW (tk b n i3) 1476 = false from n1, show tW (tk b n i3) 498 = false from n2, if_neg (by decide), if_neg (by decide), g3, if_neg (show ¬ innA ((31, sZ) :: pl) = -1 by show ¬ (31 : Int32) = -1; decide), g2]
          congr 1
        refine r_if_eq (pc := 31) (tgt := 59) dX6_hasBracketed_31 (by decide) (fun c_31 => ?_) (fun c_31 => ?_)
        · exact absurd (show (1 : Int32) = 0 from c_31) (by decide)
        · refine r_goto (pc := 34) (tgt := 47) dX6_hasBracketed_34 (by decide) ?_
          refine r_aload_n (pc := 47) 0 dX6_hasBracketed_47 rfl ?_
          refine r_iload_n (pc := 48) 2 dX6_hasBracketed_48 rfl ?_
          refine r_callV (pc := 49) (As := [_]) mv_X6_takes ml_X6_82 (c6_takes hc3 ht3 hi3 hN3 (k := nI 41) (by decide)) (ca_26 hc3) rfl rfl (Nat.le_of_ble_eq_true rfl) (fr_le (by omega)) (lo_le (by decide) (by omega)) (Nat.le_of_ble_eq_true rfl) (Nat.le_of_ble_eq_true rfl) dX6_hasBracketed_49 (fun r h4 hp => ?_)
          rcases hp with ⟨hk, hlt, rfl, rfl⟩ | ⟨hk, rfl, rfl⟩
          · show Wp E mX6_hasBracketed _ _ _ _ [.int _] _ 0 0
            refine r_if_eq (pc := 52) (tgt := 59) dX6_hasBracketed_52 (by decide) (fun c_52 => ?_) (fun c_52 => ?_)
            · exact absurd (show (1 : Int32) = 0 from c_52) (by decide)
            · refine r_iconst (pc := 55) (1) dX6_hasBracketed_55 rfl ?_
              refine r_goto (pc := 56) (tgt := 60) dX6_hasBracketed_56 (by decide) ?_
              refine r_zret (pc := 60) rfl (by decide) ?_ (Nat.le_of_ble_eq_true rfl) (Nat.le_of_ble_eq_true rfl) dX6_hasBracketed_60
              have hyes : tS (tk b n i3) 41 = true := (hkr3.sg (a := 41) (by decide)).mp hk
              refine ⟨(f2.tr f3).tr (Fr.wI (by unfold rdS; omega)), Or.inl ⟨rfl, i3 + 1, lv3, c3, s3, hr3.now (by omega) (by omega), by omega, b2, b3, by omega, CSeg_cong (fun k _ _ => ⟨hI_ne (by omega), hI_ne (by omega)⟩) hseg3, hT3, fun pl => ?_⟩⟩
              obtain ⟨P, s2, g1, g2⟩ := beh pl
              rw [if_pos hyes] at g2
              exact g1.tr (Gos.one (by show ¬ (2 : Int32) = 4; decide) g2)
          · show Wp E mX6_hasBracketed _ _ _ _ [.int _] _ 0 0
            refine r_if_eq (pc := 52) (tgt := 59) dX6_hasBracketed_52 (by decide) (fun c_52 => ?_) (fun c_52 => ?_)
            · refine r_iconst (pc := 59) (0) dX6_hasBracketed_59 rfl ?_
              refine r_zret (pc := 60) rfl (by decide) ?_ (Nat.le_of_ble_eq_true rfl) (Nat.le_of_ble_eq_true rfl) dX6_hasBracketed_60
              refine ⟨f2.tr f3, Or.inr ⟨rfl, i3, hi3, hN3, fun pl => ?_⟩⟩
              obtain ⟨P, s2, g1, g2⟩ := beh pl
              rw [if_neg (show ¬ tS (tk b n i3) 41 = true from fun z => hk ((hkr3.sg (a := 41) (by decide)).mpr z))] at g2
              exact g1.fl (Fls.one (by show ¬ (2 : Int32) = 4; decide) g2)
            · exact absurd rfl c_52
      · show Wp E mX6_hasBracketed _ _ _ _ [.int _] _ 0 0
        refine r_if_eq (pc := 31) (tgt := 59) dX6_hasBracketed_31 (by decide) (fun c_31 => ?_) (fun c_31 => ?_)
        · refine r_iconst (pc := 59) (0) dX6_hasBracketed_59 rfl ?_
          refine r_zret (pc := 60) rfl (by decide) ?_ (Nat.le_of_ble_eq_true rfl) (Nat.le_of_ble_eq_true rfl) dX6_hasBracketed_60
          exact ⟨f2.tr f3, Or.inr ⟨rfl, j, hj, hjN, fun pl => (op1 pl).fl (hf _ (hT1 pl) (hIn pl))⟩⟩
        · exact absurd rfl c_31
  · exact absurd (nI_lt (b := 8) hd (by decide)) c_3
/-- from the brackets of a depth to all that is read there -/
theorem rd_level (hw : Wls wl wo) {D D1 d : Nat} (hD : 3 ≤ D) (hD1 : D1 ≤ D + 4) (HS : CtB E x b n N od D d 91 93 (fun i lv => semP (mcO b n od test wl wo) d i lv) (fun i lv => falP (mcO b n od test wl wo) d i lv)) (HR : CtB E x b n N od D1 d 40 41 (fun i lv => semR (mcO b n od test wl wo) d i lv) (fun i lv => falR (mcO b n od test wl wo) d i lv)) : CtR E x b n N od mX6_hasSum (D + 3) d (fun i lv => semS (mcO b n od test wl wo) d i lv) (fun i lv => falS (mcO b n od test wl wo) d i lv) ∧ CtR E x b n N od mX6_hasTest (D + 6) d (fun i lv => semE (mcO b n od test wl wo) d i lv) (fun i lv => falE (mcO b n od test wl wo) d i lv) := by
  have h1 := c6_hasSum (c6_hasTerm (c6_hasPart hw hD HS))
  exact ⟨h1, c6_hasTest (by omega) (c6_hasPlain (by omega) hD1 HR (c6_hasComparison h1))⟩
theorem rd_all (hw : Wls wl wo) : ∀ g d, d + g = 8 → CtR E x b n N od mX6_hasSum (4 * g + 6) d (fun i lv => semS (mcO b n od test wl wo) d i lv) (fun i lv => falS (mcO b n od test wl wo) d i lv) ∧ CtR E x b n N od mX6_hasTest (4 * g + 9) d (fun i lv => semE (mcO b n od test wl wo) d i lv) (fun i lv => falE (mcO b n od test wl wo) d i lv)
  | 0, d, hd => by
    have e : d = 8 := by omega
    subst e
    refine rd_level (D := 3) (D1 := 3) hw (by omega) (by omega) (c6_brk8 1 32 (fun i lv pl hb => ?_) (by decide) _) (c6_brk8 0 31 (fun i lv pl hb => ?_) (by decide) _)
    · show rpA wl wo od (tk b n) i lv 8 pl = _
      unfold rpA
      rw [if_pos (show tS (tk b n i) 91 = true from hb)]
    · show rplA wl wo od (tk b n) i lv 8 pl = _
      have hnw : tW (tk b n i) 14836 = false := tW_f (fun z => by
        have q1 := (of_decide_eq_true z).1
        have q2 := (of_decide_eq_true hb).1
        rw [q1] at q2; exact absurd q2 (by decide))
      unfold rplA
      rw [hnw, if_neg (by decide), if_pos (show tS (tk b n i) 40 = true from hb)]
  | g + 1, d, hd => by
    obtain ⟨i1, i2⟩ := rd_all hw g (d + 1) (by omega)
    have h1 := c6_brkS (d := d) (by omega) i1
    have h2 := c6_brkT (d := d) (by omega) (by omega) i2
    have h3 := rd_level hw (by omega) (by omega) h1 h2
    rw [show 4 * g + 6 + 1 + 3 = 4 * (g + 1) + 6 by omega, show 4 * g + 6 + 1 + 6 = 4 * (g + 1) + 9 by omega] at h3
    exact h3
/-- a sum as the machine reads it -/
theorem ex_sum {i lv i' lv' : Nat} {s : Sm} (h : semS (mcO b n od false wl wo) 0 i lv i' lv' s) : ExM wl wo od (tk b n) false i lv (.inr (i', lv', s)) := by
  obtain ⟨-, h1, h2⟩ := h
  obtain ⟨P, s2, ⟨M, g1⟩, g2, -⟩ := h2 [] trivial
  have e4 : aS (mcO b n od false wl wo) (3, i', lv', 0, P, s2) = some (.inr (4, i', lv', 0, P, s2)) := by
    show bsA (tk b n) false i' lv' 0 P s2 = _
    unfold bsA
    rw [if_neg (fun z => z h1), g2.2, if_neg (show ¬ innA [] = 32 by show ¬ (-1 : Int32) = 32; decide), if_pos ⟨rfl, rfl⟩]
  refine ⟨M + 1 + 1, 0, P, s2, ?_, ?_⟩
  · rw [if_neg (by decide)]
    refine Sps_R (mc := mcO b n od false wl wo) ?_ (M + 1) _ g1
    rw [asR, if_neg (by show ¬ (3 : Int32) = 4; decide), show asS wl wo od (tk b n) false (3, i', lv', 0, P, s2) = _ from e4]
    show asR wl wo od (tk b n) false 0 (4, i', lv', 0, P, s2) = _
    rw [asR, if_pos rfl]
  · rw [g2.1 1 (by decide)]; rfl
theorem ex_sumF {i lv j : Nat} (h : falS (mcO b n od false wl wo) 0 i lv j) : ExM wl wo od (tk b n) false i lv (.inl j) := by
  obtain ⟨M, h1⟩ := (h [] trivial).R
  exact ⟨M, by rw [if_neg (by decide)]; exact h1⟩
theorem ex_test {i lv i' lv' : Nat} {s : Sm} (h : semE (mcO b n od true wl wo) 0 i lv i' lv' s) : ExM wl wo od (tk b n) true i lv (.inr (i', lv', s)) := by
  obtain ⟨-, ⟨n1, n2⟩, h2⟩ := h
  obtain ⟨P, s2, ⟨M, g1⟩, g2, g3⟩ := h2 [] trivial (Or.inr ⟨rfl, rfl⟩)
  have e4 : aS (mcO b n od true wl wo) (2, i', lv', 0, P, s2) = some (.inr (4, i', lv', 0, P, s2)) := by
    show btA (tk b n) i' lv' 0 P s2 = _
    unfold btA
    rw [show tW (tk b n i') 1476 = false from n1, show tW (tk b n i') 498 = false from n2, if_neg (by decide), if_neg (by decide), g3, if_pos (show innA [] = -1 from rfl)]
  refine ⟨M + 1 + 1, 0, P, s2, ?_, g2⟩
  rw [if_pos rfl]
  refine Sps_R (mc := mcO b n od true wl wo) ?_ (M + 1) _ g1
  rw [asR, if_neg (by show ¬ (2 : Int32) = 4; decide), show asS wl wo od (tk b n) true (2, i', lv', 0, P, s2) = _ from e4]
  show asR wl wo od (tk b n) true 0 (4, i', lv', 0, P, s2) = _
  rw [asR, if_pos rfl]
theorem ex_testF {i lv j : Nat} (h : falE (mcO b n od true wl wo) 0 i lv j) : ExM wl wo od (tk b n) true i lv (.inl j) := by
  obtain ⟨M, h1⟩ := (h [] trivial (Or.inr ⟨rfl, rfl⟩)).R
  exact ⟨M, by rw [if_pos rfl]; exact h1⟩
end EXPR
