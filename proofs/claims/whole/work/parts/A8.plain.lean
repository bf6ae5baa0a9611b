/-! the class's reader: comparisons, what is plain -/
section PLAIN
variable {E : En} {x n N : Nat} {b : Nat → Int32} {od test : Bool} {wl wo : Nat → Int64}
/-- within round brackets, or a test at the outside -/
def InB (test : Bool) (pl : List PE) : Prop := innA pl = 31 ∨ (innA pl = -1 ∧ test = true)
def semC (mc : Mcf) (d i lv : Nat) : Nat → Nat → Sm → Prop := fun i' lv' s => IsT s ∧ ∀ pl, Tb 4 pl → InB mc.2.2.2.2 pl → ∃ P s2, Gos mc (1, i, lv, d, pl, sZ) (2, i', lv', d, P, s2) ∧ Ey 4 P s2 pl s
def falC (mc : Mcf) (d i lv : Nat) : Nat → Prop := fun j => ∀ pl, Tb 4 pl → InB mc.2.2.2.2 pl → Fls mc (1, i, lv, d, pl, sZ) j
def semL (mc : Mcf) (d i lv : Nat) : Nat → Nat → Sm → Prop := fun i' lv' s => IsT s ∧ ∀ pl, Tb 3 pl → InB mc.2.2.2.2 pl → ∃ P s2, Gos mc (0, i, lv, d, pl, sZ) (2, i', lv', d, P, s2) ∧ Ey 3 P s2 pl s
def falL (mc : Mcf) (d i lv : Nat) : Nat → Prop := fun j => ∀ pl, Tb 3 pl → InB mc.2.2.2.2 pl → Fls mc (0, i, lv, d, pl, sZ) j
def semR (mc : Mcf) (d i lv : Nat) : Nat → Nat → Sm → Prop := fun i' lv' s => IsT s ∧ ∀ pl, Gos mc (0, i, lv, d, pl, sZ) (2, i', lv', d, pl, s)
def falR (mc : Mcf) (d i lv : Nat) : Nat → Prop := fun j => ∀ pl, Fls mc (0, i, lv, d, pl, sZ) j
def cmK (k : Int32) : Int32 := if k = 60 then 25 else if k = 62 then 26 else 27
theorem KR.cms {k pl v : Int32} {t : Tk} (hk : KR k pl v t) : cmsA t = cmK k := by
  unfold cmsA cmK
  rw [show tS t 60 = decide (k = 60) from hk.sgb (a := 60) (by decide), show tS t 62 = decide (k = 62) from hk.sgb (a := 62) (by decide)]
  simp only [decide_eq_true_eq]
theorem cmK_op {k : Int32} (hk : k = 60 ∨ k = 62 ∨ k = 61) : (cmK k = 25 ∨ cmK k = 26 ∨ cmK k = 27) ∧ bndF (cmK k) = 4 ∧ copO k = cmK k ∧ ¬ copO k = 0 := by
  rcases hk with rfl | rfl | rfl
  · exact ⟨Or.inl (by decide), by decide, by decide, by decide⟩
  · exact ⟨Or.inr (Or.inl (by decide)), by decide, by decide, by decide⟩
  · exact ⟨Or.inr (Or.inr (by decide)), by decide, by decide, by decide⟩
theorem cm_31 {o : Int32} (ho : o = 25 ∨ o = 26 ∨ o = 27) : ¬ (31 : Int32) ≤ o := by rcases ho with rfl | rfl | rfl <;> decide
theorem cm_cmp {o : Int32} (ho : o = 25 ∨ o = 26 ∨ o = 27) {s : Sm} {pl : List PE} : cmpA ((o, s) :: pl) = true := by
  rw [cmpA]
  rcases ho with rfl | rfl | rfl <;> rfl
theorem InB.no32 {pl : List PE} (hb : InB test pl) : ¬ innA pl = 32 ∧ ¬ (innA pl = -1 ∧ test = false) := by
  rcases hb with z | ⟨z, w⟩
  · rw [z]; exact ⟨by decide, fun q => absurd q.1 (by decide)⟩
  · rw [z, w]; exact ⟨by decide, fun q => by cases q.2⟩
theorem c6_hasComparison {D d : Nat} (HS : CtR E x b n N od mX6_hasSum D d (fun i lv => semS (mcO b n od test wl wo) d i lv) (fun i lv => falS (mcO b n od test wl wo) d i lv)) : CtR E x b n N od mX6_hasComparison (D + 1) d (fun i lv => semC (mcO b n od test wl wo) d i lv) (fun i lv => falC (mcO b n od test wl wo) d i lv) := by
  intro h i lv c hr
  have hr0 := hr
  obtain ⟨⟨hc, ht⟩, ⟨hi, hN⟩, -⟩ := hr
  refine Ct.of (by decide +kernel) (Nat.le_of_ble_eq_true rfl) ?_
  refine r_aload_n (pc := 0) 0 dX6_hasComparison_0 rfl ?_
  refine r_iload_n (pc := 1) 1 dX6_hasComparison_1 rfl ?_
  refine r_callV (pc := 2) (As := [_]) mv_X6_hasSum ml_X6_130 (HS h i lv c hr0) (ca_26 hc) rfl rfl (Nat.le_of_ble_eq_true rfl) (fr_le (by omega)) (lo_le (by decide) (by omega)) (Nat.le_of_ble_eq_true rfl) (Nat.le_of_ble_eq_true rfl) dX6_hasComparison_2 (fun r h1 hp => ?_)
  obtain ⟨f1, ⟨rfl, i1, lv1, c1, s1, hr1, a1, a2, a3, a4, hseg, hbd, hlo, hgo⟩ | ⟨rfl, j, hj, hjN, hf⟩⟩ := hp
  · show Wp E mX6_hasComparison _ _ _ _ [.int _] _ 0 0
    obtain ⟨⟨hc1, ht1⟩, ⟨hi1, hN1⟩, -, -, -, hci1⟩ := id hr1
    have h400 := ht1.2.1
    have hkr := ht1.kr hN1
    have hcm : cmsA (tk b n i1) = cmK (hI h1 (x + 34) i1) := hkr.cms
    have h61 : tS (tk b n i1) 61 = decide (hI h1 (x + 34) i1 = 61) := hkr.sgb (a := 61) (by decide)
    -- the machine stands behind the first sum
    have beh : ∀ pl, Tb 4 pl → InB test pl → ∃ P s2, Gos (mcO b n od test wl wo) (1, i, lv, d, pl, sZ) (3, i1, lv1, d, P, s2) ∧ aS (mcO b n od test wl wo) (3, i1, lv1, d, P, s2) = if ¬ cmsA (tk b n i1) = 27 ∨ tS (tk b n i1) 61 = true then some (.inr (1, i1 + 1, lv1, d, (cmsA (tk b n i1), s1) :: pl, sZ)) else some (.inl i1) := by
      intro pl hT hB
      obtain ⟨P, s2, g1, g2, g3⟩ := hgo pl (hT.mono (by decide))
      refine ⟨P, s2, g1, ?_⟩
      show bsA (tk b n) test i1 lv1 d P s2 = _
      unfold bsA
      rw [if_neg (fun z => z hlo), g2.2, if_neg hB.no32.1, if_neg hB.no32.2, g3, Tb_cmp hT, if_neg (by decide), g2.1 5 (by decide), (hT.mono (show (4 : Int32) ≤ 5 by decide)).st]
    have goOn : (hI h1 (x + 34) i1 = 60 ∨ hI h1 (x + 34) i1 = 62 ∨ hI h1 (x + 34) i1 = 61) → Wp E mX6_hasComparison (Rm (D + 1) 0 0) (Qm E (pRe E h x b n N od i lv c (semC (mcO b n od test wl wo) d i lv) (falC (mcO b n od test wl wo) d i lv)) 0 0) 35 [(0, .ref (x + 26)), (1, .int (nI d)), (2, .int (hI h1 (x + 34) i1))] [] h1 0 0 := by
      intro hop
      obtain ⟨o1, o2, o3, o4⟩ := cmK_op hop
      have hcnd : ¬ cmsA (tk b n i1) = 27 ∨ tS (tk b n i1) 61 = true := by
        rw [hcm, h61]
        rcases hop with z | z | z
        · left; rw [z]; decide
        · left; rw [z]; decide
        · right; exact decide_eq_true z
      have hiN : i1 < N := by
        rcases Nat.lt_or_ge i1 N with z | z
        · exact z
        · have q1 := hkr.en.mpr ((ht1.end hN1).mpr (by omega))
          rw [q1] at hop
          rcases hop with w | w | w <;> exact absurd w (by decide)
      have st1 : ∀ pl, Tb 4 pl → InB test pl → Gos (mcO b n od test wl wo) (1, i, lv, d, pl, sZ) (1, i1 + 1, lv1, d, (cmK (hI h1 (x + 34) i1), s1) :: pl, sZ) := by
        intro pl hT hB
        obtain ⟨P, s2, g1, g2⟩ := beh pl hT hB
        rw [if_pos hcnd, hcm] at g2
        exact g1.tr (Gos.one (by show ¬ (3 : Int32) = 4; decide) g2)
      have hT5 : ∀ pl : List PE, Tb 5 ((cmK (hI h1 (x + 34) i1), s1) :: pl) := fun pl => by
        show bndF (cmK (hI h1 (x + 34) i1)) < 5
        rw [o2]; decide
      refine r_aload_n (pc := 35) 0 dX6_hasComparison_35 rfl ?_
      refine r_dup (pc := 36) dX6_hasComparison_36 rfl ?_
      refine r_getI (pc := 37) fl_X6_69 (ca_26 hc1) dX6_hasComparison_37 ?_
      rw [hi1]
      refine r_iconst (pc := 40) (1) dX6_hasComparison_40 rfl ?_
      refine r_iadd (pc := 41) dX6_hasComparison_41 ?_
      rw [nI_1]
      refine r_putI (pc := 42) fp_X6_69 (ca_26 hc1) dX6_hasComparison_42 ?_
      have hr2 := hr1.now (i' := i1 + 1) (by omega) (by omega)
      have f2 : Fr (rdS x c) h (wI h1 (x + 26) 6 (nI (i1 + 1))) := f1.tr (Fr.wI (by unfold rdS; omega))
      have ek : hI (wI h1 (x + 26) 6 (nI (i1 + 1))) (x + 31) = hI h1 (x + 31) ∧ hI (wI h1 (x + 26) 6 (nI (i1 + 1))) (x + 32) = hI h1 (x + 32) := ⟨by funext j; exact hI_ne (by omega), by funext j; exact hI_ne (by omega)⟩
      generalize wI h1 (x + 26) 6 (nI (i1 + 1)) = h2 at hr2 f2 ek ⊢
      have hc2 := hr2.1.1
      refine r_aload_n (pc := 45) 0 dX6_hasComparison_45 rfl ?_
      refine r_iload_n (pc := 46) 1 dX6_hasComparison_46 rfl ?_
      refine r_callV (pc := 47) (As := [_]) mv_X6_hasSum ml_X6_130 (HS h2 (i1 + 1) lv1 c1 hr2) (ca_26 hc2) rfl rfl (Nat.le_of_ble_eq_true rfl) (fr_le (by omega)) (lo_le (by decide) (by omega)) (Nat.le_of_ble_eq_true rfl) (Nat.le_of_ble_eq_true rfl) dX6_hasComparison_47 (fun r h3 hp => ?_)
      obtain ⟨f3, ⟨rfl, i3, lv3, c3, s3, hr3, b1, b2, b3, b4, hseg3, hbd3, hlo3, hgo3⟩ | ⟨rfl, j, hj, hjN, hf⟩⟩ := hp
      · show Wp E mX6_hasComparison _ _ _ _ [.int _] _ 0 0
        have hc3 := hr3.1.1
        refine r_if_ne (pc := 50) (tgt := 55) dX6_hasComparison_50 (by decide) (fun c_50 => ?_) (fun c_50 => ?_)
        · refine r_aload_n (pc := 55) 0 dX6_hasComparison_55 rfl ?_
          refine r_getR (pc := 56) fl_X6_14 (ca_26 hc3) (cf_26_0 hc3) dX6_hasComparison_56 ?_
          refine r_iload_n (pc := 59) 2 dX6_hasComparison_59 rfl ?_
          refine r_iconst (pc := 60) (0) dX6_hasComparison_60 rfl ?_
          refine r_dV (pc := 61) (As := [_, _]) mv_X10_add ml_X6_148 (c6_add hr3 (by omega) _ _) (tx_is (cs_tx27 hc3)) rfl rfl (Nat.le_of_ble_eq_true rfl) (fr_le (by omega)) (lo_le (by decide) (by omega)) (Nat.le_of_ble_eq_true rfl) (Nat.le_of_ble_eq_true rfl) dX6_hasComparison_61 ?_
          refine r_pop (pc := 64) dX6_hasComparison_64 rfl ?_
          refine r_iconst (pc := 65) (1) dX6_hasComparison_65 rfl ?_
          refine r_zret (pc := 66) rfl (by decide) ?_ (Nat.le_of_ble_eq_true rfl) (Nat.le_of_ble_eq_true rfl) dX6_hasComparison_66
          have hr4 := hr3.add (o := hI h1 (x + 34) i1) (w := 0) (by omega)
          have f34 := f3.mono (fun a k z => rdS_mono (c := c) (by omega) z)
          have f4 : Fr (rdS x c) h (adH h3 x c3 (hI h1 (x + 34) i1) 0) := (f2.tr f34).tr (adH_fr.mono (fun a k z => rdS_mono (c := c) (by omega) z))
          refine ⟨f4, Or.inl ⟨rfl, i3, lv3, c3 + 1, sBin (copO (hI h1 (x + 34) i1)) s1 s3, hr4, by omega, by omega, by omega, by omega, ?_, by rw [o3]; exact IsT.cmp o1 _ _, fun pl hT hB => ?_⟩⟩
          · have e1 : ∀ k, c ≤ k → k < c1 → hI (adH h3 x c3 (hI h1 (x + 34) i1) 0) (x + 31) k = hI h1 (x + 31) k ∧ hI (adH h3 x c3 (hI h1 (x + 34) i1) 0) (x + 32) k = hI h1 (x + 32) k := fun k k1 k2 => by
              rw [(adH_lo (show k < c3 by omega)).1, (adH_lo (show k < c3 by omega)).2, f3.I (by unfold rdS; omega), f3.I (by unfold rdS; omega), ek.1, ek.2]; exact ⟨rfl, rfl⟩
            have e2 : ∀ k, c1 ≤ k → k < c3 → hI (adH h3 x c3 (hI h1 (x + 34) i1) 0) (x + 31) k = hI h3 (x + 31) k ∧ hI (adH h3 x c3 (hI h1 (x + 34) i1) 0) (x + 32) k = hI h3 (x + 32) k := fun k k1 k2 => adH_lo k2
            have q := CSeg_bin (CSeg_cong e1 hseg) (CSeg_cong e2 hseg3) (by rw [adH_O]; exact o4)
            rw [adH_O, show lv1 - lv + (lv3 - lv1) = lv3 - lv by omega] at q
            exact q
          · obtain ⟨P, s2, g1, g2, g3⟩ := hgo3 _ (hT5 pl)
            refine ⟨P, s2, ((st1 pl hT hB).tr g1).tr (Gos.one (by show ¬ (3 : Int32) = 4; decide) ?_), ?_⟩
            · show bsA (tk b n) test i3 lv3 d P s2 = _
              have ein : innA P = innA pl := by rw [g2.2, innA, if_neg (cm_31 o1)]
              unfold bsA
              rw [if_neg (fun z => z hlo3), ein, if_neg hB.no32.1, if_neg hB.no32.2, g3, cm_cmp o1, if_pos rfl]
            · have q := Ey.top (v := 4) (y := (cmK (hI h1 (x + 34) i1), s1)) (pl := pl) (s := s3) (by show (4 : Int32) ≤ bndF (cmK (hI h1 (x + 34) i1)); rw [o2]; decide) (cm_31 o1)
              rw [cmb_cp o1] at q
              rw [o3]
              exact (g2.mono (by decide)).tr q
        · exact absurd (show (1 : Int32) = 0 from c_50) (by decide)
      · show Wp E mX6_hasComparison _ _ _ _ [.int _] _ 0 0
        refine r_if_ne (pc := 50) (tgt := 55) dX6_hasComparison_50 (by decide) (fun c_50 => ?_) (fun c_50 => ?_)
        · exact absurd rfl c_50
        · refine r_iconst (pc := 53) (0) dX6_hasComparison_53 rfl ?_
          refine r_zret (pc := 54) rfl (by decide) ?_ (Nat.le_of_ble_eq_true rfl) (Nat.le_of_ble_eq_true rfl) dX6_hasComparison_54
          exact ⟨f2.tr (f3.mono (fun a k z => rdS_mono (c := c) (by omega) z)), Or.inr ⟨rfl, j, hj, hjN, fun pl hT hB => (st1 pl hT hB).fl (hf _ (hT5 pl))⟩⟩
    refine r_if_ne (pc := 5) (tgt := 10) dX6_hasComparison_5 (by decide) (fun c_5 => ?_) (fun c_5 => ?_)
    · refine r_aload_n (pc := 10) 0 dX6_hasComparison_10 rfl ?_
      refine r_dV (pc := 11) (As := []) mv_X6_kindNow ml_X6_79 (c6_kindNow hc1 ht1 hi1 hN1) (ca_26 hc1) rfl rfl (Nat.le_of_ble_eq_true rfl) (fr_le (by omega)) (lo_le (by decide) (by omega)) (Nat.le_of_ble_eq_true rfl) (Nat.le_of_ble_eq_true rfl) dX6_hasComparison_11 ?_
      refine r_istore_n (pc := 14) (lv' := [(0, _), (1, _), (2, _)]) dX6_hasComparison_14 (Nat.le_of_ble_eq_true rfl) rfl ?_
      refine r_iload_n (pc := 15) 2 dX6_hasComparison_15 rfl ?_
      refine r_bipush (pc := 16) (60) dX6_hasComparison_16 rfl ?_
      refine r_icmp_eq (pc := 18) (tgt := 35) dX6_hasComparison_18 (by decide) (fun c_18 => ?_) (fun c_18 => ?_)
      · exact goOn (Or.inl c_18)
      · refine r_iload_n (pc := 21) 2 dX6_hasComparison_21 rfl ?_
        refine r_bipush (pc := 22) (62) dX6_hasComparison_22 rfl ?_
        refine r_icmp_eq (pc := 24) (tgt := 35) dX6_hasComparison_24 (by decide) (fun c_24 => ?_) (fun c_24 => ?_)
        · exact goOn (Or.inr (Or.inl c_24))
        · refine r_iload_n (pc := 27) 2 dX6_hasComparison_27 rfl ?_
          refine r_bipush (pc := 28) (61) dX6_hasComparison_28 rfl ?_
          refine r_icmp_eq (pc := 30) (tgt := 35) dX6_hasComparison_30 (by decide) (fun c_30 => ?_) (fun c_30 => ?_)
          · exact goOn (Or.inr (Or.inr c_30))
          · refine r_iconst (pc := 33) (0) dX6_hasComparison_33 rfl ?_
            refine r_zret (pc := 34) rfl (by decide) ?_ (Nat.le_of_ble_eq_true rfl) (Nat.le_of_ble_eq_true rfl) dX6_hasComparison_34
            refine ⟨f1, Or.inr ⟨rfl, i1, hi1, hN1, fun pl hT hB => ?_⟩⟩
            obtain ⟨P, s2, g1, g2⟩ := beh pl hT hB
            have hno : ¬ (¬ cmsA (tk b n i1) = 27 ∨ tS (tk b n i1) 61 = true) := by
              rw [hcm, h61]
              rintro (z | z)
              · apply z; unfold cmK; rw [if_neg c_18, if_neg c_24]
              · exact c_30 (of_decide_eq_true z)
            rw [if_neg hno] at g2
            exact g1.fl (Fls.one (by show ¬ (3 : Int32) = 4; decide) g2)
    · exact absurd (show (1 : Int32) = 0 from c_5) (by decide)
  · show Wp E mX6_hasComparison _ _ _ _ [.int _] _ 0 0
    refine r_if_ne (pc := 5) (tgt := 10) dX6_hasComparison_5 (by decide) (fun c_5 => ?_) (fun c_5 => ?_)
    · exact absurd rfl c_5
    · refine r_iconst (pc := 8) (0) dX6_hasComparison_8 rfl ?_
      refine r_zret (pc := 9) rfl (by decide) ?_ (Nat.le_of_ble_eq_true rfl) (Nat.le_of_ble_eq_true rfl) dX6_hasComparison_9
      exact ⟨f1, Or.inr ⟨rfl, j, hj, hjN, fun pl hT hB => hf pl (hT.mono (by decide))⟩⟩
end PLAIN
