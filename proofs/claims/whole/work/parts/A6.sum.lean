/-! the class's reader: terms and sums -/
section SUM
variable {E : En} {x n N : Nat} {b : Nat → Int32} {od test : Bool} {wl wo : Nat → Int64}
theorem KR.sgb {k pl v : Int32} {t : Tk} (hk : KR k pl v t) {a : Nat} (ha : a ≤ 255) : tS t (nI a) = decide (k = nI a) := by
  cases hz : tS t (nI a) with
  | true => rw [decide_eq_true ((hk.sg ha).mpr hz)]
  | false => rw [decide_eq_false (fun z => by rw [(hk.sg ha).mp z] at hz; cases hz)]
theorem KR.wdb {k pl v : Int32} {t : Tk} (hk : KR k pl v t) {j : Nat} (hj : j < 27) : tW t (lN (vocN j)) = decide (k = nI (256 + j)) := by
  cases hz : tW t (lN (vocN j)) with
  | true => rw [decide_eq_true ((hk.wd hj).mpr hz)]
  | false => rw [decide_eq_false (fun z => by rw [(hk.wd hj).mp z] at hz; cases hz)]
def sgK (k : Int32) : Int32 := if k = 43 then 20 else if k = 45 then 21 else if k = 42 then 22 else if k = 47 then 23 else if k = 37 then 24 else -1
theorem KR.sgn {k pl v : Int32} {t : Tk} (hk : KR k pl v t) : sgnA t = sgK k := by
  unfold sgnA sgK
  rw [show tS t 43 = decide (k = 43) from hk.sgb (a := 43) (by decide), show tS t 45 = decide (k = 45) from hk.sgb (a := 45) (by decide), show tS t 42 = decide (k = 42) from hk.sgb (a := 42) (by decide), show tS t 47 = decide (k = 47) from hk.sgb (a := 47) (by decide), show tS t 37 = decide (k = 37) from hk.sgb (a := 37) (by decide)]
  simp only [decide_eq_true_eq]
theorem sgK_op {k : Int32} (hk : k = 42 ∨ k = 47 ∨ k = 37) : opO (sgK k) ∧ bndF (sgK k) = 6 ∧ copO k = sgK k ∧ ¬ copO k = 0 := by
  rcases hk with rfl | rfl | rfl
  · exact ⟨Or.inr (Or.inr (Or.inl (by decide))), by decide, by decide, by decide⟩
  · exact ⟨Or.inr (Or.inr (Or.inr (Or.inl (by decide)))), by decide, by decide, by decide⟩
  · exact ⟨Or.inr (Or.inr (Or.inr (Or.inr (by decide)))), by decide, by decide, by decide⟩
theorem sgK_pm {k : Int32} (hk : k = 43 ∨ k = 45) : opO (sgK k) ∧ bndF (sgK k) = 5 ∧ copO k = sgK k ∧ ¬ copO k = 0 := by
  rcases hk with rfl | rfl
  · exact ⟨Or.inl (by decide), by decide, by decide, by decide⟩
  · exact ⟨Or.inr (Or.inl (by decide)), by decide, by decide, by decide⟩
theorem adH_lo {h : Hp} {c k : Nat} {o w : Int32} (hk : k < c) : hI (adH h x c o w) (x + 31) k = hI h (x + 31) k ∧ hI (adH h x c o w) (x + 32) k = hI h (x + 32) k := by
  unfold adH
  exact ⟨by rw [hI_ne (by omega), hI_ne (by omega), hI_ne (by omega)], by rw [hI_ne (by omega), hI_ne (by omega), hI_ne (by omega)]⟩
def semT (mc : Mcf) (d i lv : Nat) : Nat → Nat → Sm → Prop := fun i' lv' s => Bd s ∧ (sgnA (mc.2.2.2.1 i') = -1 ∨ sgnA (mc.2.2.2.1 i') = 20 ∨ sgnA (mc.2.2.2.1 i') = 21) ∧ ∀ pl, Tb 6 pl → ∃ P s2, Gos mc (1, i, lv, d, pl, sZ) (3, i', lv', d, P, s2) ∧ Ey 6 P s2 pl s ∧ cmpA P = cmpA pl
def falT (mc : Mcf) (d i lv : Nat) : Nat → Prop := fun j => ∀ pl, Tb 6 pl → Fls mc (1, i, lv, d, pl, sZ) j
def semS (mc : Mcf) (d i lv : Nat) : Nat → Nat → Sm → Prop := fun i' lv' s => Bd s ∧ sgnA (mc.2.2.2.1 i') = -1 ∧ ∀ pl, Tb 5 pl → ∃ P s2, Gos mc (1, i, lv, d, pl, sZ) (3, i', lv', d, P, s2) ∧ Ey 5 P s2 pl s ∧ cmpA P = cmpA pl
def falS (mc : Mcf) (d i lv : Nat) : Nat → Prop := fun j => ∀ pl, Tb 5 pl → Fls mc (1, i, lv, d, pl, sZ) j
/-- contracts of the reader's methods at a depth of brackets, as hypotheses -/
def CtR (E : En) (x : Nat) (b : Nat → Int32) (n N : Nat) (od : Bool) (M : Mi) (D d : Nat) (SEM : Nat → Nat → Nat → Nat → Sm → Prop) (FAL : Nat → Nat → Nat → Prop) : Prop := ∀ (h : Hp) (i lv c : Nat), RdH E h x b n N od i lv c → Ct E D 0 0 M [.ref (x + 26), .int (nI d)] h (pRe E h x b n N od i lv c (SEM i lv) (FAL i lv))
theorem c6_hasTerm {D d : Nat} (HP : CtR E x b n N od mX6_hasPart D d (fun i lv => semP (mcO b n od test wl wo) d i lv) (fun i lv => falP (mcO b n od test wl wo) d i lv)) : CtR E x b n N od mX6_hasTerm (D + 1) d (fun i lv => semT (mcO b n od test wl wo) d i lv) (fun i lv => falT (mcO b n od test wl wo) d i lv) := by
  intro h i lv c hr
  have hr0 := hr
  obtain ⟨⟨hc, ht⟩, ⟨hi, hN⟩, -⟩ := hr
  refine Ct.of (by decide +kernel) (Nat.le_of_ble_eq_true rfl) ?_
  have loop : ∀ (fu : Nat) (hh : Hp) (i1 lv1 c1 : Nat) (s1 : Sm), N - i1 < fu → Fr (rdS x c) h hh → RdH E hh x b n N od i1 lv1 c1 → i < i1 → lv < lv1 → c < c1 → c1 + i ≤ i1 + c → CSeg (hI hh (x + 31)) (hI hh (x + 32)) (wlw od) c c1 (lv1 - lv) s1 → Bd s1 → (∀ pl, Tb 6 pl → ∃ P s2, Gos (mcO b n od test wl wo) (1, i, lv, d, pl, sZ) (3, i1, lv1, d, P, s2) ∧ Ey 6 P s2 pl s1 ∧ cmpA P = cmpA pl) → Wp E mX6_hasTerm (Rm (D + 1) 0 0) (Qm E (pRe E h x b n N od i lv c (semT (mcO b n od test wl wo) d i lv) (falT (mcO b n od test wl wo) d i lv)) 0 0) 10 [(0, .ref (x + 26)), (1, .int (nI d))] [] hh 0 0 := by
    intro fu
    induction fu with
    | zero =>
      intro hh i1 lv1 c1 s1 hfu fr hr1 a1 a2 a3 a4 hseg hbd hgo
      omega
    | succ fu IH =>
      intro hh i1 lv1 c1 s1 hfu fr hr1 a1 a2 a3 a4 hseg hbd hgo
      obtain ⟨⟨hc1, ht1⟩, ⟨hi1, hN1⟩, -, -, -, hci1⟩ := id hr1
      have h400 := ht1.2.1
      have hkr := ht1.kr hN1
      have hsg := hkr.sgn
      have fin : ¬ (hI hh (x + 34) i1 = 42 ∨ hI hh (x + 34) i1 = 47 ∨ hI hh (x + 34) i1 = 37) → Wp E mX6_hasTerm (Rm (D + 1) 0 0) (Qm E (pRe E h x b n N od i lv c (semT (mcO b n od test wl wo) d i lv) (falT (mcO b n od test wl wo) d i lv)) 0 0) 106 [(0, .ref (x + 26)), (1, .int (nI d))] [] hh 0 0 := by
        intro hno
        refine r_iconst (pc := 106) (1) dX6_hasTerm_106 rfl ?_
        refine r_zret (pc := 107) rfl (by decide) ?_ (Nat.le_of_ble_eq_true rfl) (Nat.le_of_ble_eq_true rfl) dX6_hasTerm_107
        refine ⟨fr, Or.inl ⟨rfl, i1, lv1, c1, s1, hr1, a1, a2, a3, a4, hseg, hbd, ?_, hgo⟩⟩
        show sgnA (tk b n i1) = -1 ∨ sgnA (tk b n i1) = 20 ∨ sgnA (tk b n i1) = 21
        rw [hsg]
        unfold sgK
        split
        · exact Or.inr (Or.inl rfl)
        · split
          · exact Or.inr (Or.inr rfl)
          · rw [if_neg (fun z => hno (Or.inl z)), if_neg (fun z => hno (Or.inr (Or.inl z))), if_neg (fun z => hno (Or.inr (Or.inr z)))]; exact Or.inl rfl
      have go : (hI hh (x + 34) i1 = 42 ∨ hI hh (x + 34) i1 = 47 ∨ hI hh (x + 34) i1 = 37) → Wp E mX6_hasTerm (Rm (D + 1) 0 0) (Qm E (pRe E h x b n N od i lv c (semT (mcO b n od test wl wo) d i lv) (falT (mcO b n od test wl wo) d i lv)) 0 0) 63 [(0, .ref (x + 26)), (1, .int (nI d))] [] hh 0 0 := by
        intro hop
        obtain ⟨o1, o2, o3, o4⟩ := sgK_op hop
        have hiN : i1 < N := by
          rcases Nat.lt_or_ge i1 N with z | z
          · exact z
          · have q1 := hkr.en.mpr ((ht1.end hN1).mpr (by omega))
            rw [q1] at hop
            rcases hop with w | w | w <;> exact absurd w (by decide)
        refine r_aload_n (pc := 63) 0 dX6_hasTerm_63 rfl ?_
        refine r_getR (pc := 64) fl_X6_24 (ca_26 hc1) (cf_26_2 hc1) dX6_hasTerm_64 ?_
        refine r_aload_n (pc := 67) 0 dX6_hasTerm_67 rfl ?_
        refine r_getI (pc := 68) fl_X6_69 (ca_26 hc1) dX6_hasTerm_68 ?_
        rw [hi1]
        refine r_iald (pc := 71) (j := i1) (cr_34 hc1) rfl (by omega) (by decide) dX6_hasTerm_71 ?_
        refine r_istore_n (pc := 72) (lv' := [(0, _), (1, _), (2, _)]) dX6_hasTerm_72 (Nat.le_of_ble_eq_true rfl) rfl ?_
        refine r_aload_n (pc := 73) 0 dX6_hasTerm_73 rfl ?_
        refine r_dup (pc := 74) dX6_hasTerm_74 rfl ?_
        refine r_getI (pc := 75) fl_X6_69 (ca_26 hc1) dX6_hasTerm_75 ?_
        rw [hi1]
        refine r_iconst (pc := 78) (1) dX6_hasTerm_78 rfl ?_
        refine r_iadd (pc := 79) dX6_hasTerm_79 ?_
        rw [nI_1]
        refine r_putI (pc := 80) fp_X6_69 (ca_26 hc1) dX6_hasTerm_80 ?_
        have hr2 := hr1.now (i' := i1 + 1) (by omega) (by omega)
        have f2 : Fr (rdS x c) h (wI hh (x + 26) 6 (nI (i1 + 1))) := fr.tr (Fr.wI (by unfold rdS; omega))
        have ek : hI (wI hh (x + 26) 6 (nI (i1 + 1))) (x + 31) = hI hh (x + 31) ∧ hI (wI hh (x + 26) 6 (nI (i1 + 1))) (x + 32) = hI hh (x + 32) := ⟨by funext j; exact hI_ne (by omega), by funext j; exact hI_ne (by omega)⟩
        generalize wI hh (x + 26) 6 (nI (i1 + 1)) = h2 at hr2 f2 ek ⊢
        have hc2 := hr2.1.1
        refine r_aload_n (pc := 83) 0 dX6_hasTerm_83 rfl ?_
        refine r_iload_n (pc := 84) 1 dX6_hasTerm_84 rfl ?_
        refine r_callV (pc := 85) (As := [_]) mv_X6_hasPart ml_X6_161 (HP h2 (i1 + 1) lv1 c1 hr2) (ca_26 hc2) rfl rfl (Nat.le_of_ble_eq_true rfl) (fr_le (by omega)) (lo_le (by decide) (by omega)) (Nat.le_of_ble_eq_true rfl) (Nat.le_of_ble_eq_true rfl) dX6_hasTerm_85 (fun r h3 hp => ?_)
        obtain ⟨f3, ⟨rfl, i3, lv3, c3, s3, hr3, b1, b2, b3, b4, hseg3, hbd3, hgo3⟩ | ⟨rfl, j, hj, hjN, hf⟩⟩ := hp
        · show Wp E mX6_hasTerm _ _ _ _ [.int _] _ 0 0
          have hc3 := hr3.1.1
          refine r_if_ne (pc := 88) (tgt := 93) dX6_hasTerm_88 (by decide) (fun c_88 => ?_) (fun c_88 => ?_)
          · refine r_aload_n (pc := 93) 0 dX6_hasTerm_93 rfl ?_
            refine r_getR (pc := 94) fl_X6_14 (ca_26 hc3) (cf_26_0 hc3) dX6_hasTerm_94 ?_
            refine r_iload_n (pc := 97) 2 dX6_hasTerm_97 rfl ?_
            refine r_iconst (pc := 98) (0) dX6_hasTerm_98 rfl ?_
            refine r_dV (pc := 99) (As := [_, _]) mv_X10_add ml_X6_148 (c6_add hr3 (by omega) _ _) (tx_is (cs_tx27 hc3)) rfl rfl (Nat.le_of_ble_eq_true rfl) (fr_le (by omega)) (lo_le (by decide) (by omega)) (Nat.le_of_ble_eq_true rfl) (Nat.le_of_ble_eq_true rfl) dX6_hasTerm_99 ?_
            refine r_pop (pc := 102) dX6_hasTerm_102 rfl ?_
            refine r_goto (pc := 103) (tgt := 10) dX6_hasTerm_103 (by decide) ?_
            refine r_sub [0, 1] rfl ?_
            have hr4 := hr3.add (o := hI hh (x + 34) i1) (w := 0) (by omega)
            have f34 := f3.mono (fun a k z => rdS_mono (c := c) (by omega) z)
            have f4 : Fr (rdS x c) h (adH h3 x c3 (hI hh (x + 34) i1) 0) := (f2.tr f34).tr (adH_fr.mono (fun a k z => rdS_mono (c := c) (by omega) z))
            refine IH _ i3 lv3 (c3 + 1) (sBin (copO (hI hh (x + 34) i1)) s1 s3) (by have := hr3.2.1.2; omega) f4 hr4 (by omega) (by omega) (by omega) (by omega) ?_ (Bd.bin _ _) ?_
            · have e1 : ∀ k, c ≤ k → k < c1 → hI (adH h3 x c3 (hI hh (x + 34) i1) 0) (x + 31) k = hI hh (x + 31) k ∧ hI (adH h3 x c3 (hI hh (x + 34) i1) 0) (x + 32) k = hI hh (x + 32) k := fun k k1 k2 => by
                rw [(adH_lo (show k < c3 by omega)).1, (adH_lo (show k < c3 by omega)).2, f3.I (by unfold rdS; omega), f3.I (by unfold rdS; omega), ek.1, ek.2]; exact ⟨rfl, rfl⟩
              have e2 : ∀ k, c1 ≤ k → k < c3 → hI (adH h3 x c3 (hI hh (x + 34) i1) 0) (x + 31) k = hI h3 (x + 31) k ∧ hI (adH h3 x c3 (hI hh (x + 34) i1) 0) (x + 32) k = hI h3 (x + 32) k := fun k k1 k2 => adH_lo k2
              have q := CSeg_bin (CSeg_cong e1 hseg) (CSeg_cong e2 hseg3) (by rw [adH_O]; exact o4)
              rw [adH_O, show lv1 - lv + (lv3 - lv1) = lv3 - lv by omega] at q
              exact q
            · intro pl hT
              obtain ⟨P, s2, g1, g2, g3⟩ := hgo pl hT
              have hsg2 : sgnA (tk b n i1) = sgK (hI hh (x + 34) i1) := hsg
              have g4 : Gos (mcO b n od test wl wo) (3, i1, lv1, d, P, s2) (1, i1 + 1, lv1, d, (sgnA (tk b n i1), s1) :: pl, sZ) := go_op (v := 6) (by show opO (sgnA (tk b n i1)); rw [hsg2]; exact o1) g2 (by show bndF (sgnA (tk b n i1)) ≤ 6; rw [hsg2, o2]; decide) (by show Tb (bndF (sgnA (tk b n i1))) pl; rw [hsg2, o2]; exact hT)
              rw [hsg2] at g4
              refine ⟨(sgK (hI hh (x + 34) i1), s1) :: pl, s3, (g1.tr g4).tr (hgo3 _), ?_, cmp_op o1⟩
              have q := Ey.top (v := 6) (y := (sgK (hI hh (x + 34) i1), s1)) (pl := pl) (s := s3) (by show (6 : Int32) ≤ bndF (sgK (hI hh (x + 34) i1)); rw [o2]; decide) (opO_31 o1).1
              rw [cmb_op o1, ← o3] at q
              rw [← o3]
              exact q
          · exact absurd (show (1 : Int32) = 0 from c_88) (by decide)
        · show Wp E mX6_hasTerm _ _ _ _ [.int _] _ 0 0
          refine r_if_ne (pc := 88) (tgt := 93) dX6_hasTerm_88 (by decide) (fun c_88 => ?_) (fun c_88 => ?_)
          · exact absurd rfl c_88
          · refine r_iconst (pc := 91) (0) dX6_hasTerm_91 rfl ?_
            refine r_zret (pc := 92) rfl (by decide) ?_ (Nat.le_of_ble_eq_true rfl) (Nat.le_of_ble_eq_true rfl) dX6_hasTerm_92
            refine ⟨f2.tr (f3.mono (fun a k z => rdS_mono (c := c) (by omega) z)), Or.inr ⟨rfl, j, hj, hjN, fun pl hT => ?_⟩⟩
            obtain ⟨P, s2, g1, g2, g3⟩ := hgo pl hT
            have hsg2 : sgnA (tk b n i1) = sgK (hI hh (x + 34) i1) := hsg
            have g4 : Gos (mcO b n od test wl wo) (3, i1, lv1, d, P, s2) (1, i1 + 1, lv1, d, (sgnA (tk b n i1), s1) :: pl, sZ) := go_op (v := 6) (by show opO (sgnA (tk b n i1)); rw [hsg2]; exact o1) g2 (by show bndF (sgnA (tk b n i1)) ≤ 6; rw [hsg2, o2]; decide) (by show Tb (bndF (sgnA (tk b n i1))) pl; rw [hsg2, o2]; exact hT)
            exact (g1.tr g4).fl (hf _)
      refine r_aload_n (pc := 10) 0 dX6_hasTerm_10 rfl ?_
      refine r_getI (pc := 11) fl_X6_69 (ca_26 hc1) dX6_hasTerm_11 ?_
      refine r_aload_n (pc := 14) 0 dX6_hasTerm_14 rfl ?_
      refine r_getI (pc := 15) fl_X6_86 (ca_26 hc1) dX6_hasTerm_15 ?_
      rw [hi1, ht1.1]
      refine r_icmp_ge (pc := 18) (tgt := 106) dX6_hasTerm_18 (by decide) (fun c_18 => ?_) (fun c_18 => ?_)
      · exact absurd c_18 (nI_ge (by omega) (by omega))
      · refine r_aload_n (pc := 21) 0 dX6_hasTerm_21 rfl ?_
        refine r_getR (pc := 22) fl_X6_24 (ca_26 hc1) (cf_26_2 hc1) dX6_hasTerm_22 ?_
        refine r_aload_n (pc := 25) 0 dX6_hasTerm_25 rfl ?_
        refine r_getI (pc := 26) fl_X6_69 (ca_26 hc1) dX6_hasTerm_26 ?_
        rw [hi1]
        refine r_iald (pc := 29) (j := i1) (cr_34 hc1) rfl (by omega) (by decide) dX6_hasTerm_29 ?_
        refine r_bipush (pc := 30) (42) dX6_hasTerm_30 rfl ?_
        refine r_icmp_eq (pc := 32) (tgt := 63) dX6_hasTerm_32 (by decide) (fun c_32 => ?_) (fun c_32 => ?_)
        · exact go (Or.inl c_32)
        · refine r_aload_n (pc := 35) 0 dX6_hasTerm_35 rfl ?_
          refine r_getR (pc := 36) fl_X6_24 (ca_26 hc1) (cf_26_2 hc1) dX6_hasTerm_36 ?_
          refine r_aload_n (pc := 39) 0 dX6_hasTerm_39 rfl ?_
          refine r_getI (pc := 40) fl_X6_69 (ca_26 hc1) dX6_hasTerm_40 ?_
          rw [hi1]
          refine r_iald (pc := 43) (j := i1) (cr_34 hc1) rfl (by omega) (by decide) dX6_hasTerm_43 ?_
          refine r_bipush (pc := 44) (47) dX6_hasTerm_44 rfl ?_
          refine r_icmp_eq (pc := 46) (tgt := 63) dX6_hasTerm_46 (by decide) (fun c_46 => ?_) (fun c_46 => ?_)
          · exact go (Or.inr (Or.inl c_46))
          · refine r_aload_n (pc := 49) 0 dX6_hasTerm_49 rfl ?_
            refine r_getR (pc := 50) fl_X6_24 (ca_26 hc1) (cf_26_2 hc1) dX6_hasTerm_50 ?_
            refine r_aload_n (pc := 53) 0 dX6_hasTerm_53 rfl ?_
            refine r_getI (pc := 54) fl_X6_69 (ca_26 hc1) dX6_hasTerm_54 ?_
            rw [hi1]
            refine r_iald (pc := 57) (j := i1) (cr_34 hc1) rfl (by omega) (by decide) dX6_hasTerm_57 ?_
            refine r_bipush (pc := 58) (37) dX6_hasTerm_58 rfl ?_
            refine r_icmp_ne (pc := 60) (tgt := 106) dX6_hasTerm_60 (by decide) (fun c_60 => ?_) (fun c_60 => ?_)
            · exact fin (fun z => z.elim c_32 (fun w => w.elim c_46 c_60))
            · exact go (Or.inr (Or.inr c_60))
  refine r_aload_n (pc := 0) 0 dX6_hasTerm_0 rfl ?_
  refine r_iload_n (pc := 1) 1 dX6_hasTerm_1 rfl ?_
  refine r_callV (pc := 2) (As := [_]) mv_X6_hasPart ml_X6_161 (HP h i lv c hr0) (ca_26 hc) rfl rfl (Nat.le_of_ble_eq_true rfl) (fr_le (by omega)) (lo_le (by decide) (by omega)) (Nat.le_of_ble_eq_true rfl) (Nat.le_of_ble_eq_true rfl) dX6_hasTerm_2 (fun r h1 hp => ?_)
  obtain ⟨f1, ⟨rfl, i1, lv1, c1, s1, hr1, a1, a2, a3, a4, hseg, hbd, hgo⟩ | ⟨rfl, j, hj, hjN, hf⟩⟩ := hp
  · show Wp E mX6_hasTerm _ _ _ _ [.int _] _ 0 0
    refine r_if_ne (pc := 5) (tgt := 10) dX6_hasTerm_5 (by decide) (fun c_5 => ?_) (fun c_5 => ?_)
    · exact loop (N - i1 + 1) h1 i1 lv1 c1 s1 (by omega) f1 hr1 a1 a2 a3 a4 hseg hbd (fun pl _ => ⟨pl, s1, hgo pl, Ey.rf, rfl⟩)
    · exact absurd (show (1 : Int32) = 0 from c_5) (by decide)
  · show Wp E mX6_hasTerm _ _ _ _ [.int _] _ 0 0
    refine r_if_ne (pc := 5) (tgt := 10) dX6_hasTerm_5 (by decide) (fun c_5 => ?_) (fun c_5 => ?_)
    · exact absurd rfl c_5
    · refine r_iconst (pc := 8) (0) dX6_hasTerm_8 rfl ?_
      refine r_zret (pc := 9) rfl (by decide) ?_ (Nat.le_of_ble_eq_true rfl) (Nat.le_of_ble_eq_true rfl) dX6_hasTerm_9
      exact ⟨f1, Or.inr ⟨rfl, j, hj, hjN, fun pl _ => hf pl⟩⟩
end SUM
