/-! the class's reader: what is plain -/
section PLAIN2
variable {E : En} {x n N : Nat} {b : Nat → Int32} {od test : Bool} {wl wo : Nat → Int64}
def Gs0 (mc : Mcf) (a d : AS) : Prop := a = d ∨ Gos mc a d
theorem Gs0.tr {mc : Mcf} {a d e : AS} (h1 : Gs0 mc a d) (h2 : Gos mc d e) : Gos mc a e := by
  rcases h1 with rfl | h1
  · exact h2
  · exact h1.tr h2
theorem Gs0.fl {mc : Mcf} {a d : AS} {j : Nat} (h1 : Gs0 mc a d) (h2 : Fls mc d j) : Fls mc a j := by
  rcases h1 with rfl | h1
  · exact h2
  · exact h1.fl h2
def nts : Nat → List PE → List PE
  | 0, pl => pl
  | k + 1, pl => (28, sZ) :: nts k pl
def ntS : Nat → Sm → Sm
  | 0, s => s
  | k + 1, s => ntS k (sNot s)
theorem nts_inn {pl : List PE} : ∀ k, innA (nts k pl) = innA pl
  | 0 => rfl
  | k + 1 => by rw [nts, innA, if_neg (by decide)]; exact nts_inn k
theorem nts_Tb {pl : List PE} (hT : Tb 3 pl) : ∀ k, Tb 4 (nts k pl)
  | 0 => hT.mono (by decide)
  | k + 1 => by show bndF 28 < 4; decide
theorem nts_Ey {pl : List PE} : ∀ (k : Nat) (s : Sm), Ey 3 (nts k pl) s pl (ntS k s)
  | 0, s => Ey.rf
  | k + 1, s => by
    have h1 : Ey 3 (nts (k + 1) pl) s (nts k pl) (cmb (28, sZ) s) := Ey.top (v := 3) (y := (28, sZ)) (by show (3 : Int32) ≤ bndF 28; decide) (by show ¬ (31 : Int32) ≤ 28; decide)
    exact h1.tr (nts_Ey k (sNot s))
theorem ntS_is : ∀ (k : Nat) (s : Sm), ntS k s = if k % 2 = 1 then sNot s else s
  | 0, s => rfl
  | k + 1, s => by
    rw [ntS, ntS_is k]
    by_cases hk : k % 2 = 1
    · rw [if_pos hk, if_neg (by omega), sNot2]
    · rw [if_neg hk, if_pos (by omega)]
theorem c6_hasPlain {D D1 d : Nat} (hD : 3 ≤ D) (hD1 : D1 ≤ D) (HB : CtB E x b n N od D1 d 40 41 (fun i lv => semR (mcO b n od test wl wo) d i lv) (fun i lv => falR (mcO b n od test wl wo) d i lv)) (HC : CtR E x b n N od mX6_hasComparison D d (fun i lv => semC (mcO b n od test wl wo) d i lv) (fun i lv => falC (mcO b n od test wl wo) d i lv)) : CtR E x b n N od mX6_hasPlain (D + 1) d (fun i lv => semL (mcO b n od test wl wo) d i lv) (fun i lv => falL (mcO b n od test wl wo) d i lv) := by
  intro h i lv c hr
  have hr0 := hr
  refine Ct.of (by decide +kernel) (Nat.le_of_ble_eq_true rfl) ?_
  -- behind bracket or comparison
  have good : ∀ (k : Nat) (hh : Hp) (i3 lv3 c3 : Nat) (s3 : Sm), Fr (rdS x c) h hh → RdH E hh x b n N od i3 lv3 c3 → i + k < i3 → lv < lv3 → c < c3 → c3 + (i + k) ≤ i3 + c → CSeg (hI hh (x + 31)) (hI hh (x + 32)) (wlw od) c c3 (lv3 - lv) s3 → IsT s3 → (∀ pl, Tb 3 pl → InB test pl → ∃ P s2, Gos (mcO b n od test wl wo) (0, i, lv, d, pl, sZ) (2, i3, lv3, d, P, s2) ∧ Ey 3 P s2 (nts k pl) s3) → Wp E mX6_hasPlain (Rm (D + 1) 0 0) (Qm E (pRe E h x b n N od i lv c (semL (mcO b n od test wl wo) d i lv) (falL (mcO b n od test wl wo) d i lv)) 0 0) 75 [(0, .ref (x + 26)), (1, .int (nI d)), (2, .int (bI (decide (k % 2 = 1))))] [.int 1] hh 0 0 := by
    intro k hh i3 lv3 c3 s3 fr hr3 a1 a2 a3 a4 hseg hT hgo
    have hci := hr0.2.2.2.2.2
    have hc3 := hr3.1.1
    have sem : ∀ pl, Tb 3 pl → InB test pl → ∃ P s2, Gos (mcO b n od test wl wo) (0, i, lv, d, pl, sZ) (2, i3, lv3, d, P, s2) ∧ Ey 3 P s2 pl (ntS k s3) := fun pl h1 h2 => by
      obtain ⟨P, s2, g1, g2⟩ := hgo pl h1 h2
      exact ⟨P, s2, g1, g2.tr (nts_Ey k s3)⟩
    refine r_istore_n (pc := 75) (lv' := [(0, _), (1, _), (2, _), (3, _)]) dX6_hasPlain_75 (Nat.le_of_ble_eq_true rfl) rfl ?_
    refine r_iload_n (pc := 76) 3 dX6_hasPlain_76 rfl ?_
    refine r_if_eq (pc := 77) (tgt := 96) dX6_hasPlain_77 (by decide) (fun c_77 => ?_) (fun c_77 => ?_)
    · exact absurd (show (1 : Int32) = 0 from c_77) (by decide)
    · refine r_iload_n (pc := 80) 2 dX6_hasPlain_80 rfl ?_
      refine r_if_eq (pc := 81) (tgt := 96) dX6_hasPlain_81 (by decide) (fun c_81 => ?_) (fun c_81 => ?_)
      · have hk : ¬ k % 2 = 1 := of_decide_eq_false (bI_0.mp c_81)
        refine r_iload_n (pc := 96) 3 dX6_hasPlain_96 rfl ?_
        refine r_zret (pc := 97) rfl (by decide) ?_ (Nat.le_of_ble_eq_true rfl) (Nat.le_of_ble_eq_true rfl) dX6_hasPlain_97
        have e1 : ntS k s3 = s3 := by rw [ntS_is, if_neg hk]
        rw [e1] at sem
        exact ⟨fr, Or.inl ⟨rfl, i3, lv3, c3, s3, hr3, by omega, a2, a3, by omega, hseg, hT, sem⟩⟩
      · have hk : k % 2 = 1 := of_decide_eq_true (bI_n0.mp c_81)
        refine r_aload_n (pc := 84) 0 dX6_hasPlain_84 rfl ?_
        refine r_getR (pc := 85) fl_X6_14 (ca_26 hc3) (cf_26_0 hc3) dX6_hasPlain_85 ?_
        refine r_sipush (pc := 88) (258) dX6_hasPlain_88 rfl ?_
        refine r_iconst (pc := 91) (0) dX6_hasPlain_91 rfl ?_
        refine r_dV (pc := 92) (As := [_, _]) mv_X10_add ml_X6_148 (c6_add hr3 (by omega) _ _) (tx_is (cs_tx27 hc3)) rfl rfl (Nat.le_of_ble_eq_true rfl) (fr_le (by omega)) (lo_le (by decide) (by omega)) (Nat.le_of_ble_eq_true rfl) (Nat.le_of_ble_eq_true rfl) dX6_hasPlain_92 ?_
        refine r_pop (pc := 95) dX6_hasPlain_95 rfl ?_
        refine r_iload_n (pc := 96) 3 dX6_hasPlain_96 rfl ?_
        refine r_zret (pc := 97) rfl (by decide) ?_ (Nat.le_of_ble_eq_true rfl) (Nat.le_of_ble_eq_true rfl) dX6_hasPlain_97
        have e1 : ntS k s3 = sNot s3 := by rw [ntS_is, if_pos hk]
        rw [e1] at sem
        refine ⟨fr.tr (adH_fr.mono (fun a j z => rdS_mono (c := c) (by omega) z)), Or.inl ⟨rfl, i3, lv3, c3 + 1, sNot s3, hr3.add (by omega), by omega, a2, by omega, by omega, ?_, hT.not, sem⟩⟩
        exact CSeg_not (CSeg_cong (fun j _ k2 => adH_lo k2) hseg) adH_O hT
  have bad : ∀ (q : Int32) (hh : Hp) (j : Nat), Fr (rdS x c) h hh → hI hh (x + 26) 6 = nI j → j ≤ N → falL (mcO b n od test wl wo) d i lv j → Wp E mX6_hasPlain (Rm (D + 1) 0 0) (Qm E (pRe E h x b n N od i lv c (semL (mcO b n od test wl wo) d i lv) (falL (mcO b n od test wl wo) d i lv)) 0 0) 75 [(0, .ref (x + 26)), (1, .int (nI d)), (2, .int q)] [.int 0] hh 0 0 := by
    intro q hh j fr hj hjN hf
    refine r_istore_n (pc := 75) (lv' := [(0, _), (1, _), (2, _), (3, _)]) dX6_hasPlain_75 (Nat.le_of_ble_eq_true rfl) rfl ?_
    refine r_iload_n (pc := 76) 3 dX6_hasPlain_76 rfl ?_
    refine r_if_eq (pc := 77) (tgt := 96) dX6_hasPlain_77 (by decide) (fun c_77 => ?_) (fun c_77 => ?_)
    · refine r_iload_n (pc := 96) 3 dX6_hasPlain_96 rfl ?_
      refine r_zret (pc := 97) rfl (by decide) ?_ (Nat.le_of_ble_eq_true rfl) (Nat.le_of_ble_eq_true rfl) dX6_hasPlain_97
      exact ⟨fr, Or.inr ⟨rfl, j, hj, hjN, hf⟩⟩
    · exact absurd rfl c_77
  have loop : ∀ (fu k : Nat) (hh : Hp), N - (i + k) < fu → Fr (rdS x c) h hh → RdH E hh x b n N od (i + k) lv c → (hI hh (x + 31) = hI h (x + 31) ∧ hI hh (x + 32) = hI h (x + 32)) → (∀ pl, Gs0 (mcO b n od test wl wo) (0, i, lv, d, pl, sZ) (0, i + k, lv, d, nts k pl, sZ)) → Wp E mX6_hasPlain (Rm (D + 1) 0 0) (Qm E (pRe E h x b n N od i lv c (semL (mcO b n od test wl wo) d i lv) (falL (mcO b n od test wl wo) d i lv)) 0 0) 2 [(0, .ref (x + 26)), (1, .int (nI d)), (2, .int (bI (decide (k % 2 = 1))))] [] hh 0 0 := by
    intro fu
    induction fu with
    | zero => intro k hh hfu; omega
    | succ fu IH =>
      intro k hh hfu fr hr1 ek hgo
      obtain ⟨⟨hc1, ht1⟩, ⟨hi1, hN1⟩, -, -, -, hci1⟩ := id hr1
      have h400 := ht1.2.1
      have hkr := ht1.kr hN1
      have hnot : tW (tk b n (i + k)) 14836 = decide (hI hh (x + 34) (i + k) = 258) := hkr.wdb (j := 2) (by decide)
      have hop : tS (tk b n (i + k)) 40 = decide (hI hh (x + 34) (i + k) = 40) := hkr.sgb (a := 40) (by decide)
      have out : ¬ hI hh (x + 34) (i + k) = 258 → Wp E mX6_hasPlain (Rm (D + 1) 0 0) (Qm E (pRe E h x b n N od i lv c (semL (mcO b n od test wl wo) d i lv) (falL (mcO b n od test wl wo) d i lv)) 0 0) 51 [(0, .ref (x + 26)), (1, .int (nI d)), (2, .int (bI (decide (k % 2 = 1))))] [] hh 0 0 := by
        intro hno
        have hnf : tW (tk b n (i + k)) 14836 = false := by rw [hnot]; exact decide_eq_false hno
        refine r_aload_n (pc := 51) 0 dX6_hasPlain_51 rfl ?_
        refine r_dV (pc := 52) (As := []) mv_X6_kindNow ml_X6_79 (c6_kindNow hc1 ht1 hi1 hN1) (ca_26 hc1) rfl rfl (Nat.le_of_ble_eq_true rfl) (fr_le (by omega)) (lo_le (by decide) (by omega)) (Nat.le_of_ble_eq_true rfl) (Nat.le_of_ble_eq_true rfl) dX6_hasPlain_52 ?_
        refine r_bipush (pc := 55) (40) dX6_hasPlain_55 rfl ?_
        refine r_icmp_ne (pc := 57) (tgt := 70) dX6_hasPlain_57 (by decide) (fun c_57 => ?_) (fun c_57 => ?_)
        · have hof : tS (tk b n (i + k)) 40 = false := by rw [hop]; exact decide_eq_false c_57
          refine r_aload_n (pc := 70) 0 dX6_hasPlain_70 rfl ?_
          refine r_iload_n (pc := 71) 1 dX6_hasPlain_71 rfl ?_
          refine r_callV (pc := 72) (As := [_]) mv_X6_hasComparison ml_X6_155 (HC hh (i + k) lv c hr1) (ca_26 hc1) rfl rfl (Nat.le_of_ble_eq_true rfl) (fr_le (by omega)) (lo_le (by decide) (by omega)) (Nat.le_of_ble_eq_true rfl) (Nat.le_of_ble_eq_true rfl) dX6_hasPlain_72 (fun r h3 hp => ?_)
          obtain ⟨f3, ⟨rfl, i3, lv3, c3, s3, hr3, b1, b2, b3, b4, hseg3, hT3, hgo3⟩ | ⟨rfl, j, hj, hjN, hf⟩⟩ := hp
          · show Wp E mX6_hasPlain _ _ _ _ [.int _] _ 0 0
            refine good k h3 i3 lv3 c3 s3 (fr.tr f3) hr3 b1 b2 b3 b4 hseg3 hT3 (fun pl h1 h2 => ?_)
            obtain ⟨P, s2, g1, g2⟩ := hgo3 (nts k pl) (nts_Tb h1 k) (by show InB test (nts k pl); unfold InB; rw [nts_inn]; exact h2)
            exact ⟨P, s2, (hgo pl).tr (Gos.of1 hnf hof g1), g2.mono (by decide)⟩
          · show Wp E mX6_hasPlain _ _ _ _ [.int _] _ 0 0
            exact bad _ h3 j (fr.tr f3) hj hjN (fun pl h1 h2 => (hgo pl).fl (Fls.of1 hnf hof (hf (nts k pl) (nts_Tb h1 k) (by show InB test (nts k pl); unfold InB; rw [nts_inn]; exact h2))))
        · have hot : tS (tk b n (i + k)) (nI 40) = true := (hkr.sg (by decide)).mp c_57
          refine r_aload_n (pc := 60) 0 dX6_hasPlain_60 rfl ?_
          refine r_iload_n (pc := 61) 1 dX6_hasPlain_61 rfl ?_
          refine r_bipush (pc := 62) (41) dX6_hasPlain_62 rfl ?_
          refine r_callV (pc := 64) (As := [_, _]) mv_X6_hasBracketed ml_X6_151 (HB hh (i + k) lv c hr1 hot) (ca_26 hc1) rfl rfl (Nat.le_of_ble_eq_true rfl) (fr_le (by omega)) (lo_le (by decide) (by omega)) (Nat.le_of_ble_eq_true rfl) (Nat.le_of_ble_eq_true rfl) dX6_hasPlain_64 (fun r h3 hp => ?_)
          obtain ⟨f3, ⟨rfl, i3, lv3, c3, s3, hr3, b1, b2, b3, b4, hseg3, hT3, hgo3⟩ | ⟨rfl, j, hj, hjN, hf⟩⟩ := hp
          · show Wp E mX6_hasPlain _ _ _ _ [.int _] _ 0 0
            refine r_goto (pc := 67) (tgt := 75) dX6_hasPlain_67 (by decide) ?_
            exact good k h3 i3 lv3 c3 s3 (fr.tr f3) hr3 b1 b2 b3 b4 hseg3 hT3 (fun pl h1 h2 => ⟨nts k pl, s3, (hgo pl).tr (hgo3 _), Ey.rf⟩)
          · show Wp E mX6_hasPlain _ _ _ _ [.int _] _ 0 0
            refine r_goto (pc := 67) (tgt := 75) dX6_hasPlain_67 (by decide) ?_
            exact bad _ h3 j (fr.tr f3) hj hjN (fun pl h1 h2 => (hgo pl).fl (hf _))
      refine r_aload_n (pc := 2) 0 dX6_hasPlain_2 rfl ?_
      refine r_getI (pc := 3) fl_X6_69 (ca_26 hc1) dX6_hasPlain_3 ?_
      refine r_aload_n (pc := 6) 0 dX6_hasPlain_6 rfl ?_
      refine r_getI (pc := 7) fl_X6_86 (ca_26 hc1) dX6_hasPlain_7 ?_
      rw [hi1, ht1.1]
      refine r_icmp_ge (pc := 10) (tgt := 51) dX6_hasPlain_10 (by decide) (fun c_10 => ?_) (fun c_10 => ?_)
      · exact absurd c_10 (nI_ge (by omega) (by omega))
      · refine r_aload_n (pc := 13) 0 dX6_hasPlain_13 rfl ?_
        refine r_getR (pc := 14) fl_X6_24 (ca_26 hc1) (cf_26_2 hc1) dX6_hasPlain_14 ?_
        refine r_aload_n (pc := 17) 0 dX6_hasPlain_17 rfl ?_
        refine r_getI (pc := 18) fl_X6_69 (ca_26 hc1) dX6_hasPlain_18 ?_
        rw [hi1]
        refine r_iald (pc := 21) (j := i + k) (cr_34 hc1) rfl (by omega) (by decide) dX6_hasPlain_21 ?_
        refine r_sipush (pc := 22) (258) dX6_hasPlain_22 rfl ?_
        refine r_icmp_ne (pc := 25) (tgt := 51) dX6_hasPlain_25 (by decide) (fun c_25 => ?_) (fun c_25 => ?_)
        · exact out c_25
        · have hiN : i + k < N := by
            rcases Nat.lt_or_ge (i + k) N with z | z
            · exact z
            · have q1 := hkr.en.mpr ((ht1.end hN1).mpr (by omega))
              rw [q1] at c_25
              exact absurd c_25 (by decide)
          have nx : ∀ q : Int32, q = bI (decide ((k + 1) % 2 = 1)) → Wp E mX6_hasPlain (Rm (D + 1) 0 0) (Qm E (pRe E h x b n N od i lv c (semL (mcO b n od test wl wo) d i lv) (falL (mcO b n od test wl wo) d i lv)) 0 0) 37 [(0, .ref (x + 26)), (1, .int (nI d)), (2, .int (bI (decide (k % 2 = 1))))] [.int q] hh 0 0 := by
            rintro q rfl
            refine r_istore_n (pc := 37) (lv' := [(0, _), (1, _), (2, _)]) dX6_hasPlain_37 (Nat.le_of_ble_eq_true rfl) rfl ?_
            refine r_aload_n (pc := 38) 0 dX6_hasPlain_38 rfl ?_
            refine r_dup (pc := 39) dX6_hasPlain_39 rfl ?_
            refine r_getI (pc := 40) fl_X6_69 (ca_26 hc1) dX6_hasPlain_40 ?_
            rw [hi1]
            refine r_iconst (pc := 43) (1) dX6_hasPlain_43 rfl ?_
            refine r_iadd (pc := 44) dX6_hasPlain_44 ?_
            rw [nI_1]
            refine r_putI (pc := 45) fp_X6_69 (ca_26 hc1) dX6_hasPlain_45 ?_
            refine r_goto (pc := 48) (tgt := 2) dX6_hasPlain_48 (by decide) ?_
            refine IH (k + 1) _ (by omega) (fr.tr (Fr.wI (by unfold rdS; omega))) (hr1.now (i' := i + (k + 1)) (by omega) (by omega)) ⟨?_, ?_⟩ (fun pl => ?_)
            · rw [← ek.1]; funext j; exact hI_ne (by omega)
            · rw [← ek.2]; funext j; exact hI_ne (by omega)
            · refine Or.inr ((hgo pl).tr (Gos.one (by show ¬ (0 : Int32) = 4; decide) ?_))
              show rplA wl wo od (tk b n) (i + k) lv d (nts k pl) = _
              unfold rplA
              rw [hnot, decide_eq_true c_25, if_pos rfl]
              rfl
          refine r_iload_n (pc := 28) 2 dX6_hasPlain_28 rfl ?_
          refine r_if_ne (pc := 29) (tgt := 36) dX6_hasPlain_29 (by decide) (fun c_29 => ?_) (fun c_29 => ?_)
          · have hk : k % 2 = 1 := of_decide_eq_true (bI_n0.mp c_29)
            refine r_iconst (pc := 36) (0) dX6_hasPlain_36 rfl ?_
            exact nx _ (by rw [decide_eq_false (by omega)]; rfl)
          · have hk : ¬ k % 2 = 1 := of_decide_eq_false (bI_0.mp c_29)
            refine r_iconst (pc := 32) (1) dX6_hasPlain_32 rfl ?_
            refine r_goto (pc := 33) (tgt := 37) dX6_hasPlain_33 (by decide) ?_
            exact nx _ (by rw [decide_eq_true (by omega)]; rfl)
  refine r_iconst (pc := 0) (0) dX6_hasPlain_0 rfl ?_
  refine r_istore_n (pc := 1) (lv' := [(0, _), (1, _), (2, _)]) dX6_hasPlain_1 (Nat.le_of_ble_eq_true rfl) rfl ?_
  exact loop (N - i + 1) 0 h (by omega) Fr.rf hr0 ⟨rfl, rfl⟩ (fun pl => Or.inl rfl)
end PLAIN2
