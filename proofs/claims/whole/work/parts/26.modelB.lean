/-! the reference: rich, complete, passing -/
section MODELB
variable {E : En} {h : Hp} {m : Nat} {μ : Mu} {l : La}
def richN (r : Nat → Int32) (fo : Option (List Cl)) : Nat → Int32
  | 0 => 0
  | k + 1 => richN r fo k + (if aliveF r k = true then earnF r fo k (r (8 + k)) (spentF r k) else 0)
def richF (r : Nat → Int32) (fo : Option (List Cl)) (nc nl : Nat) (law : Int32) : Int32 := if isLawB nl law = true then richN (va_up r 4 law) fo nc else -1
theorem ct_mrich (hm : Md E h m) {fo : Option (List Cl)} {nc ns nl : Nat} (law : Int32) (hnl : μ 2 3 = nI nl) (hl6 : nl ≤ 6) (hx : isLawB nl law = true → Mx (up2 μ 2 4 law) fo nc ns) : Ct E 6 0 0 mX12_rich [.ref m, .int law] (mH h m μ l) (pS h m (up2 μ 0 0 0) l (.int (richF (μ 2) fo nc nl law))) := by
  refine Ct.of (by decide +kernel) (Nat.le_of_ble_eq_true rfl) ?_
  refine r_aload_n (pc := 0) 0 dX12_rich_0 rfl ?_
  refine r_iconst (pc := 1) (0) dX12_rich_1 rfl ?_
  refine q_putI (pc := 2) fp_X12_161 hm dX12_rich_2 ?_
  refine r_aload_n (pc := 5) 0 dX12_rich_5 rfl ?_
  refine r_iload_n (pc := 6) 1 dX12_rich_6 rfl ?_
  refine r_dV (pc := 7) (As := [_]) mv_X12_isLaw ml_X12_410 (ct_isLaw hm law (by rw [th_2]; exact hnl) (by omega)) (q_is hm) rfl rfl (Nat.le_of_ble_eq_true rfl) (Nat.le_of_ble_eq_true rfl) (Nat.le_of_ble_eq_true rfl) (Nat.le_of_ble_eq_true rfl) (Nat.le_of_ble_eq_true rfl) dX12_rich_7 ?_
  refine r_if_ne (pc := 10) (tgt := 15) dX12_rich_10 (by decide) (fun c_10 => ?_) (fun c_10 => ?_)
  · rw [richF, if_pos (bI_n0.mp c_10)]
    have hx0 := hx (bI_n0.mp c_10)
    have h6 := hx0.2.2.2.1
    refine r_aload_n (pc := 15) 0 dX12_rich_15 rfl ?_
    refine q_getR (pc := 16) fl_X12_13 hm (md_f3 hm) dX12_rich_16 ?_
    refine r_iconst (pc := 19) (4) dX12_rich_19 rfl ?_
    refine q_iald (pc := 20) (j := 4) (md_r3 hm) (by decide) rfl (by decide) (by decide) dX12_rich_20 ?_
    refine r_istore_n (pc := 21) (lv' := [(0, _), (1, _), (2, _)]) dX12_rich_21 (Nat.le_of_ble_eq_true rfl) rfl ?_
    refine r_aload_n (pc := 22) 0 dX12_rich_22 rfl ?_
    refine q_getR (pc := 23) fl_X12_13 hm (md_f3 hm) dX12_rich_23 ?_
    refine r_iconst (pc := 26) (4) dX12_rich_26 rfl ?_
    refine r_iload_n (pc := 27) 1 dX12_rich_27 rfl ?_
    refine q_iast (pc := 28) (j := 4) (md_r3 hm) (by decide) rfl (by decide) (by decide) dX12_rich_28 ?_
    refine r_iconst (pc := 29) (0) dX12_rich_29 rfl ?_
    refine r_istore_n (pc := 30) (lv' := [(0, _), (1, _), (2, _), (3, _)]) dX12_rich_30 (Nat.le_of_ble_eq_true rfl) rfl ?_
    refine r_iconst (pc := 31) (0) dX12_rich_31 rfl ?_
    refine r_istore (pc := 32) (lv' := [(0, _), (1, _), (2, _), (3, _), (4, _)]) dX12_rich_32 (Nat.le_of_ble_eq_true rfl) rfl ?_
    have eR : (up2 (up2 μ 0 0 0) 2 4 law) 2 = va_up (μ 2) 4 law := by rw [up2_same, th_2]
    have eR0 : (up2 μ 2 4 law) 2 = va_up (μ 2) 4 law := up2_same
    have hx1 : Mx (up2 (up2 μ 0 0 0) 2 4 law) fo nc ns := by
      obtain ⟨a1, a2, a3, a4, a5, a6⟩ := hx0
      rw [eR0] at a2 a3 a5
      refine ⟨?_, by rw [eR]; exact a2, by rw [eR]; exact a3, a4, by rw [eR]; exact a5, a6⟩
      rw [up2_ne (by omega)] at a1
      rw [up2_ne (by omega), up2_ne (by omega)]; exact a1
    have hr0 : va_up (μ 2) 4 law 0 = nI nc := by have := hx1.2.2.1; rw [eR] at this; exact this
    have e4 : up2 μ 0 0 0 2 4 = μ 2 4 := up2_ne (by omega)
    rw [e4]
    have loop : ∀ k, k ≤ nc → ∀ ν κ, S2 (up2 (up2 μ 0 0 0) 2 4 law) l ν κ → Wp E mX12_rich (Rm 6 0 0) (Qm E (pS h m (up2 μ 0 0 0) l (.int (richN (va_up (μ 2) 4 law) fo nc))) 0 0) 34 [(0, .ref m), (1, .int law), (2, .int (μ 2 4)), (3, .int (richN (va_up (μ 2) 4 law) fo k)), (4, .int (nI k))] [] (mH h m ν κ) 0 0 := by
      refine upTo (fun k hk ih => ?_) ?_
      · intro ν κ hS
        have e2 : ν 2 = va_up (μ 2) 4 law := (hS.1 2 (by decide)).trans eR
        refine r_iload (pc := 34) 4 dX12_rich_34 rfl ?_
        refine r_aload_n (pc := 36) 0 dX12_rich_36 rfl ?_
        refine q_getR (pc := 37) fl_X12_13 hm (md_f3 hm) dX12_rich_37 ?_
        refine r_iconst (pc := 40) (0) dX12_rich_40 rfl ?_
        refine q_iald (pc := 41) (j := 0) (md_r3 hm) (by decide) rfl (by decide) (by decide) dX12_rich_41 ?_
        refine r_icmp_ge (pc := 42) (tgt := 89) dX12_rich_42 (by decide) (fun c_42 => ?_) (fun c_42 => ?_)
        · rw [e2, hr0] at c_42
          exact absurd c_42 (nI_ge hk (by omega))
        · refine r_iload_n (pc := 45) 3 dX12_rich_45 rfl ?_
          refine r_aload_n (pc := 46) 0 dX12_rich_46 rfl ?_
          refine r_iload (pc := 47) 4 dX12_rich_47 rfl ?_
          refine r_dV (pc := 49) (As := [_]) mv_X12_isAlive ml_X12_193 (ct_isAlive hm k (by omega)) (q_is hm) rfl rfl (Nat.le_of_ble_eq_true rfl) (Nat.le_of_ble_eq_true rfl) (Nat.le_of_ble_eq_true rfl) (Nat.le_of_ble_eq_true rfl) (Nat.le_of_ble_eq_true rfl) dX12_rich_49 ?_
          refine r_if_eq (pc := 52) (tgt := 80) dX12_rich_52 (by decide) (fun c_52 => ?_) (fun c_52 => ?_)
          · rw [e2] at c_52
            refine r_iconst (pc := 80) (0) dX12_rich_80 rfl ?_
            refine r_iadd (pc := 81) dX12_rich_81 ?_
            refine r_istore_n (pc := 82) (lv' := [(0, _), (1, _), (2, _), (3, _), (4, _)]) dX12_rich_82 (Nat.le_of_ble_eq_true rfl) rfl ?_
            refine r_iinc (pc := 83) (v := _ + (1)) (lv' := [(0, _), (1, _), (2, _), (3, _), (4, _)]) 4 dX12_rich_83 rfl rfl (Nat.le_of_ble_eq_true rfl) rfl ?_
            refine r_goto (pc := 86) (tgt := 34) dX12_rich_86 (by decide) ?_
            rw [nI_1]
            have e9 : richN (va_up (μ 2) 4 law) fo (k + 1) = richN (va_up (μ 2) 4 law) fo k + 0 := by rw [richN, if_neg (by rw [bI_0.mp c_52]; decide)]
            rw [e9] at ih
            exact ih ν κ hS
          · rw [e2] at c_52
            refine r_aload_n (pc := 55) 0 dX12_rich_55 rfl ?_
            refine r_iload (pc := 56) 4 dX12_rich_56 rfl ?_
            refine r_aload_n (pc := 58) 0 dX12_rich_58 rfl ?_
            refine q_getR (pc := 59) fl_X12_13 hm (md_f3 hm) dX12_rich_59 ?_
            refine r_bipush (pc := 62) (8) dX12_rich_62 rfl ?_
            refine r_iload (pc := 64) 4 dX12_rich_64 rfl ?_
            refine r_iadd (pc := 66) dX12_rich_66 ?_
            refine q_iald (pc := 67) (j := 8 + k) (md_r3 hm) (by decide) (by simp only [fa_lit, nI_add, nI_mul]) (by omega) (by decide) dX12_rich_67 ?_
            refine r_aload_n (pc := 68) 0 dX12_rich_68 rfl ?_
            refine r_iload (pc := 69) 4 dX12_rich_69 rfl ?_
            refine r_dV (pc := 71) (As := [_]) mv_X12_spentOf ml_X12_213 (ct_spentOf hm k (by omega)) (q_is hm) rfl rfl (Nat.le_of_ble_eq_true rfl) (Nat.le_of_ble_eq_true rfl) (Nat.le_of_ble_eq_true rfl) (Nat.le_of_ble_eq_true rfl) (Nat.le_of_ble_eq_true rfl) dX12_rich_71 ?_
            refine r_callV (pc := 74) (As := [_, _, _]) mv_X12_earnsOf ml_X12_216 (ct_earnsOf hm (hx1.s2 hS) (by omega) _ _) (q_is hm) rfl rfl (Nat.le_of_ble_eq_true rfl) (Nat.le_of_ble_eq_true rfl) (Nat.le_of_ble_eq_true rfl) (Nat.le_of_ble_eq_true rfl) (Nat.le_of_ble_eq_true rfl) dX12_rich_74 (fun r h1 hp => ?_)
            obtain ⟨ν2, κ2, rfl, hS2, rfl⟩ := hp
            rw [e2]
            show Wp E mX12_rich _ _ _ _ [.int _, .int _] _ 0 0
            refine r_goto (pc := 77) (tgt := 81) dX12_rich_77 (by decide) ?_
            refine r_iadd (pc := 81) dX12_rich_81 ?_
            refine r_istore_n (pc := 82) (lv' := [(0, _), (1, _), (2, _), (3, _), (4, _)]) dX12_rich_82 (Nat.le_of_ble_eq_true rfl) rfl ?_
            refine r_iinc (pc := 83) (v := _ + (1)) (lv' := [(0, _), (1, _), (2, _), (3, _), (4, _)]) 4 dX12_rich_83 rfl rfl (Nat.le_of_ble_eq_true rfl) rfl ?_
            refine r_goto (pc := 86) (tgt := 34) dX12_rich_86 (by decide) ?_
            rw [nI_1]
            have e9 : richN (va_up (μ 2) 4 law) fo (k + 1) = richN (va_up (μ 2) 4 law) fo k + earnF (va_up (μ 2) 4 law) fo k (va_up (μ 2) 4 law (8 + k)) (spentF (va_up (μ 2) 4 law) k) := by rw [richN, if_pos (bI_n0.mp c_52)]
            rw [e9] at ih
            exact ih ν2 κ2 (hS.tr hS2)
      · intro ν κ hS
        have e2 : ν 2 = va_up (μ 2) 4 law := (hS.1 2 (by decide)).trans eR
        refine r_iload (pc := 34) 4 dX12_rich_34 rfl ?_
        refine r_aload_n (pc := 36) 0 dX12_rich_36 rfl ?_
        refine q_getR (pc := 37) fl_X12_13 hm (md_f3 hm) dX12_rich_37 ?_
        refine r_iconst (pc := 40) (0) dX12_rich_40 rfl ?_
        refine q_iald (pc := 41) (j := 0) (md_r3 hm) (by decide) rfl (by decide) (by decide) dX12_rich_41 ?_
        refine r_icmp_ge (pc := 42) (tgt := 89) dX12_rich_42 (by decide) (fun c_42 => ?_) (fun c_42 => ?_)
        · refine r_aload_n (pc := 89) 0 dX12_rich_89 rfl ?_
          refine q_getR (pc := 90) fl_X12_13 hm (md_f3 hm) dX12_rich_90 ?_
          refine r_iconst (pc := 93) (4) dX12_rich_93 rfl ?_
          refine r_iload_n (pc := 94) 2 dX12_rich_94 rfl ?_
          refine q_iast (pc := 95) (j := 4) (md_r3 hm) (by decide) rfl (by decide) (by decide) dX12_rich_95 ?_
          refine r_iload_n (pc := 96) 3 dX12_rich_96 rfl ?_
          refine r_iret (pc := 97) rfl ?_ (Nat.le_of_ble_eq_true rfl) (Nat.le_of_ble_eq_true rfl) dX12_rich_97
          refine ⟨_, κ, rfl, ?_, rfl⟩
          refine ⟨fun o ho => ?_, fun j hj hk => ?_, hS.2.2.1, hS.2.2.2⟩
          · by_cases ho2 : o = 2
            · subst ho2
              rw [up2_same, e2, th_2]
              funext j
              by_cases hj : j = 4
              · rw [hj, va_up_self]
              · rw [va_up_ne _ _ hj, va_up_ne _ _ hj]
            · rw [up2_other ho2, hS.1 o ho, up2_other ho2]
          · rw [up2_ne (by omega), hS.2.1 j hj hk, up2_ne (by omega)]
        · exact absurd (by rw [e2, hr0]; exact Int32.le_refl _) c_42
    exact loop 0 (by omega) _ _ S2.rf
  · rw [richF, if_neg (by rw [bI_0.mp c_10]; decide)]
    refine r_iconst (pc := 13) (-1) dX12_rich_13 rfl ?_
    refine r_iret (pc := 14) rfl ?_ (Nat.le_of_ble_eq_true rfl) (Nat.le_of_ble_eq_true rfl) dX12_rich_14
    exact ⟨_, _, rfl, S2.rf, rfl⟩
/-- do two pass for one another, so far as year j -/
def pfN (r : Nat → Int32) (fo : Option (List Cl)) (a b : Nat) : Nat → Bool
  | 0 => decide (aliveF r a = true ∧ aliveF r b = true ∧ ¬ r (8 + a) = r (8 + b))
  | j + 1 => pfN r fo a b j && decide (showF r fo a (r (8 + a)) (spentF r a) (nI j) = showF r fo b (r (8 + b)) (spentF r b) (nI j))
theorem pfN_no {r : Nat → Int32} {fo : Option (List Cl)} {a b j : Nat} (hf : pfN r fo a b j = false) : ∀ i, pfN r fo a b (j + i) = false
  | 0 => hf
  | i + 1 => by show (pfN r fo a b (j + i) && _) = false; rw [pfN_no hf i]; rfl
theorem ct_passFor (hm : Md E h m) {fo : Option (List Cl)} {nc ns : Nat} (hx : Mx μ fo nc ns) {a b : Nat} (ha : a < 6) (hb : b < 6) : Ct E 6 0 0 mX12_passFor [.ref m, .int (nI a), .int (nI b)] (mH h m μ l) (pS h m μ l (.int (bI (pfN (μ 2) fo a b 10)))) := by
  refine Ct.of (by decide +kernel) (Nat.le_of_ble_eq_true rfl) ?_
  have fin : ∀ (j : Nat) ν κ, S2 μ l ν κ → pfN (μ 2) fo a b j = pfN (μ 2) fo a b 10 → Wp E mX12_passFor (Rm 6 0 0) (Qm E (pS h m μ l (.int (bI (pfN (μ 2) fo a b 10)))) 0 0) 114 [(0, .ref m), (1, .int (nI a)), (2, .int (nI b)), (3, .int (bI (pfN (μ 2) fo a b j))), (4, .int (nI j))] [] (mH h m ν κ) 0 0 := by
    intro j ν κ hS e
    refine r_iload_n (pc := 114) 3 dX12_passFor_114 rfl ?_
    refine r_zret (pc := 115) rfl (bI_01 _) ?_ (Nat.le_of_ble_eq_true rfl) (Nat.le_of_ble_eq_true rfl) dX12_passFor_115
    exact ⟨ν, κ, rfl, hS, by rw [e]⟩
  have loop : ∀ j, j ≤ 10 → ∀ ν κ, S2 μ l ν κ → Wp E mX12_passFor (Rm 6 0 0) (Qm E (pS h m μ l (.int (bI (pfN (μ 2) fo a b 10)))) 0 0) 46 [(0, .ref m), (1, .int (nI a)), (2, .int (nI b)), (3, .int (bI (pfN (μ 2) fo a b j))), (4, .int (nI j))] [] (mH h m ν κ) 0 0 := by
    refine upTo (fun j hj ih => ?_) ?_
    · intro ν κ hS
      have e2 : ν 2 = μ 2 := hS.1 2 (by decide)
      refine r_iload (pc := 46) 4 dX12_passFor_46 rfl ?_
      refine r_bipush (pc := 48) (10) dX12_passFor_48 rfl ?_
      refine r_icmp_ge (pc := 50) (tgt := 114) dX12_passFor_50 (by decide) (fun c_50 => ?_) (fun c_50 => ?_)
      · exact absurd c_50 (nI_ge (b := 10) hj (by decide))
      · refine r_iload_n (pc := 53) 3 dX12_passFor_53 rfl ?_
        refine r_if_eq (pc := 54) (tgt := 114) dX12_passFor_54 (by decide) (fun c_54 => ?_) (fun c_54 => ?_)
        · have hf := bI_0.mp c_54
          refine fin j ν κ hS ?_
          have := pfN_no hf (10 - j)
          rw [show j + (10 - j) = 10 by omega] at this
          rw [hf, this]
        · have ht := bI_n0.mp c_54
          refine r_aload_n (pc := 57) 0 dX12_passFor_57 rfl ?_
          refine r_iload_n (pc := 58) 1 dX12_passFor_58 rfl ?_
          refine r_aload_n (pc := 59) 0 dX12_passFor_59 rfl ?_
          refine q_getR (pc := 60) fl_X12_13 hm (md_f3 hm) dX12_passFor_60 ?_
          refine r_bipush (pc := 63) (8) dX12_passFor_63 rfl ?_
          refine r_iload_n (pc := 65) 1 dX12_passFor_65 rfl ?_
          refine r_iadd (pc := 66) dX12_passFor_66 ?_
          refine q_iald (pc := 67) (j := 8 + a) (md_r3 hm) (by decide) (by simp only [fa_lit, nI_add, nI_mul]) (by omega) (by decide) dX12_passFor_67 ?_
          refine r_aload_n (pc := 68) 0 dX12_passFor_68 rfl ?_
          refine r_iload_n (pc := 69) 1 dX12_passFor_69 rfl ?_
          refine r_dV (pc := 70) (As := [_]) mv_X12_spentOf ml_X12_213 (ct_spentOf hm a ha) (q_is hm) rfl rfl (Nat.le_of_ble_eq_true rfl) (Nat.le_of_ble_eq_true rfl) (Nat.le_of_ble_eq_true rfl) (Nat.le_of_ble_eq_true rfl) (Nat.le_of_ble_eq_true rfl) dX12_passFor_70 ?_
          refine r_iload (pc := 73) 4 dX12_passFor_73 rfl ?_
          refine r_callV (pc := 75) (As := [_, _, _, _]) mv_X12_showsOf ml_X12_222 (ct_showsOf hm (hx.s2 hS) ha _ _ _) (q_is hm) rfl rfl (Nat.le_of_ble_eq_true rfl) (Nat.le_of_ble_eq_true rfl) (Nat.le_of_ble_eq_true rfl) (Nat.le_of_ble_eq_true rfl) (Nat.le_of_ble_eq_true rfl) dX12_passFor_75 (fun r h1 hp => ?_)
          obtain ⟨ν2, κ2, rfl, hS2, rfl⟩ := hp
          have e3 : ν2 2 = μ 2 := (hS2.1 2 (by decide)).trans e2
          show Wp E mX12_passFor _ _ _ _ [.int _] _ 0 0
          refine r_aload_n (pc := 78) 0 dX12_passFor_78 rfl ?_
          refine r_iload_n (pc := 79) 2 dX12_passFor_79 rfl ?_
          refine r_aload_n (pc := 80) 0 dX12_passFor_80 rfl ?_
          refine q_getR (pc := 81) fl_X12_13 hm (md_f3 hm) dX12_passFor_81 ?_
          refine r_bipush (pc := 84) (8) dX12_passFor_84 rfl ?_
          refine r_iload_n (pc := 86) 2 dX12_passFor_86 rfl ?_
          refine r_iadd (pc := 87) dX12_passFor_87 ?_
          refine q_iald (pc := 88) (j := 8 + b) (md_r3 hm) (by decide) (by simp only [fa_lit, nI_add, nI_mul]) (by omega) (by decide) dX12_passFor_88 ?_
          refine r_aload_n (pc := 89) 0 dX12_passFor_89 rfl ?_
          refine r_iload_n (pc := 90) 2 dX12_passFor_90 rfl ?_
          refine r_dV (pc := 91) (As := [_]) mv_X12_spentOf ml_X12_213 (ct_spentOf hm b hb) (q_is hm) rfl rfl (Nat.le_of_ble_eq_true rfl) (Nat.le_of_ble_eq_true rfl) (Nat.le_of_ble_eq_true rfl) (Nat.le_of_ble_eq_true rfl) (Nat.le_of_ble_eq_true rfl) dX12_passFor_91 ?_
          refine r_iload (pc := 94) 4 dX12_passFor_94 rfl ?_
          refine r_callV (pc := 96) (As := [_, _, _, _]) mv_X12_showsOf ml_X12_222 (ct_showsOf hm (hx.s2 (hS.tr hS2)) hb _ _ _) (q_is hm) rfl rfl (Nat.le_of_ble_eq_true rfl) (Nat.le_of_ble_eq_true rfl) (Nat.le_of_ble_eq_true rfl) (Nat.le_of_ble_eq_true rfl) (Nat.le_of_ble_eq_true rfl) dX12_passFor_96 (fun r h1 hp => ?_)
          obtain ⟨ν3, κ3, rfl, hS3, rfl⟩ := hp
          show Wp E mX12_passFor _ _ _ _ [.int _, .int _] _ 0 0
          refine r_icmp_ne (pc := 99) (tgt := 106) dX12_passFor_99 (by decide) (fun c_99 => ?_) (fun c_99 => ?_)
          · rw [e2, e3] at c_99
            refine r_iconst (pc := 106) (0) dX12_passFor_106 rfl ?_
            refine r_istore_n (pc := 107) (lv' := [(0, _), (1, _), (2, _), (3, _), (4, _)]) dX12_passFor_107 (Nat.le_of_ble_eq_true rfl) rfl ?_
            refine r_iinc (pc := 108) (v := _ + (1)) (lv' := [(0, _), (1, _), (2, _), (3, _), (4, _)]) 4 dX12_passFor_108 rfl rfl (Nat.le_of_ble_eq_true rfl) rfl ?_
            refine r_goto (pc := 111) (tgt := 46) dX12_passFor_111 (by decide) ?_
            rw [nI_1]
            have e9 : pfN (μ 2) fo a b (j + 1) = false := by rw [pfN, decide_eq_false c_99, Bool.and_false]
            rw [e9] at ih
            exact ih ν3 κ3 ((hS.tr hS2).tr hS3)
          · rw [e2, e3] at c_99
            refine r_iconst (pc := 102) (1) dX12_passFor_102 rfl ?_
            refine r_goto (pc := 103) (tgt := 107) dX12_passFor_103 (by decide) ?_
            refine r_istore_n (pc := 107) (lv' := [(0, _), (1, _), (2, _), (3, _), (4, _)]) dX12_passFor_107 (Nat.le_of_ble_eq_true rfl) rfl ?_
            refine r_iinc (pc := 108) (v := _ + (1)) (lv' := [(0, _), (1, _), (2, _), (3, _), (4, _)]) 4 dX12_passFor_108 rfl rfl (Nat.le_of_ble_eq_true rfl) rfl ?_
            refine r_goto (pc := 111) (tgt := 46) dX12_passFor_111 (by decide) ?_
            rw [nI_1]
            have e9 : pfN (μ 2) fo a b (j + 1) = true := by rw [pfN, decide_eq_true c_99, ht]; rfl
            rw [e9] at ih
            exact ih ν3 κ3 ((hS.tr hS2).tr hS3)
    · intro ν κ hS
      refine r_iload (pc := 46) 4 dX12_passFor_46 rfl ?_
      refine r_bipush (pc := 48) (10) dX12_passFor_48 rfl ?_
      refine r_icmp_ge (pc := 50) (tgt := 114) dX12_passFor_50 (by decide) (fun c_50 => ?_) (fun c_50 => ?_)
      · exact fin 10 ν κ hS rfl
      · exact absurd (show (10 : Int32) ≤ nI 10 by decide) c_50
  have go : ∀ p : Bool, p = pfN (μ 2) fo a b 0 → Wp E mX12_passFor (Rm 6 0 0) (Qm E (pS h m μ l (.int (bI (pfN (μ 2) fo a b 10)))) 0 0) 42 [(0, .ref m), (1, .int (nI a)), (2, .int (nI b))] [.int (bI p)] (mH h m μ l) 0 0 := by
    rintro p rfl
    refine r_istore_n (pc := 42) (lv' := [(0, _), (1, _), (2, _), (3, _)]) dX12_passFor_42 (Nat.le_of_ble_eq_true rfl) rfl ?_
    refine r_iconst (pc := 43) (0) dX12_passFor_43 rfl ?_
    refine r_istore (pc := 44) (lv' := [(0, _), (1, _), (2, _), (3, _), (4, _)]) dX12_passFor_44 (Nat.le_of_ble_eq_true rfl) rfl ?_
    exact loop 0 (by omega) μ l S2.rf
  refine r_aload_n (pc := 0) 0 dX12_passFor_0 rfl ?_
  refine r_iload_n (pc := 1) 1 dX12_passFor_1 rfl ?_
  refine r_dV (pc := 2) (As := [_]) mv_X12_isAlive ml_X12_193 (ct_isAlive hm a ha) (q_is hm) rfl rfl (Nat.le_of_ble_eq_true rfl) (Nat.le_of_ble_eq_true rfl) (Nat.le_of_ble_eq_true rfl) (Nat.le_of_ble_eq_true rfl) (Nat.le_of_ble_eq_true rfl) dX12_passFor_2 ?_
  refine r_if_eq (pc := 5) (tgt := 41) dX12_passFor_5 (by decide) (fun c_5 => ?_) (fun c_5 => ?_)
  · refine r_iconst (pc := 41) (0) dX12_passFor_41 rfl ?_
    exact go false (decide_eq_false (fun z => by rw [bI_0.mp c_5] at z; exact absurd z.1 (by decide))).symm
  · refine r_aload_n (pc := 8) 0 dX12_passFor_8 rfl ?_
    refine r_iload_n (pc := 9) 2 dX12_passFor_9 rfl ?_
    refine r_dV (pc := 10) (As := [_]) mv_X12_isAlive ml_X12_193 (ct_isAlive hm b hb) (q_is hm) rfl rfl (Nat.le_of_ble_eq_true rfl) (Nat.le_of_ble_eq_true rfl) (Nat.le_of_ble_eq_true rfl) (Nat.le_of_ble_eq_true rfl) (Nat.le_of_ble_eq_true rfl) dX12_passFor_10 ?_
    refine r_if_eq (pc := 13) (tgt := 41) dX12_passFor_13 (by decide) (fun c_13 => ?_) (fun c_13 => ?_)
    · refine r_iconst (pc := 41) (0) dX12_passFor_41 rfl ?_
      exact go false (decide_eq_false (fun z => by rw [bI_0.mp c_13] at z; exact absurd z.2.1 (by decide))).symm
    · refine r_aload_n (pc := 16) 0 dX12_passFor_16 rfl ?_
      refine q_getR (pc := 17) fl_X12_13 hm (md_f3 hm) dX12_passFor_17 ?_
      refine r_bipush (pc := 20) (8) dX12_passFor_20 rfl ?_
      refine r_iload_n (pc := 22) 1 dX12_passFor_22 rfl ?_
      refine r_iadd (pc := 23) dX12_passFor_23 ?_
      refine q_iald (pc := 24) (j := 8 + a) (md_r3 hm) (by decide) (by simp only [fa_lit, nI_add, nI_mul]) (by omega) (by decide) dX12_passFor_24 ?_
      refine r_aload_n (pc := 25) 0 dX12_passFor_25 rfl ?_
      refine q_getR (pc := 26) fl_X12_13 hm (md_f3 hm) dX12_passFor_26 ?_
      refine r_bipush (pc := 29) (8) dX12_passFor_29 rfl ?_
      refine r_iload_n (pc := 31) 2 dX12_passFor_31 rfl ?_
      refine r_iadd (pc := 32) dX12_passFor_32 ?_
      refine q_iald (pc := 33) (j := 8 + b) (md_r3 hm) (by decide) (by simp only [fa_lit, nI_add, nI_mul]) (by omega) (by decide) dX12_passFor_33 ?_
      refine r_icmp_eq (pc := 34) (tgt := 41) dX12_passFor_34 (by decide) (fun c_34 => ?_) (fun c_34 => ?_)
      · refine r_iconst (pc := 41) (0) dX12_passFor_41 rfl ?_
        exact go false (decide_eq_false (fun z => z.2.2 c_34)).symm
      · refine r_iconst (pc := 37) (1) dX12_passFor_37 rfl ?_
        refine r_goto (pc := 38) (tgt := 42) dX12_passFor_38 (by decide) ?_
        exact go true (decide_eq_true ⟨bI_n0.mp c_5, bI_n0.mp c_13, c_34⟩).symm
/-- the twos from (a, b) on: how many so far, the i-th -/
def psB (r : Nat → Int32) (fo : Option (List Cl)) (i : Int32) (a : Nat) (s : Int32 × Int32) : Nat → Int32 × Int32
  | 0 => s
  | d + 1 => if pfN r fo a (a + 1 + d) 10 = true then ((psB r fo i a s d).1 + 1, if (psB r fo i a s d).1 = i then 10 * nI a + nI (a + 1 + d) else (psB r fo i a s d).2) else psB r fo i a s d
def psA (r : Nat → Int32) (fo : Option (List Cl)) (i : Int32) (nc : Nat) : Nat → Int32 × Int32
  | 0 => (0, -1)
  | a + 1 => psB r fo i a (psA r fo i nc a) (nc - (a + 1))
def passingF (r : Nat → Int32) (fo : Option (List Cl)) (nc : Nat) (i : Int32) : Int32 := if i = -1 then (psA r fo i nc nc).1 else (psA r fo i nc nc).2
theorem ct_mpassing (hm : Md E h m) {fo : Option (List Cl)} {nc ns : Nat} (hx : Mx μ fo nc ns) (i : Int32) : Ct E 7 0 0 mX12_passing [.ref m, .int i] (mH h m μ l) (pS h m (up2 μ 0 0 0) l (.int (passingF (μ 2) fo nc i))) := by
  have h6 := hx.2.2.2.1
  refine Ct.of (by decide +kernel) (Nat.le_of_ble_eq_true rfl) ?_
  refine r_aload_n (pc := 0) 0 dX12_passing_0 rfl ?_
  refine r_iconst (pc := 1) (0) dX12_passing_1 rfl ?_
  refine q_putI (pc := 2) fp_X12_161 hm dX12_passing_2 ?_
  refine r_iconst (pc := 5) (0) dX12_passing_5 rfl ?_
  refine r_istore_n (pc := 6) (lv' := [(0, _), (1, _), (2, _)]) dX12_passing_6 (Nat.le_of_ble_eq_true rfl) rfl ?_
  refine r_iconst (pc := 7) (-1) dX12_passing_7 rfl ?_
  refine r_istore_n (pc := 8) (lv' := [(0, _), (1, _), (2, _), (3, _)]) dX12_passing_8 (Nat.le_of_ble_eq_true rfl) rfl ?_
  refine r_iconst (pc := 9) (0) dX12_passing_9 rfl ?_
  refine r_istore (pc := 10) (lv' := [(0, _), (1, _), (2, _), (3, _), (4, _)]) dX12_passing_10 (Nat.le_of_ble_eq_true rfl) rfl ?_
  have outer : ∀ a, a ≤ nc → ∀ ν κ, S2 (up2 μ 0 0 0) l ν κ → Wp E mX12_passing (Rm 7 0 0) (Qm E (pS h m (up2 μ 0 0 0) l (.int (passingF (μ 2) fo nc i))) 0 0) 12 [(0, .ref m), (1, .int i), (2, .int (psA (μ 2) fo i nc a).1), (3, .int (psA (μ 2) fo i nc a).2), (4, .int (nI a))] [] (mH h m ν κ) 0 0 := by
    refine upTo (fun a ha ih => ?_) ?_
    · intro ν κ hS
      have e2 : ν 2 = μ 2 := (hS.1 2 (by decide)).trans (th_2 μ)
      refine r_iload (pc := 12) 4 dX12_passing_12 rfl ?_
      refine r_aload_n (pc := 14) 0 dX12_passing_14 rfl ?_
      refine q_getR (pc := 15) fl_X12_13 hm (md_f3 hm) dX12_passing_15 ?_
      refine r_iconst (pc := 18) (0) dX12_passing_18 rfl ?_
      refine q_iald (pc := 19) (j := 0) (md_r3 hm) (by decide) rfl (by decide) (by decide) dX12_passing_19 ?_
      refine r_icmp_ge (pc := 20) (tgt := 84) dX12_passing_20 (by decide) (fun c_20 => ?_) (fun c_20 => ?_)
      · rw [e2, hx.2.2.1] at c_20
        exact absurd c_20 (nI_ge ha (by omega))
      · refine r_iload (pc := 23) 4 dX12_passing_23 rfl ?_
        refine r_iconst (pc := 25) (1) dX12_passing_25 rfl ?_
        refine r_iadd (pc := 26) dX12_passing_26 ?_
        refine r_istore (pc := 27) (lv' := [(0, _), (1, _), (2, _), (3, _), (4, _), (5, _)]) dX12_passing_27 (Nat.le_of_ble_eq_true rfl) rfl ?_
        rw [nI_1]
        have e9 : psA (μ 2) fo i nc (a + 1) = psB (μ 2) fo i a (psA (μ 2) fo i nc a) (nc - (a + 1)) := rfl
        rw [e9] at ih
        generalize psA (μ 2) fo i nc a = s at ih ⊢
        have inner : ∀ d, d ≤ nc - (a + 1) → ∀ ν κ, S2 (up2 μ 0 0 0) l ν κ → Wp E mX12_passing (Rm 7 0 0) (Qm E (pS h m (up2 μ 0 0 0) l (.int (passingF (μ 2) fo nc i))) 0 0) 29 [(0, .ref m), (1, .int i), (2, .int (psB (μ 2) fo i a s d).1), (3, .int (psB (μ 2) fo i a s d).2), (4, .int (nI a)), (5, .int (nI (a + 1 + d)))] [] (mH h m ν κ) 0 0 := by
          refine upTo (fun d hd ih2 => ?_) ?_
          · intro ν κ hS
            have e2 : ν 2 = μ 2 := (hS.1 2 (by decide)).trans (th_2 μ)
            refine r_iload (pc := 29) 5 dX12_passing_29 rfl ?_
            refine r_aload_n (pc := 31) 0 dX12_passing_31 rfl ?_
            refine q_getR (pc := 32) fl_X12_13 hm (md_f3 hm) dX12_passing_32 ?_
            refine r_iconst (pc := 35) (0) dX12_passing_35 rfl ?_
            refine q_iald (pc := 36) (j := 0) (md_r3 hm) (by decide) rfl (by decide) (by decide) dX12_passing_36 ?_
            refine r_icmp_ge (pc := 37) (tgt := 78) dX12_passing_37 (by decide) (fun c_37 => ?_) (fun c_37 => ?_)
            · rw [e2, hx.2.2.1] at c_37
              exact absurd c_37 (nI_ge (by omega) (by omega))
            · refine r_aload_n (pc := 40) 0 dX12_passing_40 rfl ?_
              refine r_iload (pc := 41) 4 dX12_passing_41 rfl ?_
              refine r_iload (pc := 43) 5 dX12_passing_43 rfl ?_
              refine r_callV (pc := 45) (As := [_, _]) mv_X12_passFor ml_X12_492 (ct_passFor hm ((mx_th hx).s2 hS) (by omega) (by omega)) (q_is hm) rfl rfl (Nat.le_of_ble_eq_true rfl) (Nat.le_of_ble_eq_true rfl) (Nat.le_of_ble_eq_true rfl) (Nat.le_of_ble_eq_true rfl) (Nat.le_of_ble_eq_true rfl) dX12_passing_45 (fun r h1 hp => ?_)
              obtain ⟨ν2, κ2, rfl, hS2, rfl⟩ := hp
              rw [e2]
              show Wp E mX12_passing _ _ _ _ [.int _] _ 0 0
              refine r_if_eq (pc := 48) (tgt := 72) dX12_passing_48 (by decide) (fun c_48 => ?_) (fun c_48 => ?_)
              · have e8 : psB (μ 2) fo i a s (d + 1) = psB (μ 2) fo i a s d := by rw [psB, if_neg (by rw [bI_0.mp c_48]; decide)]
                rw [e8] at ih2
                refine r_iinc (pc := 72) (v := _ + (1)) (lv' := [(0, _), (1, _), (2, _), (3, _), (4, _), (5, _)]) 5 dX12_passing_72 rfl rfl (Nat.le_of_ble_eq_true rfl) rfl ?_
                refine r_goto (pc := 75) (tgt := 29) dX12_passing_75 (by decide) ?_
                rw [nI_1]
                exact ih2 ν2 κ2 (hS.tr hS2)
              · have e8 : psB (μ 2) fo i a s (d + 1) = ((psB (μ 2) fo i a s d).1 + 1, if (psB (μ 2) fo i a s d).1 = i then 10 * nI a + nI (a + 1 + d) else (psB (μ 2) fo i a s d).2) := by rw [psB, if_pos (bI_n0.mp c_48)]
                rw [e8] at ih2
                refine r_iload_n (pc := 51) 2 dX12_passing_51 rfl ?_
                refine r_iload_n (pc := 52) 1 dX12_passing_52 rfl ?_
                refine r_icmp_ne (pc := 53) (tgt := 67) dX12_passing_53 (by decide) (fun c_53 => ?_) (fun c_53 => ?_)
                · rw [if_neg c_53] at ih2
                  refine r_iload_n (pc := 67) 3 dX12_passing_67 rfl ?_
                  refine r_istore_n (pc := 68) (lv' := [(0, _), (1, _), (2, _), (3, _), (4, _), (5, _)]) dX12_passing_68 (Nat.le_of_ble_eq_true rfl) rfl ?_
                  refine r_iinc (pc := 69) (v := _ + (1)) (lv' := [(0, _), (1, _), (2, _), (3, _), (4, _), (5, _)]) 2 dX12_passing_69 rfl rfl (Nat.le_of_ble_eq_true rfl) rfl ?_
                  refine r_iinc (pc := 72) (v := _ + (1)) (lv' := [(0, _), (1, _), (2, _), (3, _), (4, _), (5, _)]) 5 dX12_passing_72 rfl rfl (Nat.le_of_ble_eq_true rfl) rfl ?_
                  refine r_goto (pc := 75) (tgt := 29) dX12_passing_75 (by decide) ?_
                  rw [nI_1]
                  exact ih2 ν2 κ2 (hS.tr hS2)
                · rw [if_pos c_53] at ih2
                  refine r_bipush (pc := 56) (10) dX12_passing_56 rfl ?_
                  refine r_iload (pc := 58) 4 dX12_passing_58 rfl ?_
                  refine r_imul (pc := 60) dX12_passing_60 ?_
                  refine r_iload (pc := 61) 5 dX12_passing_61 rfl ?_
                  refine r_iadd (pc := 63) dX12_passing_63 ?_
                  refine r_goto (pc := 64) (tgt := 68) dX12_passing_64 (by decide) ?_
                  refine r_istore_n (pc := 68) (lv' := [(0, _), (1, _), (2, _), (3, _), (4, _), (5, _)]) dX12_passing_68 (Nat.le_of_ble_eq_true rfl) rfl ?_
                  refine r_iinc (pc := 69) (v := _ + (1)) (lv' := [(0, _), (1, _), (2, _), (3, _), (4, _), (5, _)]) 2 dX12_passing_69 rfl rfl (Nat.le_of_ble_eq_true rfl) rfl ?_
                  refine r_iinc (pc := 72) (v := _ + (1)) (lv' := [(0, _), (1, _), (2, _), (3, _), (4, _), (5, _)]) 5 dX12_passing_72 rfl rfl (Nat.le_of_ble_eq_true rfl) rfl ?_
                  refine r_goto (pc := 75) (tgt := 29) dX12_passing_75 (by decide) ?_
                  rw [nI_1]
                  exact ih2 ν2 κ2 (hS.tr hS2)
          · intro ν κ hS
            have e2 : ν 2 = μ 2 := (hS.1 2 (by decide)).trans (th_2 μ)
            refine r_iload (pc := 29) 5 dX12_passing_29 rfl ?_
            refine r_aload_n (pc := 31) 0 dX12_passing_31 rfl ?_
            refine q_getR (pc := 32) fl_X12_13 hm (md_f3 hm) dX12_passing_32 ?_
            refine r_iconst (pc := 35) (0) dX12_passing_35 rfl ?_
            refine q_iald (pc := 36) (j := 0) (md_r3 hm) (by decide) rfl (by decide) (by decide) dX12_passing_36 ?_
            refine r_icmp_ge (pc := 37) (tgt := 78) dX12_passing_37 (by decide) (fun c_37 => ?_) (fun c_37 => ?_)
            · refine r_iinc (pc := 78) (v := _ + (1)) (lv' := [(0, _), (1, _), (2, _), (3, _), (4, _), (5, _)]) 4 dX12_passing_78 rfl rfl (Nat.le_of_ble_eq_true rfl) rfl ?_
              refine r_goto (pc := 81) (tgt := 12) dX12_passing_81 (by decide) ?_
              rw [nI_1]
              refine r_sub [0, 1, 2, 3, 4] rfl ?_
              exact ih ν κ hS
            · exact absurd (by rw [e2, hx.2.2.1, show a + 1 + (nc - (a + 1)) = nc by omega]; exact Int32.le_refl _) c_37
        exact inner 0 (by omega) ν κ hS
    · intro ν κ hS
      have e2 : ν 2 = μ 2 := (hS.1 2 (by decide)).trans (th_2 μ)
      refine r_iload (pc := 12) 4 dX12_passing_12 rfl ?_
      refine r_aload_n (pc := 14) 0 dX12_passing_14 rfl ?_
      refine q_getR (pc := 15) fl_X12_13 hm (md_f3 hm) dX12_passing_15 ?_
      refine r_iconst (pc := 18) (0) dX12_passing_18 rfl ?_
      refine q_iald (pc := 19) (j := 0) (md_r3 hm) (by decide) rfl (by decide) (by decide) dX12_passing_19 ?_
      refine r_icmp_ge (pc := 20) (tgt := 84) dX12_passing_20 (by decide) (fun c_20 => ?_) (fun c_20 => ?_)
      · refine r_iload_n (pc := 84) 1 dX12_passing_84 rfl ?_
        refine r_iconst (pc := 85) (-1) dX12_passing_85 rfl ?_
        refine r_icmp_ne (pc := 86) (tgt := 93) dX12_passing_86 (by decide) (fun c_86 => ?_) (fun c_86 => ?_)
        · refine r_iload_n (pc := 93) 3 dX12_passing_93 rfl ?_
          refine r_iret (pc := 94) rfl ?_ (Nat.le_of_ble_eq_true rfl) (Nat.le_of_ble_eq_true rfl) dX12_passing_94
          exact ⟨ν, κ, rfl, hS, by rw [passingF, if_neg c_86]⟩
        · refine r_iload_n (pc := 89) 2 dX12_passing_89 rfl ?_
          refine r_goto (pc := 90) (tgt := 94) dX12_passing_90 (by decide) ?_
          refine r_iret (pc := 94) rfl ?_ (Nat.le_of_ble_eq_true rfl) (Nat.le_of_ble_eq_true rfl) dX12_passing_94
          exact ⟨ν, κ, rfl, hS, by rw [passingF, if_pos c_86]⟩
      · exact absurd (by rw [e2, hx.2.2.1]; exact Int32.le_refl _) c_20
  exact outer 0 (by omega) _ _ S2.rf
end MODELB
