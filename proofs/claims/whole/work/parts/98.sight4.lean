/-! the class: what fits, one doing more -/
section SIGHT4
variable {E : En} {h : Hp} {x p : Nat} {r : Nat → Int32}
def nwN (g : Nat → Int32) (T : Nat) : Nat → Int32
  | 0 => 0
  | l + 1 => nwN g T l ||| (if T.testBit l = true ∧ ¬ g (T - 2 ^ l) = 0 then 1 <<< (nI l &&& 31) else 0)
theorem nwN_set {g : Nat → Int32} {T : Nat} : ∀ n, n ≤ 9 → SetIs (nwN g T n) n (fun l => T.testBit l && decide (¬ g (T - 2 ^ l) = 0))
  | 0, _ => SetIs.z
  | n + 1, hn => by
    have ih := nwN_set (g := g) (T := T) n (by omega)
    rw [nwN]
    by_cases hs : T.testBit n = true ∧ ¬ g (T - 2 ^ n) = 0
    · rw [if_pos hs]; exact ih.yes (by omega) (by show (T.testBit n && decide (¬ g (T - 2 ^ n) = 0)) = true; rw [hs.1, decide_eq_true hs.2]; rfl)
    · rw [if_neg hs, Int32.or_zero]
      refine ih.no ?_
      show (T.testBit n && decide (¬ g (T - 2 ^ n) = 0)) = false
      cases hb : T.testBit n with
      | false => rfl
      | true => rw [decide_eq_false (fun z => hs ⟨hb, z⟩)]; rfl
theorem nwN_lo {g g' : Nat → Int32} {T : Nat} (hg : ∀ S, S < T → g S = g' S) : ∀ n, n ≤ 9 → nwN g T n = nwN g' T n
  | 0, _ => rfl
  | n + 1, hn => by
    rw [nwN, nwN, nwN_lo hg n (by omega)]
    by_cases hb : T.testBit n = true
    · have h2 := bit_le hb
      have hp : 1 ≤ 2 ^ n := Nat.one_le_two_pow
      rw [hg (T - 2 ^ n) (by omega)]
    · rw [if_neg (fun z => hb z.1), if_neg (fun z => hb z.1)]
theorem c8_newlyTaken (hc : CS E h x) {T : Nat} (hT : T < 512) : Ct E 1 0 0 mX8_newlyTaken [.ref (x + 96), .int (nI T)] h (po (some (.int (nwN (hI h (x + 100)) T 9))) h) := by
  refine Ct.of (by decide +kernel) (Nat.le_of_ble_eq_true rfl) ?_
  generalize hg : hI h (x + 100) = g
  refine r_iconst (pc := 0) (0) dX8_newlyTaken_0 rfl ?_
  refine r_istore_n (pc := 1) (lv' := [(0, _), (1, _), (2, _)]) dX8_newlyTaken_1 (Nat.le_of_ble_eq_true rfl) rfl ?_
  refine r_iconst (pc := 2) (0) dX8_newlyTaken_2 rfl ?_
  refine r_istore_n (pc := 3) (lv' := [(0, _), (1, _), (2, _), (3, _)]) dX8_newlyTaken_3 (Nat.le_of_ble_eq_true rfl) rfl ?_
  have loop : ∀ l, l ≤ 9 → Wp E mX8_newlyTaken (Rm 1 0 0) (Qm E (po (some (.int (nwN g T 9))) h) 0 0) 4 [(0, .ref (x + 96)), (1, .int (nI T)), (2, .int (nwN g T l)), (3, .int (nI l))] [] h 0 0 := by
    refine upTo (fun l hl ih => ?_) ?_
    · have no : ¬ (T.testBit l = true ∧ ¬ g (T - 2 ^ l) = 0) → Wp E mX8_newlyTaken (Rm 1 0 0) (Qm E (po (some (.int (nwN g T 9))) h) 0 0) 39 [(0, .ref (x + 96)), (1, .int (nI T)), (2, .int (nwN g T l)), (3, .int (nI l))] [] h 0 0 := by
        intro hno
        have e9 : nwN g T (l + 1) = nwN g T l := by rw [nwN, if_neg hno, Int32.or_zero]
        rw [e9] at ih
        refine r_iinc (pc := 39) (v := _ + (1)) (lv' := [(0, _), (1, _), (2, _), (3, _)]) 3 dX8_newlyTaken_39 rfl rfl (Nat.le_of_ble_eq_true rfl) rfl ?_
        refine r_goto (pc := 42) (tgt := 4) dX8_newlyTaken_42 (by decide) ?_
        rw [nI_1]; exact ih
      refine r_iload_n (pc := 4) 3 dX8_newlyTaken_4 rfl ?_
      refine r_bipush (pc := 5) (9) dX8_newlyTaken_5 rfl ?_
      refine r_icmp_ge (pc := 7) (tgt := 45) dX8_newlyTaken_7 (by decide) (fun c_7 => ?_) (fun c_7 => ?_)
      · exact absurd c_7 (nI_ge (b := 9) hl (by decide))
      · refine r_iload_n (pc := 10) 1 dX8_newlyTaken_10 rfl ?_
        refine r_iload_n (pc := 11) 3 dX8_newlyTaken_11 rfl ?_
        refine r_dN (pc := 12) (As := [_, _]) ms_X11_hasBit mk_X8_55 (ct_hasBit _ _) rfl rfl (Nat.le_of_ble_eq_true rfl) (Nat.le_of_ble_eq_true rfl) (Nat.le_of_ble_eq_true rfl) (Nat.le_of_ble_eq_true rfl) (Nat.le_of_ble_eq_true rfl) dX8_newlyTaken_12 ?_
        refine r_if_eq (pc := 15) (tgt := 39) dX8_newlyTaken_15 (by decide) (fun c_15 => ?_) (fun c_15 => ?_)
        · rw [isB9 T hT l hl] at c_15
          exact no (fun z => by rw [bI_0.mp c_15] at z; exact absurd z.1 (by decide))
        · rw [isB9 T hT l hl] at c_15
          have hb := bI_n0.mp c_15
          have hle : T - 2 ^ l ≤ T := Nat.sub_le _ _
          refine r_aload_n (pc := 18) 0 dX8_newlyTaken_18 rfl ?_
          refine r_getR (pc := 19) fl_X8_25 (ca_96 hc) (cf_96_4 hc) dX8_newlyTaken_19 ?_
          refine r_iload_n (pc := 22) 1 dX8_newlyTaken_22 rfl ?_
          refine r_iconst (pc := 23) (1) dX8_newlyTaken_23 rfl ?_
          refine r_iload_n (pc := 24) 3 dX8_newlyTaken_24 rfl ?_
          refine r_ishl (pc := 25) dX8_newlyTaken_25 ?_
          refine r_iconst (pc := 26) (-1) dX8_newlyTaken_26 rfl ?_
          refine r_ixor (pc := 27) dX8_newlyTaken_27 ?_
          refine r_iand (pc := 28) dX8_newlyTaken_28 ?_
          refine r_iald (pc := 29) (j := T - 2 ^ l) (cr_100 hc) (by rw [and9 T hT l hl, if_pos hb]) (by omega) (by decide) dX8_newlyTaken_29 ?_
          refine r_if_eq (pc := 30) (tgt := 39) dX8_newlyTaken_30 (by decide) (fun c_30 => ?_) (fun c_30 => ?_)
          · rw [hg] at c_30
            exact no (fun z => z.2 c_30)
          · rw [hg] at c_30
            have e9 : nwN g T (l + 1) = nwN g T l ||| 1 <<< (nI l &&& 31) := by rw [nwN, if_pos ⟨hb, c_30⟩]
            rw [e9] at ih
            refine r_iload_n (pc := 33) 2 dX8_newlyTaken_33 rfl ?_
            refine r_iconst (pc := 34) (1) dX8_newlyTaken_34 rfl ?_
            refine r_iload_n (pc := 35) 3 dX8_newlyTaken_35 rfl ?_
            refine r_ishl (pc := 36) dX8_newlyTaken_36 ?_
            refine r_ior (pc := 37) dX8_newlyTaken_37 ?_
            refine r_istore_n (pc := 38) (lv' := [(0, _), (1, _), (2, _), (3, _)]) dX8_newlyTaken_38 (Nat.le_of_ble_eq_true rfl) rfl ?_
            refine r_iinc (pc := 39) (v := _ + (1)) (lv' := [(0, _), (1, _), (2, _), (3, _)]) 3 dX8_newlyTaken_39 rfl rfl (Nat.le_of_ble_eq_true rfl) rfl ?_
            refine r_goto (pc := 42) (tgt := 4) dX8_newlyTaken_42 (by decide) ?_
            rw [nI_1]; exact ih
    · refine r_iload_n (pc := 4) 3 dX8_newlyTaken_4 rfl ?_
      refine r_bipush (pc := 5) (9) dX8_newlyTaken_5 rfl ?_
      refine r_icmp_ge (pc := 7) (tgt := 45) dX8_newlyTaken_7 (by decide) (fun c_7 => ?_) (fun c_7 => ?_)
      · refine r_iload_n (pc := 45) 2 dX8_newlyTaken_45 rfl ?_
        refine r_iret (pc := 46) rfl ?_ (Nat.le_of_ble_eq_true rfl) (Nat.le_of_ble_eq_true rfl) dX8_newlyTaken_46
        exact ⟨rfl, rfl⟩
      · exact absurd (show (9 : Int32) ≤ nI 9 by decide) c_7
  exact loop 0 (by omega)
/-- one doing more, for sets from k on -/
def dgF (F g : Nat → Int32) (y0 j k : Nat) : Nat → Int32 := fun T => if k ≤ T ∧ T ≤ y0 ∧ 0 < T ∧ dfN T y0 = 0 then (F (8 * pcN T 9 + j) &&& nI T) &&& (g T ||| nwN g T 9) else g T
theorem c8_addDoing (hc : CS E h x) {y0 j : Nat} (hy : y0 < 511) (hj : j < 8) : Ct E 2 0 0 mX8_addDoing [.ref (x + 96), .int (nI j), .int (nI y0)] h (po none (wRow h (x + 100) (va_up (dgF (hI h (x + 99)) (hI h (x + 100)) y0 j 0) 0 (hI h (x + 100) 0 &&& hI h (x + 99) j)))) := by
  refine Ct.of (by decide +kernel) (Nat.le_of_ble_eq_true rfl) ?_
  generalize hF : hI h (x + 99) = F
  generalize hg : hI h (x + 100) = g
  have loop : ∀ k, k ≤ y0 → Wp E mX8_addDoing (Rm 2 0 0) (Qm E (po none (wRow h (x + 100) (va_up (dgF F g y0 j 0) 0 (g 0 &&& F j)))) 0 0) 2 [(0, .ref (x + 96)), (1, .int (nI j)), (2, .int (nI y0)), (3, .int (nI k))] [] (wRow h (x + 100) (dgF F g y0 j (k + 1))) 0 0 := by
    intro k
    induction k with
    | zero =>
      intro _
      have hc1 : CS E (wRow h (x + 100) (dgF F g y0 j (0 + 1))) x := hc
      have e0 : dgF F g y0 j (0 + 1) 0 = g 0 := by unfold dgF; rw [if_neg (by omega)]
      have eF : hI (wRow h (x + 100) (dgF F g y0 j (0 + 1))) (x + 99) j = F j := by rw [wRow_ne (by omega), hF]
      have e1 : dgF F g y0 j (0 + 1) = dgF F g y0 j 0 := by
        funext T; unfold dgF
        by_cases h1 : 0 + 1 ≤ T ∧ T ≤ y0 ∧ 0 < T ∧ dfN T y0 = 0
        · rw [if_pos h1, if_pos ⟨by omega, h1.2⟩]
        · rw [if_neg h1, if_neg (fun z => h1 ⟨by omega, z.2⟩)]
      refine r_iload_n (pc := 2) 3 dX8_addDoing_2 rfl ?_
      refine r_if_le (pc := 3) (tgt := 59) dX8_addDoing_3 (by decide) (fun c_3 => ?_) (fun c_3 => ?_)
      · refine r_aload_n (pc := 59) 0 dX8_addDoing_59 rfl ?_
        refine r_getR (pc := 60) fl_X8_25 (ca_96 hc1) (cf_96_4 hc1) dX8_addDoing_60 ?_
        refine r_iconst (pc := 63) (0) dX8_addDoing_63 rfl ?_
        refine r_dup2_11 (pc := 64) dX8_addDoing_64 rfl rfl ?_
        refine r_iald (pc := 65) (j := 0) (cr_100 hc1) rfl (by decide) (by decide) dX8_addDoing_65 ?_
        rw [wRow_at, e0]
        refine r_aload_n (pc := 66) 0 dX8_addDoing_66 rfl ?_
        refine r_getR (pc := 67) fl_X8_22 (ca_96 hc1) (cf_96_3 hc1) dX8_addDoing_67 ?_
        refine r_iload_n (pc := 70) 1 dX8_addDoing_70 rfl ?_
        refine r_iald (pc := 71) (j := j) (cr_99 hc1) rfl (by omega) (by decide) dX8_addDoing_71 ?_
        rw [eF]
        refine r_iand (pc := 72) dX8_addDoing_72 ?_
        refine r_iast (pc := 73) (j := 0) (cr_100 hc1) rfl (by decide) (by decide) dX8_addDoing_73 ?_
        refine r_vret (pc := 74) rfl ?_ (Nat.le_of_ble_eq_true rfl) (Nat.le_of_ble_eq_true rfl) dX8_addDoing_74
        refine ⟨rfl, ?_⟩
        rw [wRow_w, e1]
      · exact absurd (by decide) c_3
    | succ k IH =>
      intro hk
      have ih := IH (by omega)
      have hc1 : CS E (wRow h (x + 100) (dgF F g y0 j (k + 1 + 1))) x := hc
      have no : ¬ dfN (k + 1) y0 = 0 → Wp E mX8_addDoing (Rm 2 0 0) (Qm E (po none (wRow h (x + 100) (va_up (dgF F g y0 j 0) 0 (g 0 &&& F j)))) 0 0) 53 [(0, .ref (x + 96)), (1, .int (nI j)), (2, .int (nI y0)), (3, .int (nI (k + 1)))] [] (wRow h (x + 100) (dgF F g y0 j (k + 1 + 1))) 0 0 := by
        intro hno
        have e9 : dgF F g y0 j (k + 1 + 1) = dgF F g y0 j (k + 1) := by
          funext T; unfold dgF
          by_cases h0 : T = k + 1
          · rw [if_neg (by omega), if_neg (fun z => hno (by rw [← h0]; exact z.2.2.2))]
          · by_cases h1 : k + 1 + 1 ≤ T ∧ T ≤ y0 ∧ 0 < T ∧ dfN T y0 = 0
            · rw [if_pos h1, if_pos ⟨by omega, h1.2⟩]
            · rw [if_neg h1, if_neg (fun z => h1 ⟨by omega, z.2⟩)]
        rw [e9]
        refine r_iinc (pc := 53) (v := _ + (-1)) (lv' := [(0, _), (1, _), (2, _), (3, _)]) 3 dX8_addDoing_53 rfl rfl (Nat.le_of_ble_eq_true rfl) rfl ?_
        refine r_goto (pc := 56) (tgt := 2) dX8_addDoing_56 (by decide) ?_
        rw [isub_m1, show nI (k + 1) - 1 = nI k from nI_sub (a := k + 1) (b := 1) (by omega)]
        exact ih
      refine r_iload_n (pc := 2) 3 dX8_addDoing_2 rfl ?_
      refine r_if_le (pc := 3) (tgt := 59) dX8_addDoing_3 (by decide) (fun c_3 => ?_) (fun c_3 => ?_)
      · exact absurd c_3 (nI_nle (by omega) (by omega))
      · refine r_iload_n (pc := 6) 3 dX8_addDoing_6 rfl ?_
        refine r_iload_n (pc := 7) 2 dX8_addDoing_7 rfl ?_
        refine r_iconst (pc := 8) (-1) dX8_addDoing_8 rfl ?_
        refine r_ixor (pc := 9) dX8_addDoing_9 ?_
        refine r_iand (pc := 10) dX8_addDoing_10 ?_
        refine r_if_ne (pc := 11) (tgt := 53) dX8_addDoing_11 (by decide) (fun c_11 => ?_) (fun c_11 => ?_)
        · rw [andn (by omega) (by omega)] at c_11
          exact no (fun z => c_11 (by rw [z]; rfl))
        · rw [andn (by omega) (by omega)] at c_11
          have hd0 : dfN (k + 1) y0 = 0 := (nI_z (by have := dfN_lt (a := k + 1) (b := y0) (by omega); omega)).mp c_11
          have hp9 : pcN (k + 1) 9 ≤ 8 := pc_le8 _ (by omega)
          have eF : hI (wRow h (x + 100) (dgF F g y0 j (k + 1 + 1))) (x + 99) (pcN (k + 1) 9 * 8 + j) = F (8 * pcN (k + 1) 9 + j) := by rw [wRow_ne (by omega), hF, Nat.mul_comm]
          have e0 : dgF F g y0 j (k + 1 + 1) (k + 1) = g (k + 1) := by unfold dgF; rw [if_neg (by omega)]
          have en : nwN (hI (wRow h (x + 100) (dgF F g y0 j (k + 1 + 1))) (x + 100)) (k + 1) 9 = nwN g (k + 1) 9 := by
            rw [wRow_at]
            refine nwN_lo (fun S hS => ?_) 9 (Nat.le_refl _)
            unfold dgF; rw [if_neg (by omega)]
          have e9 : va_up (dgF F g y0 j (k + 1 + 1)) (k + 1) ((F (8 * pcN (k + 1) 9 + j) &&& nI (k + 1)) &&& (g (k + 1) ||| nwN g (k + 1) 9)) = dgF F g y0 j (k + 1) := by
            funext T
            by_cases h0 : T = k + 1
            · subst h0
              rw [va_up_self]
              unfold dgF
              rw [if_pos ⟨Nat.le_refl _, hk, by omega, hd0⟩]
            · rw [va_up_ne _ _ h0]
              unfold dgF
              by_cases h1 : k + 1 + 1 ≤ T ∧ T ≤ y0 ∧ 0 < T ∧ dfN T y0 = 0
              · rw [if_pos h1, if_pos ⟨by omega, h1.2⟩]
              · rw [if_neg h1, if_neg (fun z => h1 ⟨by omega, z.2⟩)]
          refine r_aload_n (pc := 14) 0 dX8_addDoing_14 rfl ?_
          refine r_getR (pc := 15) fl_X8_22 (ca_96 hc1) (cf_96_3 hc1) dX8_addDoing_15 ?_
          refine r_iload_n (pc := 18) 3 dX8_addDoing_18 rfl ?_
          refine r_dS (pc := 19) (As := [_]) ms_J6_bitCount_0f7a4 ml_X8_103 (ct_bitCount _) rfl rfl (Nat.le_of_ble_eq_true rfl) (Nat.le_of_ble_eq_true rfl) (Nat.le_of_ble_eq_true rfl) (Nat.le_of_ble_eq_true rfl) (Nat.le_of_ble_eq_true rfl) dX8_addDoing_19 ?_
          refine r_bipush (pc := 22) (8) dX8_addDoing_22 rfl ?_
          refine r_imul (pc := 24) dX8_addDoing_24 ?_
          refine r_iload_n (pc := 25) 1 dX8_addDoing_25 rfl ?_
          refine r_iadd (pc := 26) dX8_addDoing_26 ?_
          refine r_iald (pc := 27) (j := pcN (k + 1) 9 * 8 + j) (cr_99 hc1) (by rw [bcF_pc _ (by omega)]; simp only [fa_lit, nI_add, nI_mul]) (by omega) (by decide) dX8_addDoing_27 ?_
          rw [eF]
          refine r_iload_n (pc := 28) 3 dX8_addDoing_28 rfl ?_
          refine r_iand (pc := 29) dX8_addDoing_29 ?_
          refine r_istore (pc := 30) (lv' := [(0, _), (1, _), (2, _), (3, _), (4, _)]) dX8_addDoing_30 (Nat.le_of_ble_eq_true rfl) rfl ?_
          refine r_aload_n (pc := 32) 0 dX8_addDoing_32 rfl ?_
          refine r_getR (pc := 33) fl_X8_25 (ca_96 hc1) (cf_96_4 hc1) dX8_addDoing_33 ?_
          refine r_iload_n (pc := 36) 3 dX8_addDoing_36 rfl ?_
          refine r_iload (pc := 37) 4 dX8_addDoing_37 rfl ?_
          refine r_aload_n (pc := 39) 0 dX8_addDoing_39 rfl ?_
          refine r_getR (pc := 40) fl_X8_25 (ca_96 hc1) (cf_96_4 hc1) dX8_addDoing_40 ?_
          refine r_iload_n (pc := 43) 3 dX8_addDoing_43 rfl ?_
          refine r_iald (pc := 44) (j := k + 1) (cr_100 hc1) rfl (by omega) (by decide) dX8_addDoing_44 ?_
          rw [wRow_at, e0]
          refine r_aload_n (pc := 45) 0 dX8_addDoing_45 rfl ?_
          refine r_iload_n (pc := 46) 3 dX8_addDoing_46 rfl ?_
          refine r_dV (pc := 47) (As := [_]) mv_X8_newlyTaken ml_X8_111 (c8_newlyTaken hc1 (by omega)) (ca_96 hc1) rfl rfl (Nat.le_of_ble_eq_true rfl) (Nat.le_of_ble_eq_true rfl) (Nat.le_of_ble_eq_true rfl) (Nat.le_of_ble_eq_true rfl) (Nat.le_of_ble_eq_true rfl) dX8_addDoing_47 ?_
          rw [en]
          refine r_ior (pc := 50) dX8_addDoing_50 ?_
          refine r_iand (pc := 51) dX8_addDoing_51 ?_
          refine r_iast (pc := 52) (j := k + 1) (cr_100 hc1) rfl (by omega) (by decide) dX8_addDoing_52 ?_
          refine r_iinc (pc := 53) (v := _ + (-1)) (lv' := [(0, _), (1, _), (2, _), (3, _), (4, _)]) 3 dX8_addDoing_53 rfl rfl (Nat.le_of_ble_eq_true rfl) rfl ?_
          refine r_goto (pc := 56) (tgt := 2) dX8_addDoing_56 (by decide) ?_
          refine r_sub [0, 1, 2, 3] rfl ?_
          rw [wRow_w, e9, isub_m1, show nI (k + 1) - 1 = nI k from nI_sub (a := k + 1) (b := 1) (by omega)]
          exact ih
  have h0 := loop y0 (Nat.le_refl _)
  have e0 : dgF F g y0 j (y0 + 1) = hI h (x + 100) := by rw [hg]; funext T; unfold dgF; rw [if_neg (by omega)]
  rw [e0, wRow_self] at h0
  refine r_iload_n (pc := 0) 2 dX8_addDoing_0 rfl ?_
  refine r_istore_n (pc := 1) (lv' := [(0, _), (1, _), (2, _), (3, _)]) dX8_addDoing_1 (Nat.le_of_ble_eq_true rfl) rfl ?_
  exact h0
/-- what fits, by how many were taken and which doing -/
def FitI (h : Hp) (x : Nat) (r : Nat → Int32) (fo : Option (List Cl)) (k y li sg t j : Nat) : Prop := ∀ t' j', t' ≤ pcN y 9 → t' ≤ j' → j' < sg → (t' < t ∨ (t' = t ∧ j' < j)) → SetIs (hI h (x + 99) (8 * t' + j')) 9 (shB r fo k j' (nI (8 - pcN y 9 + t')) (if t' = 0 then 2 ^ li else y))
theorem c8_findFitting (hc : CS E h x) (hpx : pOf x p) (hv : PtV h p r) {n ns nl sg : Nat} (hrw : RwOK r n ns) (h3 : r 3 = nI nl) (hl6 : nl ≤ 6) {lw : Option Nat} {fo : Option (List Cl)} (hlw : LwA h p r nl lw) (hfo : FoL E h x fo lw) {k li y : Nat} (hk : k < 6) (eli : r (8 + k) = nI li) (hli : li < 9) (ey : r (14 + k) = nI y) (hy : y < 511) (hsg : r 2 = nI sg) (h8 : sg ≤ 8) : Ct E 4 0 0 mX8_findFitting [.ref (x + 96), .ref p, .int (nI k)] h (fun v h' => v = none ∧ Fr (siS x) h h' ∧ FitI h' x r fo k y li sg 9 0) := by
  have hp := pt_of hc hpx
  have hp8 := pc_le8 y hy
  have hsp := spent_eq eli hli ey hy
  refine Ct.of (by decide +kernel) (Nat.le_of_ble_eq_true rfl) ?_
  refine r_aload_n (pc := 0) 1 dX8_findFitting_0 rfl ?_
  refine r_iload_n (pc := 1) 2 dX8_findFitting_1 rfl ?_
  refine r_dV (pc := 2) (As := [_]) mv_X5_spentBy ml_X8_28 (c5_spentBy hp hv hk (by omega) ey) (pt_is hp) rfl rfl (Nat.le_of_ble_eq_true rfl) (Nat.le_of_ble_eq_true rfl) (Nat.le_of_ble_eq_true rfl) (Nat.le_of_ble_eq_true rfl) (Nat.le_of_ble_eq_true rfl) dX8_findFitting_2 ?_
  rw [hsp]
  refine r_istore_n (pc := 5) (lv' := [(0, _), (1, _), (2, _), (3, _)]) dX8_findFitting_5 (Nat.le_of_ble_eq_true rfl) rfl ?_
  refine r_aload_n (pc := 6) 1 dX8_findFitting_6 rfl ?_
  refine r_getR (pc := 7) fl_X8_94 (pt_is hp) (pt_f2 hp) dX8_findFitting_7 ?_
  refine r_iload_n (pc := 10) 2 dX8_findFitting_10 rfl ?_
  refine r_iald (pc := 11) (j := k) (pt_r2 hp) rfl (by omega) (by decide) dX8_findFitting_11 ?_
  rw [pv_ye hv hk, ey]
  refine r_dS (pc := 12) (As := [_]) ms_J6_bitCount_0f7a4 ml_X8_103 (ct_bitCount _) rfl rfl (Nat.le_of_ble_eq_true rfl) (Nat.le_of_ble_eq_true rfl) (Nat.le_of_ble_eq_true rfl) (Nat.le_of_ble_eq_true rfl) (Nat.le_of_ble_eq_true rfl) dX8_findFitting_12 ?_
  rw [bcF_pc y (by omega)]
  refine r_istore (pc := 15) (lv' := [(0, _), (1, _), (2, _), (3, _), (4, _)]) dX8_findFitting_15 (Nat.le_of_ble_eq_true rfl) rfl ?_
  refine r_aload_n (pc := 17) 0 dX8_findFitting_17 rfl ?_
  refine r_getR (pc := 18) fl_X8_9 (ca_96 hc) (cf_96_0 hc) dX8_findFitting_18 ?_
  refine r_aload_n (pc := 21) 1 dX8_findFitting_21 rfl ?_
  refine r_iload_n (pc := 22) 2 dX8_findFitting_22 rfl ?_
  refine r_callV (pc := 23) (As := [_, _]) mv_X0_about ml_X8_34 (c0_about hc hpx hv hk (by omega) ey h3 hl6 hlw) (ca_37 hc) rfl rfl (Nat.le_of_ble_eq_true rfl) (Nat.le_of_ble_eq_true rfl) (Nat.le_of_ble_eq_true rfl) (Nat.le_of_ble_eq_true rfl) (Nat.le_of_ble_eq_true rfl) dX8_findFitting_23 (fun r h2 hp => ?_)
  obtain ⟨rfl, f2, ha2⟩ := hp
  show Wp E mX8_findFitting _ _ _ _ [] _ 0 0
  have fin : ∀ (t : Nat) (hh : Hp), pcN y 9 < t → Fr (siS x) h hh → FitI hh x r fo k y li sg t 0 → Wp E mX8_findFitting (Rm 4 0 0) (Qm E (fun v h' => v = none ∧ Fr (siS x) h h' ∧ FitI h' x r fo k y li sg 9 0) 0 0) 118 [(0, .ref (x + 96)), (1, .ref p), (2, .int (nI k)), (3, .int (nI (8 - pcN y 9))), (4, .int (nI (pcN y 9))), (5, .int (nI t))] [] hh 0 0 := by
    intro t hh ht fr hF
    refine r_vret (pc := 118) rfl ?_ (Nat.le_of_ble_eq_true rfl) (Nat.le_of_ble_eq_true rfl) dX8_findFitting_118
    exact ⟨rfl, fr, fun t' j' a1 a2 a3 a4 => hF t' j' a1 a2 a3 (by omega)⟩
  have outer : ∀ d, ∀ t, t + d = pcN y 9 + 1 → ∀ (hh : Hp) (yr : Int32), Fr (siS x) h hh → AskG hh x r k lw yr → FitI hh x r fo k y li sg t 0 → Wp E mX8_findFitting (Rm 4 0 0) (Qm E (fun v h' => v = none ∧ Fr (siS x) h h' ∧ FitI h' x r fo k y li sg 9 0) 0 0) 29 [(0, .ref (x + 96)), (1, .ref p), (2, .int (nI k)), (3, .int (nI (8 - pcN y 9))), (4, .int (nI (pcN y 9))), (5, .int (nI t))] [] hh 0 0 := by
    intro d
    induction d with
    | zero =>
      intro t htd hh yr fr ha hF
      refine r_iload (pc := 29) 5 dX8_findFitting_29 rfl ?_
      refine r_iload (pc := 31) 4 dX8_findFitting_31 rfl ?_
      refine r_icmp_gt (pc := 33) (tgt := 118) dX8_findFitting_33 (by decide) (fun c_33 => ?_) (fun c_33 => ?_)
      · exact fin t hh (by omega) fr hF
      · exact absurd (nI_lt (a := pcN y 9) (b := t) (by omega) (by omega)) c_33
    | succ d IH =>
      intro t htd hh yr fr ha hF
      have hph := pt_of (hc.si fr) hpx
      have hvh := hv.si hpx fr
      have hLt : (if t = 0 then 2 ^ li else y) < 512 := by
        split
        · exact Nat.lt_of_lt_of_le (Nat.pow_lt_pow_right (by decide) hli) (by decide)
        · omega
      have inner : ∀ e, ∀ j, j + e = sg ∨ (e = 0 ∧ sg ≤ j ∧ j ≤ 9) → t ≤ j → ∀ (hh : Hp) (yr : Int32), Fr (siS x) h hh → AskG hh x r k lw yr → FitI hh x r fo k y li sg t j → Wp E mX8_findFitting (Rm 4 0 0) (Qm E (fun v h' => v = none ∧ Fr (siS x) h h' ∧ FitI h' x r fo k y li sg 9 0) 0 0) 71 [(0, .ref (x + 96)), (1, .ref p), (2, .int (nI k)), (3, .int (nI (8 - pcN y 9))), (4, .int (nI (pcN y 9))), (5, .int (nI t)), (6, .int (nI (if t = 0 then 2 ^ li else y))), (7, .int (nI j))] [] hh 0 0 := by
        intro e
        induction e with
        | zero =>
          intro j hje htj hh yr fr ha hF
          have hph := pt_of (hc.si fr) hpx
          have hvh := hv.si hpx fr
          refine r_iload (pc := 71) 7 dX8_findFitting_71 rfl ?_
          refine r_aload_n (pc := 73) 1 dX8_findFitting_73 rfl ?_
          refine r_getI (pc := 74) fl_X8_40 (pt_is hph) dX8_findFitting_74 ?_
          rw [pv_2 hvh, hsg]
          refine r_icmp_ge (pc := 77) (tgt := 112) dX8_findFitting_77 (by decide) (fun c_77 => ?_) (fun c_77 => ?_)
          · refine r_iinc (pc := 112) (v := _ + (1)) (lv' := [(0, _), (1, _), (2, _), (3, _), (4, _), (5, _), (6, _), (7, _)]) 5 dX8_findFitting_112 rfl rfl (Nat.le_of_ble_eq_true rfl) rfl ?_
            refine r_goto (pc := 115) (tgt := 29) dX8_findFitting_115 (by decide) ?_
            refine r_sub [0, 1, 2, 3, 4, 5] rfl ?_
            rw [nI_1]
            exact IH (t + 1) (by omega) hh yr fr ha (fun t' j' a1 a2 a3 a4 => hF t' j' a1 a2 a3 (by omega))
          · refine absurd (nI_le (a := sg) (b := j) (by omega) ?_) c_77
            rcases hje with z | z <;> omega
        | succ e IH2 =>
          intro j hje htj hh yr fr ha hF
          have hch := hc.si fr
          have hph := pt_of hch hpx
          have hvh := hv.si hpx fr
          have hjs : j < sg := by rcases hje with z | z <;> omega
          refine r_iload (pc := 71) 7 dX8_findFitting_71 rfl ?_
          refine r_aload_n (pc := 73) 1 dX8_findFitting_73 rfl ?_
          refine r_getI (pc := 74) fl_X8_40 (pt_is hph) dX8_findFitting_74 ?_
          rw [pv_2 hvh, hsg]
          refine r_icmp_ge (pc := 77) (tgt := 112) dX8_findFitting_77 (by decide) (fun c_77 => ?_) (fun c_77 => ?_)
          · exact absurd c_77 (nI_ge hjs (by omega))
          · refine r_aload_n (pc := 80) 0 dX8_findFitting_80 rfl ?_
            refine r_getR (pc := 81) fl_X8_22 (ca_96 hch) (cf_96_3 hch) dX8_findFitting_81 ?_
            refine r_iload (pc := 84) 5 dX8_findFitting_84 rfl ?_
            refine r_bipush (pc := 86) (8) dX8_findFitting_86 rfl ?_
            refine r_imul (pc := 88) dX8_findFitting_88 ?_
            refine r_iload (pc := 89) 7 dX8_findFitting_89 rfl ?_
            refine r_iadd (pc := 91) dX8_findFitting_91 ?_
            refine r_aload_n (pc := 92) 0 dX8_findFitting_92 rfl ?_
            refine r_aload_n (pc := 93) 1 dX8_findFitting_93 rfl ?_
            refine r_iload (pc := 94) 7 dX8_findFitting_94 rfl ?_
            refine r_iload (pc := 96) 6 dX8_findFitting_96 rfl ?_
            refine r_iload_n (pc := 98) 3 dX8_findFitting_98 rfl ?_
            refine r_iload (pc := 99) 5 dX8_findFitting_99 rfl ?_
            refine r_iadd (pc := 101) dX8_findFitting_101 ?_
            rw [nI_add]
            refine r_callV (pc := 102) (As := [_, _, _, _]) mv_X8_livesThatShow ml_X8_44 (c8_livesThatShow hch hpx hvh hrw (hfo.si fr) ha (by omega) hLt) (ca_96 hch) rfl rfl (Nat.le_of_ble_eq_true rfl) (Nat.le_of_ble_eq_true rfl) (Nat.le_of_ble_eq_true rfl) (Nat.le_of_ble_eq_true rfl) (Nat.le_of_ble_eq_true rfl) dX8_findFitting_102 (fun r h3 hp => ?_)
            obtain ⟨⟨z, rfl, hz⟩, f3, ha3⟩ := hp
            show Wp E mX8_findFitting _ _ _ _ [.int _, .int _, .ref _] _ 0 0
            have fr3 := fr.tr (f3.mono (fun _ _ => ak_si))
            have hc3 := hc.si fr3
            refine r_iast (pc := 105) (j := t * 8 + j) (cr_99 hc3) (by simp only [fa_lit, nI_add, nI_mul]) (by omega) (by decide) dX8_findFitting_105 ?_
            refine r_iinc (pc := 106) (v := _ + (1)) (lv' := [(0, _), (1, _), (2, _), (3, _), (4, _), (5, _), (6, _), (7, _)]) 7 dX8_findFitting_106 rfl rfl (Nat.le_of_ble_eq_true rfl) rfl ?_
            refine r_goto (pc := 109) (tgt := 71) dX8_findFitting_109 (by decide) ?_
            rw [nI_1]
            have f34 : Fr (fun a _ => a = x + 99) h3 (wI h3 (x + 99) (t * 8 + j) z) := Fr.wI rfl
            refine IH2 (j + 1) (by omega) (by omega) _ _ (fr3.tr (f34.mono (fun a i z => (Or.inr (Or.inl (by omega)) : siS x a i)))) (ha3.fr f34 (fun i => by omega) (by omega) (by omega)) (fun t' j' a1 a2 a3 a4 => ?_)
            by_cases htj2 : t' = t ∧ j' = j
            · rw [htj2.1, htj2.2, Nat.mul_comm 8 t, hI_at]; exact hz
            · rw [hI_ne (by omega), f3.I (by unfold akS; omega)]
              exact hF t' j' a1 a2 a3 (by omega)
      have at65 : ∀ LV : Int32, LV = nI (if t = 0 then 2 ^ li else y) → Wp E mX8_findFitting (Rm 4 0 0) (Qm E (fun v h' => v = none ∧ Fr (siS x) h h' ∧ FitI h' x r fo k y li sg 9 0) 0 0) 65 [(0, .ref (x + 96)), (1, .ref p), (2, .int (nI k)), (3, .int (nI (8 - pcN y 9))), (4, .int (nI (pcN y 9))), (5, .int (nI t))] [.int LV] hh 0 0 := by
        rintro LV rfl
        refine r_istore (pc := 65) (lv' := [(0, _), (1, _), (2, _), (3, _), (4, _), (5, _), (6, _)]) dX8_findFitting_65 (Nat.le_of_ble_eq_true rfl) rfl ?_
        refine r_iload (pc := 67) 5 dX8_findFitting_67 rfl ?_
        refine r_istore (pc := 69) (lv' := [(0, _), (1, _), (2, _), (3, _), (4, _), (5, _), (6, _), (7, _)]) dX8_findFitting_69 (Nat.le_of_ble_eq_true rfl) rfl ?_
        exact inner (sg - t) t (by omega) (Nat.le_refl _) hh yr fr ha (fun t' j' a1 a2 a3 a4 => hF t' j' a1 a2 a3 (by omega))
      refine r_iload (pc := 29) 5 dX8_findFitting_29 rfl ?_
      refine r_iload (pc := 31) 4 dX8_findFitting_31 rfl ?_
      refine r_icmp_gt (pc := 33) (tgt := 118) dX8_findFitting_33 (by decide) (fun c_33 => ?_) (fun c_33 => ?_)
      · exact absurd c_33 (nI_nlt (by omega) (by omega))
      · refine r_iload (pc := 36) 5 dX8_findFitting_36 rfl ?_
        refine r_bipush (pc := 38) (9) dX8_findFitting_38 rfl ?_
        refine r_icmp_ge (pc := 40) (tgt := 118) dX8_findFitting_40 (by decide) (fun c_40 => ?_) (fun c_40 => ?_)
        · exact absurd c_40 (nI_ge (b := 9) (by omega) (by decide))
        · refine r_iload (pc := 43) 5 dX8_findFitting_43 rfl ?_
          refine r_if_ne (pc := 45) (tgt := 59) dX8_findFitting_45 (by decide) (fun c_45 => ?_) (fun c_45 => ?_)
          · refine r_aload_n (pc := 59) 1 dX8_findFitting_59 rfl ?_
            refine r_getR (pc := 60) fl_X8_94 (pt_is hph) (pt_f2 hph) dX8_findFitting_60 ?_
            refine r_iload_n (pc := 63) 2 dX8_findFitting_63 rfl ?_
            refine r_iald (pc := 64) (j := k) (pt_r2 hph) rfl (by omega) (by decide) dX8_findFitting_64 ?_
            refine at65 _ ?_
            rw [pv_ye hvh hk, ey, if_neg (fun z => c_45 (by rw [z]; rfl))]
          · refine r_iconst (pc := 48) (1) dX8_findFitting_48 rfl ?_
            refine r_aload_n (pc := 49) 1 dX8_findFitting_49 rfl ?_
            refine r_getR (pc := 50) fl_X8_108 (pt_is hph) (pt_f1 hph) dX8_findFitting_50 ?_
            refine r_iload_n (pc := 53) 2 dX8_findFitting_53 rfl ?_
            refine r_iald (pc := 54) (j := k) (pt_r1 hph) rfl (by omega) (by decide) dX8_findFitting_54 ?_
            refine r_ishl (pc := 55) dX8_findFitting_55 ?_
            refine r_goto (pc := 56) (tgt := 65) dX8_findFitting_56 (by decide) ?_
            refine at65 _ ?_
            rw [pv_li hvh hk, eli, sh9 li hli, if_pos ((nI_z (by omega)).mp c_45)]
  refine r_iconst (pc := 26) (0) dX8_findFitting_26 rfl ?_
  refine r_istore (pc := 27) (lv' := [(0, _), (1, _), (2, _), (3, _), (4, _), (5, _)]) dX8_findFitting_27 (Nat.le_of_ble_eq_true rfl) rfl ?_
  exact outer (pcN y 9 + 1) 0 (by omega) h2 _ (f2.mono (fun _ _ => ak_si)) ⟨_, _, ha2⟩ (fun t' j' a1 a2 a3 a4 => by omega)
end SIGHT4
