/-! the reference: terms, images, the tape, what is seen, counts -/
section MODEL4
variable {E : En} {h : Hp} {m : Nat} {μ : Mu} {l : La}
def termB (what value : Int32) : Bool := if what = 0 then inN value 1000 else if what = 1 then inN value 11 else if what = 2 then inN value 10 else false
def termsM (μ : Mu) (what value : Int32) : Int32 × Mu := if termB what value = true then (μ 2 (5 + what.toNatClampNeg), up2 (up2 (up2 (up2 μ 0 0 0) 0 8 0) 2 (5 + what.toNatClampNeg) value) 0 1 0) else (-1, tellM (up2 μ 0 0 0) (-1))
theorem ct_mterms (hm : Md E h m) (what value : Int32) : Ct E 1 0 0 mX12_terms [.ref m, .int what, .int value] (mH h m μ l) (po (some (.int (termsM μ what value).1)) (mH h m (termsM μ what value).2 l)) := by
  refine Ct.of (by decide +kernel) (Nat.le_of_ble_eq_true rfl) ?_
  have fin : ∀ b : Bool, b = termB what value → (∃ j, j < 3 ∧ what = nI j) ∨ b = false → Wp E mX12_terms (Rm 1 0 0) (Qm E (po (some (.int (termsM μ what value).1)) (mH h m (termsM μ what value).2 l)) 0 0) 60 [(0, .ref m), (1, .int what), (2, .int value)] [.int (bI b)] (mH h m (up2 μ 0 0 0) l) 0 0 := by
    intro b hb hj
    refine r_istore_n (pc := 60) (lv' := [(0, _), (1, _), (2, _), (3, _)]) dX12_terms_60 (Nat.le_of_ble_eq_true rfl) rfl ?_
    refine r_iload_n (pc := 61) 3 dX12_terms_61 rfl ?_
    refine r_if_ne (pc := 62) (tgt := 71) dX12_terms_62 (by decide) (fun c_62 => ?_) (fun c_62 => ?_)
    · have hbt := bI_n0.mp c_62
      obtain ⟨j, hj3, rfl⟩ := hj.resolve_right (by rw [hbt]; decide)
      refine r_aload_n (pc := 71) 0 dX12_terms_71 rfl ?_
      refine r_iconst (pc := 72) (0) dX12_terms_72 rfl ?_
      refine q_putI (pc := 73) fp_X12_167 hm dX12_terms_73 ?_
      refine r_aload_n (pc := 76) 0 dX12_terms_76 rfl ?_
      refine r_iconst (pc := 77) (5) dX12_terms_77 rfl ?_
      refine r_iload_n (pc := 78) 1 dX12_terms_78 rfl ?_
      refine r_iadd (pc := 79) dX12_terms_79 ?_
      refine r_iload_n (pc := 80) 2 dX12_terms_80 rfl ?_
      rw [show (5 : Int32) + nI j = nI (5 + j) from nI_add 5 j]
      refine r_dV (pc := 81) (As := [_, _]) mv_X12_change ml_X12_244 (ct_change hm (5 + j) value (by omega)) (q_is hm) rfl rfl (Nat.le_of_ble_eq_true rfl) (Nat.le_of_ble_eq_true rfl) (Nat.le_of_ble_eq_true rfl) (Nat.le_of_ble_eq_true rfl) (Nat.le_of_ble_eq_true rfl) dX12_terms_81 ?_
      refine r_iret (pc := 84) rfl ?_ (Nat.le_of_ble_eq_true rfl) (Nat.le_of_ble_eq_true rfl) dX12_terms_84
      rw [termsM, if_pos (hb.symm.trans hbt), nI_clamp (by omega), up2_ne (by omega), up2_ne (by omega)]
      exact ⟨rfl, rfl⟩
    · have hbt := bI_0.mp c_62
      refine r_aload_n (pc := 65) 0 dX12_terms_65 rfl ?_
      refine r_iconst (pc := 66) (-1) dX12_terms_66 rfl ?_
      refine r_dV (pc := 67) (As := [_]) mv_X12_tell ml_X12_170 (ct_tell hm _ t_1) (q_is hm) rfl rfl (Nat.le_of_ble_eq_true rfl) (Nat.le_of_ble_eq_true rfl) (Nat.le_of_ble_eq_true rfl) (Nat.le_of_ble_eq_true rfl) (Nat.le_of_ble_eq_true rfl) dX12_terms_67 ?_
      refine r_iret (pc := 70) rfl ?_ (Nat.le_of_ble_eq_true rfl) (Nat.le_of_ble_eq_true rfl) dX12_terms_70
      rw [termsM, if_neg (by rw [← hb, hbt]; decide)]
      exact ⟨rfl, rfl⟩
  refine r_aload_n (pc := 0) 0 dX12_terms_0 rfl ?_
  refine r_iconst (pc := 1) (0) dX12_terms_1 rfl ?_
  refine q_putI (pc := 2) fp_X12_161 hm dX12_terms_2 ?_
  refine r_iload_n (pc := 5) 1 dX12_terms_5 rfl ?_
  refine r_if_ne (pc := 6) (tgt := 21) dX12_terms_6 (by decide) (fun c_6 => ?_) (fun c_6 => ?_)
  · refine r_iload_n (pc := 21) 1 dX12_terms_21 rfl ?_
    refine r_iconst (pc := 22) (1) dX12_terms_22 rfl ?_
    refine r_icmp_ne (pc := 23) (tgt := 38) dX12_terms_23 (by decide) (fun c_23 => ?_) (fun c_23 => ?_)
    · refine r_iload_n (pc := 38) 1 dX12_terms_38 rfl ?_
      refine r_iconst (pc := 39) (2) dX12_terms_39 rfl ?_
      refine r_icmp_ne (pc := 40) (tgt := 59) dX12_terms_40 (by decide) (fun c_40 => ?_) (fun c_40 => ?_)
      · refine r_iconst (pc := 59) (0) dX12_terms_59 rfl ?_
        exact fin false (by rw [termB, if_neg c_6, if_neg c_23, if_neg c_40]) (Or.inr rfl)
      · refine r_iload_n (pc := 43) 2 dX12_terms_43 rfl ?_
        refine r_i2l (pc := 44) dX12_terms_44 ?_
        refine r_lconst (pc := 45) (0) dX12_terms_45 rfl ?_
        refine r_ldc2_w (pc := 46) cs_X12_204 dX12_terms_46 ?_
        refine r_dS (pc := 49) (As := [_, _, _]) ms_X12_in ml_X12_181 (ct_in _ _ _) rfl rfl (Nat.le_of_ble_eq_true rfl) (Nat.le_of_ble_eq_true rfl) (Nat.le_of_ble_eq_true rfl) (Nat.le_of_ble_eq_true rfl) (Nat.le_of_ble_eq_true rfl) dX12_terms_49 ?_
        refine r_if_eq (pc := 52) (tgt := 59) dX12_terms_52 (by decide) (fun c_52 => ?_) (fun c_52 => ?_)
        · refine r_iconst (pc := 59) (0) dX12_terms_59 rfl ?_
          refine fin false ?_ (Or.inr rfl)
          rw [show decide _ = inN value 10 from in_lit (b := 9) (n := 9) (by decide)] at c_52
          rw [termB, if_neg c_6, if_neg c_23, if_pos c_40]
          exact (bI_0.mp c_52).symm
        · refine r_iconst (pc := 55) (1) dX12_terms_55 rfl ?_
          refine r_goto (pc := 56) (tgt := 60) dX12_terms_56 (by decide) ?_
          refine fin true ?_ (Or.inl ⟨2, by decide, c_40⟩)
          rw [show decide _ = inN value 10 from in_lit (b := 9) (n := 9) (by decide)] at c_52
          rw [termB, if_neg c_6, if_neg c_23, if_pos c_40]
          exact (bI_n0.mp c_52).symm
    · refine r_iload_n (pc := 26) 2 dX12_terms_26 rfl ?_
      refine r_i2l (pc := 27) dX12_terms_27 ?_
      refine r_lconst (pc := 28) (0) dX12_terms_28 rfl ?_
      refine r_ldc2_w (pc := 29) cs_X12_242 dX12_terms_29 ?_
      refine r_dS (pc := 32) (As := [_, _, _]) ms_X12_in ml_X12_181 (ct_in _ _ _) rfl rfl (Nat.le_of_ble_eq_true rfl) (Nat.le_of_ble_eq_true rfl) (Nat.le_of_ble_eq_true rfl) (Nat.le_of_ble_eq_true rfl) (Nat.le_of_ble_eq_true rfl) dX12_terms_32 ?_
      refine r_goto (pc := 35) (tgt := 60) dX12_terms_35 (by decide) ?_
      rw [show decide _ = inN value 11 from in_lit (b := 10) (n := 10) (by decide)]
      exact fin _ (by rw [termB, if_neg c_6, if_pos c_23]) (Or.inl ⟨1, by decide, c_23⟩)
  · refine r_iload_n (pc := 9) 2 dX12_terms_9 rfl ?_
    refine r_i2l (pc := 10) dX12_terms_10 ?_
    refine r_lconst (pc := 11) (0) dX12_terms_11 rfl ?_
    refine r_ldc2_w (pc := 12) cs_X12_240 dX12_terms_12 ?_
    refine r_dS (pc := 15) (As := [_, _, _]) ms_X12_in ml_X12_181 (ct_in _ _ _) rfl rfl (Nat.le_of_ble_eq_true rfl) (Nat.le_of_ble_eq_true rfl) (Nat.le_of_ble_eq_true rfl) (Nat.le_of_ble_eq_true rfl) (Nat.le_of_ble_eq_true rfl) dX12_terms_15 ?_
    refine r_goto (pc := 18) (tgt := 60) dX12_terms_18 (by decide) ?_
    rw [show decide _ = inN value 1000 from in_lit (b := 999) (n := 999) (by decide)]
    exact fin _ (by rw [termB, if_pos c_6]) (Or.inl ⟨0, by decide, c_6⟩)
/-- one byte more on the tape -/
def byM (μ : Mu) (t : Nat) (b : Int32) : Mu := up2 (up2 μ 9 t b) 0 13 (nI (t + 1))
def byteF (v k : Int32) : Int32 := v >>> (k &&& 31) &&& 255
def fourM (μ : Mu) (t : Nat) (v : Int32) : Mu := byM (byM (byM (byM μ t (byteF v 24)) (t + 1) (byteF v 16)) (t + 2) (byteF v 8)) (t + 3) (byteF v 0)
theorem ct_four (hm : Md E h m) (v : Int32) {t : Nat} (ht : μ 0 13 = nI t) (h4 : t + 4 ≤ 400) : Ct E 0 0 0 mX12_four [.ref m, .int v] (mH h m μ l) (po none (mH h m (fourM μ t v) l)) := by
  refine Ct.of (by decide +kernel) (Nat.le_of_ble_eq_true rfl) ?_
  refine r_bipush (pc := 0) (24) dX12_four_0 rfl ?_
  refine r_istore_n (pc := 2) (lv' := [(0, _), (1, _), (2, _)]) dX12_four_2 (Nat.le_of_ble_eq_true rfl) rfl ?_
  have step : ∀ (k : Int32) (ν : Mu) (u : Nat), ¬ k < 0 → u < 400 → ν 0 13 = nI u → Wp E mX12_four (Rm 0 0 0) (Qm E (po none (mH h m (fourM μ t v) l)) 0 0) 3 [(0, .ref m), (1, .int v), (2, .int (k + -8))] [] (mH h m (byM ν u (byteF v k)) l) 0 0 → Wp E mX12_four (Rm 0 0 0) (Qm E (po none (mH h m (fourM μ t v) l)) 0 0) 3 [(0, .ref m), (1, .int v), (2, .int k)] [] (mH h m ν l) 0 0 := by
    intro k ν u hk hu hv hgo
    refine r_iload_n (pc := 3) 2 dX12_four_3 rfl ?_
    refine r_if_lt (pc := 4) (tgt := 39) dX12_four_4 (by decide) (fun c_4 => ?_) (fun c_4 => ?_)
    · exact absurd c_4 hk
    · refine r_aload_n (pc := 7) 0 dX12_four_7 rfl ?_
      refine q_getR (pc := 8) fl_X12_35 hm (md_f12 hm) dX12_four_8 ?_
      refine r_aload_n (pc := 11) 0 dX12_four_11 rfl ?_
      refine q_getI (pc := 12) fl_X12_248 hm dX12_four_12 ?_
      refine r_iload_n (pc := 15) 1 dX12_four_15 rfl ?_
      refine r_iload_n (pc := 16) 2 dX12_four_16 rfl ?_
      refine r_ishr (pc := 17) dX12_four_17 ?_
      refine r_sipush (pc := 18) (255) dX12_four_18 rfl ?_
      refine r_iand (pc := 21) dX12_four_21 ?_
      refine q_iast (pc := 22) (j := u) (md_r12 hm) (by decide) hv (by omega) (by decide) dX12_four_22 ?_
      refine r_aload_n (pc := 23) 0 dX12_four_23 rfl ?_
      refine r_dup (pc := 24) dX12_four_24 rfl ?_
      refine q_getI (pc := 25) fl_X12_248 hm dX12_four_25 ?_
      refine r_iconst (pc := 28) (1) dX12_four_28 rfl ?_
      refine r_iadd (pc := 29) dX12_four_29 ?_
      rw [up2_ne (by omega), hv, nI_1]
      refine q_putI (pc := 30) fp_X12_248 hm dX12_four_30 ?_
      refine r_iinc (pc := 33) (v := _ + (-8)) (lv' := [(0, _), (1, _), (2, _)]) 2 dX12_four_33 rfl rfl (Nat.le_of_ble_eq_true rfl) rfl ?_
      refine r_goto (pc := 36) (tgt := 3) dX12_four_36 (by decide) ?_
      exact hgo
  refine step 24 μ t (by decide) (by omega) ht ?_
  refine step 16 _ (t + 1) (by decide) (by omega) up2_at ?_
  refine step 8 _ (t + 2) (by decide) (by omega) up2_at ?_
  refine step 0 _ (t + 3) (by decide) (by omega) up2_at ?_
  refine r_iload_n (pc := 3) 2 dX12_four_3 rfl ?_
  refine r_if_lt (pc := 4) (tgt := 39) dX12_four_4 (by decide) (fun c_4 => ?_) (fun c_4 => ?_)
  · refine r_vret (pc := 39) rfl ?_ (Nat.le_of_ble_eq_true rfl) (Nat.le_of_ble_eq_true rfl) dX12_four_39
    exact ⟨rfl, rfl⟩
  · exact absurd (by decide) c_4
theorem fourM_t {μ : Mu} {t : Nat} {v : Int32} : fourM μ t v 0 13 = nI (t + 4) := by unfold fourM byM; exact up2_at
def feedM (μ : Mu) (t : Nat) (a b c d e : Int32) : Int32 × Mu := if t + 20 ≤ 400 then (nI (t + 20), fourM (fourM (fourM (fourM (fourM (up2 μ 0 0 0) t a) (t + 4) b) (t + 8) c) (t + 12) d) (t + 16) e) else (-1, up2 μ 0 0 0)
theorem ct_mfeed (hm : Md E h m) (a b c d e : Int32) {t : Nat} (ht : μ 0 13 = nI t) (h4 : t ≤ 400) : Ct E 1 0 0 mX12_feed [.ref m, .int a, .int b, .int c, .int d, .int e] (mH h m μ l) (po (some (.int (feedM μ t a b c d e).1)) (mH h m (feedM μ t a b c d e).2 l)) := by
  refine Ct.of (by decide +kernel) (Nat.le_of_ble_eq_true rfl) ?_
  have e1 : up2 μ 0 0 0 0 13 = nI t := by rw [up2_ne (by omega)]; exact ht
  refine r_aload_n (pc := 0) 0 dX12_feed_0 rfl ?_
  refine r_iconst (pc := 1) (0) dX12_feed_1 rfl ?_
  refine q_putI (pc := 2) fp_X12_161 hm dX12_feed_2 ?_
  refine r_aload_n (pc := 5) 0 dX12_feed_5 rfl ?_
  refine q_getI (pc := 6) fl_X12_248 hm dX12_feed_6 ?_
  refine r_bipush (pc := 9) (20) dX12_feed_9 rfl ?_
  refine r_iadd (pc := 11) dX12_feed_11 ?_
  refine r_sipush (pc := 12) (400) dX12_feed_12 rfl ?_
  refine r_icmp_le (pc := 15) (tgt := 20) dX12_feed_15 (by decide) (fun c_15 => ?_) (fun c_15 => ?_)
  · rw [e1] at c_15
    have h20 : t + 20 ≤ 400 := (nI_leI (a := t + 20) (b := 400) (by omega) (by decide)).mp (by rw [← nI_add]; exact c_15)
    refine r_aload_n (pc := 20) 0 dX12_feed_20 rfl ?_
    refine r_iload_n (pc := 21) 1 dX12_feed_21 rfl ?_
    refine r_dV0 (pc := 22) (As := [_]) mv_X12_four ml_X12_254 (ct_four hm a e1 (by omega)) (q_is hm) rfl rfl (Nat.le_of_ble_eq_true rfl) (Nat.le_of_ble_eq_true rfl) (Nat.le_of_ble_eq_true rfl) (Nat.le_of_ble_eq_true rfl) (Nat.le_of_ble_eq_true rfl) dX12_feed_22 ?_
    refine r_aload_n (pc := 25) 0 dX12_feed_25 rfl ?_
    refine r_iload_n (pc := 26) 2 dX12_feed_26 rfl ?_
    refine r_dV0 (pc := 27) (As := [_]) mv_X12_four ml_X12_254 (ct_four hm b (t := t + 4) fourM_t (by omega)) (q_is hm) rfl rfl (Nat.le_of_ble_eq_true rfl) (Nat.le_of_ble_eq_true rfl) (Nat.le_of_ble_eq_true rfl) (Nat.le_of_ble_eq_true rfl) (Nat.le_of_ble_eq_true rfl) dX12_feed_27 ?_
    refine r_aload_n (pc := 30) 0 dX12_feed_30 rfl ?_
    refine r_iload_n (pc := 31) 3 dX12_feed_31 rfl ?_
    refine r_dV0 (pc := 32) (As := [_]) mv_X12_four ml_X12_254 (ct_four hm c (t := t + 8) fourM_t (by omega)) (q_is hm) rfl rfl (Nat.le_of_ble_eq_true rfl) (Nat.le_of_ble_eq_true rfl) (Nat.le_of_ble_eq_true rfl) (Nat.le_of_ble_eq_true rfl) (Nat.le_of_ble_eq_true rfl) dX12_feed_32 ?_
    refine r_aload_n (pc := 35) 0 dX12_feed_35 rfl ?_
    refine r_iload (pc := 36) 4 dX12_feed_36 rfl ?_
    refine r_dV0 (pc := 38) (As := [_]) mv_X12_four ml_X12_254 (ct_four hm d (t := t + 12) fourM_t (by omega)) (q_is hm) rfl rfl (Nat.le_of_ble_eq_true rfl) (Nat.le_of_ble_eq_true rfl) (Nat.le_of_ble_eq_true rfl) (Nat.le_of_ble_eq_true rfl) (Nat.le_of_ble_eq_true rfl) dX12_feed_38 ?_
    refine r_aload_n (pc := 41) 0 dX12_feed_41 rfl ?_
    refine r_iload (pc := 42) 5 dX12_feed_42 rfl ?_
    refine r_dV0 (pc := 44) (As := [_]) mv_X12_four ml_X12_254 (ct_four hm e (t := t + 16) fourM_t (by omega)) (q_is hm) rfl rfl (Nat.le_of_ble_eq_true rfl) (Nat.le_of_ble_eq_true rfl) (Nat.le_of_ble_eq_true rfl) (Nat.le_of_ble_eq_true rfl) (Nat.le_of_ble_eq_true rfl) dX12_feed_44 ?_
    refine r_aload_n (pc := 47) 0 dX12_feed_47 rfl ?_
    refine q_getI (pc := 48) fl_X12_248 hm dX12_feed_48 ?_
    refine r_iret (pc := 51) rfl ?_ (Nat.le_of_ble_eq_true rfl) (Nat.le_of_ble_eq_true rfl) dX12_feed_51
    rw [feedM, if_pos h20]
    exact ⟨by rw [fourM_t], rfl⟩
  · rw [e1] at c_15
    have h20 : ¬ t + 20 ≤ 400 := fun q => c_15 (by rw [show nI t + 20 = nI (t + 20) from nI_add t 20]; exact (nI_leI (a := t + 20) (b := 400) (by omega) (by decide)).mpr q)
    refine r_iconst (pc := 18) (-1) dX12_feed_18 rfl ?_
    refine r_iret (pc := 19) rfl ?_ (Nat.le_of_ble_eq_true rfl) (Nat.le_of_ble_eq_true rfl) dX12_feed_19
    rw [feedM, if_neg h20]
    exact ⟨rfl, rfl⟩
def endM (μ : Mu) (t : Nat) (n : Int32) : Int32 × Mu := if inN n (t + 1) = true then (n, up2 (up2 μ 0 0 0) 0 13 n) else (-1, up2 μ 0 0 0)
theorem ct_mend (hm : Md E h m) (n : Int32) {t : Nat} (ht : μ 0 13 = nI t) (h4 : t ≤ 400) : Ct E 0 0 0 mX12_end [.ref m, .int n] (mH h m μ l) (po (some (.int (endM μ t n).1)) (mH h m (endM μ t n).2 l)) := by
  refine Ct.of (by decide +kernel) (Nat.le_of_ble_eq_true rfl) ?_
  have e1 : up2 μ 0 0 0 0 13 = nI t := by rw [up2_ne (by omega)]; exact ht
  have key : inN n (t + 1) = true ↔ ¬ n < 0 ∧ n ≤ nI t := by
    unfold inN
    rw [decide_eq_true_iff, fa_lt, fa_le, nI_toInt (by omega)]
    show _ ↔ ¬ _ < (0 : Int) ∧ _
    omega
  refine r_aload_n (pc := 0) 0 dX12_end_0 rfl ?_
  refine r_iconst (pc := 1) (0) dX12_end_1 rfl ?_
  refine q_putI (pc := 2) fp_X12_161 hm dX12_end_2 ?_
  refine r_iload_n (pc := 5) 1 dX12_end_5 rfl ?_
  refine r_if_lt (pc := 6) (tgt := 17) dX12_end_6 (by decide) (fun c_6 => ?_) (fun c_6 => ?_)
  · refine r_iconst (pc := 17) (-1) dX12_end_17 rfl ?_
    refine r_iret (pc := 18) rfl ?_ (Nat.le_of_ble_eq_true rfl) (Nat.le_of_ble_eq_true rfl) dX12_end_18
    rw [endM, if_neg (fun q => (key.mp q).1 c_6)]
    exact ⟨rfl, rfl⟩
  · refine r_iload_n (pc := 9) 1 dX12_end_9 rfl ?_
    refine r_aload_n (pc := 10) 0 dX12_end_10 rfl ?_
    refine q_getI (pc := 11) fl_X12_248 hm dX12_end_11 ?_
    refine r_icmp_le (pc := 14) (tgt := 19) dX12_end_14 (by decide) (fun c_14 => ?_) (fun c_14 => ?_)
    · rw [e1] at c_14
      refine r_aload_n (pc := 19) 0 dX12_end_19 rfl ?_
      refine r_iload_n (pc := 20) 1 dX12_end_20 rfl ?_
      refine q_putI (pc := 21) fp_X12_248 hm dX12_end_21 ?_
      refine r_iload_n (pc := 24) 1 dX12_end_24 rfl ?_
      refine r_iret (pc := 25) rfl ?_ (Nat.le_of_ble_eq_true rfl) (Nat.le_of_ble_eq_true rfl) dX12_end_25
      rw [endM, if_pos (key.mpr ⟨c_6, c_14⟩)]
      exact ⟨rfl, rfl⟩
    · rw [e1] at c_14
      refine r_iconst (pc := 17) (-1) dX12_end_17 rfl ?_
      refine r_iret (pc := 18) rfl ?_ (Nat.le_of_ble_eq_true rfl) (Nat.le_of_ble_eq_true rfl) dX12_end_18
      rw [endM, if_neg (fun q => c_14 (key.mp q).2)]
      exact ⟨rfl, rfl⟩
def isLawB (n : Nat) (law : Int32) : Bool := decide (law = -1) || inN law n
theorem ct_isLaw (hm : Md E h m) (law : Int32) {n : Nat} (hn : μ 2 3 = nI n) (hs : n < 2 ^ 31) : Ct E 1 0 0 mX12_isLaw [.ref m, .int law] (mH h m μ l) (po (some (.int (bI (isLawB n law)))) (mH h m μ l)) := by
  refine Ct.of (by decide +kernel) (Nat.le_of_ble_eq_true rfl) ?_
  refine r_iload_n (pc := 0) 1 dX12_isLaw_0 rfl ?_
  refine r_iconst (pc := 1) (-1) dX12_isLaw_1 rfl ?_
  refine r_icmp_eq (pc := 2) (tgt := 23) dX12_isLaw_2 (by decide) (fun c_2 => ?_) (fun c_2 => ?_)
  · refine r_iconst (pc := 23) (1) dX12_isLaw_23 rfl ?_
    refine r_goto (pc := 24) (tgt := 28) dX12_isLaw_24 (by decide) ?_
    refine r_zret (pc := 28) rfl (by decide) ?_ (Nat.le_of_ble_eq_true rfl) (Nat.le_of_ble_eq_true rfl) dX12_isLaw_28
    rw [isLawB, decide_eq_true c_2]; exact ⟨rfl, rfl⟩
  · refine r_iload_n (pc := 5) 1 dX12_isLaw_5 rfl ?_
    refine r_i2l (pc := 6) dX12_isLaw_6 ?_
    refine r_lconst (pc := 7) (0) dX12_isLaw_7 rfl ?_
    refine r_aload_n (pc := 8) 0 dX12_isLaw_8 rfl ?_
    refine q_getR (pc := 9) fl_X12_13 hm (md_f3 hm) dX12_isLaw_9 ?_
    refine r_iconst (pc := 12) (3) dX12_isLaw_12 rfl ?_
    refine q_iald (pc := 13) (j := 3) (md_r3 hm) (by decide) rfl (by decide) (by decide) dX12_isLaw_13 ?_
    refine r_i2l (pc := 14) dX12_isLaw_14 ?_
    refine r_lconst (pc := 15) (1) dX12_isLaw_15 rfl ?_
    refine r_lsub (pc := 16) dX12_isLaw_16 ?_
    refine r_dS (pc := 17) (As := [_, _, _]) ms_X12_in ml_X12_181 (ct_in _ _ _) rfl rfl (Nat.le_of_ble_eq_true rfl) (Nat.le_of_ble_eq_true rfl) (Nat.le_of_ble_eq_true rfl) (Nat.le_of_ble_eq_true rfl) (Nat.le_of_ble_eq_true rfl) dX12_isLaw_17 ?_
    refine r_if_eq (pc := 20) (tgt := 27) dX12_isLaw_20 (by decide) (fun c_20 => ?_) (fun c_20 => ?_)
    · refine r_iconst (pc := 27) (0) dX12_isLaw_27 rfl ?_
      refine r_zret (pc := 28) rfl (by decide) ?_ (Nat.le_of_ble_eq_true rfl) (Nat.le_of_ble_eq_true rfl) dX12_isLaw_28
      rw [hn, show decide _ = inN law n from in_n hs] at c_20
      rw [isLawB, decide_eq_false c_2, bI_0.mp c_20]; exact ⟨rfl, rfl⟩
    · refine r_iconst (pc := 23) (1) dX12_isLaw_23 rfl ?_
      refine r_goto (pc := 24) (tgt := 28) dX12_isLaw_24 (by decide) ?_
      refine r_zret (pc := 28) rfl (by decide) ?_ (Nat.le_of_ble_eq_true rfl) (Nat.le_of_ble_eq_true rfl) dX12_isLaw_28
      rw [hn, show decide _ = inN law n from in_n hs] at c_20
      rw [isLawB, bI_n0.mp c_20, Bool.or_true]; exact ⟨rfl, rfl⟩
def forceM (μ : Mu) (n : Nat) (law : Int32) : Int32 × Mu := if isLawB n law = true then (μ 2 4, up2 (up2 (up2 μ 0 0 0) 2 4 law) 0 1 0) else (-2, tellM (up2 μ 0 0 0) (-2))
theorem ct_mforce (hm : Md E h m) (law : Int32) {n : Nat} (hn : μ 2 3 = nI n) (hs : n < 2 ^ 31) : Ct E 2 0 0 mX12_force [.ref m, .int law] (mH h m μ l) (po (some (.int (forceM μ n law).1)) (mH h m (forceM μ n law).2 l)) := by
  refine Ct.of (by decide +kernel) (Nat.le_of_ble_eq_true rfl) ?_
  refine r_aload_n (pc := 0) 0 dX12_force_0 rfl ?_
  refine r_iconst (pc := 1) (0) dX12_force_1 rfl ?_
  refine q_putI (pc := 2) fp_X12_161 hm dX12_force_2 ?_
  refine r_aload_n (pc := 5) 0 dX12_force_5 rfl ?_
  refine r_iload_n (pc := 6) 1 dX12_force_6 rfl ?_
  refine r_dV (pc := 7) (As := [_]) mv_X12_isLaw ml_X12_410 (ct_isLaw hm law (by rw [up2_ne (by omega)]; exact hn) hs) (q_is hm) rfl rfl (Nat.le_of_ble_eq_true rfl) (Nat.le_of_ble_eq_true rfl) (Nat.le_of_ble_eq_true rfl) (Nat.le_of_ble_eq_true rfl) (Nat.le_of_ble_eq_true rfl) dX12_force_7 ?_
  refine r_if_eq (pc := 10) (tgt := 22) dX12_force_10 (by decide) (fun c_10 => ?_) (fun c_10 => ?_)
  · refine r_aload_n (pc := 22) 0 dX12_force_22 rfl ?_
    refine r_bipush (pc := 23) (-2) dX12_force_23 rfl ?_
    refine r_dV (pc := 25) (As := [_]) mv_X12_tell ml_X12_170 (ct_tell hm _ t_2) (q_is hm) rfl rfl (Nat.le_of_ble_eq_true rfl) (Nat.le_of_ble_eq_true rfl) (Nat.le_of_ble_eq_true rfl) (Nat.le_of_ble_eq_true rfl) (Nat.le_of_ble_eq_true rfl) dX12_force_25 ?_
    refine r_iret (pc := 28) rfl ?_ (Nat.le_of_ble_eq_true rfl) (Nat.le_of_ble_eq_true rfl) dX12_force_28
    rw [forceM, if_neg (by rw [bI_0.mp c_10]; decide)]; exact ⟨rfl, rfl⟩
  · refine r_aload_n (pc := 13) 0 dX12_force_13 rfl ?_
    refine r_iconst (pc := 14) (4) dX12_force_14 rfl ?_
    refine r_iload_n (pc := 15) 1 dX12_force_15 rfl ?_
    refine r_dV (pc := 16) (As := [_, _]) mv_X12_change ml_X12_244 (ct_change hm 4 law (by decide)) (q_is hm) rfl rfl (Nat.le_of_ble_eq_true rfl) (Nat.le_of_ble_eq_true rfl) (Nat.le_of_ble_eq_true rfl) (Nat.le_of_ble_eq_true rfl) (Nat.le_of_ble_eq_true rfl) dX12_force_16 ?_
    refine r_goto (pc := 19) (tgt := 28) dX12_force_19 (by decide) ?_
    refine r_iret (pc := 28) rfl ?_ (Nat.le_of_ble_eq_true rfl) (Nat.le_of_ble_eq_true rfl) dX12_force_28
    rw [forceM, if_pos (bI_n0.mp c_10), up2_ne (by omega)]; exact ⟨rfl, rfl⟩
def seenM (μ : Mu) (n : Nat) (d : Int32) : Int32 × Mu := if inN d 10 = true then (if n = 8 then (-5, tellM (up2 μ 0 0 0) (-5)) else (nI (n + 1), tellM (up2 (up2 (up2 μ 0 0 0) 2 (41 + n) d) 2 2 (nI (n + 1))) (nI (n + 1)))) else (-1, tellM (up2 μ 0 0 0) (-1))
theorem ct_mseen (hm : Md E h m) (d : Int32) {n : Nat} (hn : μ 2 2 = nI n) (h8 : n ≤ 8) : Ct E 1 0 0 mX12_seen [.ref m, .int d] (mH h m μ l) (po (some (.int (seenM μ n d).1)) (mH h m (seenM μ n d).2 l)) := by
  refine Ct.of (by decide +kernel) (Nat.le_of_ble_eq_true rfl) ?_
  refine r_aload_n (pc := 0) 0 dX12_seen_0 rfl ?_
  refine r_iconst (pc := 1) (0) dX12_seen_1 rfl ?_
  refine q_putI (pc := 2) fp_X12_161 hm dX12_seen_2 ?_
  refine r_iload_n (pc := 5) 1 dX12_seen_5 rfl ?_
  refine r_i2l (pc := 6) dX12_seen_6 ?_
  refine r_lconst (pc := 7) (0) dX12_seen_7 rfl ?_
  refine r_ldc2_w (pc := 8) cs_X12_204 dX12_seen_8 ?_
  refine r_dS (pc := 11) (As := [_, _, _]) ms_X12_in ml_X12_181 (ct_in _ _ _) rfl rfl (Nat.le_of_ble_eq_true rfl) (Nat.le_of_ble_eq_true rfl) (Nat.le_of_ble_eq_true rfl) (Nat.le_of_ble_eq_true rfl) (Nat.le_of_ble_eq_true rfl) dX12_seen_11 ?_
  refine r_if_ne (pc := 14) (tgt := 23) dX12_seen_14 (by decide) (fun c_14 => ?_) (fun c_14 => ?_)
  · rw [show decide _ = inN d 10 from in_lit (b := 9) (n := 9) (by decide)] at c_14
    have e1 : up2 μ 0 0 0 2 2 = nI n := by rw [up2_ne (by omega)]; exact hn
    refine r_aload_n (pc := 23) 0 dX12_seen_23 rfl ?_
    refine q_getR (pc := 24) fl_X12_13 hm (md_f3 hm) dX12_seen_24 ?_
    refine r_iconst (pc := 27) (2) dX12_seen_27 rfl ?_
    refine q_iald (pc := 28) (j := 2) (md_r3 hm) (by decide) rfl (by decide) (by decide) dX12_seen_28 ?_
    refine r_istore_n (pc := 29) (lv' := [(0, _), (1, _), (2, _)]) dX12_seen_29 (Nat.le_of_ble_eq_true rfl) rfl ?_
    rw [e1]
    refine r_iload_n (pc := 30) 2 dX12_seen_30 rfl ?_
    refine r_bipush (pc := 31) (8) dX12_seen_31 rfl ?_
    refine r_icmp_ne (pc := 33) (tgt := 43) dX12_seen_33 (by decide) (fun c_33 => ?_) (fun c_33 => ?_)
    · have hn3 : ¬ n = 8 := fun q => c_33 (by rw [q]; rfl)
      have e2 : up2 (up2 μ 0 0 0) 2 (41 + n) d 2 2 = nI n := by rw [up2_ne (by omega)]; exact e1
      refine r_aload_n (pc := 43) 0 dX12_seen_43 rfl ?_
      refine q_getR (pc := 44) fl_X12_13 hm (md_f3 hm) dX12_seen_44 ?_
      refine r_bipush (pc := 47) (41) dX12_seen_47 rfl ?_
      refine r_iload_n (pc := 49) 2 dX12_seen_49 rfl ?_
      refine r_iadd (pc := 50) dX12_seen_50 ?_
      refine r_iload_n (pc := 51) 1 dX12_seen_51 rfl ?_
      refine q_iast (pc := 52) (j := 41 + n) (md_r3 hm) (by decide) (by simp only [fa_lit, nI_add, nI_mul]) (by omega) (by decide) dX12_seen_52 ?_
      refine r_aload_n (pc := 53) 0 dX12_seen_53 rfl ?_
      refine q_getR (pc := 54) fl_X12_13 hm (md_f3 hm) dX12_seen_54 ?_
      refine r_iconst (pc := 57) (2) dX12_seen_57 rfl ?_
      refine r_dup2_11 (pc := 58) dX12_seen_58 rfl rfl ?_
      refine q_iald (pc := 59) (j := 2) (md_r3 hm) (by decide) rfl (by decide) (by decide) dX12_seen_59 ?_
      refine r_iconst (pc := 60) (1) dX12_seen_60 rfl ?_
      refine r_iadd (pc := 61) dX12_seen_61 ?_
      rw [e2, nI_1]
      refine q_iast (pc := 62) (j := 2) (md_r3 hm) (by decide) rfl (by decide) (by decide) dX12_seen_62 ?_
      refine r_aload_n (pc := 63) 0 dX12_seen_63 rfl ?_
      refine r_iload_n (pc := 64) 2 dX12_seen_64 rfl ?_
      refine r_iconst (pc := 65) (1) dX12_seen_65 rfl ?_
      refine r_iadd (pc := 66) dX12_seen_66 ?_
      rw [nI_1]
      refine r_dV (pc := 67) (As := [_]) mv_X12_tell ml_X12_170 (ct_tell hm _ (t_p (nI_pos' (by omega)))) (q_is hm) rfl rfl (Nat.le_of_ble_eq_true rfl) (Nat.le_of_ble_eq_true rfl) (Nat.le_of_ble_eq_true rfl) (Nat.le_of_ble_eq_true rfl) (Nat.le_of_ble_eq_true rfl) dX12_seen_67 ?_
      refine r_iret (pc := 70) rfl ?_ (Nat.le_of_ble_eq_true rfl) (Nat.le_of_ble_eq_true rfl) dX12_seen_70
      rw [seenM, if_pos (bI_n0.mp c_14), if_neg hn3]
      exact ⟨rfl, rfl⟩
    · have hn3 : n = 8 := (nI_eq (by omega) (by decide)).mp c_33
      refine r_aload_n (pc := 36) 0 dX12_seen_36 rfl ?_
      refine r_bipush (pc := 37) (-5) dX12_seen_37 rfl ?_
      refine r_dV (pc := 39) (As := [_]) mv_X12_tell ml_X12_170 (ct_tell hm _ t_5) (q_is hm) rfl rfl (Nat.le_of_ble_eq_true rfl) (Nat.le_of_ble_eq_true rfl) (Nat.le_of_ble_eq_true rfl) (Nat.le_of_ble_eq_true rfl) (Nat.le_of_ble_eq_true rfl) dX12_seen_39 ?_
      refine r_iret (pc := 42) rfl ?_ (Nat.le_of_ble_eq_true rfl) (Nat.le_of_ble_eq_true rfl) dX12_seen_42
      rw [seenM, if_pos (bI_n0.mp c_14), if_pos hn3]
      exact ⟨rfl, rfl⟩
  · rw [show decide _ = inN d 10 from in_lit (b := 9) (n := 9) (by decide)] at c_14
    refine r_aload_n (pc := 17) 0 dX12_seen_17 rfl ?_
    refine r_iconst (pc := 18) (-1) dX12_seen_18 rfl ?_
    refine r_dV (pc := 19) (As := [_]) mv_X12_tell ml_X12_170 (ct_tell hm _ t_1) (q_is hm) rfl rfl (Nat.le_of_ble_eq_true rfl) (Nat.le_of_ble_eq_true rfl) (Nat.le_of_ble_eq_true rfl) (Nat.le_of_ble_eq_true rfl) (Nat.le_of_ble_eq_true rfl) dX12_seen_19 ?_
    refine r_iret (pc := 22) rfl ?_ (Nat.le_of_ble_eq_true rfl) (Nat.le_of_ble_eq_true rfl) dX12_seen_22
    rw [seenM, if_neg (by rw [bI_0.mp c_14]; decide)]
    exact ⟨rfl, rfl⟩
theorem ct_mforget (hm : Md E h m) : Ct E 0 0 0 mX12_forget [.ref m] (mH h m μ l) (po (some (.int (μ 2 2))) (mH h m (up2 (up2 μ 0 0 0) 2 2 0) l)) := by
  refine Ct.of (by decide +kernel) (Nat.le_of_ble_eq_true rfl) ?_
  refine r_aload_n (pc := 0) 0 dX12_forget_0 rfl ?_
  refine r_iconst (pc := 1) (0) dX12_forget_1 rfl ?_
  refine q_putI (pc := 2) fp_X12_161 hm dX12_forget_2 ?_
  refine r_aload_n (pc := 5) 0 dX12_forget_5 rfl ?_
  refine q_getR (pc := 6) fl_X12_13 hm (md_f3 hm) dX12_forget_6 ?_
  refine r_iconst (pc := 9) (2) dX12_forget_9 rfl ?_
  refine q_iald (pc := 10) (j := 2) (md_r3 hm) (by decide) rfl (by decide) (by decide) dX12_forget_10 ?_
  refine r_istore_n (pc := 11) (lv' := [(0, _), (1, _)]) dX12_forget_11 (Nat.le_of_ble_eq_true rfl) rfl ?_
  refine r_aload_n (pc := 12) 0 dX12_forget_12 rfl ?_
  refine q_getR (pc := 13) fl_X12_13 hm (md_f3 hm) dX12_forget_13 ?_
  refine r_iconst (pc := 16) (2) dX12_forget_16 rfl ?_
  refine r_iconst (pc := 17) (0) dX12_forget_17 rfl ?_
  refine q_iast (pc := 18) (j := 2) (md_r3 hm) (by decide) rfl (by decide) (by decide) dX12_forget_18 ?_
  refine r_iload_n (pc := 19) 1 dX12_forget_19 rfl ?_
  refine r_iret (pc := 20) rfl ?_ (Nat.le_of_ble_eq_true rfl) (Nat.le_of_ble_eq_true rfl) dX12_forget_20
  rw [up2_ne (by omega)]
  exact ⟨rfl, rfl⟩
end MODEL4
