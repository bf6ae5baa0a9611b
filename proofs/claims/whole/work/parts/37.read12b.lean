/-! the reference's reader: words and signs, the pile looked at, brackets, leaves -/
section READ12B
variable {E : En} {h : Hp} {m : Nat} {μ : Mu} {l : La} {n i : Nat} {bd : Bool} {c lv p op : Int32} {O A P T : Nat → Int32}
def tW (t : Tk) (w : Int64) : Bool := decide (t.2.2.1 = 1 ∧ t.2.2.2 = w)
def tS (t : Tk) (x : Int32) : Bool := decide (t.2.2.1 = 3 ∧ t.2.2.2 = x.toInt64)
theorem ct_isW (hm : Md E h m) (w : Int64) : Ct E 0 0 0 mX12_isWord [.ref m, .long w] (mH h m (rM μ n i bd c lv p op O A P T) (rL μ l n i)) (po (some (.int (bI (tW (tk (μ 9) n i) w)))) (mH h m (rM μ n i bd c lv p op O A P T) (rL μ l n i))) := by
  have h1 := ct_isWord (μ := rM μ n i bd c lv p op O A P T) (l := rL μ l n i) hm w
  rw [rL_w, rM_16] at h1
  exact h1
theorem ct_isS (hm : Md E h m) (w : Int32) : Ct E 0 0 0 mX12_isSign [.ref m, .int w] (mH h m (rM μ n i bd c lv p op O A P T) (rL μ l n i)) (po (some (.int (bI (tS (tk (μ 9) n i) w)))) (mH h m (rM μ n i bd c lv p op O A P T) (rL μ l n i))) := by
  have h1 := ct_isSign (μ := rM μ n i bd c lv p op O A P T) (l := rL μ l n i) hm w
  rw [rL_w, rM_16] at h1
  exact h1
theorem tW_n0 {t : Tk} {w : Int64} (ht : tW t w = true) : ¬ t.2.2.1 = 0 := by
  have := (of_decide_eq_true ht).1
  rw [this]; decide
theorem tS_n0 {t : Tk} {w : Int32} (ht : tS t w = true) : ¬ t.2.2.1 = 0 := by
  have := (of_decide_eq_true ht).1
  rw [this]; decide
theorem numB_n0 {t : Tk} {a b : Int64} (ht : numB t a b = true) : ¬ t.2.2.1 = 0 := by
  have := (of_decide_eq_true ht).1
  rw [this]; decide
/-- the innermost bracket that is open -/
def innN (P : Nat → Int32) : Nat → Int32
  | 0 => -1
  | k + 1 => if (31 : Int32) ≤ P k then P k else innN P k
theorem ct_inner (hm : Md E h m) {pp : Nat} (hp : pp ≤ 400) : Ct E 0 0 0 mX12_inner [.ref m] (mH h m (rM μ n i bd c lv (nI pp) op O A P T) (rL μ l n i)) (po (some (.int (innN P pp))) (mH h m (rM μ n i bd c lv (nI pp) op O A P T) (rL μ l n i))) := by
  refine Ct.of (by decide +kernel) (Nat.le_of_ble_eq_true rfl) ?_
  refine r_iconst (pc := 0) (-1) dX12_inner_0 rfl ?_
  refine r_istore_n (pc := 1) (lv' := [(0, _), (1, _)]) dX12_inner_1 (Nat.le_of_ble_eq_true rfl) rfl ?_
  refine r_iconst (pc := 2) (0) dX12_inner_2 rfl ?_
  refine r_istore_n (pc := 3) (lv' := [(0, _), (1, _), (2, _)]) dX12_inner_3 (Nat.le_of_ble_eq_true rfl) rfl ?_
  have loop : ∀ k, k ≤ pp → Wp E mX12_inner (Rm 0 0 0) (Qm E (po (some (.int (innN P pp))) (mH h m (rM μ n i bd c lv (nI pp) op O A P T) (rL μ l n i))) 0 0) 4 [(0, .ref m), (1, .int (innN P k)), (2, .int (nI k))] [] (mH h m (rM μ n i bd c lv (nI pp) op O A P T) (rL μ l n i)) 0 0 := by
    refine upTo (fun k hk ih => ?_) ?_
    · refine r_iload_n (pc := 4) 2 dX12_inner_4 rfl ?_
      refine r_aload_n (pc := 5) 0 dX12_inner_5 rfl ?_
      refine q_getI (pc := 6) fl_X12_300 hm dX12_inner_6 ?_
      refine r_icmp_ge (pc := 9) (tgt := 40) dX12_inner_9 (by decide) (fun c_9 => ?_) (fun c_9 => ?_)
      · rw [rM_29] at c_9
        exact absurd c_9 (nI_ge hk (by omega))
      · refine r_aload_n (pc := 12) 0 dX12_inner_12 rfl ?_
        refine q_getR (pc := 13) fl_X12_51 hm (md_f27 hm) dX12_inner_13 ?_
        refine r_iload_n (pc := 16) 2 dX12_inner_16 rfl ?_
        refine q_iald (pc := 17) (j := k) (md_r27 hm) (by decide) rfl (by omega) (by decide) dX12_inner_17 ?_
        refine r_bipush (pc := 18) (31) dX12_inner_18 rfl ?_
        refine r_icmp_lt (pc := 20) (tgt := 32) dX12_inner_20 (by decide) (fun c_20 => ?_) (fun c_20 => ?_)
        · rw [rM_P] at c_20
          have e9 : innN P (k + 1) = innN P k := by rw [innN, if_neg (Int32.not_le.mpr c_20)]
          rw [e9] at ih
          refine r_iload_n (pc := 32) 1 dX12_inner_32 rfl ?_
          refine r_istore_n (pc := 33) (lv' := [(0, _), (1, _), (2, _)]) dX12_inner_33 (Nat.le_of_ble_eq_true rfl) rfl ?_
          refine r_iinc (pc := 34) (v := _ + (1)) (lv' := [(0, _), (1, _), (2, _)]) 2 dX12_inner_34 rfl rfl (Nat.le_of_ble_eq_true rfl) rfl ?_
          refine r_goto (pc := 37) (tgt := 4) dX12_inner_37 (by decide) ?_
          rw [nI_1]; exact ih
        · rw [rM_P] at c_20
          have e9 : innN P (k + 1) = P k := by rw [innN, if_pos (Int32.not_lt.mp c_20)]
          rw [e9] at ih
          refine r_aload_n (pc := 23) 0 dX12_inner_23 rfl ?_
          refine q_getR (pc := 24) fl_X12_51 hm (md_f27 hm) dX12_inner_24 ?_
          refine r_iload_n (pc := 27) 2 dX12_inner_27 rfl ?_
          refine q_iald (pc := 28) (j := k) (md_r27 hm) (by decide) rfl (by omega) (by decide) dX12_inner_28 ?_
          refine r_goto (pc := 29) (tgt := 33) dX12_inner_29 (by decide) ?_
          refine r_istore_n (pc := 33) (lv' := [(0, _), (1, _), (2, _)]) dX12_inner_33 (Nat.le_of_ble_eq_true rfl) rfl ?_
          refine r_iinc (pc := 34) (v := _ + (1)) (lv' := [(0, _), (1, _), (2, _)]) 2 dX12_inner_34 rfl rfl (Nat.le_of_ble_eq_true rfl) rfl ?_
          refine r_goto (pc := 37) (tgt := 4) dX12_inner_37 (by decide) ?_
          rw [nI_1, rM_P]; exact ih
    · refine r_iload_n (pc := 4) 2 dX12_inner_4 rfl ?_
      refine r_aload_n (pc := 5) 0 dX12_inner_5 rfl ?_
      refine q_getI (pc := 6) fl_X12_300 hm dX12_inner_6 ?_
      refine r_icmp_ge (pc := 9) (tgt := 40) dX12_inner_9 (by decide) (fun c_9 => ?_) (fun c_9 => ?_)
      · refine r_iload_n (pc := 40) 1 dX12_inner_40 rfl ?_
        refine r_iret (pc := 41) rfl ?_ (Nat.le_of_ble_eq_true rfl) (Nat.le_of_ble_eq_true rfl) dX12_inner_41
        exact ⟨rfl, rfl⟩
      · exact absurd (by rw [rM_29]; exact Int32.le_refl _) c_9
  exact loop 0 (by omega)
/-- whether a comparison waits below the sum's own signs -/
def cmpN (P : Nat → Int32) : Nat → Bool
  | 0 => false
  | k + 1 => if (20 : Int32) ≤ P k ∧ P k ≤ 24 then cmpN P k else decide ((25 : Int32) ≤ P k ∧ P k ≤ 27)
theorem in_32 {x a b : Int32} {y z : Int64} (ha : y = a.toInt64) (hb : z = b.toInt64) : decide (y ≤ x.toInt64 ∧ x.toInt64 ≤ z) = decide (a ≤ x ∧ x ≤ b) := by
  congr 1
  rw [ha, hb, fa_le64, fa_le64, fa_le, fa_le, Int32.toInt_toInt64, Int32.toInt_toInt64, Int32.toInt_toInt64]
theorem ct_isCompared (hm : Md E h m) {pp : Nat} (hp : pp ≤ 400) : Ct E 1 0 0 mX12_isCompared [.ref m] (mH h m (rM μ n i bd c lv (nI pp) op O A P T) (rL μ l n i)) (po (some (.int (bI (cmpN P pp)))) (mH h m (rM μ n i bd c lv (nI pp) op O A P T) (rL μ l n i))) := by
  refine Ct.of (by decide +kernel) (Nat.le_of_ble_eq_true rfl) ?_
  refine r_aload_n (pc := 0) 0 dX12_isCompared_0 rfl ?_
  refine q_getI (pc := 1) fl_X12_300 hm dX12_isCompared_1 ?_
  refine r_iconst (pc := 4) (1) dX12_isCompared_4 rfl ?_
  refine r_isub (pc := 5) dX12_isCompared_5 ?_
  refine r_istore_n (pc := 6) (lv' := [(0, _), (1, _)]) dX12_isCompared_6 (Nat.le_of_ble_eq_true rfl) rfl ?_
  rw [rM_29]
  have loop : ∀ k, k ≤ pp → cmpN P k = cmpN P pp → Wp E mX12_isCompared (Rm 1 0 0) (Qm E (po (some (.int (bI (cmpN P pp)))) (mH h m (rM μ n i bd c lv (nI pp) op O A P T) (rL μ l n i))) 0 0) 7 [(0, .ref m), (1, .int (nI k - 1))] [] (mH h m (rM μ n i bd c lv (nI pp) op O A P T) (rL μ l n i)) 0 0 := by
    intro k
    induction k with
    | zero =>
      intro _ e
      rw [← e]
      refine r_iload_n (pc := 7) 1 dX12_isCompared_7 rfl ?_
      refine r_if_lt (pc := 8) (tgt := 36) dX12_isCompared_8 (by decide) (fun c_8 => ?_) (fun c_8 => ?_)
      · refine r_iload_n (pc := 36) 1 dX12_isCompared_36 rfl ?_
        refine r_if_lt (pc := 37) (tgt := 63) dX12_isCompared_37 (by decide) (fun c_37 => ?_) (fun c_37 => ?_)
        · refine r_iconst (pc := 63) (0) dX12_isCompared_63 rfl ?_
          refine r_zret (pc := 64) rfl (by decide) ?_ (Nat.le_of_ble_eq_true rfl) (Nat.le_of_ble_eq_true rfl) dX12_isCompared_64
          exact ⟨rfl, rfl⟩
        · exact absurd c_8 c_37
      · exact absurd (by decide) c_8
    | succ k IH =>
      intro hk e
      rw [show nI (k + 1) - 1 = nI k from nI_sub (a := k + 1) (b := 1) (by omega)]
      refine r_iload_n (pc := 7) 1 dX12_isCompared_7 rfl ?_
      refine r_if_lt (pc := 8) (tgt := 36) dX12_isCompared_8 (by decide) (fun c_8 => ?_) (fun c_8 => ?_)
      · exact absurd c_8 (nI_pos (by omega))
      · refine r_aload_n (pc := 11) 0 dX12_isCompared_11 rfl ?_
        refine q_getR (pc := 12) fl_X12_51 hm (md_f27 hm) dX12_isCompared_12 ?_
        refine r_iload_n (pc := 15) 1 dX12_isCompared_15 rfl ?_
        refine q_iald (pc := 16) (j := k) (md_r27 hm) (by decide) rfl (by omega) (by decide) dX12_isCompared_16 ?_
        refine r_i2l (pc := 17) dX12_isCompared_17 ?_
        refine r_ldc2_w (pc := 18) cs_X12_310 dX12_isCompared_18 ?_
        refine r_ldc2_w (pc := 21) cs_X12_312 dX12_isCompared_21 ?_
        refine r_dS (pc := 24) (As := [_, _, _]) ms_X12_in ml_X12_181 (ct_in _ _ _) rfl rfl (Nat.le_of_ble_eq_true rfl) (Nat.le_of_ble_eq_true rfl) (Nat.le_of_ble_eq_true rfl) (Nat.le_of_ble_eq_true rfl) (Nat.le_of_ble_eq_true rfl) dX12_isCompared_24 ?_
        refine r_if_eq (pc := 27) (tgt := 36) dX12_isCompared_27 (by decide) (fun c_27 => ?_) (fun c_27 => ?_)
        · rw [rM_P, in_32 (a := 20) (b := 24) (by decide) (by decide)] at c_27
          have hno := of_decide_eq_false (bI_0.mp c_27)
          rw [cmpN, if_neg hno] at e
          rw [← e]
          refine r_iload_n (pc := 36) 1 dX12_isCompared_36 rfl ?_
          refine r_if_lt (pc := 37) (tgt := 63) dX12_isCompared_37 (by decide) (fun c_37 => ?_) (fun c_37 => ?_)
          · exact absurd c_37 c_8
          · refine r_aload_n (pc := 40) 0 dX12_isCompared_40 rfl ?_
            refine q_getR (pc := 41) fl_X12_51 hm (md_f27 hm) dX12_isCompared_41 ?_
            refine r_iload_n (pc := 44) 1 dX12_isCompared_44 rfl ?_
            refine q_iald (pc := 45) (j := k) (md_r27 hm) (by decide) rfl (by omega) (by decide) dX12_isCompared_45 ?_
            refine r_i2l (pc := 46) dX12_isCompared_46 ?_
            refine r_ldc2_w (pc := 47) cs_X12_314 dX12_isCompared_47 ?_
            refine r_ldc2_w (pc := 50) cs_X12_316 dX12_isCompared_50 ?_
            refine r_dS (pc := 53) (As := [_, _, _]) ms_X12_in ml_X12_181 (ct_in _ _ _) rfl rfl (Nat.le_of_ble_eq_true rfl) (Nat.le_of_ble_eq_true rfl) (Nat.le_of_ble_eq_true rfl) (Nat.le_of_ble_eq_true rfl) (Nat.le_of_ble_eq_true rfl) dX12_isCompared_53 ?_
            refine r_if_eq (pc := 56) (tgt := 63) dX12_isCompared_56 (by decide) (fun c_56 => ?_) (fun c_56 => ?_)
            · rw [rM_P, in_32 (a := 25) (b := 27) (by decide) (by decide)] at c_56
              refine r_iconst (pc := 63) (0) dX12_isCompared_63 rfl ?_
              refine r_zret (pc := 64) rfl (by decide) ?_ (Nat.le_of_ble_eq_true rfl) (Nat.le_of_ble_eq_true rfl) dX12_isCompared_64
              exact ⟨by rw [bI_0.mp c_56]; rfl, rfl⟩
            · rw [rM_P, in_32 (a := 25) (b := 27) (by decide) (by decide)] at c_56
              refine r_iconst (pc := 59) (1) dX12_isCompared_59 rfl ?_
              refine r_goto (pc := 60) (tgt := 64) dX12_isCompared_60 (by decide) ?_
              refine r_zret (pc := 64) rfl (by decide) ?_ (Nat.le_of_ble_eq_true rfl) (Nat.le_of_ble_eq_true rfl) dX12_isCompared_64
              exact ⟨by rw [bI_n0.mp c_56]; rfl, rfl⟩
        · rw [rM_P, in_32 (a := 20) (b := 24) (by decide) (by decide)] at c_27
          have hy := of_decide_eq_true (bI_n0.mp c_27)
          rw [cmpN, if_pos hy] at e
          refine r_iinc (pc := 30) (v := _ + (-1)) (lv' := [(0, _), (1, _)]) 1 dX12_isCompared_30 rfl rfl (Nat.le_of_ble_eq_true rfl) rfl ?_
          refine r_goto (pc := 33) (tgt := 7) dX12_isCompared_33 (by decide) ?_
          rw [isub_m1]
          exact IH (by omega) e
  exact loop pp (Nat.le_refl _) rfl
/-- which word of a list a token is, counted from 1; none: -1 -/
def ptN (w : Nat → Int64) (t : Tk) : Nat → Int32
  | 0 => -1
  | k + 1 => if tW t (w k) = true then nI (k + 1) else ptN w t k
theorem ct_partAt (hm : Md E h m) : Ct E 1 0 0 mX12_partAt [.ref m] (mH h m (rM μ n i bd c lv p op O A P T) (rL μ l n i)) (po (some (.int (ptN (l 15) (tk (μ 9) n i) 8))) (mH h m (rM μ n i bd c lv p op O A P T) (rL μ l n i))) := by
  refine Ct.of (by decide +kernel) (Nat.le_of_ble_eq_true rfl) ?_
  refine r_iconst (pc := 0) (-1) dX12_partAt_0 rfl ?_
  refine r_istore_n (pc := 1) (lv' := [(0, _), (1, _)]) dX12_partAt_1 (Nat.le_of_ble_eq_true rfl) rfl ?_
  refine r_iconst (pc := 2) (0) dX12_partAt_2 rfl ?_
  refine r_istore_n (pc := 3) (lv' := [(0, _), (1, _), (2, _)]) dX12_partAt_3 (Nat.le_of_ble_eq_true rfl) rfl ?_
  have loop : ∀ k, k ≤ 8 → Wp E mX12_partAt (Rm 1 0 0) (Qm E (po (some (.int (ptN (l 15) (tk (μ 9) n i) 8))) (mH h m (rM μ n i bd c lv p op O A P T) (rL μ l n i))) 0 0) 4 [(0, .ref m), (1, .int (ptN (l 15) (tk (μ 9) n i) k)), (2, .int (nI k))] [] (mH h m (rM μ n i bd c lv p op O A P T) (rL μ l n i)) 0 0 := by
    refine upTo (fun k hk ih => ?_) ?_
    · refine r_iload_n (pc := 4) 2 dX12_partAt_4 rfl ?_
      refine r_bipush (pc := 5) (8) dX12_partAt_5 rfl ?_
      refine r_icmp_ge (pc := 7) (tgt := 37) dX12_partAt_7 (by decide) (fun c_7 => ?_) (fun c_7 => ?_)
      · exact absurd c_7 (nI_ge (b := 8) hk (by decide))
      · refine r_aload_n (pc := 10) 0 dX12_partAt_10 rfl ?_
        refine r_aload_n (pc := 11) 0 dX12_partAt_11 rfl ?_
        refine q_getR (pc := 12) fl_X12_73 hm (md_f31 hm) dX12_partAt_12 ?_
        refine r_iload_n (pc := 15) 2 dX12_partAt_15 rfl ?_
        refine q_lald (pc := 16) (j := k) (md_r31 hm) (by decide) rfl (by omega) (by decide) dX12_partAt_16 ?_
        refine r_dV (pc := 17) (As := [_]) mv_X12_isWord ml_X12_318 (ct_isW hm _) (q_is hm) rfl rfl (Nat.le_of_ble_eq_true rfl) (Nat.le_of_ble_eq_true rfl) (Nat.le_of_ble_eq_true rfl) (Nat.le_of_ble_eq_true rfl) (Nat.le_of_ble_eq_true rfl) dX12_partAt_17 ?_
        refine r_if_eq (pc := 20) (tgt := 29) dX12_partAt_20 (by decide) (fun c_20 => ?_) (fun c_20 => ?_)
        · rw [rL_o (by decide)] at c_20
          have e9 : ptN (l 15) (tk (μ 9) n i) (k + 1) = ptN (l 15) (tk (μ 9) n i) k := by rw [ptN, if_neg (by rw [bI_0.mp c_20]; decide)]
          rw [e9] at ih
          refine r_iload_n (pc := 29) 1 dX12_partAt_29 rfl ?_
          refine r_istore_n (pc := 30) (lv' := [(0, _), (1, _), (2, _)]) dX12_partAt_30 (Nat.le_of_ble_eq_true rfl) rfl ?_
          refine r_iinc (pc := 31) (v := _ + (1)) (lv' := [(0, _), (1, _), (2, _)]) 2 dX12_partAt_31 rfl rfl (Nat.le_of_ble_eq_true rfl) rfl ?_
          refine r_goto (pc := 34) (tgt := 4) dX12_partAt_34 (by decide) ?_
          rw [nI_1]; exact ih
        · rw [rL_o (by decide)] at c_20
          have e9 : ptN (l 15) (tk (μ 9) n i) (k + 1) = nI (k + 1) := by rw [ptN, if_pos (bI_n0.mp c_20)]
          rw [e9] at ih
          refine r_iload_n (pc := 23) 2 dX12_partAt_23 rfl ?_
          refine r_iconst (pc := 24) (1) dX12_partAt_24 rfl ?_
          refine r_iadd (pc := 25) dX12_partAt_25 ?_
          refine r_goto (pc := 26) (tgt := 30) dX12_partAt_26 (by decide) ?_
          refine r_istore_n (pc := 30) (lv' := [(0, _), (1, _), (2, _)]) dX12_partAt_30 (Nat.le_of_ble_eq_true rfl) rfl ?_
          refine r_iinc (pc := 31) (v := _ + (1)) (lv' := [(0, _), (1, _), (2, _)]) 2 dX12_partAt_31 rfl rfl (Nat.le_of_ble_eq_true rfl) rfl ?_
          refine r_goto (pc := 34) (tgt := 4) dX12_partAt_34 (by decide) ?_
          rw [nI_1]; exact ih
    · refine r_iload_n (pc := 4) 2 dX12_partAt_4 rfl ?_
      refine r_bipush (pc := 5) (8) dX12_partAt_5 rfl ?_
      refine r_icmp_ge (pc := 7) (tgt := 37) dX12_partAt_7 (by decide) (fun c_7 => ?_) (fun c_7 => ?_)
      · refine r_iload_n (pc := 37) 1 dX12_partAt_37 rfl ?_
        refine r_iret (pc := 38) rfl ?_ (Nat.le_of_ble_eq_true rfl) (Nat.le_of_ble_eq_true rfl) dX12_partAt_38
        exact ⟨rfl, rfl⟩
      · exact absurd (show (8 : Int32) ≤ nI 8 by decide) c_7
  exact loop 0 (by omega)
theorem ct_orderPartAt (hm : Md E h m) : Ct E 1 0 0 mX12_orderPartAt [.ref m] (mH h m (rM μ n i bd c lv p op O A P T) (rL μ l n i)) (po (some (.int (ptN (l 16) (tk (μ 9) n i) 7))) (mH h m (rM μ n i bd c lv p op O A P T) (rL μ l n i))) := by
  refine Ct.of (by decide +kernel) (Nat.le_of_ble_eq_true rfl) ?_
  refine r_iconst (pc := 0) (-1) dX12_orderPartAt_0 rfl ?_
  refine r_istore_n (pc := 1) (lv' := [(0, _), (1, _)]) dX12_orderPartAt_1 (Nat.le_of_ble_eq_true rfl) rfl ?_
  refine r_iconst (pc := 2) (0) dX12_orderPartAt_2 rfl ?_
  refine r_istore_n (pc := 3) (lv' := [(0, _), (1, _), (2, _)]) dX12_orderPartAt_3 (Nat.le_of_ble_eq_true rfl) rfl ?_
  have loop : ∀ k, k ≤ 7 → Wp E mX12_orderPartAt (Rm 1 0 0) (Qm E (po (some (.int (ptN (l 16) (tk (μ 9) n i) 7))) (mH h m (rM μ n i bd c lv p op O A P T) (rL μ l n i))) 0 0) 4 [(0, .ref m), (1, .int (ptN (l 16) (tk (μ 9) n i) k)), (2, .int (nI k))] [] (mH h m (rM μ n i bd c lv p op O A P T) (rL μ l n i)) 0 0 := by
    refine upTo (fun k hk ih => ?_) ?_
    · refine r_iload_n (pc := 4) 2 dX12_orderPartAt_4 rfl ?_
      refine r_bipush (pc := 5) (7) dX12_orderPartAt_5 rfl ?_
      refine r_icmp_ge (pc := 7) (tgt := 37) dX12_orderPartAt_7 (by decide) (fun c_7 => ?_) (fun c_7 => ?_)
      · exact absurd c_7 (nI_ge (b := 7) hk (by decide))
      · refine r_aload_n (pc := 10) 0 dX12_orderPartAt_10 rfl ?_
        refine r_aload_n (pc := 11) 0 dX12_orderPartAt_11 rfl ?_
        refine q_getR (pc := 12) fl_X12_85 hm (md_f32 hm) dX12_orderPartAt_12 ?_
        refine r_iload_n (pc := 15) 2 dX12_orderPartAt_15 rfl ?_
        refine q_lald (pc := 16) (j := k) (md_r32 hm) (by decide) rfl (by omega) (by decide) dX12_orderPartAt_16 ?_
        refine r_dV (pc := 17) (As := [_]) mv_X12_isWord ml_X12_318 (ct_isW hm _) (q_is hm) rfl rfl (Nat.le_of_ble_eq_true rfl) (Nat.le_of_ble_eq_true rfl) (Nat.le_of_ble_eq_true rfl) (Nat.le_of_ble_eq_true rfl) (Nat.le_of_ble_eq_true rfl) dX12_orderPartAt_17 ?_
        refine r_if_eq (pc := 20) (tgt := 29) dX12_orderPartAt_20 (by decide) (fun c_20 => ?_) (fun c_20 => ?_)
        · rw [rL_o (by decide)] at c_20
          have e9 : ptN (l 16) (tk (μ 9) n i) (k + 1) = ptN (l 16) (tk (μ 9) n i) k := by rw [ptN, if_neg (by rw [bI_0.mp c_20]; decide)]
          rw [e9] at ih
          refine r_iload_n (pc := 29) 1 dX12_orderPartAt_29 rfl ?_
          refine r_istore_n (pc := 30) (lv' := [(0, _), (1, _), (2, _)]) dX12_orderPartAt_30 (Nat.le_of_ble_eq_true rfl) rfl ?_
          refine r_iinc (pc := 31) (v := _ + (1)) (lv' := [(0, _), (1, _), (2, _)]) 2 dX12_orderPartAt_31 rfl rfl (Nat.le_of_ble_eq_true rfl) rfl ?_
          refine r_goto (pc := 34) (tgt := 4) dX12_orderPartAt_34 (by decide) ?_
          rw [nI_1]; exact ih
        · rw [rL_o (by decide)] at c_20
          have e9 : ptN (l 16) (tk (μ 9) n i) (k + 1) = nI (k + 1) := by rw [ptN, if_pos (bI_n0.mp c_20)]
          rw [e9] at ih
          refine r_iload_n (pc := 23) 2 dX12_orderPartAt_23 rfl ?_
          refine r_iconst (pc := 24) (1) dX12_orderPartAt_24 rfl ?_
          refine r_iadd (pc := 25) dX12_orderPartAt_25 ?_
          refine r_goto (pc := 26) (tgt := 30) dX12_orderPartAt_26 (by decide) ?_
          refine r_istore_n (pc := 30) (lv' := [(0, _), (1, _), (2, _)]) dX12_orderPartAt_30 (Nat.le_of_ble_eq_true rfl) rfl ?_
          refine r_iinc (pc := 31) (v := _ + (1)) (lv' := [(0, _), (1, _), (2, _)]) 2 dX12_orderPartAt_31 rfl rfl (Nat.le_of_ble_eq_true rfl) rfl ?_
          refine r_goto (pc := 34) (tgt := 4) dX12_orderPartAt_34 (by decide) ?_
          rw [nI_1]; exact ih
    · refine r_iload_n (pc := 4) 2 dX12_orderPartAt_4 rfl ?_
      refine r_bipush (pc := 5) (7) dX12_orderPartAt_5 rfl ?_
      refine r_icmp_ge (pc := 7) (tgt := 37) dX12_orderPartAt_7 (by decide) (fun c_7 => ?_) (fun c_7 => ?_)
      · refine r_iload_n (pc := 37) 1 dX12_orderPartAt_37 rfl ?_
        refine r_iret (pc := 38) rfl ?_ (Nat.le_of_ble_eq_true rfl) (Nat.le_of_ble_eq_true rfl) dX12_orderPartAt_38
        exact ⟨rfl, rfl⟩
      · exact absurd (show (7 : Int32) ≤ nI 7 by decide) c_7
  exact loop 0 (by omega)
/-- a bracket opens -/
theorem ct_openBracket (hm : Md E h m) (hn : μ 0 13 = nI n) (h4 : n ≤ 400) (x : Int32) {pp oo : Nat} (hp : pp < 400) (ho : oo ≤ 8) : Ct E 3 0 0 mX12_openBracket [.ref m, .int x] (mH h m (rM μ n i false c lv (nI pp) (nI oo) O A P T) (rL μ l n i)) (po none (mH h m (if oo < 8 then rM μ n (i + 1) false c lv (nI (pp + 1)) (nI (oo + 1)) O A (va_up P pp x) (va_up T pp 0) else rM μ n i true c lv (nI pp) (nI oo) O A P T) (rL μ l n (if oo < 8 then i + 1 else i)))) := by
  refine Ct.of (by decide +kernel) (Nat.le_of_ble_eq_true rfl) ?_
  refine r_aload_n (pc := 0) 0 dX12_openBracket_0 rfl ?_
  refine r_aload_n (pc := 1) 0 dX12_openBracket_1 rfl ?_
  refine q_getI (pc := 2) fl_X12_322 hm dX12_openBracket_2 ?_
  refine r_bipush (pc := 5) (8) dX12_openBracket_5 rfl ?_
  refine r_icmp_ge (pc := 7) (tgt := 14) dX12_openBracket_7 (by decide) (fun c_7 => ?_) (fun c_7 => ?_)
  · rw [rM_30] at c_7
    have h8 : ¬ oo < 8 := fun z => nI_ge (a := oo) (b := 8) z (by decide) c_7
    refine r_iconst (pc := 14) (0) dX12_openBracket_14 rfl ?_
    refine r_dV0 (pc := 15) (As := [_]) mv_X12_must ml_X12_293 (ct_must (q := false) hm hn h4) (q_is hm) rfl rfl (Nat.le_of_ble_eq_true rfl) (Nat.le_of_ble_eq_true rfl) (Nat.le_of_ble_eq_true rfl) (Nat.le_of_ble_eq_true rfl) (Nat.le_of_ble_eq_true rfl) dX12_openBracket_15 ?_
    refine r_aload_n (pc := 18) 0 dX12_openBracket_18 rfl ?_
    refine q_getI (pc := 19) fl_X12_260 hm dX12_openBracket_19 ?_
    refine r_if_ne (pc := 22) (tgt := 41) dX12_openBracket_22 (by decide) (fun c_22 => ?_) (fun c_22 => ?_)
    · refine r_vret (pc := 41) rfl ?_ (Nat.le_of_ble_eq_true rfl) (Nat.le_of_ble_eq_true rfl) dX12_openBracket_41
      rw [if_neg h8, if_neg h8]
      exact ⟨rfl, rfl⟩
    · exact absurd (show bI true = 0 from c_22) (by decide)
  · rw [rM_30] at c_7
    have h8 : oo < 8 := Nat.not_le.mp (fun z => c_7 (nI_le (a := 8) (b := oo) z (by omega)))
    refine r_iconst (pc := 10) (1) dX12_openBracket_10 rfl ?_
    refine r_goto (pc := 11) (tgt := 15) dX12_openBracket_11 (by decide) ?_
    refine r_dV0 (pc := 15) (As := [_]) mv_X12_must ml_X12_293 (ct_must (q := true) hm hn h4) (q_is hm) rfl rfl (Nat.le_of_ble_eq_true rfl) (Nat.le_of_ble_eq_true rfl) (Nat.le_of_ble_eq_true rfl) (Nat.le_of_ble_eq_true rfl) (Nat.le_of_ble_eq_true rfl) dX12_openBracket_15 ?_
    refine r_aload_n (pc := 18) 0 dX12_openBracket_18 rfl ?_
    refine q_getI (pc := 19) fl_X12_260 hm dX12_openBracket_19 ?_
    refine r_if_ne (pc := 22) (tgt := 41) dX12_openBracket_22 (by decide) (fun c_22 => ?_) (fun c_22 => ?_)
    · exact absurd rfl c_22
    · have eS : mustS i false true = (i + 1, false) := rfl
      rw [eS]
      refine r_aload_n (pc := 25) 0 dX12_openBracket_25 rfl ?_
      refine r_dup (pc := 26) dX12_openBracket_26 rfl ?_
      refine q_getI (pc := 27) fl_X12_322 hm dX12_openBracket_27 ?_
      refine r_iconst (pc := 30) (1) dX12_openBracket_30 rfl ?_
      refine r_iadd (pc := 31) dX12_openBracket_31 ?_
      refine q_putI (pc := 32) fp_X12_322 hm dX12_openBracket_32 ?_
      rw [rM_30, nI_1, rM_uo]
      refine r_aload_n (pc := 35) 0 dX12_openBracket_35 rfl ?_
      refine r_iload_n (pc := 36) 1 dX12_openBracket_36 rfl ?_
      refine r_iconst (pc := 37) (0) dX12_openBracket_37 rfl ?_
      refine r_dV0 (pc := 38) (As := [_, _]) mv_X12_push ml_X12_325 (ct_push hm _ _ hp) (q_is hm) rfl rfl (Nat.le_of_ble_eq_true rfl) (Nat.le_of_ble_eq_true rfl) (Nat.le_of_ble_eq_true rfl) (Nat.le_of_ble_eq_true rfl) (Nat.le_of_ble_eq_true rfl) dX12_openBracket_38 ?_
      refine r_vret (pc := 41) rfl ?_ (Nat.le_of_ble_eq_true rfl) (Nat.le_of_ble_eq_true rfl) dX12_openBracket_41
      rw [if_pos h8, if_pos h8]
      exact ⟨rfl, rfl⟩
/-- a leaf -/
theorem ct_leaf (hm : Md E h m) (hn : μ 0 13 = nI n) (h4 : n ≤ 400) (q : Bool) (x y : Int32) {cc ll : Nat} (hc : q = true → cc < 400) (hl : ll ≤ 50) : Ct E 3 0 0 mX12_leaf [.ref m, .int (bI q), .int x, .int y] (mH h m (rM μ n i false (nI cc) (nI ll) p op O A P T) (rL μ l n i)) (po none (mH h m (if q = true ∧ ll < 50 then rM μ n (i + 1) false (nI (cc + 1)) (nI (ll + 1)) p op (va_up O cc x) (va_up A cc y) P T else rM μ n i true (nI cc) (nI ll) p op O A P T) (rL μ l n (if q = true ∧ ll < 50 then i + 1 else i)))) := by
  refine Ct.of (by decide +kernel) (Nat.le_of_ble_eq_true rfl) ?_
  have no : ¬ (q = true ∧ ll < 50) → Wp E mX12_leaf (Rm 3 0 0) (Qm E (po none (mH h m (if q = true ∧ ll < 50 then rM μ n (i + 1) false (nI (cc + 1)) (nI (ll + 1)) p op (va_up O cc x) (va_up A cc y) P T else rM μ n i true (nI cc) (nI ll) p op O A P T) (rL μ l n (if q = true ∧ ll < 50 then i + 1 else i)))) 0 0) 18 [(0, .ref m), (1, .int (bI q)), (2, .int x), (3, .int y)] [.ref m] (mH h m (rM μ n i false (nI cc) (nI ll) p op O A P T) (rL μ l n i)) 0 0 := by
    intro hno
    rw [if_neg hno, if_neg hno]
    refine r_iconst (pc := 18) (0) dX12_leaf_18 rfl ?_
    refine r_dV0 (pc := 19) (As := [_]) mv_X12_must ml_X12_293 (ct_must (q := false) hm hn h4) (q_is hm) rfl rfl (Nat.le_of_ble_eq_true rfl) (Nat.le_of_ble_eq_true rfl) (Nat.le_of_ble_eq_true rfl) (Nat.le_of_ble_eq_true rfl) (Nat.le_of_ble_eq_true rfl) dX12_leaf_19 ?_
    refine r_aload_n (pc := 22) 0 dX12_leaf_22 rfl ?_
    refine q_getI (pc := 23) fl_X12_260 hm dX12_leaf_23 ?_
    refine r_if_ne (pc := 26) (tgt := 45) dX12_leaf_26 (by decide) (fun c_26 => ?_) (fun c_26 => ?_)
    · refine r_vret (pc := 45) rfl ?_ (Nat.le_of_ble_eq_true rfl) (Nat.le_of_ble_eq_true rfl) dX12_leaf_45
      exact ⟨rfl, rfl⟩
    · exact absurd (show bI true = 0 from c_26) (by decide)
  refine r_aload_n (pc := 0) 0 dX12_leaf_0 rfl ?_
  refine r_iload_n (pc := 1) 1 dX12_leaf_1 rfl ?_
  refine r_if_eq (pc := 2) (tgt := 18) dX12_leaf_2 (by decide) (fun c_2 => ?_) (fun c_2 => ?_)
  · exact no (fun z => by rw [bI_0.mp c_2] at z; exact absurd z.1 (by decide))
  · refine r_aload_n (pc := 5) 0 dX12_leaf_5 rfl ?_
    refine q_getI (pc := 6) fl_X12_328 hm dX12_leaf_6 ?_
    refine r_bipush (pc := 9) (50) dX12_leaf_9 rfl ?_
    refine r_icmp_ge (pc := 11) (tgt := 18) dX12_leaf_11 (by decide) (fun c_11 => ?_) (fun c_11 => ?_)
    · rw [rM_26] at c_11
      exact no (fun z => nI_ge (a := ll) (b := 50) z.2 (by decide) c_11)
    · rw [rM_26] at c_11
      have h5 : ll < 50 := Nat.not_le.mp (fun z => c_11 (nI_le (a := 50) (b := ll) z (by omega)))
      have hy : q = true ∧ ll < 50 := ⟨bI_n0.mp c_2, h5⟩
      rw [if_pos hy, if_pos hy]
      refine r_iconst (pc := 14) (1) dX12_leaf_14 rfl ?_
      refine r_goto (pc := 15) (tgt := 19) dX12_leaf_15 (by decide) ?_
      refine r_dV0 (pc := 19) (As := [_]) mv_X12_must ml_X12_293 (ct_must (q := true) hm hn h4) (q_is hm) rfl rfl (Nat.le_of_ble_eq_true rfl) (Nat.le_of_ble_eq_true rfl) (Nat.le_of_ble_eq_true rfl) (Nat.le_of_ble_eq_true rfl) (Nat.le_of_ble_eq_true rfl) dX12_leaf_19 ?_
      refine r_aload_n (pc := 22) 0 dX12_leaf_22 rfl ?_
      refine q_getI (pc := 23) fl_X12_260 hm dX12_leaf_23 ?_
      refine r_if_ne (pc := 26) (tgt := 45) dX12_leaf_26 (by decide) (fun c_26 => ?_) (fun c_26 => ?_)
      · exact absurd rfl c_26
      · have eS : mustS i false true = (i + 1, false) := rfl
        rw [eS]
        refine r_aload_n (pc := 29) 0 dX12_leaf_29 rfl ?_
        refine r_iload_n (pc := 30) 2 dX12_leaf_30 rfl ?_
        refine r_iload_n (pc := 31) 3 dX12_leaf_31 rfl ?_
        refine r_dV0 (pc := 32) (As := [_, _]) mv_X12_emit ml_X12_306 (ct_emit hm _ _ (hc hy.1)) (q_is hm) rfl rfl (Nat.le_of_ble_eq_true rfl) (Nat.le_of_ble_eq_true rfl) (Nat.le_of_ble_eq_true rfl) (Nat.le_of_ble_eq_true rfl) (Nat.le_of_ble_eq_true rfl) dX12_leaf_32 ?_
        refine r_aload_n (pc := 35) 0 dX12_leaf_35 rfl ?_
        refine r_dup (pc := 36) dX12_leaf_36 rfl ?_
        refine q_getI (pc := 37) fl_X12_328 hm dX12_leaf_37 ?_
        refine r_iconst (pc := 40) (1) dX12_leaf_40 rfl ?_
        refine r_iadd (pc := 41) dX12_leaf_41 ?_
        refine q_putI (pc := 42) fp_X12_328 hm dX12_leaf_42 ?_
        refine r_vret (pc := 45) rfl ?_ (Nat.le_of_ble_eq_true rfl) (Nat.le_of_ble_eq_true rfl) dX12_leaf_45
        rw [rM_26, nI_1, rM_ul]
        exact ⟨rfl, rfl⟩
end READ12B
