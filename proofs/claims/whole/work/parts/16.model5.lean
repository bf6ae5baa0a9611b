/-! the reference: a row of the tape, images, what was drawn, counts -/
section MODEL5
variable {E : En} {h : Hp} {m : Nat} {μ : Mu} {l : La}
def cntF (μ : Mu) : Nat := (μ 2 0).toNatClampNeg
/-- one of a row: three bytes from 3 i on, of t -/
def rowS (t i : Nat) (s : Int32 × Mu) : Int32 × Mu :=
  if 3 * i + 2 < t ∧ 0 ≤ comeB (cntF s.2) (s.2 9 (3 * i)) (s.2 9 (3 * i + 1)) (s.2 9 (3 * i + 2)) then (s.1 + 1, comeM s.2 (cntF s.2) (s.2 9 (3 * i)) (s.2 9 (3 * i + 1)) (s.2 9 (3 * i + 2)))
  else (s.1, up2 s.2 0 11 (s.2 0 11 + 1))
def rowN (t : Nat) (s : Int32 × Mu) : Nat → Int32 × Mu
  | 0 => s
  | i + 1 => rowS t i (rowN t s i)
def rowM (μ : Mu) (t : Nat) : Int32 × Mu := if t = 0 then (-6, tellM (up2 (up2 μ 0 0 0) 0 13 0) (-6)) else ((rowN t (0, up2 (up2 (up2 μ 0 0 0) 0 13 0) 0 11 0) ((t + 2) / 3)).1, settledM (rowN t (0, up2 (up2 (up2 μ 0 0 0) 0 13 0) 0 11 0) ((t + 2) / 3)).2 (rowN t (0, up2 (up2 (up2 μ 0 0 0) 0 13 0) 0 11 0) ((t + 2) / 3)).1)
theorem comeM_cnt {ν : Mu} {n : Nat} {a b c : Int32} (hn : ν 2 0 = nI n) (h6 : n ≤ 6) : ∃ n', n' ≤ 6 ∧ comeM ν n a b c 2 0 = nI n' := by
  unfold comeM
  split
  · next hq =>
    refine ⟨n + 1, ?_, up2_at⟩
    unfold comeB at hq
    split at hq
    · split at hq
      · exact absurd hq (by decide)
      · omega
    · exact absurd hq (by decide)
  · exact ⟨n, h6, hn⟩
theorem comeM_no {ν : Mu} {n : Nat} {a b c : Int32} (hq : comeB n a b c < 0) : comeM ν n a b c = ν := by
  unfold comeM; rw [if_neg (Int32.not_le.mpr hq)]
theorem cnt_of {ν : Mu} {n : Nat} (hn : ν 2 0 = nI n) (h6 : n ≤ 6) : cntF ν = n := by unfold cntF; rw [hn, nI_clamp (by omega)]
theorem rowS_ok {t i : Nat} {s : Int32 × Mu} (hc : ∃ n, n ≤ 6 ∧ s.2 2 0 = nI n) (hp : ∃ j, j ≤ i ∧ s.1 = nI j) : (∃ n, n ≤ 6 ∧ (rowS t i s).2 2 0 = nI n) ∧ ∃ j, j ≤ i + 1 ∧ (rowS t i s).1 = nI j := by
  obtain ⟨n, h6, hn⟩ := hc
  obtain ⟨j, hj, e⟩ := hp
  unfold rowS
  split
  · refine ⟨?_, j + 1, by omega, by rw [e, nI_1]⟩
    rw [cnt_of hn h6]
    exact comeM_cnt hn h6
  · exact ⟨⟨n, h6, by show up2 s.2 0 11 (s.2 0 11 + 1) 2 0 = _; rw [up2_ne (by omega)]; exact hn⟩, j, by omega, e⟩
theorem rowN_ok {t : Nat} {s : Int32 × Mu} (hc : ∃ n, n ≤ 6 ∧ s.2 2 0 = nI n) (hp : s.1 = 0) : ∀ i, (∃ n, n ≤ 6 ∧ (rowN t s i).2 2 0 = nI n) ∧ ∃ j, j ≤ i ∧ (rowN t s i).1 = nI j
  | 0 => ⟨hc, 0, Nat.le_refl 0, hp⟩
  | i + 1 => rowS_ok (rowN_ok hc hp i).1 (rowN_ok hc hp i).2
theorem ct_mrow (hm : Md E h m) {t n : Nat} (ht : μ 0 13 = nI t) (h4 : t ≤ 400) (hn : μ 2 0 = nI n) (h6 : n ≤ 6) : Ct E 3 0 0 mX12_row [.ref m] (mH h m μ l) (po (some (.int (rowM μ t).1)) (mH h m (rowM μ t).2 l)) := by
  refine Ct.of (by decide +kernel) (Nat.le_of_ble_eq_true rfl) ?_
  have e1 : up2 μ 0 0 0 0 13 = nI t := by rw [up2_ne (by omega)]; exact ht
  refine r_aload_n (pc := 0) 0 dX12_row_0 rfl ?_
  refine r_iconst (pc := 1) (0) dX12_row_1 rfl ?_
  refine q_putI (pc := 2) fp_X12_161 hm dX12_row_2 ?_
  refine r_aload_n (pc := 5) 0 dX12_row_5 rfl ?_
  refine q_getI (pc := 6) fl_X12_248 hm dX12_row_6 ?_
  refine r_istore_n (pc := 9) (lv' := [(0, _), (1, _)]) dX12_row_9 (Nat.le_of_ble_eq_true rfl) rfl ?_
  rw [e1]
  refine r_aload_n (pc := 10) 0 dX12_row_10 rfl ?_
  refine r_iconst (pc := 11) (0) dX12_row_11 rfl ?_
  refine q_putI (pc := 12) fp_X12_248 hm dX12_row_12 ?_
  refine r_iload_n (pc := 15) 1 dX12_row_15 rfl ?_
  refine r_if_ne (pc := 16) (tgt := 26) dX12_row_16 (by decide) (fun c_16 => ?_) (fun c_16 => ?_)
  · have ht0 : ¬ t = 0 := fun q => c_16 (by rw [q]; rfl)
    refine r_aload_n (pc := 26) 0 dX12_row_26 rfl ?_
    refine r_iconst (pc := 27) (0) dX12_row_27 rfl ?_
    refine q_putI (pc := 28) fp_X12_251 hm dX12_row_28 ?_
    refine r_iconst (pc := 31) (0) dX12_row_31 rfl ?_
    refine r_istore_n (pc := 32) (lv' := [(0, _), (1, _), (2, _)]) dX12_row_32 (Nat.le_of_ble_eq_true rfl) rfl ?_
    refine r_iconst (pc := 33) (0) dX12_row_33 rfl ?_
    refine r_istore_n (pc := 34) (lv' := [(0, _), (1, _), (2, _), (3, _)]) dX12_row_34 (Nat.le_of_ble_eq_true rfl) rfl ?_
    rw [rowM, if_neg ht0]
    generalize hs0 : ((0 : Int32), up2 (up2 (up2 μ 0 0 0) 0 13 0) 0 11 0) = s0
    have hz : (0 : Int32) = s0.1 := by rw [← hs0]
    have hz2 : up2 (up2 (up2 μ 0 0 0) 0 13 0) 0 11 0 = s0.2 := by rw [← hs0]
    have hok := rowN_ok (t := t) (s := s0) ⟨n, h6, by rw [← hz2, up2_ne (by omega), up2_ne (by omega), up2_ne (by omega)]; exact hn⟩ hz.symm
    have loop : ∀ k, k ≤ (t + 2) / 3 → Wp E mX12_row (Rm 3 0 0) (Qm E (po (some (.int (rowN t s0 ((t + 2) / 3)).1)) (mH h m (settledM (rowN t s0 ((t + 2) / 3)).2 (rowN t s0 ((t + 2) / 3)).1) l)) 0 0) 35 [(0, .ref m), (1, .int (nI t)), (2, .int (rowN t s0 k).1), (3, .int (nI (3 * k)))] [] (mH h m (rowN t s0 k).2 l) 0 0 := by
      refine upTo (fun k hk ih => ?_) ?_
      · obtain ⟨⟨c, hc6, hc⟩, j, hj, ej⟩ := hok k
        rw [rowN] at ih
        generalize hsk : rowN t s0 k = s at ih hc ej ⊢
        have mouse : ¬ (3 * k + 2 < t ∧ 0 ≤ comeB (cntF s.2) (s.2 9 (3 * k)) (s.2 9 (3 * k + 1)) (s.2 9 (3 * k + 2))) → Wp E mX12_row (Rm 3 0 0) (Qm E (po (some (.int (rowN t s0 ((t + 2) / 3)).1)) (mH h m (settledM (rowN t s0 ((t + 2) / 3)).2 (rowN t s0 ((t + 2) / 3)).1) l)) 0 0) 82 [(0, .ref m), (1, .int (nI t)), (2, .int s.1), (3, .int (nI (3 * k)))] [] (mH h m s.2 l) 0 0 := by
          intro hno
          rw [rowS, if_neg hno] at ih
          refine r_aload_n (pc := 82) 0 dX12_row_82 rfl ?_
          refine r_dup (pc := 83) dX12_row_83 rfl ?_
          refine q_getI (pc := 84) fl_X12_251 hm dX12_row_84 ?_
          refine r_iconst (pc := 87) (1) dX12_row_87 rfl ?_
          refine r_iadd (pc := 88) dX12_row_88 ?_
          refine q_putI (pc := 89) fp_X12_251 hm dX12_row_89 ?_
          refine r_iinc (pc := 92) (v := _ + (3)) (lv' := [(0, _), (1, _), (2, _), (3, _)]) 3 dX12_row_92 rfl rfl (Nat.le_of_ble_eq_true rfl) rfl ?_
          refine r_goto (pc := 95) (tgt := 35) dX12_row_95 (by decide) ?_
          rw [show nI (3 * k) + 3 = nI (3 * (k + 1)) from nI_add (3 * k) 3]
          exact ih
        refine r_iload_n (pc := 35) 3 dX12_row_35 rfl ?_
        refine r_iload_n (pc := 36) 1 dX12_row_36 rfl ?_
        refine r_icmp_ge (pc := 37) (tgt := 98) dX12_row_37 (by decide) (fun c_37 => ?_) (fun c_37 => ?_)
        · exact absurd c_37 (nI_ge (by omega) (by omega))
        · refine r_iload_n (pc := 40) 3 dX12_row_40 rfl ?_
          refine r_iconst (pc := 41) (2) dX12_row_41 rfl ?_
          refine r_iadd (pc := 42) dX12_row_42 ?_
          refine r_iload_n (pc := 43) 1 dX12_row_43 rfl ?_
          refine r_icmp_ge (pc := 44) (tgt := 82) dX12_row_44 (by decide) (fun c_44 => ?_) (fun c_44 => ?_)
          · rw [show nI (3 * k) + 2 = nI (3 * k + 2) from nI_add (3 * k) 2] at c_44
            exact mouse (fun q => nI_ge q.1 (by omega) c_44)
          · rw [show nI (3 * k) + 2 = nI (3 * k + 2) from nI_add (3 * k) 2] at c_44
            have h32 : 3 * k + 2 < t := Nat.not_le.mp (fun q => c_44 (nI_le q (by omega)))
            refine r_aload_n (pc := 47) 0 dX12_row_47 rfl ?_
            refine r_aload_n (pc := 48) 0 dX12_row_48 rfl ?_
            refine q_getR (pc := 49) fl_X12_35 hm (md_f12 hm) dX12_row_49 ?_
            refine r_iload_n (pc := 52) 3 dX12_row_52 rfl ?_
            refine q_iald (pc := 53) (j := 3 * k) (md_r12 hm) (by decide) rfl (by omega) (by decide) dX12_row_53 ?_
            refine r_aload_n (pc := 54) 0 dX12_row_54 rfl ?_
            refine q_getR (pc := 55) fl_X12_35 hm (md_f12 hm) dX12_row_55 ?_
            refine r_iload_n (pc := 58) 3 dX12_row_58 rfl ?_
            refine r_iconst (pc := 59) (1) dX12_row_59 rfl ?_
            refine r_iadd (pc := 60) dX12_row_60 ?_
            refine q_iald (pc := 61) (j := 3 * k + 1) (md_r12 hm) (by decide) (by simp only [fa_lit, nI_add, nI_mul]) (by omega) (by decide) dX12_row_61 ?_
            refine r_aload_n (pc := 62) 0 dX12_row_62 rfl ?_
            refine q_getR (pc := 63) fl_X12_35 hm (md_f12 hm) dX12_row_63 ?_
            refine r_iload_n (pc := 66) 3 dX12_row_66 rfl ?_
            refine r_iconst (pc := 67) (2) dX12_row_67 rfl ?_
            refine r_iadd (pc := 68) dX12_row_68 ?_
            refine q_iald (pc := 69) (j := 3 * k + 2) (md_r12 hm) (by decide) (by simp only [fa_lit, nI_add, nI_mul]) (by omega) (by decide) dX12_row_69 ?_
            refine r_dV (pc := 70) (As := [_, _, _]) mv_X12_come ml_X12_206 (ct_come hm _ _ _ hc hc6) (q_is hm) rfl rfl (Nat.le_of_ble_eq_true rfl) (Nat.le_of_ble_eq_true rfl) (Nat.le_of_ble_eq_true rfl) (Nat.le_of_ble_eq_true rfl) (Nat.le_of_ble_eq_true rfl) dX12_row_70 ?_
            refine r_if_lt (pc := 73) (tgt := 82) dX12_row_73 (by decide) (fun c_73 => ?_) (fun c_73 => ?_)
            · rw [comeM_no c_73]
              exact mouse (fun q => Int32.not_le.mpr c_73 (by rw [cnt_of hc hc6] at q; exact q.2))
            · rw [rowS, if_pos ⟨h32, by rw [cnt_of hc hc6]; exact Int32.not_lt.mp c_73⟩, cnt_of hc hc6] at ih
              refine r_iinc (pc := 76) (v := _ + (1)) (lv' := [(0, _), (1, _), (2, _), (3, _)]) 2 dX12_row_76 rfl rfl (Nat.le_of_ble_eq_true rfl) rfl ?_
              refine r_goto (pc := 79) (tgt := 92) dX12_row_79 (by decide) ?_
              refine r_iinc (pc := 92) (v := _ + (3)) (lv' := [(0, _), (1, _), (2, _), (3, _)]) 3 dX12_row_92 rfl rfl (Nat.le_of_ble_eq_true rfl) rfl ?_
              refine r_goto (pc := 95) (tgt := 35) dX12_row_95 (by decide) ?_
              rw [show nI (3 * k) + 3 = nI (3 * (k + 1)) from nI_add (3 * k) 3]
              exact ih
      · obtain ⟨-, j, hj, ej⟩ := hok ((t + 2) / 3)
        refine r_iload_n (pc := 35) 3 dX12_row_35 rfl ?_
        refine r_iload_n (pc := 36) 1 dX12_row_36 rfl ?_
        refine r_icmp_ge (pc := 37) (tgt := 98) dX12_row_37 (by decide) (fun c_37 => ?_) (fun c_37 => ?_)
        · refine r_aload_n (pc := 98) 0 dX12_row_98 rfl ?_
          refine r_iload_n (pc := 99) 2 dX12_row_99 rfl ?_
          refine r_dV (pc := 100) (As := [_]) mv_X12_settled ml_X12_185 (ct_settled hm _ (t_p (by rw [ej]; exact nI_pos' (by omega)))) (q_is hm) rfl rfl (Nat.le_of_ble_eq_true rfl) (Nat.le_of_ble_eq_true rfl) (Nat.le_of_ble_eq_true rfl) (Nat.le_of_ble_eq_true rfl) (Nat.le_of_ble_eq_true rfl) dX12_row_100 ?_
          refine r_iret (pc := 103) rfl ?_ (Nat.le_of_ble_eq_true rfl) (Nat.le_of_ble_eq_true rfl) dX12_row_103
          exact ⟨rfl, rfl⟩
        · exact absurd (nI_le (by omega) (by omega)) c_37
    have h0 := loop 0 (by omega)
    rw [show rowN t s0 0 = s0 from rfl, ← hz, ← hz2] at h0
    exact h0
  · have ht0 : t = 0 := (nI_eq (by omega) (by decide)).mp (c_16.trans nI_0.symm)
    refine r_aload_n (pc := 19) 0 dX12_row_19 rfl ?_
    refine r_bipush (pc := 20) (-6) dX12_row_20 rfl ?_
    refine r_dV (pc := 22) (As := [_]) mv_X12_tell ml_X12_170 (ct_tell hm _ t_6) (q_is hm) rfl rfl (Nat.le_of_ble_eq_true rfl) (Nat.le_of_ble_eq_true rfl) (Nat.le_of_ble_eq_true rfl) (Nat.le_of_ble_eq_true rfl) (Nat.le_of_ble_eq_true rfl) dX12_row_22 ?_
    refine r_iret (pc := 25) rfl ?_ (Nat.le_of_ble_eq_true rfl) (Nat.le_of_ble_eq_true rfl) dX12_row_25
    rw [rowM, if_pos ht0]
    exact ⟨rfl, rfl⟩
def imgN (μ : Mu) (k i : Nat) : Mu := fun o j => if o = 3 ∧ 5450 * k ≤ j ∧ j < 5450 * k + i then μ 2 (j - 5450 * k) else μ o j
theorem imgN_0 (μ : Mu) (k : Nat) : imgN μ k 0 = μ := by funext o j; unfold imgN; rw [if_neg (by omega)]
theorem imgN_s (μ : Mu) (k i : Nat) : up2 (imgN μ k i) 3 (5450 * k + i) (imgN μ k i 2 i) = imgN μ k (i + 1) := by
  have e : imgN μ k i 2 i = μ 2 i := by unfold imgN; rw [if_neg (by omega)]
  rw [e]; funext o j; unfold up2 imgN
  by_cases h1 : o = 3 ∧ j = 5450 * k + i
  · obtain ⟨rfl, rfl⟩ := h1; rw [if_pos ⟨rfl, rfl⟩, if_pos ⟨rfl, by omega, by omega⟩, show 5450 * k + i - 5450 * k = i by omega]
  · rw [if_neg h1]
    by_cases h2 : o = 3 ∧ 5450 * k ≤ j ∧ j < 5450 * k + i
    · rw [if_pos h2, if_pos ⟨h2.1, h2.2.1, by omega⟩]
    · rw [if_neg h2, if_neg (by omega)]
def imageM (μ : Mu) (k : Int32) : Int32 × Mu := if inN k 2 = true then (0, tellM (up2 (imgN (up2 μ 0 0 0) k.toNatClampNeg 5450) 4 k.toNatClampNeg 1) 0) else (-1, tellM (up2 μ 0 0 0) (-1))
theorem ct_mimage (hm : Md E h m) (k : Int32) : Ct E 1 0 0 mX12_image [.ref m, .int k] (mH h m μ l) (po (some (.int (imageM μ k).1)) (mH h m (imageM μ k).2 l)) := by
  refine Ct.of (by decide +kernel) (Nat.le_of_ble_eq_true rfl) ?_
  refine r_aload_n (pc := 0) 0 dX12_image_0 rfl ?_
  refine r_iconst (pc := 1) (0) dX12_image_1 rfl ?_
  refine q_putI (pc := 2) fp_X12_161 hm dX12_image_2 ?_
  refine r_iload_n (pc := 5) 1 dX12_image_5 rfl ?_
  refine r_i2l (pc := 6) dX12_image_6 ?_
  refine r_lconst (pc := 7) (0) dX12_image_7 rfl ?_
  refine r_lconst (pc := 8) (1) dX12_image_8 rfl ?_
  refine r_dS (pc := 9) (As := [_, _, _]) ms_X12_in ml_X12_181 (ct_in _ _ _) rfl rfl (Nat.le_of_ble_eq_true rfl) (Nat.le_of_ble_eq_true rfl) (Nat.le_of_ble_eq_true rfl) (Nat.le_of_ble_eq_true rfl) (Nat.le_of_ble_eq_true rfl) dX12_image_9 ?_
  refine r_if_ne (pc := 12) (tgt := 21) dX12_image_12 (by decide) (fun c_12 => ?_) (fun c_12 => ?_)
  · rw [show decide _ = inN k 2 from in_lit (b := 1) (n := 1) (by decide)] at c_12
    rw [imageM, if_pos (bI_n0.mp c_12)]
    obtain ⟨q, hq, rfl⟩ := inN_of (by decide) (bI_n0.mp c_12)
    rw [nI_clamp (by omega)]
    generalize up2 μ 0 0 0 = ν
    refine r_iconst (pc := 21) (0) dX12_image_21 rfl ?_
    refine r_istore_n (pc := 22) (lv' := [(0, _), (1, _), (2, _)]) dX12_image_22 (Nat.le_of_ble_eq_true rfl) rfl ?_
    have loop : ∀ i, i ≤ 5450 → Wp E mX12_image (Rm 1 0 0) (Qm E (po (some (.int 0)) (mH h m (tellM (up2 (imgN ν q 5450) 4 q 1) 0) l)) 0 0) 23 [(0, .ref m), (1, .int (nI q)), (2, .int (nI i))] [] (mH h m (imgN ν q i) l) 0 0 := by
      refine upTo (fun i hi ih => ?_) ?_
      · refine r_iload_n (pc := 23) 2 dX12_image_23 rfl ?_
        refine r_sipush (pc := 24) (5450) dX12_image_24 rfl ?_
        refine r_icmp_ge (pc := 27) (tgt := 54) dX12_image_27 (by decide) (fun c_27 => ?_) (fun c_27 => ?_)
        · exact absurd c_27 (nI_ge (b := 5450) hi (by decide))
        · refine r_aload_n (pc := 30) 0 dX12_image_30 rfl ?_
          refine q_getR (pc := 31) fl_X12_16 hm (md_f4 hm) dX12_image_31 ?_
          refine r_sipush (pc := 34) (5450) dX12_image_34 rfl ?_
          refine r_iload_n (pc := 37) 1 dX12_image_37 rfl ?_
          refine r_imul (pc := 38) dX12_image_38 ?_
          refine r_iload_n (pc := 39) 2 dX12_image_39 rfl ?_
          refine r_iadd (pc := 40) dX12_image_40 ?_
          refine r_aload_n (pc := 41) 0 dX12_image_41 rfl ?_
          refine q_getR (pc := 42) fl_X12_13 hm (md_f3 hm) dX12_image_42 ?_
          refine r_iload_n (pc := 45) 2 dX12_image_45 rfl ?_
          refine q_iald (pc := 46) (j := i) (md_r3 hm) (by decide) rfl (by omega) (by decide) dX12_image_46 ?_
          refine q_iast (pc := 47) (j := 5450 * q + i) (md_r4 hm) (by decide) (by simp only [fa_lit, nI_add, nI_mul]) (by omega) (by decide) dX12_image_47 ?_
          refine r_iinc (pc := 48) (v := _ + (1)) (lv' := [(0, _), (1, _), (2, _)]) 2 dX12_image_48 rfl rfl (Nat.le_of_ble_eq_true rfl) rfl ?_
          refine r_goto (pc := 51) (tgt := 23) dX12_image_51 (by decide) ?_
          rw [nI_1, imgN_s]; exact ih
      · refine r_iload_n (pc := 23) 2 dX12_image_23 rfl ?_
        refine r_sipush (pc := 24) (5450) dX12_image_24 rfl ?_
        refine r_icmp_ge (pc := 27) (tgt := 54) dX12_image_27 (by decide) (fun c_27 => ?_) (fun c_27 => ?_)
        · refine r_aload_n (pc := 54) 0 dX12_image_54 rfl ?_
          refine q_getR (pc := 55) fl_X12_19 hm (md_f5 hm) dX12_image_55 ?_
          refine r_iload_n (pc := 58) 1 dX12_image_58 rfl ?_
          refine r_iconst (pc := 59) (1) dX12_image_59 rfl ?_
          refine q_zast (pc := 60) (j := q) (md_r5 hm) (by decide) rfl (by omega) (by decide) (by decide) dX12_image_60 ?_
          refine r_aload_n (pc := 61) 0 dX12_image_61 rfl ?_
          refine r_iconst (pc := 62) (0) dX12_image_62 rfl ?_
          refine r_dV (pc := 63) (As := [_]) mv_X12_tell ml_X12_170 (ct_tell hm _ (t_p (by decide))) (q_is hm) rfl rfl (Nat.le_of_ble_eq_true rfl) (Nat.le_of_ble_eq_true rfl) (Nat.le_of_ble_eq_true rfl) (Nat.le_of_ble_eq_true rfl) (Nat.le_of_ble_eq_true rfl) dX12_image_63 ?_
          refine r_iret (pc := 66) rfl ?_ (Nat.le_of_ble_eq_true rfl) (Nat.le_of_ble_eq_true rfl) dX12_image_66
          exact ⟨rfl, rfl⟩
        · exact absurd (show (5450 : Int32) ≤ nI 5450 by decide) c_27
    have h0 := loop 0 (by omega)
    rw [imgN_0] at h0
    exact h0
  · rw [show decide _ = inN k 2 from in_lit (b := 1) (n := 1) (by decide)] at c_12
    refine r_aload_n (pc := 15) 0 dX12_image_15 rfl ?_
    refine r_iconst (pc := 16) (-1) dX12_image_16 rfl ?_
    refine r_dV (pc := 17) (As := [_]) mv_X12_tell ml_X12_170 (ct_tell hm _ t_1) (q_is hm) rfl rfl (Nat.le_of_ble_eq_true rfl) (Nat.le_of_ble_eq_true rfl) (Nat.le_of_ble_eq_true rfl) (Nat.le_of_ble_eq_true rfl) (Nat.le_of_ble_eq_true rfl) dX12_image_17 ?_
    refine r_iret (pc := 20) rfl ?_ (Nat.le_of_ble_eq_true rfl) (Nat.le_of_ble_eq_true rfl) dX12_image_20
    rw [imageM, if_neg (by rw [bI_0.mp c_12]; decide)]
    exact ⟨rfl, rfl⟩
def bakN (μ : Mu) (k i : Nat) : Mu := fun o j => if o = 2 ∧ j < i then μ 3 (5450 * k + j) else μ o j
theorem bakN_0 (μ : Mu) (k : Nat) : bakN μ k 0 = μ := by funext o j; unfold bakN; rw [if_neg (by omega)]
theorem bakN_s (μ : Mu) (k i : Nat) : up2 (bakN μ k i) 2 i (bakN μ k i 3 (5450 * k + i)) = bakN μ k (i + 1) := by
  have e : bakN μ k i 3 (5450 * k + i) = μ 3 (5450 * k + i) := by unfold bakN; rw [if_neg (by omega)]
  rw [e]; funext o j; unfold up2 bakN
  by_cases h1 : o = 2 ∧ j = i
  · obtain ⟨rfl, rfl⟩ := h1; rw [if_pos ⟨rfl, rfl⟩, if_pos ⟨rfl, by omega⟩]
  · rw [if_neg h1]
    by_cases h2 : o = 2 ∧ j < i
    · rw [if_pos h2, if_pos ⟨h2.1, by omega⟩]
    · rw [if_neg h2, if_neg (by omega)]
def backM (μ : Mu) (k : Int32) : Int32 × Mu := if inN k 2 = true then (if μ 4 k.toNatClampNeg = 0 then (-2, tellM (up2 μ 0 0 0) (-2)) else (0, settledM (bakN (up2 μ 0 0 0) k.toNatClampNeg 5450) 0)) else (-1, tellM (up2 μ 0 0 0) (-1))
theorem ct_mback (hm : Md E h m) (k : Int32) : Ct E 2 0 0 mX12_back [.ref m, .int k] (mH h m μ l) (po (some (.int (backM μ k).1)) (mH h m (backM μ k).2 l)) := by
  refine Ct.of (by decide +kernel) (Nat.le_of_ble_eq_true rfl) ?_
  refine r_aload_n (pc := 0) 0 dX12_back_0 rfl ?_
  refine r_iconst (pc := 1) (0) dX12_back_1 rfl ?_
  refine q_putI (pc := 2) fp_X12_161 hm dX12_back_2 ?_
  refine r_iload_n (pc := 5) 1 dX12_back_5 rfl ?_
  refine r_i2l (pc := 6) dX12_back_6 ?_
  refine r_lconst (pc := 7) (0) dX12_back_7 rfl ?_
  refine r_lconst (pc := 8) (1) dX12_back_8 rfl ?_
  refine r_dS (pc := 9) (As := [_, _, _]) ms_X12_in ml_X12_181 (ct_in _ _ _) rfl rfl (Nat.le_of_ble_eq_true rfl) (Nat.le_of_ble_eq_true rfl) (Nat.le_of_ble_eq_true rfl) (Nat.le_of_ble_eq_true rfl) (Nat.le_of_ble_eq_true rfl) dX12_back_9 ?_
  refine r_if_ne (pc := 12) (tgt := 21) dX12_back_12 (by decide) (fun c_12 => ?_) (fun c_12 => ?_)
  · rw [show decide _ = inN k 2 from in_lit (b := 1) (n := 1) (by decide)] at c_12
    rw [backM, if_pos (bI_n0.mp c_12)]
    obtain ⟨q, hq, rfl⟩ := inN_of (by decide) (bI_n0.mp c_12)
    rw [nI_clamp (by omega)]
    refine r_aload_n (pc := 21) 0 dX12_back_21 rfl ?_
    refine q_getR (pc := 22) fl_X12_19 hm (md_f5 hm) dX12_back_22 ?_
    refine r_iload_n (pc := 25) 1 dX12_back_25 rfl ?_
    refine q_zald (pc := 26) (j := q) (md_r5 hm) (by decide) rfl (by omega) (by decide) dX12_back_26 ?_
    refine r_if_ne (pc := 27) (tgt := 37) dX12_back_27 (by decide) (fun c_27 => ?_) (fun c_27 => ?_)
    · rw [up2_ne (by omega)] at c_27
      rw [if_neg c_27]
      generalize up2 μ 0 0 0 = ν
      refine r_iconst (pc := 37) (0) dX12_back_37 rfl ?_
      refine r_istore_n (pc := 38) (lv' := [(0, _), (1, _), (2, _)]) dX12_back_38 (Nat.le_of_ble_eq_true rfl) rfl ?_
      have loop : ∀ i, i ≤ 5450 → Wp E mX12_back (Rm 2 0 0) (Qm E (po (some (.int 0)) (mH h m (settledM (bakN ν q 5450) 0) l)) 0 0) 39 [(0, .ref m), (1, .int (nI q)), (2, .int (nI i))] [] (mH h m (bakN ν q i) l) 0 0 := by
        refine upTo (fun i hi ih => ?_) ?_
        · refine r_iload_n (pc := 39) 2 dX12_back_39 rfl ?_
          refine r_sipush (pc := 40) (5450) dX12_back_40 rfl ?_
          refine r_icmp_ge (pc := 43) (tgt := 70) dX12_back_43 (by decide) (fun c_43 => ?_) (fun c_43 => ?_)
          · exact absurd c_43 (nI_ge (b := 5450) hi (by decide))
          · refine r_aload_n (pc := 46) 0 dX12_back_46 rfl ?_
            refine q_getR (pc := 47) fl_X12_13 hm (md_f3 hm) dX12_back_47 ?_
            refine r_iload_n (pc := 50) 2 dX12_back_50 rfl ?_
            refine r_aload_n (pc := 51) 0 dX12_back_51 rfl ?_
            refine q_getR (pc := 52) fl_X12_16 hm (md_f4 hm) dX12_back_52 ?_
            refine r_sipush (pc := 55) (5450) dX12_back_55 rfl ?_
            refine r_iload_n (pc := 58) 1 dX12_back_58 rfl ?_
            refine r_imul (pc := 59) dX12_back_59 ?_
            refine r_iload_n (pc := 60) 2 dX12_back_60 rfl ?_
            refine r_iadd (pc := 61) dX12_back_61 ?_
            refine q_iald (pc := 62) (j := 5450 * q + i) (md_r4 hm) (by decide) (by simp only [fa_lit, nI_add, nI_mul]) (by omega) (by decide) dX12_back_62 ?_
            refine q_iast (pc := 63) (j := i) (md_r3 hm) (by decide) rfl (by omega) (by decide) dX12_back_63 ?_
            refine r_iinc (pc := 64) (v := _ + (1)) (lv' := [(0, _), (1, _), (2, _)]) 2 dX12_back_64 rfl rfl (Nat.le_of_ble_eq_true rfl) rfl ?_
            refine r_goto (pc := 67) (tgt := 39) dX12_back_67 (by decide) ?_
            rw [nI_1, bakN_s]; exact ih
        · refine r_iload_n (pc := 39) 2 dX12_back_39 rfl ?_
          refine r_sipush (pc := 40) (5450) dX12_back_40 rfl ?_
          refine r_icmp_ge (pc := 43) (tgt := 70) dX12_back_43 (by decide) (fun c_43 => ?_) (fun c_43 => ?_)
          · refine r_aload_n (pc := 70) 0 dX12_back_70 rfl ?_
            refine r_iconst (pc := 71) (0) dX12_back_71 rfl ?_
            refine r_dV (pc := 72) (As := [_]) mv_X12_settled ml_X12_185 (ct_settled hm _ (t_p (by decide))) (q_is hm) rfl rfl (Nat.le_of_ble_eq_true rfl) (Nat.le_of_ble_eq_true rfl) (Nat.le_of_ble_eq_true rfl) (Nat.le_of_ble_eq_true rfl) (Nat.le_of_ble_eq_true rfl) dX12_back_72 ?_
            refine r_iret (pc := 75) rfl ?_ (Nat.le_of_ble_eq_true rfl) (Nat.le_of_ble_eq_true rfl) dX12_back_75
            exact ⟨rfl, rfl⟩
          · exact absurd (show (5450 : Int32) ≤ nI 5450 by decide) c_43
      have h0 := loop 0 (by omega)
      rw [bakN_0] at h0
      exact h0
    · rw [up2_ne (by omega)] at c_27
      rw [if_pos c_27]
      refine r_aload_n (pc := 30) 0 dX12_back_30 rfl ?_
      refine r_bipush (pc := 31) (-2) dX12_back_31 rfl ?_
      refine r_dV (pc := 33) (As := [_]) mv_X12_tell ml_X12_170 (ct_tell hm _ t_2) (q_is hm) rfl rfl (Nat.le_of_ble_eq_true rfl) (Nat.le_of_ble_eq_true rfl) (Nat.le_of_ble_eq_true rfl) (Nat.le_of_ble_eq_true rfl) (Nat.le_of_ble_eq_true rfl) dX12_back_33 ?_
      refine r_iret (pc := 36) rfl ?_ (Nat.le_of_ble_eq_true rfl) (Nat.le_of_ble_eq_true rfl) dX12_back_36
      exact ⟨rfl, rfl⟩
  · rw [show decide _ = inN k 2 from in_lit (b := 1) (n := 1) (by decide)] at c_12
    refine r_aload_n (pc := 15) 0 dX12_back_15 rfl ?_
    refine r_iconst (pc := 16) (-1) dX12_back_16 rfl ?_
    refine r_dV (pc := 17) (As := [_]) mv_X12_tell ml_X12_170 (ct_tell hm _ t_1) (q_is hm) rfl rfl (Nat.le_of_ble_eq_true rfl) (Nat.le_of_ble_eq_true rfl) (Nat.le_of_ble_eq_true rfl) (Nat.le_of_ble_eq_true rfl) (Nat.le_of_ble_eq_true rfl) dX12_back_17 ?_
    refine r_iret (pc := 20) rfl ?_ (Nat.le_of_ble_eq_true rfl) (Nat.le_of_ble_eq_true rfl) dX12_back_20
    rw [backM, if_neg (by rw [bI_0.mp c_12]; decide)]
    exact ⟨rfl, rfl⟩
end MODEL5
