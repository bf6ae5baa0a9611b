/-! the reference: draws, counts -/
section MODEL6
variable {E : En} {h : Hp} {m : Nat} {μ : Mu} {l : La}
def drawnM (μ : Mu) (n : Nat) (c w : Int32) : Int32 := if inN c n = true ∧ inN w 3 = true then μ 33 (6 * w.toNatClampNeg + c.toNatClampNeg) else -1
theorem in_m1 {c : Int32} : decide ((0 : Int64) ≤ c.toInt64 ∧ c.toInt64 ≤ (-1 : Int32).toInt64 - 1) = inN c 0 := by
  unfold inN
  congr 1
  rw [fa_le64, fa_le64, Int32.toInt_toInt64, show ((-1 : Int32).toInt64 - 1).toInt = -2 by decide]
  show ((0 : Int) ≤ _ ∧ _) = _
  apply propext; constructor <;> intro q <;> omega
theorem ct_mdrawn (hm : Md E h m) (c w : Int32) {n : Nat} (hn : μ 0 59 = nI n ∨ (μ 0 59 = -1 ∧ n = 0)) (h6 : n ≤ 6) : Ct E 1 0 0 mX12_drawn [.ref m, .int c, .int w] (mH h m μ l) (po (some (.int (drawnM μ n c w))) (mH h m (up2 μ 0 0 0) l)) := by
  refine Ct.of (by decide +kernel) (Nat.le_of_ble_eq_true rfl) ?_
  have key : ∀ x : Int32, x = μ 0 59 → decide ((0 : Int64) ≤ c.toInt64 ∧ c.toInt64 ≤ x.toInt64 - 1) = inN c n := by
    rintro x rfl
    rcases hn with e | ⟨e, rfl⟩
    · rw [e]; exact in_n (by omega)
    · rw [e]; exact in_m1
  refine r_aload_n (pc := 0) 0 dX12_drawn_0 rfl ?_
  refine r_iconst (pc := 1) (0) dX12_drawn_1 rfl ?_
  refine q_putI (pc := 2) fp_X12_161 hm dX12_drawn_2 ?_
  refine r_iload_n (pc := 5) 1 dX12_drawn_5 rfl ?_
  refine r_i2l (pc := 6) dX12_drawn_6 ?_
  refine r_lconst (pc := 7) (0) dX12_drawn_7 rfl ?_
  refine r_aload_n (pc := 8) 0 dX12_drawn_8 rfl ?_
  refine q_getI (pc := 9) fl_X12_158 hm dX12_drawn_9 ?_
  refine r_i2l (pc := 12) dX12_drawn_12 ?_
  refine r_lconst (pc := 13) (1) dX12_drawn_13 rfl ?_
  refine r_lsub (pc := 14) dX12_drawn_14 ?_
  refine r_dS (pc := 15) (As := [_, _, _]) ms_X12_in ml_X12_181 (ct_in _ _ _) rfl rfl (Nat.le_of_ble_eq_true rfl) (Nat.le_of_ble_eq_true rfl) (Nat.le_of_ble_eq_true rfl) (Nat.le_of_ble_eq_true rfl) (Nat.le_of_ble_eq_true rfl) dX12_drawn_15 ?_
  refine r_if_eq (pc := 18) (tgt := 47) dX12_drawn_18 (by decide) (fun c_18 => ?_) (fun c_18 => ?_)
  · rw [up2_ne (by omega), key _ rfl] at c_18
    refine r_iconst (pc := 47) (-1) dX12_drawn_47 rfl ?_
    refine r_iret (pc := 48) rfl ?_ (Nat.le_of_ble_eq_true rfl) (Nat.le_of_ble_eq_true rfl) dX12_drawn_48
    rw [drawnM, if_neg (by rw [bI_0.mp c_18]; exact fun q => absurd q.1 (by decide))]
    exact ⟨rfl, rfl⟩
  · rw [up2_ne (by omega), key _ rfl] at c_18
    refine r_iload_n (pc := 21) 2 dX12_drawn_21 rfl ?_
    refine r_i2l (pc := 22) dX12_drawn_22 ?_
    refine r_lconst (pc := 23) (0) dX12_drawn_23 rfl ?_
    refine r_ldc2_w (pc := 24) cs_X12_353 dX12_drawn_24 ?_
    refine r_dS (pc := 27) (As := [_, _, _]) ms_X12_in ml_X12_181 (ct_in _ _ _) rfl rfl (Nat.le_of_ble_eq_true rfl) (Nat.le_of_ble_eq_true rfl) (Nat.le_of_ble_eq_true rfl) (Nat.le_of_ble_eq_true rfl) (Nat.le_of_ble_eq_true rfl) dX12_drawn_27 ?_
    refine r_if_eq (pc := 30) (tgt := 47) dX12_drawn_30 (by decide) (fun c_30 => ?_) (fun c_30 => ?_)
    · rw [show decide _ = inN w 3 from in_lit (b := 2) (n := 2) (by decide)] at c_30
      refine r_iconst (pc := 47) (-1) dX12_drawn_47 rfl ?_
      refine r_iret (pc := 48) rfl ?_ (Nat.le_of_ble_eq_true rfl) (Nat.le_of_ble_eq_true rfl) dX12_drawn_48
      rw [drawnM, if_neg (by rw [bI_0.mp c_30]; exact fun q => absurd q.2 (by decide))]
      exact ⟨rfl, rfl⟩
    · rw [show decide _ = inN w 3 from in_lit (b := 2) (n := 2) (by decide)] at c_30
      rw [drawnM, if_pos ⟨bI_n0.mp c_18, bI_n0.mp c_30⟩]
      obtain ⟨x, hx, rfl⟩ := inN_of (by omega) (bI_n0.mp c_18)
      obtain ⟨y, hy, rfl⟩ := inN_of (by decide) (bI_n0.mp c_30)
      refine r_aload_n (pc := 33) 0 dX12_drawn_33 rfl ?_
      refine q_getR (pc := 34) fl_X12_155 hm (md_f58 hm) dX12_drawn_34 ?_
      refine r_bipush (pc := 37) (6) dX12_drawn_37 rfl ?_
      refine r_iload_n (pc := 39) 2 dX12_drawn_39 rfl ?_
      refine r_imul (pc := 40) dX12_drawn_40 ?_
      refine r_iload_n (pc := 41) 1 dX12_drawn_41 rfl ?_
      refine r_iadd (pc := 42) dX12_drawn_42 ?_
      refine q_iald (pc := 43) (j := 6 * y + x) (md_r58 hm) (by decide) (by simp only [fa_lit, nI_add, nI_mul]) (by omega) (by decide) dX12_drawn_43 ?_
      refine r_goto (pc := 44) (tgt := 48) dX12_drawn_44 (by decide) ?_
      refine r_iret (pc := 48) rfl ?_ (Nat.le_of_ble_eq_true rfl) (Nat.le_of_ble_eq_true rfl) dX12_drawn_48
      rw [nI_clamp (by omega), nI_clamp (by omega), up2_ne (by omega)]
      exact ⟨rfl, rfl⟩
def lremF (a b : Int64) : Int64 := a - a / b * b
theorem ct_draw (hm : Md E h m) (n : Int32) (hn : ¬ n.toInt64 = 0) : Ct E 0 0 0 mX12_draw [.ref m, .int n] (mH h m μ l) (po (some (.int (lremF (lremF (l 0 57 * 1103 + 12345) 1000003) n.toInt64).toInt32)) (mH h m μ (up2 l 0 57 (lremF (l 0 57 * 1103 + 12345) 1000003)))) := by
  refine Ct.of (by decide +kernel) (Nat.le_of_ble_eq_true rfl) ?_
  refine r_aload_n (pc := 0) 0 dX12_draw_0 rfl ?_
  refine r_aload_n (pc := 1) 0 dX12_draw_1 rfl ?_
  refine q_getJ (pc := 2) fl_X12_528 hm dX12_draw_2 ?_
  refine r_ldc2_w (pc := 5) cs_X12_531 dX12_draw_5 ?_
  refine r_lmul (pc := 8) dX12_draw_8 ?_
  refine r_ldc2_w (pc := 9) cs_X12_533 dX12_draw_9 ?_
  refine r_ladd (pc := 12) dX12_draw_12 ?_
  refine r_ldc2_w (pc := 13) cs_X12_535 dX12_draw_13 ?_
  refine r_lrem (pc := 16) dX12_draw_16 (by decide) ?_
  refine q_putJ (pc := 17) fp_X12_528 hm dX12_draw_17 ?_
  refine r_aload_n (pc := 20) 0 dX12_draw_20 rfl ?_
  refine q_getJ (pc := 21) fl_X12_528 hm dX12_draw_21 ?_
  refine r_iload_n (pc := 24) 1 dX12_draw_24 rfl ?_
  refine r_i2l (pc := 25) dX12_draw_25 ?_
  rw [up2_at]
  refine r_lrem (pc := 26) dX12_draw_26 hn ?_
  refine r_l2i (pc := 27) dX12_draw_27 ?_
  refine r_iret (pc := 28) rfl ?_ (Nat.le_of_ble_eq_true rfl) (Nat.le_of_ble_eq_true rfl) dX12_draw_28
  exact ⟨rfl, rfl⟩
/-- the lowest life among the first k that is a bit of x; k itself, if there is none -/
def lowest (x : Int32) : Nat → Nat
  | 0 => 0
  | k + 1 => if lowest x k < k then lowest x k else if isB x (nI k) = true then k else k + 1
theorem lowest_le (x : Int32) : ∀ k, lowest x k ≤ k
  | 0 => Nat.le_refl 0
  | k + 1 => by
    have := lowest_le x k
    unfold lowest; split
    · omega
    · split <;> omega
theorem lowest_stop {x : Int32} {k : Nat} (hk : lowest x k < k) : ∀ j, lowest x (k + j) = lowest x k
  | 0 => rfl
  | j + 1 => by
    show lowest x (k + j + 1) = _
    rw [lowest, lowest_stop hk j, if_pos (by omega)]
theorem ct_lowestYet (hm : Md E h m) (k : Nat) (hk : k < 6) : Ct E 1 0 0 mX12_lowestYet [.ref m, .int (nI k)] (mH h m μ l) (po (some (.int (nI (lowest (μ 2 (14 + k)) 9)))) (mH h m μ l)) := by
  refine Ct.of (by decide +kernel) (Nat.le_of_ble_eq_true rfl) ?_
  refine r_iconst (pc := 0) (0) dX12_lowestYet_0 rfl ?_
  refine r_istore_n (pc := 1) (lv' := [(0, _), (1, _), (2, _)]) dX12_lowestYet_1 (Nat.le_of_ble_eq_true rfl) rfl ?_
  have loop : ∀ i, i ≤ 9 → lowest (μ 2 (14 + k)) i = i → Wp E mX12_lowestYet (Rm 1 0 0) (Qm E (po (some (.int (nI (lowest (μ 2 (14 + k)) 9)))) (mH h m μ l)) 0 0) 2 [(0, .ref m), (1, .int (nI k)), (2, .int (nI i))] [] (mH h m μ l) 0 0 := by
    refine upTo (fun i hi ih => ?_) ?_
    · intro hlo
      refine r_iload_n (pc := 2) 2 dX12_lowestYet_2 rfl ?_
      refine r_bipush (pc := 3) (9) dX12_lowestYet_3 rfl ?_
      refine r_icmp_ge (pc := 5) (tgt := 30) dX12_lowestYet_5 (by decide) (fun c_5 => ?_) (fun c_5 => ?_)
      · exact absurd c_5 (nI_ge (b := 9) hi (by decide))
      · refine r_aload_n (pc := 8) 0 dX12_lowestYet_8 rfl ?_
        refine q_getR (pc := 9) fl_X12_13 hm (md_f3 hm) dX12_lowestYet_9 ?_
        refine r_bipush (pc := 12) (14) dX12_lowestYet_12 rfl ?_
        refine r_iload_n (pc := 14) 1 dX12_lowestYet_14 rfl ?_
        refine r_iadd (pc := 15) dX12_lowestYet_15 ?_
        refine q_iald (pc := 16) (j := 14 + k) (md_r3 hm) (by decide) (by simp only [fa_lit, nI_add, nI_mul]) (by omega) (by decide) dX12_lowestYet_16 ?_
        refine r_iload_n (pc := 17) 2 dX12_lowestYet_17 rfl ?_
        refine r_dS (pc := 18) (As := [_, _]) ms_X12_is ml_X12_197 (ct_is _ _) rfl rfl (Nat.le_of_ble_eq_true rfl) (Nat.le_of_ble_eq_true rfl) (Nat.le_of_ble_eq_true rfl) (Nat.le_of_ble_eq_true rfl) (Nat.le_of_ble_eq_true rfl) dX12_lowestYet_18 ?_
        refine r_if_ne (pc := 21) (tgt := 30) dX12_lowestYet_21 (by decide) (fun c_21 => ?_) (fun c_21 => ?_)
        · have e : lowest (μ 2 (14 + k)) (i + 1) = i := by rw [lowest, hlo, if_neg (by omega), if_pos (bI_n0.mp c_21)]
          have e9 : lowest (μ 2 (14 + k)) 9 = i := by rw [show 9 = i + 1 + (8 - i) by omega, lowest_stop (by omega), e]
          rw [e9]
          refine r_iload_n (pc := 30) 2 dX12_lowestYet_30 rfl ?_
          refine r_iret (pc := 31) rfl ?_ (Nat.le_of_ble_eq_true rfl) (Nat.le_of_ble_eq_true rfl) dX12_lowestYet_31
          exact ⟨rfl, rfl⟩
        · have e : lowest (μ 2 (14 + k)) (i + 1) = i + 1 := by rw [lowest, hlo, if_neg (by omega), if_neg (by rw [bI_0.mp c_21]; decide)]
          refine r_iinc (pc := 24) (v := _ + (1)) (lv' := [(0, _), (1, _), (2, _)]) 2 dX12_lowestYet_24 rfl rfl (Nat.le_of_ble_eq_true rfl) rfl ?_
          refine r_goto (pc := 27) (tgt := 2) dX12_lowestYet_27 (by decide) ?_
          rw [nI_1]; exact ih e
    · intro hlo
      refine r_iload_n (pc := 2) 2 dX12_lowestYet_2 rfl ?_
      refine r_bipush (pc := 3) (9) dX12_lowestYet_3 rfl ?_
      refine r_icmp_ge (pc := 5) (tgt := 30) dX12_lowestYet_5 (by decide) (fun c_5 => ?_) (fun c_5 => ?_)
      · rw [hlo]
        refine r_iload_n (pc := 30) 2 dX12_lowestYet_30 rfl ?_
        refine r_iret (pc := 31) rfl ?_ (Nat.le_of_ble_eq_true rfl) (Nat.le_of_ble_eq_true rfl) dX12_lowestYet_31
        exact ⟨rfl, rfl⟩
      · exact absurd (show (9 : Int32) ≤ nI 9 by decide) c_5
  exact loop 0 (by omega) rfl
def goldN (r : Nat → Int32) : Nat → Int32
  | 0 => 0
  | k + 1 => goldN r k + r (26 + k)
def cntT (μ : Mu) (n : Nat) : Nat → Int32
  | 0 => μ 2 0 | 1 => onesN (aliveN (μ 2) n) 9 | 2 => μ 2 1 | 3 => μ 2 2 | 4 => μ 2 3 | 5 => μ 0 8 | 6 => μ 0 13 | 7 => μ 1 1 | 8 => μ 1 2 | 9 => μ 1 3 | 10 => μ 1 5 | 11 => μ 1 6 | 12 => μ 2 4 | 13 => μ 2 5 | 14 => μ 2 6 | 15 => μ 2 7 | 16 => goldN (μ 2) n
  | _ => -1
def countF (μ : Mu) (n : Nat) (w : Int32) : Int32 := if inN w 17 = true then cntT μ n w.toNatClampNeg else -1
theorem countF_at (μ : Mu) (n j : Nat) (hj : j < 17) : countF μ n (nI j) = cntT μ n j := by
  unfold countF; rw [inN_nI (by omega), if_pos (decide_eq_true hj), nI_clamp (by omega)]
theorem inN_out {w : Int32} {n : Nat} (hw : ¬ inN w n = true) : w.toInt < 0 ∨ (n : Int) - 1 < w.toInt := by
  unfold inN at hw
  rw [decide_eq_true_iff] at hw
  omega
theorem ct_mcount (hm : Md E h m) (w : Int32) {n : Nat} (hn : μ 2 0 = nI n) (h6 : n ≤ 6) : Ct E 2 0 0 mX12_count [.ref m, .int w] (mH h m μ l) (po (some (.int (countF μ n w))) (mH h m (up2 μ 0 0 0) l)) := by
  refine Ct.of (by decide +kernel) (Nat.le_of_ble_eq_true rfl) ?_
  have hn1 : up2 μ 0 0 0 2 0 = nI n := by rw [up2_ne (by omega)]; exact hn
  have er : up2 μ 0 0 0 2 = μ 2 := by funext j; exact up2_ne (by omega)
  have er1 : up2 μ 0 0 0 1 = μ 1 := by funext j; exact up2_ne (by omega)
  refine r_aload_n (pc := 0) 0 dX12_count_0 rfl ?_
  refine r_iconst (pc := 1) (0) dX12_count_1 rfl ?_
  refine q_putI (pc := 2) fp_X12_161 hm dX12_count_2 ?_
  refine r_iconst (pc := 5) (0) dX12_count_5 rfl ?_
  refine r_istore_n (pc := 6) (lv' := [(0, _), (1, _), (2, _)]) dX12_count_6 (Nat.le_of_ble_eq_true rfl) rfl ?_
  refine r_iconst (pc := 7) (0) dX12_count_7 rfl ?_
  refine r_istore_n (pc := 8) (lv' := [(0, _), (1, _), (2, _), (3, _)]) dX12_count_8 (Nat.le_of_ble_eq_true rfl) rfl ?_
  have loop : ∀ k, k ≤ n → Wp E mX12_count (Rm 2 0 0) (Qm E (po (some (.int (countF μ n w))) (mH h m (up2 μ 0 0 0) l)) 0 0) 9 [(0, .ref m), (1, .int w), (2, .int (goldN (μ 2) k)), (3, .int (nI k))] [] (mH h m (up2 μ 0 0 0) l) 0 0 := by
    refine upTo (fun k hk ih => ?_) ?_
    · refine r_iload_n (pc := 9) 3 dX12_count_9 rfl ?_
      refine r_aload_n (pc := 10) 0 dX12_count_10 rfl ?_
      refine q_getR (pc := 11) fl_X12_13 hm (md_f3 hm) dX12_count_11 ?_
      refine r_iconst (pc := 14) (0) dX12_count_14 rfl ?_
      refine q_iald (pc := 15) (j := 0) (md_r3 hm) (by decide) rfl (by decide) (by decide) dX12_count_15 ?_
      refine r_icmp_ge (pc := 16) (tgt := 37) dX12_count_16 (by decide) (fun c_16 => ?_) (fun c_16 => ?_)
      · exact absurd (hn1 ▸ c_16) (nI_ge hk (by omega))
      · refine r_iload_n (pc := 19) 2 dX12_count_19 rfl ?_
        refine r_aload_n (pc := 20) 0 dX12_count_20 rfl ?_
        refine q_getR (pc := 21) fl_X12_13 hm (md_f3 hm) dX12_count_21 ?_
        refine r_bipush (pc := 24) (26) dX12_count_24 rfl ?_
        refine r_iload_n (pc := 26) 3 dX12_count_26 rfl ?_
        refine r_iadd (pc := 27) dX12_count_27 ?_
        refine q_iald (pc := 28) (j := 26 + k) (md_r3 hm) (by decide) (by simp only [fa_lit, nI_add, nI_mul]) (by omega) (by decide) dX12_count_28 ?_
        refine r_iadd (pc := 29) dX12_count_29 ?_
        refine r_istore_n (pc := 30) (lv' := [(0, _), (1, _), (2, _), (3, _)]) dX12_count_30 (Nat.le_of_ble_eq_true rfl) rfl ?_
        refine r_iinc (pc := 31) (v := _ + (1)) (lv' := [(0, _), (1, _), (2, _), (3, _)]) 3 dX12_count_31 rfl rfl (Nat.le_of_ble_eq_true rfl) rfl ?_
        refine r_goto (pc := 34) (tgt := 9) dX12_count_34 (by decide) ?_
        rw [nI_1, er]; exact ih
    · refine r_iload_n (pc := 9) 3 dX12_count_9 rfl ?_
      refine r_aload_n (pc := 10) 0 dX12_count_10 rfl ?_
      refine q_getR (pc := 11) fl_X12_13 hm (md_f3 hm) dX12_count_11 ?_
      refine r_iconst (pc := 14) (0) dX12_count_14 rfl ?_
      refine q_iald (pc := 15) (j := 0) (md_r3 hm) (by decide) rfl (by decide) (by decide) dX12_count_15 ?_
      refine r_icmp_ge (pc := 16) (tgt := 37) dX12_count_16 (by decide) (fun c_16 => ?_) (fun c_16 => ?_)
      · refine r_iload_n (pc := 37) 1 dX12_count_37 rfl ?_
        by_cases hw : inN w 17 = true
        · obtain ⟨j, hj, rfl⟩ := inN_of (by decide) hw
          rw [countF_at μ n j hj]
          rcases (show j = 0 ∨ j = 1 ∨ j = 2 ∨ j = 3 ∨ j = 4 ∨ j = 5 ∨ j = 6 ∨ j = 7 ∨ j = 8 ∨ j = 9 ∨ j = 10 ∨ j = 11 ∨ j = 12 ∨ j = 13 ∨ j = 14 ∨ j = 15 ∨ j = 16 by omega) with rfl | rfl | rfl | rfl | rfl | rfl | rfl | rfl | rfl | rfl | rfl | rfl | rfl | rfl | rfl | rfl | rfl
          · refine r_tableIn (pc := 38) (off := 82) (tgt := 120) dX12_count_38 (by decide) (by decide) (by decide +kernel) (by decide) ?_
            refine r_aload_n (pc := 120) 0 dX12_count_120 rfl ?_
            refine q_getR (pc := 121) fl_X12_13 hm (md_f3 hm) dX12_count_121 ?_
            refine r_iconst (pc := 124) (0) dX12_count_124 rfl ?_
            refine q_iald (pc := 125) (j := 0) (md_r3 hm) (by decide) rfl (by decide) (by decide) dX12_count_125 ?_
            refine r_iret (pc := 126) rfl ?_ (Nat.le_of_ble_eq_true rfl) (Nat.le_of_ble_eq_true rfl) dX12_count_126
            rw [er]; exact ⟨rfl, rfl⟩
          · refine r_tableIn (pc := 38) (off := 89) (tgt := 127) dX12_count_38 (by decide) (by decide) (by decide +kernel) (by decide) ?_
            refine r_aload_n (pc := 127) 0 dX12_count_127 rfl ?_
            refine r_dV (pc := 128) (As := []) mv_X12_aliveOnes ml_X12_489 (ct_aliveOnes hm hn1 h6) (q_is hm) rfl rfl (Nat.le_of_ble_eq_true rfl) (Nat.le_of_ble_eq_true rfl) (Nat.le_of_ble_eq_true rfl) (Nat.le_of_ble_eq_true rfl) (Nat.le_of_ble_eq_true rfl) dX12_count_128 ?_
            refine r_dS (pc := 131) (As := [_]) ms_X12_ones ml_X12_190 (ct_ones _) rfl rfl (Nat.le_of_ble_eq_true rfl) (Nat.le_of_ble_eq_true rfl) (Nat.le_of_ble_eq_true rfl) (Nat.le_of_ble_eq_true rfl) (Nat.le_of_ble_eq_true rfl) dX12_count_131 ?_
            refine r_iret (pc := 134) rfl ?_ (Nat.le_of_ble_eq_true rfl) (Nat.le_of_ble_eq_true rfl) dX12_count_134
            rw [er]; exact ⟨rfl, rfl⟩
          · refine r_tableIn (pc := 38) (off := 97) (tgt := 135) dX12_count_38 (by decide) (by decide) (by decide +kernel) (by decide) ?_
            refine r_aload_n (pc := 135) 0 dX12_count_135 rfl ?_
            refine q_getR (pc := 136) fl_X12_13 hm (md_f3 hm) dX12_count_136 ?_
            refine r_iconst (pc := 139) (1) dX12_count_139 rfl ?_
            refine q_iald (pc := 140) (j := 1) (md_r3 hm) (by decide) rfl (by decide) (by decide) dX12_count_140 ?_
            refine r_iret (pc := 141) rfl ?_ (Nat.le_of_ble_eq_true rfl) (Nat.le_of_ble_eq_true rfl) dX12_count_141
            rw [er]; exact ⟨rfl, rfl⟩
          · refine r_tableIn (pc := 38) (off := 104) (tgt := 142) dX12_count_38 (by decide) (by decide) (by decide +kernel) (by decide) ?_
            refine r_aload_n (pc := 142) 0 dX12_count_142 rfl ?_
            refine q_getR (pc := 143) fl_X12_13 hm (md_f3 hm) dX12_count_143 ?_
            refine r_iconst (pc := 146) (2) dX12_count_146 rfl ?_
            refine q_iald (pc := 147) (j := 2) (md_r3 hm) (by decide) rfl (by decide) (by decide) dX12_count_147 ?_
            refine r_iret (pc := 148) rfl ?_ (Nat.le_of_ble_eq_true rfl) (Nat.le_of_ble_eq_true rfl) dX12_count_148
            rw [er]; exact ⟨rfl, rfl⟩
          · refine r_tableIn (pc := 38) (off := 111) (tgt := 149) dX12_count_38 (by decide) (by decide) (by decide +kernel) (by decide) ?_
            refine r_aload_n (pc := 149) 0 dX12_count_149 rfl ?_
            refine q_getR (pc := 150) fl_X12_13 hm (md_f3 hm) dX12_count_150 ?_
            refine r_iconst (pc := 153) (3) dX12_count_153 rfl ?_
            refine q_iald (pc := 154) (j := 3) (md_r3 hm) (by decide) rfl (by decide) (by decide) dX12_count_154 ?_
            refine r_iret (pc := 155) rfl ?_ (Nat.le_of_ble_eq_true rfl) (Nat.le_of_ble_eq_true rfl) dX12_count_155
            rw [er]; exact ⟨rfl, rfl⟩
          · refine r_tableIn (pc := 38) (off := 118) (tgt := 156) dX12_count_38 (by decide) (by decide) (by decide +kernel) (by decide) ?_
            refine r_aload_n (pc := 156) 0 dX12_count_156 rfl ?_
            refine q_getI (pc := 157) fl_X12_167 hm dX12_count_157 ?_
            refine r_iret (pc := 160) rfl ?_ (Nat.le_of_ble_eq_true rfl) (Nat.le_of_ble_eq_true rfl) dX12_count_160
            rw [up2_ne (by omega)]; exact ⟨rfl, rfl⟩
          · refine r_tableIn (pc := 38) (off := 123) (tgt := 161) dX12_count_38 (by decide) (by decide) (by decide +kernel) (by decide) ?_
            refine r_aload_n (pc := 161) 0 dX12_count_161 rfl ?_
            refine q_getI (pc := 162) fl_X12_248 hm dX12_count_162 ?_
            refine r_iret (pc := 165) rfl ?_ (Nat.le_of_ble_eq_true rfl) (Nat.le_of_ble_eq_true rfl) dX12_count_165
            rw [up2_ne (by omega)]; exact ⟨rfl, rfl⟩
          · refine r_tableIn (pc := 38) (off := 128) (tgt := 166) dX12_count_38 (by decide) (by decide) (by decide +kernel) (by decide) ?_
            refine r_aload_n (pc := 166) 0 dX12_count_166 rfl ?_
            refine q_getR (pc := 167) fl_X12_7 hm (md_f2 hm) dX12_count_167 ?_
            refine r_iconst (pc := 170) (1) dX12_count_170 rfl ?_
            refine q_iald (pc := 171) (j := 1) (md_r2 hm) (by decide) rfl (by decide) (by decide) dX12_count_171 ?_
            refine r_iret (pc := 172) rfl ?_ (Nat.le_of_ble_eq_true rfl) (Nat.le_of_ble_eq_true rfl) dX12_count_172
            rw [er1]; exact ⟨rfl, rfl⟩
          · refine r_tableIn (pc := 38) (off := 135) (tgt := 173) dX12_count_38 (by decide) (by decide) (by decide +kernel) (by decide) ?_
            refine r_aload_n (pc := 173) 0 dX12_count_173 rfl ?_
            refine q_getR (pc := 174) fl_X12_7 hm (md_f2 hm) dX12_count_174 ?_
            refine r_iconst (pc := 177) (2) dX12_count_177 rfl ?_
            refine q_iald (pc := 178) (j := 2) (md_r2 hm) (by decide) rfl (by decide) (by decide) dX12_count_178 ?_
            refine r_iret (pc := 179) rfl ?_ (Nat.le_of_ble_eq_true rfl) (Nat.le_of_ble_eq_true rfl) dX12_count_179
            rw [er1]; exact ⟨rfl, rfl⟩
          · refine r_tableIn (pc := 38) (off := 142) (tgt := 180) dX12_count_38 (by decide) (by decide) (by decide +kernel) (by decide) ?_
            refine r_aload_n (pc := 180) 0 dX12_count_180 rfl ?_
            refine q_getR (pc := 181) fl_X12_7 hm (md_f2 hm) dX12_count_181 ?_
            refine r_iconst (pc := 184) (3) dX12_count_184 rfl ?_
            refine q_iald (pc := 185) (j := 3) (md_r2 hm) (by decide) rfl (by decide) (by decide) dX12_count_185 ?_
            refine r_iret (pc := 186) rfl ?_ (Nat.le_of_ble_eq_true rfl) (Nat.le_of_ble_eq_true rfl) dX12_count_186
            rw [er1]; exact ⟨rfl, rfl⟩
          · refine r_tableIn (pc := 38) (off := 149) (tgt := 187) dX12_count_38 (by decide) (by decide) (by decide +kernel) (by decide) ?_
            refine r_aload_n (pc := 187) 0 dX12_count_187 rfl ?_
            refine q_getR (pc := 188) fl_X12_7 hm (md_f2 hm) dX12_count_188 ?_
            refine r_iconst (pc := 191) (5) dX12_count_191 rfl ?_
            refine q_iald (pc := 192) (j := 5) (md_r2 hm) (by decide) rfl (by decide) (by decide) dX12_count_192 ?_
            refine r_iret (pc := 193) rfl ?_ (Nat.le_of_ble_eq_true rfl) (Nat.le_of_ble_eq_true rfl) dX12_count_193
            rw [er1]; exact ⟨rfl, rfl⟩
          · refine r_tableIn (pc := 38) (off := 156) (tgt := 194) dX12_count_38 (by decide) (by decide) (by decide +kernel) (by decide) ?_
            refine r_aload_n (pc := 194) 0 dX12_count_194 rfl ?_
            refine q_getR (pc := 195) fl_X12_7 hm (md_f2 hm) dX12_count_195 ?_
            refine r_bipush (pc := 198) (6) dX12_count_198 rfl ?_
            refine q_iald (pc := 200) (j := 6) (md_r2 hm) (by decide) rfl (by decide) (by decide) dX12_count_200 ?_
            refine r_iret (pc := 201) rfl ?_ (Nat.le_of_ble_eq_true rfl) (Nat.le_of_ble_eq_true rfl) dX12_count_201
            rw [er1]; exact ⟨rfl, rfl⟩
          · refine r_tableIn (pc := 38) (off := 164) (tgt := 202) dX12_count_38 (by decide) (by decide) (by decide +kernel) (by decide) ?_
            refine r_aload_n (pc := 202) 0 dX12_count_202 rfl ?_
            refine q_getR (pc := 203) fl_X12_13 hm (md_f3 hm) dX12_count_203 ?_
            refine r_iconst (pc := 206) (4) dX12_count_206 rfl ?_
            refine q_iald (pc := 207) (j := 4) (md_r3 hm) (by decide) rfl (by decide) (by decide) dX12_count_207 ?_
            refine r_iret (pc := 208) rfl ?_ (Nat.le_of_ble_eq_true rfl) (Nat.le_of_ble_eq_true rfl) dX12_count_208
            rw [er]; exact ⟨rfl, rfl⟩
          · refine r_tableIn (pc := 38) (off := 173) (tgt := 211) dX12_count_38 (by decide) (by decide) (by decide +kernel) (by decide) ?_
            refine r_iload_n (pc := 211) 1 dX12_count_211 rfl ?_
            refine r_i2l (pc := 212) dX12_count_212 ?_
            refine r_ldc2_w (pc := 213) cs_X12_543 dX12_count_213 ?_
            refine r_ldc2_w (pc := 216) cs_X12_545 dX12_count_216 ?_
            refine r_dS (pc := 219) (As := [_, _, _]) ms_X12_in ml_X12_181 (ct_in _ _ _) rfl rfl (Nat.le_of_ble_eq_true rfl) (Nat.le_of_ble_eq_true rfl) (Nat.le_of_ble_eq_true rfl) (Nat.le_of_ble_eq_true rfl) (Nat.le_of_ble_eq_true rfl) dX12_count_219 ?_
            refine r_if_eq (pc := 222) (tgt := 239) dX12_count_222 (by decide) (fun c_222 => ?_) (fun c_222 => ?_)
            · exact absurd c_222 (by decide)
            · refine r_aload_n (pc := 225) 0 dX12_count_225 rfl ?_
              refine q_getR (pc := 226) fl_X12_13 hm (md_f3 hm) dX12_count_226 ?_
              refine r_iconst (pc := 229) (5) dX12_count_229 rfl ?_
              refine r_iload_n (pc := 230) 1 dX12_count_230 rfl ?_
              refine r_iadd (pc := 231) dX12_count_231 ?_
              refine r_bipush (pc := 232) (13) dX12_count_232 rfl ?_
              refine r_isub (pc := 234) dX12_count_234 ?_
              refine q_iald (pc := 235) (j := 5) (md_r3 hm) (by decide) (by decide) (by decide) (by decide) dX12_count_235 ?_
              refine r_goto (pc := 236) (tgt := 240) dX12_count_236 (by decide) ?_
              refine r_iret (pc := 240) rfl ?_ (Nat.le_of_ble_eq_true rfl) (Nat.le_of_ble_eq_true rfl) dX12_count_240
              rw [er]; exact ⟨rfl, rfl⟩
          · refine r_tableIn (pc := 38) (off := 173) (tgt := 211) dX12_count_38 (by decide) (by decide) (by decide +kernel) (by decide) ?_
            refine r_iload_n (pc := 211) 1 dX12_count_211 rfl ?_
            refine r_i2l (pc := 212) dX12_count_212 ?_
            refine r_ldc2_w (pc := 213) cs_X12_543 dX12_count_213 ?_
            refine r_ldc2_w (pc := 216) cs_X12_545 dX12_count_216 ?_
            refine r_dS (pc := 219) (As := [_, _, _]) ms_X12_in ml_X12_181 (ct_in _ _ _) rfl rfl (Nat.le_of_ble_eq_true rfl) (Nat.le_of_ble_eq_true rfl) (Nat.le_of_ble_eq_true rfl) (Nat.le_of_ble_eq_true rfl) (Nat.le_of_ble_eq_true rfl) dX12_count_219 ?_
            refine r_if_eq (pc := 222) (tgt := 239) dX12_count_222 (by decide) (fun c_222 => ?_) (fun c_222 => ?_)
            · exact absurd c_222 (by decide)
            · refine r_aload_n (pc := 225) 0 dX12_count_225 rfl ?_
              refine q_getR (pc := 226) fl_X12_13 hm (md_f3 hm) dX12_count_226 ?_
              refine r_iconst (pc := 229) (5) dX12_count_229 rfl ?_
              refine r_iload_n (pc := 230) 1 dX12_count_230 rfl ?_
              refine r_iadd (pc := 231) dX12_count_231 ?_
              refine r_bipush (pc := 232) (13) dX12_count_232 rfl ?_
              refine r_isub (pc := 234) dX12_count_234 ?_
              refine q_iald (pc := 235) (j := 6) (md_r3 hm) (by decide) (by decide) (by decide) (by decide) dX12_count_235 ?_
              refine r_goto (pc := 236) (tgt := 240) dX12_count_236 (by decide) ?_
              refine r_iret (pc := 240) rfl ?_ (Nat.le_of_ble_eq_true rfl) (Nat.le_of_ble_eq_true rfl) dX12_count_240
              rw [er]; exact ⟨rfl, rfl⟩
          · refine r_tableIn (pc := 38) (off := 173) (tgt := 211) dX12_count_38 (by decide) (by decide) (by decide +kernel) (by decide) ?_
            refine r_iload_n (pc := 211) 1 dX12_count_211 rfl ?_
            refine r_i2l (pc := 212) dX12_count_212 ?_
            refine r_ldc2_w (pc := 213) cs_X12_543 dX12_count_213 ?_
            refine r_ldc2_w (pc := 216) cs_X12_545 dX12_count_216 ?_
            refine r_dS (pc := 219) (As := [_, _, _]) ms_X12_in ml_X12_181 (ct_in _ _ _) rfl rfl (Nat.le_of_ble_eq_true rfl) (Nat.le_of_ble_eq_true rfl) (Nat.le_of_ble_eq_true rfl) (Nat.le_of_ble_eq_true rfl) (Nat.le_of_ble_eq_true rfl) dX12_count_219 ?_
            refine r_if_eq (pc := 222) (tgt := 239) dX12_count_222 (by decide) (fun c_222 => ?_) (fun c_222 => ?_)
            · exact absurd c_222 (by decide)
            · refine r_aload_n (pc := 225) 0 dX12_count_225 rfl ?_
              refine q_getR (pc := 226) fl_X12_13 hm (md_f3 hm) dX12_count_226 ?_
              refine r_iconst (pc := 229) (5) dX12_count_229 rfl ?_
              refine r_iload_n (pc := 230) 1 dX12_count_230 rfl ?_
              refine r_iadd (pc := 231) dX12_count_231 ?_
              refine r_bipush (pc := 232) (13) dX12_count_232 rfl ?_
              refine r_isub (pc := 234) dX12_count_234 ?_
              refine q_iald (pc := 235) (j := 7) (md_r3 hm) (by decide) (by decide) (by decide) (by decide) dX12_count_235 ?_
              refine r_goto (pc := 236) (tgt := 240) dX12_count_236 (by decide) ?_
              refine r_iret (pc := 240) rfl ?_ (Nat.le_of_ble_eq_true rfl) (Nat.le_of_ble_eq_true rfl) dX12_count_240
              rw [er]; exact ⟨rfl, rfl⟩
          · refine r_tableIn (pc := 38) (off := 171) (tgt := 209) dX12_count_38 (by decide) (by decide) (by decide +kernel) (by decide) ?_
            refine r_iload_n (pc := 209) 2 dX12_count_209 rfl ?_
            refine r_iret (pc := 210) rfl ?_ (Nat.le_of_ble_eq_true rfl) (Nat.le_of_ble_eq_true rfl) dX12_count_210
            exact ⟨rfl, rfl⟩
        · rw [countF, if_neg hw]
          refine r_tableOut (pc := 38) (tgt := 211) dX12_count_38 (by have := inN_out hw; omega) (by decide) ?_
          refine r_iload_n (pc := 211) 1 dX12_count_211 rfl ?_
          refine r_i2l (pc := 212) dX12_count_212 ?_
          refine r_ldc2_w (pc := 213) cs_X12_543 dX12_count_213 ?_
          refine r_ldc2_w (pc := 216) cs_X12_545 dX12_count_216 ?_
          refine r_dS (pc := 219) (As := [_, _, _]) ms_X12_in ml_X12_181 (ct_in _ _ _) rfl rfl (Nat.le_of_ble_eq_true rfl) (Nat.le_of_ble_eq_true rfl) (Nat.le_of_ble_eq_true rfl) (Nat.le_of_ble_eq_true rfl) (Nat.le_of_ble_eq_true rfl) dX12_count_219 ?_
          refine r_if_eq (pc := 222) (tgt := 239) dX12_count_222 (by decide) (fun c_222 => ?_) (fun c_222 => ?_)
          · refine r_iconst (pc := 239) (-1) dX12_count_239 rfl ?_
            refine r_iret (pc := 240) rfl ?_ (Nat.le_of_ble_eq_true rfl) (Nat.le_of_ble_eq_true rfl) dX12_count_240
            exact ⟨rfl, rfl⟩
          · have q := of_decide_eq_true (bI_n0.mp c_222)
            rw [fa_le64, fa_le64, Int32.toInt_toInt64] at q
            have q1 : (13 : Int) ≤ w.toInt := q.1
            have q2 : w.toInt ≤ (15 : Int) := q.2
            have := inN_out hw
            omega
      · exact absurd (by rw [hn1]; exact Int32.le_refl _) c_16
  exact loop 0 (by omega)
end MODEL6
