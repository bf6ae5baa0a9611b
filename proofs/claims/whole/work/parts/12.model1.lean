/-! the reference: small methods over its memory -/
theorem up2_self {α : Type} (f : Nat → Nat → α) (a k : Nat) : up2 f a k (f a k) = f := by
  funext b j; unfold up2; split
  · next q => obtain ⟨rfl, rfl⟩ := q; rfl
  · rfl
theorem Ct.cast {E : En} {d : Nat} {M : Mi} {av : List Value} {h g g' : Hp} {v v' : Option Value} (hc : Ct E d 0 0 M av h (po v g)) (hv : v = v') (hg : g = g') : Ct E d 0 0 M av h (po v' g') := by subst hv; subst hg; exact hc
/-- a count that a number is under -/
def inN (c : Int32) (n : Nat) : Bool := decide (0 ≤ c.toInt ∧ c.toInt < (n : Int))
theorem inN_of {c : Int32} {n : Nat} (hn : n < 2 ^ 31) (hc : inN c n = true) : ∃ k, k < n ∧ c = nI k := by
  unfold inN at hc
  have h1 := of_decide_eq_true hc
  refine ⟨c.toInt.toNat, by omega, ?_⟩
  apply Int32.toInt_inj.mp
  rw [nI_toInt (by omega)]; omega
theorem inN_nI {k n : Nat} (hk : k < 2 ^ 31) : inN (nI k) n = decide (k < n) := by
  unfold inN; rw [nI_toInt hk]
  by_cases h1 : k < n
  · rw [decide_eq_true h1, decide_eq_true]; omega
  · rw [decide_eq_false h1, decide_eq_false]; omega
theorem in_n {c : Int32} {n : Nat} (hn : n < 2 ^ 31) : decide ((0 : Int64) ≤ c.toInt64 ∧ c.toInt64 ≤ (nI n).toInt64 - 1) = inN c n := by
  unfold inN
  congr 1
  rw [fa_le64, fa_le64, Int32.toInt_toInt64]
  have e1 : ((nI n).toInt64 - 1).toInt = (n : Int) - 1 := by
    rw [Int64.toInt_sub, Int32.toInt_toInt64, nI_toInt hn]
    show Int.bmod ((n : Int) - 1) _ = _
    apply Int.bmod_eq_of_le <;> omega
  rw [e1]
  show ((0 : Int) ≤ _ ∧ _) = _
  apply propext; constructor <;> intro q <;> omega
theorem in_lit {c : Int32} {b : Int64} {n : Nat} (hb : b.toInt = (n : Int)) : decide ((0 : Int64) ≤ c.toInt64 ∧ c.toInt64 ≤ b) = inN c (n + 1) := by
  unfold inN
  congr 1
  rw [fa_le64, fa_le64, Int32.toInt_toInt64, hb]
  show ((0 : Int) ≤ _ ∧ _) = _
  apply propext; constructor <;> intro q <;> omega
section MODEL
variable {E : En} {h : Hp} {m : Nat} {μ : Mu} {l : La}
def tellM (μ : Mu) (v : Int32) : Mu := if v < 0 then up2 (up2 μ 0 1 v) 1 (-v).toNatClampNeg (μ 1 (-v).toNatClampNeg + 1) else up2 μ 0 1 0
theorem ct_tell (hm : Md E h m) (v : Int32) (hv : v < 0 → ∃ j, j < 7 ∧ -v = nI j) : Ct E 0 0 0 mX12_tell [.ref m, .int v] (mH h m μ l) (po (some (.int v)) (mH h m (tellM μ v) l)) := by
  refine Ct.of (by decide +kernel) (Nat.le_of_ble_eq_true rfl) ?_
  refine r_aload_n (pc := 0) 0 dX12_tell_0 rfl ?_
  refine r_iload_n (pc := 1) 1 dX12_tell_1 rfl ?_
  refine r_if_ge (pc := 2) (tgt := 9) dX12_tell_2 (by decide) (fun c_2 => ?_) (fun c_2 => ?_)
  · refine r_iconst (pc := 9) (0) dX12_tell_9 rfl ?_
    refine q_putI (pc := 10) fp_X12_164 hm dX12_tell_10 ?_
    refine r_iload_n (pc := 13) 1 dX12_tell_13 rfl ?_
    refine r_if_ge (pc := 14) (tgt := 28) dX12_tell_14 (by decide) (fun c_14 => ?_) (fun c_14 => ?_)
    · refine r_iload_n (pc := 28) 1 dX12_tell_28 rfl ?_
      refine r_iret (pc := 29) rfl ?_ (Nat.le_of_ble_eq_true rfl) (Nat.le_of_ble_eq_true rfl) dX12_tell_29
      refine ⟨rfl, ?_⟩
      rw [tellM, if_neg (Int32.not_lt.mpr c_2)]
    · exact absurd c_2 c_14
  · refine r_iload_n (pc := 5) 1 dX12_tell_5 rfl ?_
    refine r_goto (pc := 6) (tgt := 10) dX12_tell_6 (by decide) ?_
    refine q_putI (pc := 10) fp_X12_164 hm dX12_tell_10 ?_
    refine r_iload_n (pc := 13) 1 dX12_tell_13 rfl ?_
    refine r_if_ge (pc := 14) (tgt := 28) dX12_tell_14 (by decide) (fun c_14 => ?_) (fun c_14 => ?_)
    · exact absurd c_14 c_2
    · obtain ⟨j, hj, e⟩ := hv (Int32.not_le.mp c_2)
      refine r_aload_n (pc := 17) 0 dX12_tell_17 rfl ?_
      refine q_getR (pc := 18) fl_X12_7 hm (md_f2 hm) dX12_tell_18 ?_
      refine r_iload_n (pc := 21) 1 dX12_tell_21 rfl ?_
      refine r_ineg (pc := 22) dX12_tell_22 ?_
      refine r_dup2_11 (pc := 23) dX12_tell_23 rfl rfl ?_
      refine q_iald (pc := 24) (j := j) (md_r2 hm) (by decide) e (by omega) (by decide) dX12_tell_24 ?_
      refine r_iconst (pc := 25) (1) dX12_tell_25 rfl ?_
      refine r_iadd (pc := 26) dX12_tell_26 ?_
      refine q_iast (pc := 27) (j := j) (md_r2 hm) (by decide) e (by omega) (by decide) dX12_tell_27 ?_
      refine r_iload_n (pc := 28) 1 dX12_tell_28 rfl ?_
      refine r_iret (pc := 29) rfl ?_ (Nat.le_of_ble_eq_true rfl) (Nat.le_of_ble_eq_true rfl) dX12_tell_29
      refine ⟨rfl, ?_⟩
      rw [tellM, if_pos (Int32.not_le.mp c_2), e, nI_clamp (by omega)]
      rfl
theorem ct_change (hm : Md E h m) (j : Nat) (v : Int32) (hj : j < 5450) : Ct E 0 0 0 mX12_change [.ref m, .int (nI j), .int v] (mH h m μ l) (po (some (.int (μ 2 j))) (mH h m (up2 (up2 μ 2 j v) 0 1 0) l)) := by
  refine Ct.of (by decide +kernel) (Nat.le_of_ble_eq_true rfl) ?_
  refine r_aload_n (pc := 0) 0 dX12_change_0 rfl ?_
  refine q_getR (pc := 1) fl_X12_13 hm (md_f3 hm) dX12_change_1 ?_
  refine r_iload_n (pc := 4) 1 dX12_change_4 rfl ?_
  refine q_iald (pc := 5) (j := j) (md_r3 hm) (by decide) rfl (by omega) (by decide) dX12_change_5 ?_
  refine r_istore_n (pc := 6) (lv' := [(0, _), (1, _), (2, _), (3, _)]) dX12_change_6 (Nat.le_of_ble_eq_true rfl) rfl ?_
  refine r_aload_n (pc := 7) 0 dX12_change_7 rfl ?_
  refine q_getR (pc := 8) fl_X12_13 hm (md_f3 hm) dX12_change_8 ?_
  refine r_iload_n (pc := 11) 1 dX12_change_11 rfl ?_
  refine r_iload_n (pc := 12) 2 dX12_change_12 rfl ?_
  refine q_iast (pc := 13) (j := j) (md_r3 hm) (by decide) rfl (by omega) (by decide) dX12_change_13 ?_
  refine r_aload_n (pc := 14) 0 dX12_change_14 rfl ?_
  refine r_iconst (pc := 15) (0) dX12_change_15 rfl ?_
  refine q_putI (pc := 16) fp_X12_164 hm dX12_change_16 ?_
  refine r_iload_n (pc := 19) 3 dX12_change_19 rfl ?_
  refine r_iret (pc := 20) rfl ?_ (Nat.le_of_ble_eq_true rfl) (Nat.le_of_ble_eq_true rfl) dX12_change_20
  exact ⟨rfl, rfl⟩
def settledM (μ : Mu) (v : Int32) : Mu := tellM (if v < 0 then μ else up2 μ 0 8 0) v
theorem ct_settled (hm : Md E h m) (v : Int32) (hv : v < 0 → ∃ j, j < 7 ∧ -v = nI j) : Ct E 1 0 0 mX12_settled [.ref m, .int v] (mH h m μ l) (po (some (.int v)) (mH h m (settledM μ v) l)) := by
  refine Ct.of (by decide +kernel) (Nat.le_of_ble_eq_true rfl) ?_
  refine r_aload_n (pc := 0) 0 dX12_settled_0 rfl ?_
  refine r_iload_n (pc := 1) 1 dX12_settled_1 rfl ?_
  refine r_if_ge (pc := 2) (tgt := 12) dX12_settled_2 (by decide) (fun c_2 => ?_) (fun c_2 => ?_)
  · refine r_iconst (pc := 12) (0) dX12_settled_12 rfl ?_
    refine q_putI (pc := 13) fp_X12_167 hm dX12_settled_13 ?_
    refine r_aload_n (pc := 16) 0 dX12_settled_16 rfl ?_
    refine r_iload_n (pc := 17) 1 dX12_settled_17 rfl ?_
    refine r_dV (pc := 18) (As := [_]) mv_X12_tell ml_X12_170 (ct_tell hm v hv) (q_is hm) rfl rfl (Nat.le_of_ble_eq_true rfl) (Nat.le_of_ble_eq_true rfl) (Nat.le_of_ble_eq_true rfl) (Nat.le_of_ble_eq_true rfl) (Nat.le_of_ble_eq_true rfl) dX12_settled_18 ?_
    refine r_iret (pc := 21) rfl ?_ (Nat.le_of_ble_eq_true rfl) (Nat.le_of_ble_eq_true rfl) dX12_settled_21
    refine ⟨rfl, ?_⟩
    rw [settledM, if_neg (Int32.not_lt.mpr c_2)]
  · refine r_aload_n (pc := 5) 0 dX12_settled_5 rfl ?_
    refine q_getI (pc := 6) fl_X12_167 hm dX12_settled_6 ?_
    refine r_goto (pc := 9) (tgt := 13) dX12_settled_9 (by decide) ?_
    refine q_putI (pc := 13) fp_X12_167 hm dX12_settled_13 ?_
    refine r_aload_n (pc := 16) 0 dX12_settled_16 rfl ?_
    refine r_iload_n (pc := 17) 1 dX12_settled_17 rfl ?_
    refine r_dV (pc := 18) (As := [_]) mv_X12_tell ml_X12_170 (ct_tell hm v hv) (q_is hm) rfl rfl (Nat.le_of_ble_eq_true rfl) (Nat.le_of_ble_eq_true rfl) (Nat.le_of_ble_eq_true rfl) (Nat.le_of_ble_eq_true rfl) (Nat.le_of_ble_eq_true rfl) dX12_settled_18 ?_
    refine r_iret (pc := 21) rfl ?_ (Nat.le_of_ble_eq_true rfl) (Nat.le_of_ble_eq_true rfl) dX12_settled_21
    refine ⟨rfl, ?_⟩
    rw [settledM, if_pos (Int32.not_le.mp c_2), up2_self]
theorem ct_isCat (hm : Md E h m) (c : Int32) {n : Nat} (hn : μ 2 0 = nI n) (hs : n < 2 ^ 31) : Ct E 1 0 0 mX12_isCat [.ref m, .int c] (mH h m μ l) (po (some (.int (bI (inN c n)))) (mH h m μ l)) := by
  refine Ct.of (by decide +kernel) (Nat.le_of_ble_eq_true rfl) ?_
  refine r_iload_n (pc := 0) 1 dX12_isCat_0 rfl ?_
  refine r_i2l (pc := 1) dX12_isCat_1 ?_
  refine r_lconst (pc := 2) (0) dX12_isCat_2 rfl ?_
  refine r_aload_n (pc := 3) 0 dX12_isCat_3 rfl ?_
  refine q_getR (pc := 4) fl_X12_13 hm (md_f3 hm) dX12_isCat_4 ?_
  refine r_iconst (pc := 7) (0) dX12_isCat_7 rfl ?_
  refine q_iald (pc := 8) (j := 0) (md_r3 hm) (by decide) rfl (by decide) (by decide) dX12_isCat_8 ?_
  refine r_i2l (pc := 9) dX12_isCat_9 ?_
  refine r_lconst (pc := 10) (1) dX12_isCat_10 rfl ?_
  refine r_lsub (pc := 11) dX12_isCat_11 ?_
  refine r_dS (pc := 12) (As := [_, _, _]) ms_X12_in ml_X12_181 (ct_in _ _ _) rfl rfl (Nat.le_of_ble_eq_true rfl) (Nat.le_of_ble_eq_true rfl) (Nat.le_of_ble_eq_true rfl) (Nat.le_of_ble_eq_true rfl) (Nat.le_of_ble_eq_true rfl) dX12_isCat_12 ?_
  refine r_zret (pc := 15) rfl (bI_01 _) ?_ (Nat.le_of_ble_eq_true rfl) (Nat.le_of_ble_eq_true rfl) dX12_isCat_15
  rw [hn]
  exact ⟨by rw [← in_n hs], rfl⟩
theorem ct_isShip (hm : Md E h m) (c : Int32) {n : Nat} (hn : μ 2 1 = nI n) (hs : n < 2 ^ 31) : Ct E 1 0 0 mX12_isShip [.ref m, .int c] (mH h m μ l) (po (some (.int (bI (inN c n)))) (mH h m μ l)) := by
  refine Ct.of (by decide +kernel) (Nat.le_of_ble_eq_true rfl) ?_
  refine r_iload_n (pc := 0) 1 dX12_isShip_0 rfl ?_
  refine r_i2l (pc := 1) dX12_isShip_1 ?_
  refine r_lconst (pc := 2) (0) dX12_isShip_2 rfl ?_
  refine r_aload_n (pc := 3) 0 dX12_isShip_3 rfl ?_
  refine q_getR (pc := 4) fl_X12_13 hm (md_f3 hm) dX12_isShip_4 ?_
  refine r_iconst (pc := 7) (1) dX12_isShip_7 rfl ?_
  refine q_iald (pc := 8) (j := 1) (md_r3 hm) (by decide) rfl (by decide) (by decide) dX12_isShip_8 ?_
  refine r_i2l (pc := 9) dX12_isShip_9 ?_
  refine r_lconst (pc := 10) (1) dX12_isShip_10 rfl ?_
  refine r_lsub (pc := 11) dX12_isShip_11 ?_
  refine r_dS (pc := 12) (As := [_, _, _]) ms_X12_in ml_X12_181 (ct_in _ _ _) rfl rfl (Nat.le_of_ble_eq_true rfl) (Nat.le_of_ble_eq_true rfl) (Nat.le_of_ble_eq_true rfl) (Nat.le_of_ble_eq_true rfl) (Nat.le_of_ble_eq_true rfl) dX12_isShip_12 ?_
  refine r_zret (pc := 15) rfl (bI_01 _) ?_ (Nat.le_of_ble_eq_true rfl) (Nat.le_of_ble_eq_true rfl) dX12_isShip_15
  rw [hn]
  exact ⟨by rw [← in_n hs], rfl⟩
theorem ct_isLife (c : Int32) : Ct E 1 0 0 mX12_isLife [.int c] h (po (some (.int (bI (inN c 9)))) h) := by
  refine Ct.of (by decide +kernel) (Nat.le_of_ble_eq_true rfl) ?_
  refine r_iload_n (pc := 0) 0 dX12_isLife_0 rfl ?_
  refine r_i2l (pc := 1) dX12_isLife_1 ?_
  refine r_lconst (pc := 2) (0) dX12_isLife_2 rfl ?_
  refine r_ldc2_w (pc := 3) cs_X12_188 dX12_isLife_3 ?_
  refine r_dS (pc := 6) (As := [_, _, _]) ms_X12_in ml_X12_181 (ct_in _ _ _) rfl rfl (Nat.le_of_ble_eq_true rfl) (Nat.le_of_ble_eq_true rfl) (Nat.le_of_ble_eq_true rfl) (Nat.le_of_ble_eq_true rfl) (Nat.le_of_ble_eq_true rfl) dX12_isLife_6 ?_
  refine r_zret (pc := 9) rfl (bI_01 _) ?_ (Nat.le_of_ble_eq_true rfl) (Nat.le_of_ble_eq_true rfl) dX12_isLife_9
  exact ⟨by rw [← in_lit (b := 8) (n := 8) (by decide)], rfl⟩
def aliveF (r : Nat → Int32) (k : Nat) : Bool := decide (¬ r (8 + k) = -1)
theorem ct_isAlive (hm : Md E h m) (k : Nat) (hk : k < 6) : Ct E 0 0 0 mX12_isAlive [.ref m, .int (nI k)] (mH h m μ l) (po (some (.int (bI (aliveF (μ 2) k)))) (mH h m μ l)) := by
  refine Ct.of (by decide +kernel) (Nat.le_of_ble_eq_true rfl) ?_
  refine r_aload_n (pc := 0) 0 dX12_isAlive_0 rfl ?_
  refine q_getR (pc := 1) fl_X12_13 hm (md_f3 hm) dX12_isAlive_1 ?_
  refine r_bipush (pc := 4) (8) dX12_isAlive_4 rfl ?_
  refine r_iload_n (pc := 6) 1 dX12_isAlive_6 rfl ?_
  refine r_iadd (pc := 7) dX12_isAlive_7 ?_
  refine q_iald (pc := 8) (j := 8 + k) (md_r3 hm) (by decide) (by simp only [fa_lit, nI_add, nI_mul]) (by omega) (by decide) dX12_isAlive_8 ?_
  refine r_iconst (pc := 9) (-1) dX12_isAlive_9 rfl ?_
  refine r_icmp_eq (pc := 10) (tgt := 17) dX12_isAlive_10 (by decide) (fun c_10 => ?_) (fun c_10 => ?_)
  · refine r_iconst (pc := 17) (0) dX12_isAlive_17 rfl ?_
    refine r_zret (pc := 18) rfl (by decide) ?_ (Nat.le_of_ble_eq_true rfl) (Nat.le_of_ble_eq_true rfl) dX12_isAlive_18
    exact ⟨pz0 (fun q => q c_10), rfl⟩
  · refine r_iconst (pc := 13) (1) dX12_isAlive_13 rfl ?_
    refine r_goto (pc := 14) (tgt := 18) dX12_isAlive_14 (by decide) ?_
    refine r_zret (pc := 18) rfl (by decide) ?_ (Nat.le_of_ble_eq_true rfl) (Nat.le_of_ble_eq_true rfl) dX12_isAlive_18
    exact ⟨pz1 c_10, rfl⟩
def spentF (r : Nat → Int32) (k : Nat) : Int32 := 9 - onesN (r (14 + k)) 9 - bI (aliveF r k)
theorem ct_spentOf (hm : Md E h m) (k : Nat) (hk : k < 6) : Ct E 1 0 0 mX12_spentOf [.ref m, .int (nI k)] (mH h m μ l) (po (some (.int (spentF (μ 2) k))) (mH h m μ l)) := by
  refine Ct.of (by decide +kernel) (Nat.le_of_ble_eq_true rfl) ?_
  refine r_bipush (pc := 0) (9) dX12_spentOf_0 rfl ?_
  refine r_aload_n (pc := 2) 0 dX12_spentOf_2 rfl ?_
  refine q_getR (pc := 3) fl_X12_13 hm (md_f3 hm) dX12_spentOf_3 ?_
  refine r_bipush (pc := 6) (14) dX12_spentOf_6 rfl ?_
  refine r_iload_n (pc := 8) 1 dX12_spentOf_8 rfl ?_
  refine r_iadd (pc := 9) dX12_spentOf_9 ?_
  refine q_iald (pc := 10) (j := 14 + k) (md_r3 hm) (by decide) (by simp only [fa_lit, nI_add, nI_mul]) (by omega) (by decide) dX12_spentOf_10 ?_
  refine r_dS (pc := 11) (As := [_]) ms_X12_ones ml_X12_190 (ct_ones _) rfl rfl (Nat.le_of_ble_eq_true rfl) (Nat.le_of_ble_eq_true rfl) (Nat.le_of_ble_eq_true rfl) (Nat.le_of_ble_eq_true rfl) (Nat.le_of_ble_eq_true rfl) dX12_spentOf_11 ?_
  refine r_isub (pc := 14) dX12_spentOf_14 ?_
  refine r_aload_n (pc := 15) 0 dX12_spentOf_15 rfl ?_
  refine r_iload_n (pc := 16) 1 dX12_spentOf_16 rfl ?_
  refine r_dV (pc := 17) (As := [_]) mv_X12_isAlive ml_X12_193 (ct_isAlive hm k hk) (q_is hm) rfl rfl (Nat.le_of_ble_eq_true rfl) (Nat.le_of_ble_eq_true rfl) (Nat.le_of_ble_eq_true rfl) (Nat.le_of_ble_eq_true rfl) (Nat.le_of_ble_eq_true rfl) dX12_spentOf_17 ?_
  refine r_if_eq (pc := 20) (tgt := 27) dX12_spentOf_20 (by decide) (fun c_20 => ?_) (fun c_20 => ?_)
  · refine r_iconst (pc := 27) (0) dX12_spentOf_27 rfl ?_
    refine r_isub (pc := 28) dX12_spentOf_28 ?_
    refine r_iret (pc := 29) rfl ?_ (Nat.le_of_ble_eq_true rfl) (Nat.le_of_ble_eq_true rfl) dX12_spentOf_29
    exact ⟨by rw [spentF, c_20], rfl⟩
  · refine r_iconst (pc := 23) (1) dX12_spentOf_23 rfl ?_
    refine r_goto (pc := 24) (tgt := 28) dX12_spentOf_24 (by decide) ?_
    refine r_isub (pc := 28) dX12_spentOf_28 ?_
    refine r_iret (pc := 29) rfl ?_ (Nat.le_of_ble_eq_true rfl) (Nat.le_of_ble_eq_true rfl) dX12_spentOf_29
    exact ⟨by rw [spentF, show bI (aliveF (μ 2) k) = 1 from (bI_01 _).resolve_left c_20], rfl⟩
def crewN (r : Nat → Int32) (s : Int32) : Nat → Int32
  | 0 => 0
  | k + 1 => crewN r s k ||| (if r (32 + k) = s then 1 <<< (nI k &&& 31) else 0)
theorem ct_crewOf (hm : Md E h m) (s : Int32) {n : Nat} (hn : μ 2 0 = nI n) (h6 : n ≤ 6) : Ct E 0 0 0 mX12_crewOf [.ref m, .int s] (mH h m μ l) (po (some (.int (crewN (μ 2) s n))) (mH h m μ l)) := by
  refine Ct.of (by decide +kernel) (Nat.le_of_ble_eq_true rfl) ?_
  refine r_iconst (pc := 0) (0) dX12_crewOf_0 rfl ?_
  refine r_istore_n (pc := 1) (lv' := [(0, _), (1, _), (2, _)]) dX12_crewOf_1 (Nat.le_of_ble_eq_true rfl) rfl ?_
  refine r_iconst (pc := 2) (0) dX12_crewOf_2 rfl ?_
  refine r_istore_n (pc := 3) (lv' := [(0, _), (1, _), (2, _), (3, _)]) dX12_crewOf_3 (Nat.le_of_ble_eq_true rfl) rfl ?_
  have loop : ∀ k, k ≤ n → Wp E mX12_crewOf (Rm 0 0 0) (Qm E (po (some (.int (crewN (μ 2) s n))) (mH h m μ l)) 0 0) 4 [(0, .ref m), (1, .int s), (2, .int (crewN (μ 2) s k)), (3, .int (nI k))] [] (mH h m μ l) 0 0 := by
    refine upTo (fun k hk ih => ?_) ?_
    · refine r_iload_n (pc := 4) 3 dX12_crewOf_4 rfl ?_
      refine r_aload_n (pc := 5) 0 dX12_crewOf_5 rfl ?_
      refine q_getR (pc := 6) fl_X12_13 hm (md_f3 hm) dX12_crewOf_6 ?_
      refine r_iconst (pc := 9) (0) dX12_crewOf_9 rfl ?_
      refine q_iald (pc := 10) (j := 0) (md_r3 hm) (by decide) rfl (by decide) (by decide) dX12_crewOf_10 ?_
      refine r_icmp_ge (pc := 11) (tgt := 43) dX12_crewOf_11 (by decide) (fun c_11 => ?_) (fun c_11 => ?_)
      · exact absurd (hn ▸ c_11) (nI_ge hk (by omega))
      · refine r_iload_n (pc := 14) 2 dX12_crewOf_14 rfl ?_
        refine r_aload_n (pc := 15) 0 dX12_crewOf_15 rfl ?_
        refine q_getR (pc := 16) fl_X12_13 hm (md_f3 hm) dX12_crewOf_16 ?_
        refine r_bipush (pc := 19) (32) dX12_crewOf_19 rfl ?_
        refine r_iload_n (pc := 21) 3 dX12_crewOf_21 rfl ?_
        refine r_iadd (pc := 22) dX12_crewOf_22 ?_
        refine q_iald (pc := 23) (j := 32 + k) (md_r3 hm) (by decide) (by simp only [fa_lit, nI_add, nI_mul]) (by omega) (by decide) dX12_crewOf_23 ?_
        refine r_iload_n (pc := 24) 1 dX12_crewOf_24 rfl ?_
        refine r_icmp_ne (pc := 25) (tgt := 34) dX12_crewOf_25 (by decide) (fun c_25 => ?_) (fun c_25 => ?_)
        · refine r_iconst (pc := 34) (0) dX12_crewOf_34 rfl ?_
          refine r_ior (pc := 35) dX12_crewOf_35 ?_
          refine r_istore_n (pc := 36) (lv' := [(0, _), (1, _), (2, _), (3, _)]) dX12_crewOf_36 (Nat.le_of_ble_eq_true rfl) rfl ?_
          refine r_iinc (pc := 37) (v := _ + (1)) (lv' := [(0, _), (1, _), (2, _), (3, _)]) 3 dX12_crewOf_37 rfl rfl (Nat.le_of_ble_eq_true rfl) rfl ?_
          refine r_goto (pc := 40) (tgt := 4) dX12_crewOf_40 (by decide) ?_
          rw [nI_1]; rw [crewN, if_neg c_25] at ih; exact ih
        · refine r_iconst (pc := 28) (1) dX12_crewOf_28 rfl ?_
          refine r_iload_n (pc := 29) 3 dX12_crewOf_29 rfl ?_
          refine r_ishl (pc := 30) dX12_crewOf_30 ?_
          refine r_goto (pc := 31) (tgt := 35) dX12_crewOf_31 (by decide) ?_
          refine r_ior (pc := 35) dX12_crewOf_35 ?_
          refine r_istore_n (pc := 36) (lv' := [(0, _), (1, _), (2, _), (3, _)]) dX12_crewOf_36 (Nat.le_of_ble_eq_true rfl) rfl ?_
          refine r_iinc (pc := 37) (v := _ + (1)) (lv' := [(0, _), (1, _), (2, _), (3, _)]) 3 dX12_crewOf_37 rfl rfl (Nat.le_of_ble_eq_true rfl) rfl ?_
          refine r_goto (pc := 40) (tgt := 4) dX12_crewOf_40 (by decide) ?_
          rw [nI_1]; rw [crewN, if_pos c_25] at ih; exact ih
    · refine r_iload_n (pc := 4) 3 dX12_crewOf_4 rfl ?_
      refine r_aload_n (pc := 5) 0 dX12_crewOf_5 rfl ?_
      refine q_getR (pc := 6) fl_X12_13 hm (md_f3 hm) dX12_crewOf_6 ?_
      refine r_iconst (pc := 9) (0) dX12_crewOf_9 rfl ?_
      refine q_iald (pc := 10) (j := 0) (md_r3 hm) (by decide) rfl (by decide) (by decide) dX12_crewOf_10 ?_
      refine r_icmp_ge (pc := 11) (tgt := 43) dX12_crewOf_11 (by decide) (fun c_11 => ?_) (fun c_11 => ?_)
      · refine r_iload_n (pc := 43) 2 dX12_crewOf_43 rfl ?_
        refine r_iret (pc := 44) rfl ?_ (Nat.le_of_ble_eq_true rfl) (Nat.le_of_ble_eq_true rfl) dX12_crewOf_44
        exact ⟨rfl, rfl⟩
      · exact absurd (by rw [hn]; exact Int32.le_refl _) c_11
  exact loop 0 (by omega)
def livesN (r : Nat → Int32) (s : Int32) : Nat → Int32
  | 0 => 0
  | k + 1 => livesN r s k ||| (if isB s (nI k) = true ∧ aliveF r k = true then 1 <<< (r (8 + k) &&& 31) else 0)
theorem ct_livesOf (hm : Md E h m) (s : Int32) {n : Nat} (hn : μ 2 0 = nI n) (h6 : n ≤ 6) : Ct E 1 0 0 mX12_livesOf [.ref m, .int s] (mH h m μ l) (po (some (.int (livesN (μ 2) s n))) (mH h m μ l)) := by
  refine Ct.of (by decide +kernel) (Nat.le_of_ble_eq_true rfl) ?_
  refine r_iconst (pc := 0) (0) dX12_livesOf_0 rfl ?_
  refine r_istore_n (pc := 1) (lv' := [(0, _), (1, _), (2, _)]) dX12_livesOf_1 (Nat.le_of_ble_eq_true rfl) rfl ?_
  refine r_iconst (pc := 2) (0) dX12_livesOf_2 rfl ?_
  refine r_istore_n (pc := 3) (lv' := [(0, _), (1, _), (2, _), (3, _)]) dX12_livesOf_3 (Nat.le_of_ble_eq_true rfl) rfl ?_
  have loop : ∀ k, k ≤ n → Wp E mX12_livesOf (Rm 1 0 0) (Qm E (po (some (.int (livesN (μ 2) s n))) (mH h m μ l)) 0 0) 4 [(0, .ref m), (1, .int s), (2, .int (livesN (μ 2) s k)), (3, .int (nI k))] [] (mH h m μ l) 0 0 := by
    refine upTo (fun k hk ih => ?_) ?_
    · refine r_iload_n (pc := 4) 3 dX12_livesOf_4 rfl ?_
      refine r_aload_n (pc := 5) 0 dX12_livesOf_5 rfl ?_
      refine q_getR (pc := 6) fl_X12_13 hm (md_f3 hm) dX12_livesOf_6 ?_
      refine r_iconst (pc := 9) (0) dX12_livesOf_9 rfl ?_
      refine q_iald (pc := 10) (j := 0) (md_r3 hm) (by decide) rfl (by decide) (by decide) dX12_livesOf_10 ?_
      refine r_icmp_ge (pc := 11) (tgt := 54) dX12_livesOf_11 (by decide) (fun c_11 => ?_) (fun c_11 => ?_)
      · exact absurd (hn ▸ c_11) (nI_ge hk (by omega))
      · refine r_iload_n (pc := 14) 2 dX12_livesOf_14 rfl ?_
        refine r_iload_n (pc := 15) 1 dX12_livesOf_15 rfl ?_
        refine r_iload_n (pc := 16) 3 dX12_livesOf_16 rfl ?_
        refine r_dS (pc := 17) (As := [_, _]) ms_X12_is ml_X12_197 (ct_is _ _) rfl rfl (Nat.le_of_ble_eq_true rfl) (Nat.le_of_ble_eq_true rfl) (Nat.le_of_ble_eq_true rfl) (Nat.le_of_ble_eq_true rfl) (Nat.le_of_ble_eq_true rfl) dX12_livesOf_17 ?_
        refine r_if_eq (pc := 20) (tgt := 45) dX12_livesOf_20 (by decide) (fun c_20 => ?_) (fun c_20 => ?_)
        · refine r_iconst (pc := 45) (0) dX12_livesOf_45 rfl ?_
          refine r_ior (pc := 46) dX12_livesOf_46 ?_
          refine r_istore_n (pc := 47) (lv' := [(0, _), (1, _), (2, _), (3, _)]) dX12_livesOf_47 (Nat.le_of_ble_eq_true rfl) rfl ?_
          refine r_iinc (pc := 48) (v := _ + (1)) (lv' := [(0, _), (1, _), (2, _), (3, _)]) 3 dX12_livesOf_48 rfl rfl (Nat.le_of_ble_eq_true rfl) rfl ?_
          refine r_goto (pc := 51) (tgt := 4) dX12_livesOf_51 (by decide) ?_
          rw [nI_1]; rw [livesN, if_neg (fun q => by rw [bI_0.mp c_20] at q; exact absurd q.1 (by decide))] at ih; exact ih
        · refine r_aload_n (pc := 23) 0 dX12_livesOf_23 rfl ?_
          refine r_iload_n (pc := 24) 3 dX12_livesOf_24 rfl ?_
          refine r_dV (pc := 25) (As := [_]) mv_X12_isAlive ml_X12_193 (ct_isAlive hm k (by omega)) (q_is hm) rfl rfl (Nat.le_of_ble_eq_true rfl) (Nat.le_of_ble_eq_true rfl) (Nat.le_of_ble_eq_true rfl) (Nat.le_of_ble_eq_true rfl) (Nat.le_of_ble_eq_true rfl) dX12_livesOf_25 ?_
          refine r_if_eq (pc := 28) (tgt := 45) dX12_livesOf_28 (by decide) (fun c_28 => ?_) (fun c_28 => ?_)
          · refine r_iconst (pc := 45) (0) dX12_livesOf_45 rfl ?_
            refine r_ior (pc := 46) dX12_livesOf_46 ?_
            refine r_istore_n (pc := 47) (lv' := [(0, _), (1, _), (2, _), (3, _)]) dX12_livesOf_47 (Nat.le_of_ble_eq_true rfl) rfl ?_
            refine r_iinc (pc := 48) (v := _ + (1)) (lv' := [(0, _), (1, _), (2, _), (3, _)]) 3 dX12_livesOf_48 rfl rfl (Nat.le_of_ble_eq_true rfl) rfl ?_
            refine r_goto (pc := 51) (tgt := 4) dX12_livesOf_51 (by decide) ?_
            rw [nI_1]; rw [livesN, if_neg (fun q => by rw [bI_0.mp c_28] at q; exact absurd q.2 (by decide))] at ih; exact ih
          · refine r_iconst (pc := 31) (1) dX12_livesOf_31 rfl ?_
            refine r_aload_n (pc := 32) 0 dX12_livesOf_32 rfl ?_
            refine q_getR (pc := 33) fl_X12_13 hm (md_f3 hm) dX12_livesOf_33 ?_
            refine r_bipush (pc := 36) (8) dX12_livesOf_36 rfl ?_
            refine r_iload_n (pc := 38) 3 dX12_livesOf_38 rfl ?_
            refine r_iadd (pc := 39) dX12_livesOf_39 ?_
            refine q_iald (pc := 40) (j := 8 + k) (md_r3 hm) (by decide) (by simp only [fa_lit, nI_add, nI_mul]) (by omega) (by decide) dX12_livesOf_40 ?_
            refine r_ishl (pc := 41) dX12_livesOf_41 ?_
            refine r_goto (pc := 42) (tgt := 46) dX12_livesOf_42 (by decide) ?_
            refine r_ior (pc := 46) dX12_livesOf_46 ?_
            refine r_istore_n (pc := 47) (lv' := [(0, _), (1, _), (2, _), (3, _)]) dX12_livesOf_47 (Nat.le_of_ble_eq_true rfl) rfl ?_
            refine r_iinc (pc := 48) (v := _ + (1)) (lv' := [(0, _), (1, _), (2, _), (3, _)]) 3 dX12_livesOf_48 rfl rfl (Nat.le_of_ble_eq_true rfl) rfl ?_
            refine r_goto (pc := 51) (tgt := 4) dX12_livesOf_51 (by decide) ?_
            rw [nI_1]; rw [livesN, if_pos ⟨bI_n0.mp c_20, bI_n0.mp c_28⟩] at ih; exact ih
    · refine r_iload_n (pc := 4) 3 dX12_livesOf_4 rfl ?_
      refine r_aload_n (pc := 5) 0 dX12_livesOf_5 rfl ?_
      refine q_getR (pc := 6) fl_X12_13 hm (md_f3 hm) dX12_livesOf_6 ?_
      refine r_iconst (pc := 9) (0) dX12_livesOf_9 rfl ?_
      refine q_iald (pc := 10) (j := 0) (md_r3 hm) (by decide) rfl (by decide) (by decide) dX12_livesOf_10 ?_
      refine r_icmp_ge (pc := 11) (tgt := 54) dX12_livesOf_11 (by decide) (fun c_11 => ?_) (fun c_11 => ?_)
      · refine r_iload_n (pc := 54) 2 dX12_livesOf_54 rfl ?_
        refine r_iret (pc := 55) rfl ?_ (Nat.le_of_ble_eq_true rfl) (Nat.le_of_ble_eq_true rfl) dX12_livesOf_55
        exact ⟨rfl, rfl⟩
      · exact absurd (by rw [hn]; exact Int32.le_refl _) c_11
  exact loop 0 (by omega)
def aliveN (r : Nat → Int32) : Nat → Int32
  | 0 => 0
  | k + 1 => aliveN r k ||| (if aliveF r k = true then 1 <<< (nI k &&& 31) else 0)
theorem ct_aliveOnes (hm : Md E h m) {n : Nat} (hn : μ 2 0 = nI n) (h6 : n ≤ 6) : Ct E 1 0 0 mX12_aliveOnes [.ref m] (mH h m μ l) (po (some (.int (aliveN (μ 2) n))) (mH h m μ l)) := by
  refine Ct.of (by decide +kernel) (Nat.le_of_ble_eq_true rfl) ?_
  refine r_iconst (pc := 0) (0) dX12_aliveOnes_0 rfl ?_
  refine r_istore_n (pc := 1) (lv' := [(0, _), (1, _)]) dX12_aliveOnes_1 (Nat.le_of_ble_eq_true rfl) rfl ?_
  refine r_iconst (pc := 2) (0) dX12_aliveOnes_2 rfl ?_
  refine r_istore_n (pc := 3) (lv' := [(0, _), (1, _), (2, _)]) dX12_aliveOnes_3 (Nat.le_of_ble_eq_true rfl) rfl ?_
  have loop : ∀ k, k ≤ n → Wp E mX12_aliveOnes (Rm 1 0 0) (Qm E (po (some (.int (aliveN (μ 2) n))) (mH h m μ l)) 0 0) 4 [(0, .ref m), (1, .int (aliveN (μ 2) k)), (2, .int (nI k))] [] (mH h m μ l) 0 0 := by
    refine upTo (fun k hk ih => ?_) ?_
    · refine r_iload_n (pc := 4) 2 dX12_aliveOnes_4 rfl ?_
      refine r_aload_n (pc := 5) 0 dX12_aliveOnes_5 rfl ?_
      refine q_getR (pc := 6) fl_X12_13 hm (md_f3 hm) dX12_aliveOnes_6 ?_
      refine r_iconst (pc := 9) (0) dX12_aliveOnes_9 rfl ?_
      refine q_iald (pc := 10) (j := 0) (md_r3 hm) (by decide) rfl (by decide) (by decide) dX12_aliveOnes_10 ?_
      refine r_icmp_ge (pc := 11) (tgt := 38) dX12_aliveOnes_11 (by decide) (fun c_11 => ?_) (fun c_11 => ?_)
      · exact absurd (hn ▸ c_11) (nI_ge hk (by omega))
      · refine r_iload_n (pc := 14) 1 dX12_aliveOnes_14 rfl ?_
        refine r_aload_n (pc := 15) 0 dX12_aliveOnes_15 rfl ?_
        refine r_iload_n (pc := 16) 2 dX12_aliveOnes_16 rfl ?_
        refine r_dV (pc := 17) (As := [_]) mv_X12_isAlive ml_X12_193 (ct_isAlive hm k (by omega)) (q_is hm) rfl rfl (Nat.le_of_ble_eq_true rfl) (Nat.le_of_ble_eq_true rfl) (Nat.le_of_ble_eq_true rfl) (Nat.le_of_ble_eq_true rfl) (Nat.le_of_ble_eq_true rfl) dX12_aliveOnes_17 ?_
        refine r_if_eq (pc := 20) (tgt := 29) dX12_aliveOnes_20 (by decide) (fun c_20 => ?_) (fun c_20 => ?_)
        · refine r_iconst (pc := 29) (0) dX12_aliveOnes_29 rfl ?_
          refine r_ior (pc := 30) dX12_aliveOnes_30 ?_
          refine r_istore_n (pc := 31) (lv' := [(0, _), (1, _), (2, _)]) dX12_aliveOnes_31 (Nat.le_of_ble_eq_true rfl) rfl ?_
          refine r_iinc (pc := 32) (v := _ + (1)) (lv' := [(0, _), (1, _), (2, _)]) 2 dX12_aliveOnes_32 rfl rfl (Nat.le_of_ble_eq_true rfl) rfl ?_
          refine r_goto (pc := 35) (tgt := 4) dX12_aliveOnes_35 (by decide) ?_
          rw [nI_1]; rw [aliveN, if_neg (fun q => by rw [bI_0.mp c_20] at q; exact absurd q (by decide))] at ih; exact ih
        · refine r_iconst (pc := 23) (1) dX12_aliveOnes_23 rfl ?_
          refine r_iload_n (pc := 24) 2 dX12_aliveOnes_24 rfl ?_
          refine r_ishl (pc := 25) dX12_aliveOnes_25 ?_
          refine r_goto (pc := 26) (tgt := 30) dX12_aliveOnes_26 (by decide) ?_
          refine r_ior (pc := 30) dX12_aliveOnes_30 ?_
          refine r_istore_n (pc := 31) (lv' := [(0, _), (1, _), (2, _)]) dX12_aliveOnes_31 (Nat.le_of_ble_eq_true rfl) rfl ?_
          refine r_iinc (pc := 32) (v := _ + (1)) (lv' := [(0, _), (1, _), (2, _)]) 2 dX12_aliveOnes_32 rfl rfl (Nat.le_of_ble_eq_true rfl) rfl ?_
          refine r_goto (pc := 35) (tgt := 4) dX12_aliveOnes_35 (by decide) ?_
          rw [nI_1]; rw [aliveN, if_pos (bI_n0.mp c_20)] at ih; exact ih
    · refine r_iload_n (pc := 4) 2 dX12_aliveOnes_4 rfl ?_
      refine r_aload_n (pc := 5) 0 dX12_aliveOnes_5 rfl ?_
      refine q_getR (pc := 6) fl_X12_13 hm (md_f3 hm) dX12_aliveOnes_6 ?_
      refine r_iconst (pc := 9) (0) dX12_aliveOnes_9 rfl ?_
      refine q_iald (pc := 10) (j := 0) (md_r3 hm) (by decide) rfl (by decide) (by decide) dX12_aliveOnes_10 ?_
      refine r_icmp_ge (pc := 11) (tgt := 38) dX12_aliveOnes_11 (by decide) (fun c_11 => ?_) (fun c_11 => ?_)
      · refine r_iload_n (pc := 38) 1 dX12_aliveOnes_38 rfl ?_
        refine r_iret (pc := 39) rfl ?_ (Nat.le_of_ble_eq_true rfl) (Nat.le_of_ble_eq_true rfl) dX12_aliveOnes_39
        exact ⟨rfl, rfl⟩
      · exact absurd (by rw [hn]; exact Int32.le_refl _) c_11
  exact loop 0 (by omega)
/-- the terms and the cats laid into row q of what can be undone, so far as i -/
def keepN (μ : Mu) (q i : Nat) : Mu := fun o j => if o = 5 ∧ 33 * q ≤ j ∧ j < 33 * q + i then μ 2 (5 + (j - 33 * q)) else μ o j
theorem keepN_0 (μ : Mu) (q : Nat) : keepN μ q 0 = μ := by funext o j; unfold keepN; rw [if_neg (by omega)]
theorem keepN_s (μ : Mu) (q i : Nat) : up2 (keepN μ q i) 5 (33 * q + i) (keepN μ q i 2 (5 + i)) = keepN μ q (i + 1) := by
  funext o j
  have e2 : keepN μ q i 2 (5 + i) = μ 2 (5 + i) := by unfold keepN; rw [if_neg (by omega)]
  rw [e2]
  unfold up2 keepN
  by_cases h1 : o = 5 ∧ j = 33 * q + i
  · obtain ⟨rfl, rfl⟩ := h1
    rw [if_pos ⟨rfl, rfl⟩, if_pos ⟨rfl, by omega, by omega⟩, show 33 * q + i - 33 * q = i by omega]
  · rw [if_neg h1]
    by_cases h2 : o = 5 ∧ 33 * q ≤ j ∧ j < 33 * q + i
    · rw [if_pos h2, if_pos ⟨h2.1, h2.2.1, by omega⟩]
    · rw [if_neg h2, if_neg (by omega)]
theorem ct_keepAll (hm : Md E h m) (q : Nat) (hq : q < 18) : Ct E 0 0 0 mX12_keepAll [.ref m, .int (nI q)] (mH h m μ l) (po none (mH h m (keepN μ q 33) l)) := by
  refine Ct.of (by decide +kernel) (Nat.le_of_ble_eq_true rfl) ?_
  refine r_iconst (pc := 0) (0) dX12_keepAll_0 rfl ?_
  refine r_istore_n (pc := 1) (lv' := [(0, _), (1, _), (2, _)]) dX12_keepAll_1 (Nat.le_of_ble_eq_true rfl) rfl ?_
  have loop : ∀ k, k ≤ 33 → Wp E mX12_keepAll (Rm 0 0 0) (Qm E (po none (mH h m (keepN μ q 33) l)) 0 0) 2 [(0, .ref m), (1, .int (nI q)), (2, .int (nI k))] [] (mH h m (keepN μ q k) l) 0 0 := by
    refine upTo (fun k hk ih => ?_) ?_
    · refine r_iload_n (pc := 2) 2 dX12_keepAll_2 rfl ?_
      refine r_bipush (pc := 3) (33) dX12_keepAll_3 rfl ?_
      refine r_icmp_ge (pc := 5) (tgt := 33) dX12_keepAll_5 (by decide) (fun c_5 => ?_) (fun c_5 => ?_)
      · exact absurd c_5 (nI_ge (b := 33) hk (by decide))
      · refine r_aload_n (pc := 8) 0 dX12_keepAll_8 rfl ?_
        refine q_getR (pc := 9) fl_X12_23 hm (md_f6 hm) dX12_keepAll_9 ?_
        refine r_bipush (pc := 12) (33) dX12_keepAll_12 rfl ?_
        refine r_iload_n (pc := 14) 1 dX12_keepAll_14 rfl ?_
        refine r_imul (pc := 15) dX12_keepAll_15 ?_
        refine r_iload_n (pc := 16) 2 dX12_keepAll_16 rfl ?_
        refine r_iadd (pc := 17) dX12_keepAll_17 ?_
        refine r_aload_n (pc := 18) 0 dX12_keepAll_18 rfl ?_
        refine q_getR (pc := 19) fl_X12_13 hm (md_f3 hm) dX12_keepAll_19 ?_
        refine r_iconst (pc := 22) (5) dX12_keepAll_22 rfl ?_
        refine r_iload_n (pc := 23) 2 dX12_keepAll_23 rfl ?_
        refine r_iadd (pc := 24) dX12_keepAll_24 ?_
        refine q_iald (pc := 25) (j := 5 + k) (md_r3 hm) (by decide) (by simp only [fa_lit, nI_add, nI_mul]) (by omega) (by decide) dX12_keepAll_25 ?_
        refine q_iast (pc := 26) (j := 33 * q + k) (md_r6 hm) (by decide) (by simp only [fa_lit, nI_add, nI_mul]) (by omega) (by decide) dX12_keepAll_26 ?_
        refine r_iinc (pc := 27) (v := _ + (1)) (lv' := [(0, _), (1, _), (2, _)]) 2 dX12_keepAll_27 rfl rfl (Nat.le_of_ble_eq_true rfl) rfl ?_
        refine r_goto (pc := 30) (tgt := 2) dX12_keepAll_30 (by decide) ?_
        rw [nI_1, keepN_s]; exact ih
    · refine r_iload_n (pc := 2) 2 dX12_keepAll_2 rfl ?_
      refine r_bipush (pc := 3) (33) dX12_keepAll_3 rfl ?_
      refine r_icmp_ge (pc := 5) (tgt := 33) dX12_keepAll_5 (by decide) (fun c_5 => ?_) (fun c_5 => ?_)
      · refine r_vret (pc := 33) rfl ?_ (Nat.le_of_ble_eq_true rfl) (Nat.le_of_ble_eq_true rfl) dX12_keepAll_33
        exact ⟨rfl, rfl⟩
      · exact absurd (show (33 : Int32) ≤ nI 33 by decide) c_5
  have h0 := loop 0 (by omega)
  rw [keepN_0] at h0
  exact h0
def backN (μ : Mu) (q i : Nat) : Mu := fun o j => if o = 2 ∧ 5 ≤ j ∧ j < 5 + i then μ 5 (33 * q + (j - 5)) else μ o j
theorem backN_0 (μ : Mu) (q : Nat) : backN μ q 0 = μ := by funext o j; unfold backN; rw [if_neg (by omega)]
theorem backN_s (μ : Mu) (q i : Nat) : up2 (backN μ q i) 2 (5 + i) (backN μ q i 5 (33 * q + i)) = backN μ q (i + 1) := by
  funext o j
  have e2 : backN μ q i 5 (33 * q + i) = μ 5 (33 * q + i) := by unfold backN; rw [if_neg (by omega)]
  rw [e2]
  unfold up2 backN
  by_cases h1 : o = 2 ∧ j = 5 + i
  · obtain ⟨rfl, rfl⟩ := h1
    rw [if_pos ⟨rfl, rfl⟩, if_pos ⟨rfl, by omega, by omega⟩, show 5 + i - 5 = i by omega]
  · rw [if_neg h1]
    by_cases h2 : o = 2 ∧ 5 ≤ j ∧ j < 5 + i
    · rw [if_pos h2, if_pos ⟨h2.1, h2.2.1, by omega⟩]
    · rw [if_neg h2, if_neg (by omega)]
theorem ct_putBack (hm : Md E h m) (q : Nat) (hq : q < 18) : Ct E 0 0 0 mX12_putBack [.ref m, .int (nI q)] (mH h m μ l) (po none (mH h m (backN μ q 33) l)) := by
  refine Ct.of (by decide +kernel) (Nat.le_of_ble_eq_true rfl) ?_
  refine r_iconst (pc := 0) (0) dX12_putBack_0 rfl ?_
  refine r_istore_n (pc := 1) (lv' := [(0, _), (1, _), (2, _)]) dX12_putBack_1 (Nat.le_of_ble_eq_true rfl) rfl ?_
  have loop : ∀ k, k ≤ 33 → Wp E mX12_putBack (Rm 0 0 0) (Qm E (po none (mH h m (backN μ q 33) l)) 0 0) 2 [(0, .ref m), (1, .int (nI q)), (2, .int (nI k))] [] (mH h m (backN μ q k) l) 0 0 := by
    refine upTo (fun k hk ih => ?_) ?_
    · refine r_iload_n (pc := 2) 2 dX12_putBack_2 rfl ?_
      refine r_bipush (pc := 3) (33) dX12_putBack_3 rfl ?_
      refine r_icmp_ge (pc := 5) (tgt := 33) dX12_putBack_5 (by decide) (fun c_5 => ?_) (fun c_5 => ?_)
      · exact absurd c_5 (nI_ge (b := 33) hk (by decide))
      · refine r_aload_n (pc := 8) 0 dX12_putBack_8 rfl ?_
        refine q_getR (pc := 9) fl_X12_13 hm (md_f3 hm) dX12_putBack_9 ?_
        refine r_iconst (pc := 12) (5) dX12_putBack_12 rfl ?_
        refine r_iload_n (pc := 13) 2 dX12_putBack_13 rfl ?_
        refine r_iadd (pc := 14) dX12_putBack_14 ?_
        refine r_aload_n (pc := 15) 0 dX12_putBack_15 rfl ?_
        refine q_getR (pc := 16) fl_X12_23 hm (md_f6 hm) dX12_putBack_16 ?_
        refine r_bipush (pc := 19) (33) dX12_putBack_19 rfl ?_
        refine r_iload_n (pc := 21) 1 dX12_putBack_21 rfl ?_
        refine r_imul (pc := 22) dX12_putBack_22 ?_
        refine r_iload_n (pc := 23) 2 dX12_putBack_23 rfl ?_
        refine r_iadd (pc := 24) dX12_putBack_24 ?_
        refine q_iald (pc := 25) (j := 33 * q + k) (md_r6 hm) (by decide) (by simp only [fa_lit, nI_add, nI_mul]) (by omega) (by decide) dX12_putBack_25 ?_
        refine q_iast (pc := 26) (j := 5 + k) (md_r3 hm) (by decide) (by simp only [fa_lit, nI_add, nI_mul]) (by omega) (by decide) dX12_putBack_26 ?_
        refine r_iinc (pc := 27) (v := _ + (1)) (lv' := [(0, _), (1, _), (2, _)]) 2 dX12_putBack_27 rfl rfl (Nat.le_of_ble_eq_true rfl) rfl ?_
        refine r_goto (pc := 30) (tgt := 2) dX12_putBack_30 (by decide) ?_
        rw [nI_1, backN_s]; exact ih
    · refine r_iload_n (pc := 2) 2 dX12_putBack_2 rfl ?_
      refine r_bipush (pc := 3) (33) dX12_putBack_3 rfl ?_
      refine r_icmp_ge (pc := 5) (tgt := 33) dX12_putBack_5 (by decide) (fun c_5 => ?_) (fun c_5 => ?_)
      · refine r_vret (pc := 33) rfl ?_ (Nat.le_of_ble_eq_true rfl) (Nat.le_of_ble_eq_true rfl) dX12_putBack_33
        exact ⟨rfl, rfl⟩
      · exact absurd (show (33 : Int32) ≤ nI 33 by decide) c_5
  have h0 := loop 0 (by omega)
  rw [backN_0] at h0
  exact h0
theorem ct_isSmall (c : Int32) : Ct E 0 0 0 mX12_isSmall [.int c] h (po (some (.int (bI (decide (97 ≤ c ∧ c ≤ 122))))) h) := by
  refine Ct.of (by decide +kernel) (Nat.le_of_ble_eq_true rfl) ?_
  refine r_iload_n (pc := 0) 0 dX12_isSmall_0 rfl ?_
  refine r_bipush (pc := 1) (97) dX12_isSmall_1 rfl ?_
  refine r_icmp_lt (pc := 3) (tgt := 16) dX12_isSmall_3 (by decide) (fun c_3 => ?_) (fun c_3 => ?_)
  · refine r_iconst (pc := 16) (0) dX12_isSmall_16 rfl ?_
    refine r_zret (pc := 17) rfl (by decide) ?_ (Nat.le_of_ble_eq_true rfl) (Nat.le_of_ble_eq_true rfl) dX12_isSmall_17
    exact ⟨pz0 (fun q => Int32.not_le.mpr c_3 q.1), rfl⟩
  · refine r_iload_n (pc := 6) 0 dX12_isSmall_6 rfl ?_
    refine r_bipush (pc := 7) (122) dX12_isSmall_7 rfl ?_
    refine r_icmp_gt (pc := 9) (tgt := 16) dX12_isSmall_9 (by decide) (fun c_9 => ?_) (fun c_9 => ?_)
    · refine r_iconst (pc := 16) (0) dX12_isSmall_16 rfl ?_
      refine r_zret (pc := 17) rfl (by decide) ?_ (Nat.le_of_ble_eq_true rfl) (Nat.le_of_ble_eq_true rfl) dX12_isSmall_17
      exact ⟨pz0 (fun q => Int32.not_le.mpr c_9 q.2), rfl⟩
    · refine r_iconst (pc := 12) (1) dX12_isSmall_12 rfl ?_
      refine r_goto (pc := 13) (tgt := 17) dX12_isSmall_13 (by decide) ?_
      refine r_zret (pc := 17) rfl (by decide) ?_ (Nat.le_of_ble_eq_true rfl) (Nat.le_of_ble_eq_true rfl) dX12_isSmall_17
      exact ⟨pz1 ⟨Int32.not_lt.mp c_3, Int32.not_lt.mp c_9⟩, rfl⟩
theorem ct_isDigit (c : Int32) : Ct E 0 0 0 mX12_isDigit [.int c] h (po (some (.int (bI (decide (48 ≤ c ∧ c ≤ 57))))) h) := by
  refine Ct.of (by decide +kernel) (Nat.le_of_ble_eq_true rfl) ?_
  refine r_iload_n (pc := 0) 0 dX12_isDigit_0 rfl ?_
  refine r_bipush (pc := 1) (48) dX12_isDigit_1 rfl ?_
  refine r_icmp_lt (pc := 3) (tgt := 16) dX12_isDigit_3 (by decide) (fun c_3 => ?_) (fun c_3 => ?_)
  · refine r_iconst (pc := 16) (0) dX12_isDigit_16 rfl ?_
    refine r_zret (pc := 17) rfl (by decide) ?_ (Nat.le_of_ble_eq_true rfl) (Nat.le_of_ble_eq_true rfl) dX12_isDigit_17
    exact ⟨pz0 (fun q => Int32.not_le.mpr c_3 q.1), rfl⟩
  · refine r_iload_n (pc := 6) 0 dX12_isDigit_6 rfl ?_
    refine r_bipush (pc := 7) (57) dX12_isDigit_7 rfl ?_
    refine r_icmp_gt (pc := 9) (tgt := 16) dX12_isDigit_9 (by decide) (fun c_9 => ?_) (fun c_9 => ?_)
    · refine r_iconst (pc := 16) (0) dX12_isDigit_16 rfl ?_
      refine r_zret (pc := 17) rfl (by decide) ?_ (Nat.le_of_ble_eq_true rfl) (Nat.le_of_ble_eq_true rfl) dX12_isDigit_17
      exact ⟨pz0 (fun q => Int32.not_le.mpr c_9 q.2), rfl⟩
    · refine r_iconst (pc := 12) (1) dX12_isDigit_12 rfl ?_
      refine r_goto (pc := 13) (tgt := 17) dX12_isDigit_13 (by decide) ?_
      refine r_zret (pc := 17) rfl (by decide) ?_ (Nat.le_of_ble_eq_true rfl) (Nat.le_of_ble_eq_true rfl) dX12_isDigit_17
      exact ⟨pz1 ⟨Int32.not_lt.mp c_3, Int32.not_lt.mp c_9⟩, rfl⟩
theorem ct_isWord (hm : Md E h m) (w : Int64) : Ct E 0 0 0 mX12_isWord [.ref m, .long w] (mH h m μ l) (po (some (.int (bI (decide (μ 0 16 = 1 ∧ l 0 17 = w))))) (mH h m μ l)) := by
  refine Ct.of (by decide +kernel) (Nat.le_of_ble_eq_true rfl) ?_
  refine r_aload_n (pc := 0) 0 dX12_isWord_0 rfl ?_
  refine q_getI (pc := 1) fl_X12_280 hm dX12_isWord_1 ?_
  refine r_iconst (pc := 4) (1) dX12_isWord_4 rfl ?_
  refine r_icmp_ne (pc := 5) (tgt := 21) dX12_isWord_5 (by decide) (fun c_5 => ?_) (fun c_5 => ?_)
  · refine r_iconst (pc := 21) (0) dX12_isWord_21 rfl ?_
    refine r_zret (pc := 22) rfl (by decide) ?_ (Nat.le_of_ble_eq_true rfl) (Nat.le_of_ble_eq_true rfl) dX12_isWord_22
    exact ⟨pz0 (fun q => c_5 q.1), rfl⟩
  · refine r_aload_n (pc := 8) 0 dX12_isWord_8 rfl ?_
    refine q_getJ (pc := 9) fl_X12_270 hm dX12_isWord_9 ?_
    refine r_lload_n (pc := 12) 1 dX12_isWord_12 rfl ?_
    refine r_lcmp_ne (pc := 13) (tgt := 21) dX12_isWord_13 dX12_isWord_14 (by decide) (fun c_13 => ?_) (fun c_13 => ?_)
    · refine r_iconst (pc := 21) (0) dX12_isWord_21 rfl ?_
      refine r_zret (pc := 22) rfl (by decide) ?_ (Nat.le_of_ble_eq_true rfl) (Nat.le_of_ble_eq_true rfl) dX12_isWord_22
      exact ⟨pz0 (fun q => c_13 q.2), rfl⟩
    · refine r_iconst (pc := 17) (1) dX12_isWord_17 rfl ?_
      refine r_goto (pc := 18) (tgt := 22) dX12_isWord_18 (by decide) ?_
      refine r_zret (pc := 22) rfl (by decide) ?_ (Nat.le_of_ble_eq_true rfl) (Nat.le_of_ble_eq_true rfl) dX12_isWord_22
      exact ⟨pz1 ⟨c_5, c_13⟩, rfl⟩
theorem ct_isSign (hm : Md E h m) (w : Int32) : Ct E 0 0 0 mX12_isSign [.ref m, .int w] (mH h m μ l) (po (some (.int (bI (decide (μ 0 16 = 3 ∧ l 0 17 = w.toInt64))))) (mH h m μ l)) := by
  refine Ct.of (by decide +kernel) (Nat.le_of_ble_eq_true rfl) ?_
  refine r_aload_n (pc := 0) 0 dX12_isSign_0 rfl ?_
  refine q_getI (pc := 1) fl_X12_280 hm dX12_isSign_1 ?_
  refine r_iconst (pc := 4) (3) dX12_isSign_4 rfl ?_
  refine r_icmp_ne (pc := 5) (tgt := 22) dX12_isSign_5 (by decide) (fun c_5 => ?_) (fun c_5 => ?_)
  · refine r_iconst (pc := 22) (0) dX12_isSign_22 rfl ?_
    refine r_zret (pc := 23) rfl (by decide) ?_ (Nat.le_of_ble_eq_true rfl) (Nat.le_of_ble_eq_true rfl) dX12_isSign_23
    exact ⟨pz0 (fun q => c_5 q.1), rfl⟩
  · refine r_aload_n (pc := 8) 0 dX12_isSign_8 rfl ?_
    refine q_getJ (pc := 9) fl_X12_270 hm dX12_isSign_9 ?_
    refine r_iload_n (pc := 12) 1 dX12_isSign_12 rfl ?_
    refine r_i2l (pc := 13) dX12_isSign_13 ?_
    refine r_lcmp_ne (pc := 14) (tgt := 22) dX12_isSign_14 dX12_isSign_15 (by decide) (fun c_14 => ?_) (fun c_14 => ?_)
    · refine r_iconst (pc := 22) (0) dX12_isSign_22 rfl ?_
      refine r_zret (pc := 23) rfl (by decide) ?_ (Nat.le_of_ble_eq_true rfl) (Nat.le_of_ble_eq_true rfl) dX12_isSign_23
      exact ⟨pz0 (fun q => c_14 q.2), rfl⟩
    · refine r_iconst (pc := 18) (1) dX12_isSign_18 rfl ?_
      refine r_goto (pc := 19) (tgt := 23) dX12_isSign_19 (by decide) ?_
      refine r_zret (pc := 23) rfl (by decide) ?_ (Nat.le_of_ble_eq_true rfl) (Nat.le_of_ble_eq_true rfl) dX12_isSign_23
      exact ⟨pz1 ⟨c_5, c_14⟩, rfl⟩
end MODEL
