/-! the reference's leaves -/
theorem pz0 {c : Prop} [Decidable c] (hc : ¬ c) : (some (.int 0) : Option Value) = some (.int (bI (decide c))) := by rw [decide_eq_false hc]; rfl
theorem pz1 {c : Prop} [Decidable c] (hc : c) : (some (.int 1) : Option Value) = some (.int (bI (decide c))) := by rw [decide_eq_true hc]; rfl
set_option maxRecDepth 100000 in
theorem ct_in {E : En} {h : Hp} (v a b : Int64) : Ct E 0 0 0 mX12_in [.long v, .long a, .long b] h (po (some (.int (bI (decide (a ≤ v ∧ v ≤ b))))) h) := by
  refine Ct.of (by decide +kernel) (Nat.le_of_ble_eq_true rfl) ?_
  refine r_lload_n (pc := 0) 0 dX12_in_0 rfl ?_
  refine r_lload_n (pc := 1) 1 dX12_in_1 rfl ?_
  refine r_lcmp_lt (pc := 2) (tgt := 17) dX12_in_2 dX12_in_3 (by decide) (fun c_2 => ?_) (fun c_2 => ?_)
  · refine r_iconst (pc := 17) (0) dX12_in_17 rfl ?_
    refine r_zret (pc := 18) rfl (by decide) ?_ (Nat.le_of_ble_eq_true rfl) (Nat.le_of_ble_eq_true rfl) dX12_in_18
    exact ⟨pz0 (fun q => Int64.not_le.mpr c_2 q.1), rfl⟩
  · refine r_lload_n (pc := 6) 0 dX12_in_6 rfl ?_
    refine r_lload (pc := 7) 2 dX12_in_7 rfl ?_
    refine r_lcmp_gt (pc := 9) (tgt := 17) dX12_in_9 dX12_in_10 (by decide) (fun c_9 => ?_) (fun c_9 => ?_)
    · refine r_iconst (pc := 17) (0) dX12_in_17 rfl ?_
      refine r_zret (pc := 18) rfl (by decide) ?_ (Nat.le_of_ble_eq_true rfl) (Nat.le_of_ble_eq_true rfl) dX12_in_18
      exact ⟨pz0 (fun q => Int64.not_le.mpr c_9 q.2), rfl⟩
    · refine r_iconst (pc := 13) (1) dX12_in_13 rfl ?_
      refine r_goto (pc := 14) (tgt := 18) dX12_in_14 (by decide) ?_
      refine r_zret (pc := 18) rfl (by decide) ?_ (Nat.le_of_ble_eq_true rfl) (Nat.le_of_ble_eq_true rfl) dX12_in_18
      exact ⟨pz1 ⟨Int64.not_lt.mp c_2, Int64.not_lt.mp c_9⟩, rfl⟩
def isB (x : Int32) (k : Int32) : Bool := decide (x >>> (k &&& 31) &&& 1 = 1)
theorem ct_is {E : En} {h : Hp} (x k : Int32) : Ct E 0 0 0 mX12_is [.int x, .int k] h (po (some (.int (bI (isB x k)))) h) := by
  refine Ct.of (by decide +kernel) (Nat.le_of_ble_eq_true rfl) ?_
  refine r_iload_n (pc := 0) 0 dX12_is_0 rfl ?_
  refine r_iload_n (pc := 1) 1 dX12_is_1 rfl ?_
  refine r_ishr (pc := 2) dX12_is_2 ?_
  refine r_iconst (pc := 3) (1) dX12_is_3 rfl ?_
  refine r_iand (pc := 4) dX12_is_4 ?_
  refine r_iconst (pc := 5) (1) dX12_is_5 rfl ?_
  refine r_icmp_ne (pc := 6) (tgt := 13) dX12_is_6 (by decide) (fun c_6 => ?_) (fun c_6 => ?_)
  · refine r_iconst (pc := 13) (0) dX12_is_13 rfl ?_
    refine r_zret (pc := 14) rfl (by decide) ?_ (Nat.le_of_ble_eq_true rfl) (Nat.le_of_ble_eq_true rfl) dX12_is_14
    exact ⟨pz0 c_6, rfl⟩
  · refine r_iconst (pc := 9) (1) dX12_is_9 rfl ?_
    refine r_goto (pc := 10) (tgt := 14) dX12_is_10 (by decide) ?_
    refine r_zret (pc := 14) rfl (by decide) ?_ (Nat.le_of_ble_eq_true rfl) (Nat.le_of_ble_eq_true rfl) dX12_is_14
    exact ⟨pz1 c_6, rfl⟩
/-- the ones among the lowest k bits -/
def onesN (x : Int32) : Nat → Int32
  | 0 => 0
  | k + 1 => onesN x k + (x >>> (nI k &&& 31) &&& 1)
/-- up to a bound: the goal at the end, and a step -/
theorem upTo {N : Nat} {P : Nat → Prop} (step : ∀ k, k < N → P (k + 1) → P k) (last : P N) : ∀ k, k ≤ N → P k := by
  intro k hk
  obtain ⟨j, hj⟩ : ∃ j, k + j = N := ⟨N - k, by omega⟩
  clear hk
  induction j generalizing k with
  | zero => rw [show k = N by omega]; exact last
  | succ j ih => exact step k (by omega) (ih (k + 1) (by omega))
theorem ct_ones {E : En} {h : Hp} (x : Int32) : Ct E 0 0 0 mX12_ones [.int x] h (po (some (.int (onesN x 9))) h) := by
  refine Ct.of (by decide +kernel) (Nat.le_of_ble_eq_true rfl) ?_
  refine r_iconst (pc := 0) (0) dX12_ones_0 rfl ?_
  refine r_istore_n (pc := 1) (lv' := [(0, _), (1, _)]) dX12_ones_1 (Nat.le_of_ble_eq_true rfl) rfl ?_
  refine r_iconst (pc := 2) (0) dX12_ones_2 rfl ?_
  refine r_istore_n (pc := 3) (lv' := [(0, _), (1, _), (2, _)]) dX12_ones_3 (Nat.le_of_ble_eq_true rfl) rfl ?_
  have loop : ∀ k, k ≤ 9 → Wp E mX12_ones (Rm 0 0 0) (Qm E (po (some (.int (onesN x 9))) h) 0 0) 4 [(0, .int x), (1, .int (onesN x k)), (2, .int (nI k))] [] h 0 0 := by
    refine upTo (fun k hk ih => ?_) ?_
    · refine r_iload_n (pc := 4) 2 dX12_ones_4 rfl ?_
      refine r_bipush (pc := 5) (9) dX12_ones_5 rfl ?_
      refine r_icmp_ge (pc := 7) (tgt := 24) dX12_ones_7 (by decide) (fun c_7 => ?_) (fun c_7 => ?_)
      · exact absurd c_7 (nI_ge (a := k) (b := 9) (by omega) (by decide))
      · refine r_iload_n (pc := 10) 1 dX12_ones_10 rfl ?_
        refine r_iload_n (pc := 11) 0 dX12_ones_11 rfl ?_
        refine r_iload_n (pc := 12) 2 dX12_ones_12 rfl ?_
        refine r_ishr (pc := 13) dX12_ones_13 ?_
        refine r_iconst (pc := 14) (1) dX12_ones_14 rfl ?_
        refine r_iand (pc := 15) dX12_ones_15 ?_
        refine r_iadd (pc := 16) dX12_ones_16 ?_
        refine r_istore_n (pc := 17) (lv' := [(0, _), (1, _), (2, _)]) dX12_ones_17 (Nat.le_of_ble_eq_true rfl) rfl ?_
        refine r_iinc (pc := 18) (v := _ + (1)) (lv' := [(0, _), (1, _), (2, _)]) 2 dX12_ones_18 rfl rfl (Nat.le_of_ble_eq_true rfl) rfl ?_
        refine r_goto (pc := 21) (tgt := 4) dX12_ones_21 (by decide) ?_
        rw [nI_1]; exact ih
    · refine r_iload_n (pc := 4) 2 dX12_ones_4 rfl ?_
      refine r_bipush (pc := 5) (9) dX12_ones_5 rfl ?_
      refine r_icmp_ge (pc := 7) (tgt := 24) dX12_ones_7 (by decide) (fun c_7 => ?_) (fun c_7 => ?_)
      · refine r_iload_n (pc := 24) 1 dX12_ones_24 rfl ?_
        refine r_iret (pc := 25) rfl ?_ (Nat.le_of_ble_eq_true rfl) (Nat.le_of_ble_eq_true rfl) dX12_ones_25
        exact ⟨rfl, rfl⟩
      · exact absurd (show (9 : Int32) ≤ nI 9 by decide) c_7
  exact loop 0 (by omega)
theorem ct_within {E : En} {h : Hp} (v : Int64) (a b : Int32) : Ct E 0 0 0 mX12_within [.long v, .int a, .int b] h (po (some (.int (if v < a.toInt64 then a else if b.toInt64 < v then b else v.toInt32))) h) := by
  refine Ct.of (by decide +kernel) (Nat.le_of_ble_eq_true rfl) ?_
  refine r_lload_n (pc := 0) 0 dX12_within_0 rfl ?_
  refine r_iload_n (pc := 1) 1 dX12_within_1 rfl ?_
  refine r_i2l (pc := 2) dX12_within_2 ?_
  refine r_lcmp_ge (pc := 3) (tgt := 11) dX12_within_3 dX12_within_4 (by decide) (fun c_3 => ?_) (fun c_3 => ?_)
  · refine r_lload_n (pc := 11) 0 dX12_within_11 rfl ?_
    refine r_iload_n (pc := 12) 2 dX12_within_12 rfl ?_
    refine r_i2l (pc := 13) dX12_within_13 ?_
    refine r_lcmp_le (pc := 14) (tgt := 22) dX12_within_14 dX12_within_15 (by decide) (fun c_14 => ?_) (fun c_14 => ?_)
    · refine r_lload_n (pc := 22) 0 dX12_within_22 rfl ?_
      refine r_l2i (pc := 23) dX12_within_23 ?_
      refine r_iret (pc := 24) rfl ?_ (Nat.le_of_ble_eq_true rfl) (Nat.le_of_ble_eq_true rfl) dX12_within_24
      exact ⟨by rw [if_neg (Int64.not_lt.mpr c_3), if_neg (Int64.not_lt.mpr c_14)], rfl⟩
    · refine r_iload_n (pc := 18) 2 dX12_within_18 rfl ?_
      refine r_goto (pc := 19) (tgt := 24) dX12_within_19 (by decide) ?_
      refine r_iret (pc := 24) rfl ?_ (Nat.le_of_ble_eq_true rfl) (Nat.le_of_ble_eq_true rfl) dX12_within_24
      exact ⟨by rw [if_neg (Int64.not_lt.mpr c_3), if_pos (Int64.not_le.mp c_14)], rfl⟩
  · refine r_iload_n (pc := 7) 1 dX12_within_7 rfl ?_
    refine r_goto (pc := 8) (tgt := 24) dX12_within_8 (by decide) ?_
    refine r_iret (pc := 24) rfl ?_ (Nat.le_of_ble_eq_true rfl) (Nat.le_of_ble_eq_true rfl) dX12_within_24
    exact ⟨by rw [if_pos (Int64.not_le.mp c_3)], rfl⟩
