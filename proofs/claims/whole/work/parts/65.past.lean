/-! the class: what can be undone -/
section PAST
variable {E : En} {h : Hp} {p : Nat} {r : Nat → Int32}
theorem wRow_wRow {a : Nat} {f g : Nat → Int32} : wRow (wRow h a f) a g = wRow h a g := by
  unfold wRow
  show (h.1, va_up (va_up h.2.1 a f) a g, h.2.2) = _
  rw [va_up_up]
/-- a row that is kept: the year, then lives, those yet, ears, gold, ships -/
def RowV (h : Hp) (a : Nat) (r : Nat → Int32) : Prop := hI h a 0 = r 5 ∧ ∀ i, 1 ≤ i → i < 31 → hI h a i = r (7 + i)
theorem wI_row {a k : Nat} {v : Int32} : wI h a k v = wRow h a (va_up (hI h a) k v) := by
  have := wRow_w (h := h) (a := a) (i := k) (f := hI h a) (v := v)
  rw [wRow_self] at this
  exact this
theorem cpF_in {f g : Nat → Int32} {sp dp n k : Nat} (h1 : dp ≤ k ∧ k < dp + n) : cpF f g sp dp n k = f (sp + (k - dp)) := by unfold cpF; rw [if_pos h1]
theorem cpF_out {f g : Nat → Int32} {sp dp n k : Nat} (h1 : ¬ (dp ≤ k ∧ k < dp + n)) : cpF f g sp dp n k = g k := by unfold cpF; rw [if_neg h1]
theorem c5_writeTo (hp : ptS E h p) (hv : PtV h p r) {a : Nat} (ha : isR E h a 13 31) (hap : a < p ∨ p + 9 < a) : Ct E 1 0 0 mX5_writeTo [.ref p, .ref a] h (fun v h' => v = none ∧ ∃ f, h' = wRow h a f ∧ RowV h' a r) := by
  refine Ct.of (by decide +kernel) (Nat.le_of_ble_eq_true rfl) ?_
  refine r_aload_n (pc := 0) 1 dX5_writeTo_0 rfl ?_
  refine r_iconst (pc := 1) (0) dX5_writeTo_1 rfl ?_
  refine r_aload_n (pc := 2) 0 dX5_writeTo_2 rfl ?_
  refine r_getR (pc := 3) fl_X5_33 (pt_is hp) (pt_f10 hp) dX5_writeTo_3 ?_
  refine r_iconst (pc := 6) (0) dX5_writeTo_6 rfl ?_
  refine r_iald (pc := 7) (j := 0) (pt_r10 hp) rfl (by decide) (by decide) dX5_writeTo_7 ?_
  rw [pv_te hv (show 0 < 3 by decide)]
  refine r_iast (pc := 8) (j := 0) ha rfl (by decide) (by decide) dX5_writeTo_8 ?_
  rw [wI_row]
  refine r_aload_n (pc := 9) 0 dX5_writeTo_9 rfl ?_
  refine r_getR (pc := 10) fl_X5_9 (pt_is hp) (pt_f1 hp) dX5_writeTo_10 ?_
  refine r_iconst (pc := 13) (0) dX5_writeTo_13 rfl ?_
  refine r_aload_n (pc := 14) 1 dX5_writeTo_14 rfl ?_
  refine r_iconst (pc := 15) (1) dX5_writeTo_15 rfl ?_
  refine r_bipush (pc := 16) (6) dX5_writeTo_16 rfl ?_
  refine r_copy (pc := 18) (sp := 0) (dp := 1) (n := 6) (pt_r1 hp) (ha) ml_X5_90 w_acn w_acs w_aci rfl rfl rfl (by omega) (by omega) (by first | decide | omega) (by first | decide | omega) (Nat.le_of_ble_eq_true rfl) (Nat.le_of_ble_eq_true rfl) (Nat.le_of_ble_eq_true rfl) dX5_writeTo_18 ?_
  rw [wRow_wRow, wRow_at, wRow_ne (b := p + 1) (by omega)]
  refine r_aload_n (pc := 21) 0 dX5_writeTo_21 rfl ?_
  refine r_getR (pc := 22) fl_X5_15 (pt_is hp) (pt_f2 hp) dX5_writeTo_22 ?_
  refine r_iconst (pc := 25) (0) dX5_writeTo_25 rfl ?_
  refine r_aload_n (pc := 26) 1 dX5_writeTo_26 rfl ?_
  refine r_bipush (pc := 27) (7) dX5_writeTo_27 rfl ?_
  refine r_bipush (pc := 29) (6) dX5_writeTo_29 rfl ?_
  refine r_copy (pc := 31) (sp := 0) (dp := 7) (n := 6) (pt_r2 hp) (ha) ml_X5_90 w_acn w_acs w_aci rfl rfl rfl (by omega) (by omega) (by first | decide | omega) (by first | decide | omega) (Nat.le_of_ble_eq_true rfl) (Nat.le_of_ble_eq_true rfl) (Nat.le_of_ble_eq_true rfl) dX5_writeTo_31 ?_
  rw [wRow_wRow, wRow_at, wRow_ne (b := p + 2) (by omega)]
  refine r_aload_n (pc := 34) 0 dX5_writeTo_34 rfl ?_
  refine r_getR (pc := 35) fl_X5_18 (pt_is hp) (pt_f3 hp) dX5_writeTo_35 ?_
  refine r_iconst (pc := 38) (0) dX5_writeTo_38 rfl ?_
  refine r_aload_n (pc := 39) 1 dX5_writeTo_39 rfl ?_
  refine r_bipush (pc := 40) (13) dX5_writeTo_40 rfl ?_
  refine r_bipush (pc := 42) (6) dX5_writeTo_42 rfl ?_
  refine r_copy (pc := 44) (sp := 0) (dp := 13) (n := 6) (pt_r3 hp) (ha) ml_X5_90 w_acn w_acs w_aci rfl rfl rfl (by omega) (by omega) (by first | decide | omega) (by first | decide | omega) (Nat.le_of_ble_eq_true rfl) (Nat.le_of_ble_eq_true rfl) (Nat.le_of_ble_eq_true rfl) dX5_writeTo_44 ?_
  rw [wRow_wRow, wRow_at, wRow_ne (b := p + 3) (by omega)]
  refine r_aload_n (pc := 47) 0 dX5_writeTo_47 rfl ?_
  refine r_getR (pc := 48) fl_X5_21 (pt_is hp) (pt_f4 hp) dX5_writeTo_48 ?_
  refine r_iconst (pc := 51) (0) dX5_writeTo_51 rfl ?_
  refine r_aload_n (pc := 52) 1 dX5_writeTo_52 rfl ?_
  refine r_bipush (pc := 53) (19) dX5_writeTo_53 rfl ?_
  refine r_bipush (pc := 55) (6) dX5_writeTo_55 rfl ?_
  refine r_copy (pc := 57) (sp := 0) (dp := 19) (n := 6) (pt_r4 hp) (ha) ml_X5_90 w_acn w_acs w_aci rfl rfl rfl (by omega) (by omega) (by first | decide | omega) (by first | decide | omega) (Nat.le_of_ble_eq_true rfl) (Nat.le_of_ble_eq_true rfl) (Nat.le_of_ble_eq_true rfl) dX5_writeTo_57 ?_
  rw [wRow_wRow, wRow_at, wRow_ne (b := p + 4) (by omega)]
  refine r_aload_n (pc := 60) 0 dX5_writeTo_60 rfl ?_
  refine r_getR (pc := 61) fl_X5_24 (pt_is hp) (pt_f5 hp) dX5_writeTo_61 ?_
  refine r_iconst (pc := 64) (0) dX5_writeTo_64 rfl ?_
  refine r_aload_n (pc := 65) 1 dX5_writeTo_65 rfl ?_
  refine r_bipush (pc := 66) (25) dX5_writeTo_66 rfl ?_
  refine r_bipush (pc := 68) (6) dX5_writeTo_68 rfl ?_
  refine r_copy (pc := 70) (sp := 0) (dp := 25) (n := 6) (pt_r5 hp) (ha) ml_X5_90 w_acn w_acs w_aci rfl rfl rfl (by omega) (by omega) (by first | decide | omega) (by first | decide | omega) (Nat.le_of_ble_eq_true rfl) (Nat.le_of_ble_eq_true rfl) (Nat.le_of_ble_eq_true rfl) dX5_writeTo_70 ?_
  rw [wRow_wRow, wRow_at, wRow_ne (b := p + 5) (by omega)]
  refine r_vret (pc := 73) rfl ?_ (Nat.le_of_ble_eq_true rfl) (Nat.le_of_ble_eq_true rfl) dX5_writeTo_73
  refine ⟨rfl, _, rfl, ?_, fun i h1 h2 => ?_⟩
  · rw [wRow_at, cpF_out (by omega), cpF_out (by omega), cpF_out (by omega), cpF_out (by omega), cpF_out (by omega), va_up_self]
  · rw [wRow_at]
    by_cases i1 : 25 ≤ i
    · rw [cpF_in (by omega), pv_sh hv (by omega), show 32 + (0 + (i - 25)) = 7 + i by omega]
    · rw [cpF_out (by omega)]
      by_cases i2 : 19 ≤ i
      · rw [cpF_in (by omega), pv_go hv (by omega), show 26 + (0 + (i - 19)) = 7 + i by omega]
      · rw [cpF_out (by omega)]
        by_cases i3 : 13 ≤ i
        · rw [cpF_in (by omega), pv_ea hv (by omega), show 20 + (0 + (i - 13)) = 7 + i by omega]
        · rw [cpF_out (by omega)]
          by_cases i4 : 7 ≤ i
          · rw [cpF_in (by omega), pv_ye hv (by omega), show 14 + (0 + (i - 7)) = 7 + i by omega]
          · rw [cpF_out (by omega), cpF_in (by omega), pv_li hv (by omega), show 8 + (0 + (i - 1)) = 7 + i by omega]
/-- rows of a port written anew, one by one -/
def PtQ (h : Hp) (p : Nat) (r : Nat → Int32) (Q : Nat → Prop) : Prop := ∀ j, j < 49 → Q (pA j) → hI h (p + pA j) (pK j) = r j
theorem PtQ.row {r' : Nat → Int32} {Q : Nat → Prop} (hq : PtQ h p r Q) {q : Nat} {f : Nat → Int32} (hf : ∀ j, j < 49 → pA j = q → f (pK j) = r' j) (hs : ∀ j, j < 49 → pA j ≠ q → Q (pA j) → r' j = r j) : PtQ (wRow h (p + q) f) p r' (fun z => Q z ∨ z = q) := by
  intro j hj hz
  by_cases hjq : pA j = q
  · rw [hjq, wRow_at]; exact hf j hj hjq
  · rw [wRow_ne (by omega), hs j hj hjq (hz.resolve_right hjq)]
    exact hq j hj (hz.resolve_right hjq)
/-- back to what a row keeps -/
def bkR (r s : Nat → Int32) : Nat → Int32 := fun j => if j = 5 ∨ (8 ≤ j ∧ j < 38) then s j else r j
theorem pA_6 : ∀ j, j < 49 → (pA j = 1 → ∃ k, k < 6 ∧ j = 8 + k ∧ pK j = k) ∧ (pA j = 2 → ∃ k, k < 6 ∧ j = 14 + k ∧ pK j = k) ∧ (pA j = 3 → ∃ k, k < 6 ∧ j = 20 + k ∧ pK j = k) ∧ (pA j = 4 → ∃ k, k < 6 ∧ j = 26 + k ∧ pK j = k) ∧ (pA j = 5 → ∃ k, k < 6 ∧ j = 32 + k ∧ pK j = k) := by
  intro j hj
  refine ⟨fun z => ⟨j - 8, ?_⟩, fun z => ⟨j - 14, ?_⟩, fun z => ⟨j - 20, ?_⟩, fun z => ⟨j - 26, ?_⟩, fun z => ⟨j - 32, ?_⟩⟩
  all_goals revert j; decide +kernel
end PAST
