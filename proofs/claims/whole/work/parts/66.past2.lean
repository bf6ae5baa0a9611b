/-! the class: kept, and taken back -/
section PAST2
variable {E : En} {h : Hp} {p : Nat} {r s : Nat → Int32}
theorem PtV.row {r' : Nat → Int32} (hv : PtV h p r) {q : Nat} {f : Nat → Int32} (hf : ∀ j, j < 49 → pA j = q → f (pK j) = r' j) (hs : ∀ j, j < 49 → pA j ≠ q → r' j = r j) : PtV (wRow h (p + q) f) p r' := by
  rw [PtV_iff] at hv ⊢
  intro j hj
  by_cases hjq : pA j = q
  · rw [hjq, wRow_at]; exact hf j hj hjq
  · rw [wRow_ne (by omega), hs j hj hjq]
    exact hv j hj
theorem pA_r : ∀ j, j < 49 → (8 ≤ j ∧ j < 14 → pA j = 1) ∧ (14 ≤ j ∧ j < 20 → pA j = 2) ∧ (20 ≤ j ∧ j < 26 → pA j = 3) ∧ (26 ≤ j ∧ j < 32 → pA j = 4) ∧ (32 ≤ j ∧ j < 38 → pA j = 5) := by decide +kernel
/-- so many of the rows are back -/
def bkN (r s : Nat → Int32) (i : Nat) : Nat → Int32 := fun j => if j = 5 ∨ (8 ≤ j ∧ j < 8 + 6 * i) then s j else r j
theorem bkN_in {i j : Nat} (hj : j = 5 ∨ (8 ≤ j ∧ j < 8 + 6 * i)) : bkN r s i j = s j := by unfold bkN; rw [if_pos hj]
theorem bkN_out {i j : Nat} (hj : ¬ (j = 5 ∨ (8 ≤ j ∧ j < 8 + 6 * i))) : bkN r s i j = r j := by unfold bkN; rw [if_neg hj]
theorem bkN_same {i j : Nat} (hj : ¬ (8 + 6 * i ≤ j ∧ j < 14 + 6 * i)) : bkN r s (i + 1) j = bkN r s i j := by
  by_cases h1 : j = 5 ∨ (8 ≤ j ∧ j < 8 + 6 * i)
  · rw [bkN_in h1, bkN_in (by omega)]
  · rw [bkN_out h1, bkN_out (by omega)]
theorem bkN_5 : bkN r s 5 = bkR r s := rfl
theorem c5_readFrom (hp : ptS E h p) (hv : PtV h p r) {a : Nat} (ha : isR E h a 13 31) (hap : a < p ∨ p + 9 < a) (hs : RowV h a s) : Ct E 1 0 0 mX5_readFrom [.ref p, .ref a] h (fun v h' => v = none ∧ Fr (ptW p) h h' ∧ PtV h' p (bkR r s)) := by
  obtain ⟨s0, si⟩ := hs
  have src : ∀ (hh : Hp) (k q : Nat), Fr (ptW p) h hh → k < 6 → q < 5 → hI hh a (1 + 6 * q + k) = s (8 + 6 * q + k) := by
    intro hh k q fr hk hq
    rw [fr.I (by unfold ptW; omega), si _ (by omega) (by omega), show 7 + (1 + 6 * q + k) = 8 + 6 * q + k by omega]
  have step : ∀ (hh : Hp) (q : Nat), q < 5 → Fr (ptW p) h hh → PtV hh p (bkN r s q) → Fr (ptW p) h (wRow hh (p + (q + 1)) (cpF (hI hh a) (hI hh (p + (q + 1))) (1 + 6 * q) 0 6)) ∧ PtV (wRow hh (p + (q + 1)) (cpF (hI hh a) (hI hh (p + (q + 1))) (1 + 6 * q) 0 6)) p (bkN r s (q + 1)) := by
    intro hh q hq fr hvq
    refine ⟨fr.tr (Fr.wRow (fun k => by unfold ptW; omega)), hvq.row (fun j hj hz => ?_) (fun j hj hz => ?_)⟩
    · obtain ⟨p1, p2, p3, p4, p5⟩ := pA_6 j hj
      obtain ⟨k, hk, ej, ek⟩ : ∃ k, k < 6 ∧ j = 8 + 6 * q + k ∧ pK j = k := by
        rcases (by omega : q = 0 ∨ q = 1 ∨ q = 2 ∨ q = 3 ∨ q = 4) with e | e | e | e | e
        · rw [e] at hz ⊢; exact p1 hz
        · rw [e] at hz ⊢; exact p2 hz
        · rw [e] at hz ⊢; exact p3 hz
        · rw [e] at hz ⊢; exact p4 hz
        · rw [e] at hz ⊢; exact p5 hz
      rw [ek, cpF_in (by omega), show 1 + 6 * q + (k - 0) = 1 + 6 * q + k by omega, src hh k q fr hk hq, ej, bkN_in (by omega)]
    · refine bkN_same (fun y => hz ?_)
      obtain ⟨p1, p2, p3, p4, p5⟩ := pA_r j hj
      rcases (by omega : q = 0 ∨ q = 1 ∨ q = 2 ∨ q = 3 ∨ q = 4) with e | e | e | e | e
      · rw [e] at y ⊢; exact p1 y
      · rw [e] at y ⊢; exact p2 y
      · rw [e] at y ⊢; exact p3 y
      · rw [e] at y ⊢; exact p4 y
      · rw [e] at y ⊢; exact p5 y
  refine Ct.of (by decide +kernel) (Nat.le_of_ble_eq_true rfl) ?_
  refine r_aload_n (pc := 0) 0 dX5_readFrom_0 rfl ?_
  refine r_getR (pc := 1) fl_X5_33 (pt_is hp) (pt_f10 hp) dX5_readFrom_1 ?_
  refine r_iconst (pc := 4) (0) dX5_readFrom_4 rfl ?_
  refine r_aload_n (pc := 5) 1 dX5_readFrom_5 rfl ?_
  refine r_iconst (pc := 6) (0) dX5_readFrom_6 rfl ?_
  refine r_iald (pc := 7) (j := 0) (ha) rfl (by decide) (by omega) dX5_readFrom_7 ?_
  rw [s0]
  refine r_iast (pc := 8) (j := 0) (pt_r10 hp) rfl (by decide) (by decide) dX5_readFrom_8 ?_
  have f0 : Fr (ptW p) h (wI h (p + 8) 0 (s 5)) := Fr.wI (by unfold ptW; omega)
  have v0 : PtV (wI h (p + 8) 0 (s 5)) p (bkN r s 0) := by
    have z := hv.te (k := 0) (by decide) (s 5)
    have e : va_up r (5 + 0) (s 5) = bkN r s 0 := by
      funext j
      by_cases hj : j = 5
      · subst hj; rw [bkN_in (Or.inl rfl)]; exact va_up_self _ _ _
      · rw [va_up_ne _ _ hj, bkN_out (by omega)]
    rw [e] at z
    exact z
  obtain ⟨f1, v1⟩ := step _ 0 (by decide) f0 v0
  refine r_aload_n (pc := 9) 1 dX5_readFrom_9 rfl ?_
  refine r_iconst (pc := 10) (1) dX5_readFrom_10 rfl ?_
  refine r_aload_n (pc := 11) 0 dX5_readFrom_11 rfl ?_
  refine r_getR (pc := 12) fl_X5_9 (pt_is hp) (pt_f1 hp) dX5_readFrom_12 ?_
  refine r_iconst (pc := 15) (0) dX5_readFrom_15 rfl ?_
  refine r_bipush (pc := 16) (6) dX5_readFrom_16 rfl ?_
  refine r_copy (pc := 18) (sp := 1) (dp := 0) (n := 6) (ha) (pt_r1 hp) ml_X5_90 w_acn w_acs w_aci rfl rfl rfl (by omega) (by omega) (by first | decide | omega) (by first | decide | omega) (Nat.le_of_ble_eq_true rfl) (Nat.le_of_ble_eq_true rfl) (Nat.le_of_ble_eq_true rfl) dX5_readFrom_18 ?_
  obtain ⟨f2, v2⟩ := step _ 1 (by decide) f1 v1
  refine r_aload_n (pc := 21) 1 dX5_readFrom_21 rfl ?_
  refine r_bipush (pc := 22) (7) dX5_readFrom_22 rfl ?_
  refine r_aload_n (pc := 24) 0 dX5_readFrom_24 rfl ?_
  refine r_getR (pc := 25) fl_X5_15 (pt_is hp) (pt_f2 hp) dX5_readFrom_25 ?_
  refine r_iconst (pc := 28) (0) dX5_readFrom_28 rfl ?_
  refine r_bipush (pc := 29) (6) dX5_readFrom_29 rfl ?_
  refine r_copy (pc := 31) (sp := 7) (dp := 0) (n := 6) (ha) (pt_r2 hp) ml_X5_90 w_acn w_acs w_aci rfl rfl rfl (by omega) (by omega) (by first | decide | omega) (by first | decide | omega) (Nat.le_of_ble_eq_true rfl) (Nat.le_of_ble_eq_true rfl) (Nat.le_of_ble_eq_true rfl) dX5_readFrom_31 ?_
  obtain ⟨f3, v3⟩ := step _ 2 (by decide) f2 v2
  refine r_aload_n (pc := 34) 1 dX5_readFrom_34 rfl ?_
  refine r_bipush (pc := 35) (13) dX5_readFrom_35 rfl ?_
  refine r_aload_n (pc := 37) 0 dX5_readFrom_37 rfl ?_
  refine r_getR (pc := 38) fl_X5_18 (pt_is hp) (pt_f3 hp) dX5_readFrom_38 ?_
  refine r_iconst (pc := 41) (0) dX5_readFrom_41 rfl ?_
  refine r_bipush (pc := 42) (6) dX5_readFrom_42 rfl ?_
  refine r_copy (pc := 44) (sp := 13) (dp := 0) (n := 6) (ha) (pt_r3 hp) ml_X5_90 w_acn w_acs w_aci rfl rfl rfl (by omega) (by omega) (by first | decide | omega) (by first | decide | omega) (Nat.le_of_ble_eq_true rfl) (Nat.le_of_ble_eq_true rfl) (Nat.le_of_ble_eq_true rfl) dX5_readFrom_44 ?_
  obtain ⟨f4, v4⟩ := step _ 3 (by decide) f3 v3
  refine r_aload_n (pc := 47) 1 dX5_readFrom_47 rfl ?_
  refine r_bipush (pc := 48) (19) dX5_readFrom_48 rfl ?_
  refine r_aload_n (pc := 50) 0 dX5_readFrom_50 rfl ?_
  refine r_getR (pc := 51) fl_X5_21 (pt_is hp) (pt_f4 hp) dX5_readFrom_51 ?_
  refine r_iconst (pc := 54) (0) dX5_readFrom_54 rfl ?_
  refine r_bipush (pc := 55) (6) dX5_readFrom_55 rfl ?_
  refine r_copy (pc := 57) (sp := 19) (dp := 0) (n := 6) (ha) (pt_r4 hp) ml_X5_90 w_acn w_acs w_aci rfl rfl rfl (by omega) (by omega) (by first | decide | omega) (by first | decide | omega) (Nat.le_of_ble_eq_true rfl) (Nat.le_of_ble_eq_true rfl) (Nat.le_of_ble_eq_true rfl) dX5_readFrom_57 ?_
  obtain ⟨f5, v5⟩ := step _ 4 (by decide) f4 v4
  refine r_aload_n (pc := 60) 1 dX5_readFrom_60 rfl ?_
  refine r_bipush (pc := 61) (25) dX5_readFrom_61 rfl ?_
  refine r_aload_n (pc := 63) 0 dX5_readFrom_63 rfl ?_
  refine r_getR (pc := 64) fl_X5_24 (pt_is hp) (pt_f5 hp) dX5_readFrom_64 ?_
  refine r_iconst (pc := 67) (0) dX5_readFrom_67 rfl ?_
  refine r_bipush (pc := 68) (6) dX5_readFrom_68 rfl ?_
  refine r_copy (pc := 70) (sp := 25) (dp := 0) (n := 6) (ha) (pt_r5 hp) ml_X5_90 w_acn w_acs w_aci rfl rfl rfl (by omega) (by omega) (by first | decide | omega) (by first | decide | omega) (Nat.le_of_ble_eq_true rfl) (Nat.le_of_ble_eq_true rfl) (Nat.le_of_ble_eq_true rfl) dX5_readFrom_70 ?_
  refine r_vret (pc := 73) rfl ?_ (Nat.le_of_ble_eq_true rfl) (Nat.le_of_ble_eq_true rfl) dX5_readFrom_73
  exact ⟨rfl, f5, v5⟩
/-- where the i-th of u that are kept lies, the newest at nw -/
def slt (nw u i : Nat) : Nat := (nw + 17 + i - u) % 16
def PsV (h : Hp) (a nw u : Nat) (K : Nat → Int32) (S : Nat → Nat → Int32) : Prop := hI h a 2 = nI nw ∧ hI h a 3 = nI u ∧ nw < 16 ∧ u ≤ 16 ∧ ∀ i, i < u → hI h (a + 18) (slt nw u i) = K i ∧ RowV h (a + 2 + slt nw u i) (S i)
theorem nI_mod {a b : Nat} (ha : a < 2 ^ 31) (hb : b < 2 ^ 31) : nI a - nI a / nI b * nI b = nI (a % b) := by
  have h1 : a / b * b ≤ a := Nat.div_mul_le_self a b
  rw [nI_div ha hb, nI_mul, nI_sub h1]
  congr 1
  have := Nat.div_add_mod a b
  rw [Nat.mul_comm] at this
  omega
theorem slt_lt (nw u i : Nat) : slt nw u i < 16 := Nat.mod_lt _ (by decide)
theorem slt_inj {nw u i j : Nat} (hu : u ≤ 16) (hi : i < u) (hj : j < u) (he : slt nw u i = slt nw u j) : i = j := by unfold slt at he; omega
theorem slt_top {nw u : Nat} (hn : nw < 16) (hu : u ≤ 16) (h0 : 0 < u) : slt nw u (u - 1) = nw := by unfold slt; omega
theorem c4_howMany {a : Nat} (hps : psS E h a) {u : Nat} (hu : hI h a 3 = nI u) : Ct E 0 0 0 mX4_howMany [.ref a] h (po (some (.int (nI u))) h) := by
  refine Ct.of (by decide +kernel) (Nat.le_of_ble_eq_true rfl) ?_
  refine r_aload_n (pc := 0) 0 dX4_howMany_0 rfl ?_
  refine r_getI (pc := 1) fl_X4_22 (ps_is hps) dX4_howMany_1 ?_
  refine r_iret (pc := 4) rfl ?_ (Nat.le_of_ble_eq_true rfl) (Nat.le_of_ble_eq_true rfl) dX4_howMany_4
  exact ⟨by rw [hu], rfl⟩
theorem c4_empty {a : Nat} (hps : psS E h a) : Ct E 0 0 0 mX4_empty [.ref a] h (po none (wI h a 3 0)) := by
  refine Ct.of (by decide +kernel) (Nat.le_of_ble_eq_true rfl) ?_
  refine r_aload_n (pc := 0) 0 dX4_empty_0 rfl ?_
  refine r_iconst (pc := 1) (0) dX4_empty_1 rfl ?_
  refine r_putI (pc := 2) fp_X4_22 (ps_is hps) dX4_empty_2 ?_
  refine r_vret (pc := 5) rfl ?_ (Nat.le_of_ble_eq_true rfl) (Nat.le_of_ble_eq_true rfl) dX4_empty_5
  exact ⟨rfl, rfl⟩
end PAST2
