/-! the class's reader: letters, digits, tokens -/
section TOKC
variable {E : En} {h : Hp} {x : Nat}
def vocL : List Nat := [498, 1476, 14836, 294, 21279923, 494, 51, 5294547, 4245683, 20201203, 67155, 632046, 4389, 110896, 525939, 3124, 402629, 20452820, 5170, 245124, 631088, 824370, 441828, 146885, 404362868, 1451717, 116919]
def vocN (i : Nat) : Nat := vocL.getD i 0
theorem voc_lt : ∀ i, i < 27 → vocN i < 1073741824 := by decide
theorem voc_inj : ∀ i, i < 27 → ∀ j, j < 27 → vocN i = vocN j → i = j := by decide +kernel
/-- the words that the class has learned -/
def WdV (h : Hp) (x : Nat) : Prop := ∀ i, i < 27 → hI h (x + 33) i = nI (vocN i)
def WK (p : Nat) (k : Int32) : Prop := (∃ i, i < 27 ∧ vocN i = p ∧ k = nI (256 + i)) ∨ ((∀ i, i < 27 → ¬ vocN i = p) ∧ k = 302)
def WKL (w : Int64) (k : Int32) : Prop := (∃ i, i < 27 ∧ w = lN (vocN i) ∧ k = nI (256 + i)) ∨ ((∀ i, i < 27 → ¬ w = lN (vocN i)) ∧ k = 302)
theorem WK.L {p : Nat} {k : Int32} (hp : p < 2 ^ 31) (hk : WK p k) : WKL (lN p) k := by
  rcases hk with ⟨i, hi, e, ek⟩ | ⟨hn, ek⟩
  · exact Or.inl ⟨i, hi, by rw [e], ek⟩
  · refine Or.inr ⟨fun i hi z => hn i hi ?_, ek⟩
    have := voc_lt i hi
    exact ((lN_eq (by omega) (by omega)).mp z).symm
theorem c6_wordOf (hc : CS E h x) (hw : WdV h x) {q : Nat} (hq : q < 2 ^ 31) : Ct E 0 0 0 mX6_wordOf [.ref (x + 26), .int (nI q)] h (fun v h' => (∃ k, v = some (.int k) ∧ WK q k) ∧ h' = h) := by
  refine Ct.of (by decide +kernel) (Nat.le_of_ble_eq_true rfl) ?_
  refine r_iconst (pc := 0) (0) dX6_wordOf_0 rfl ?_
  refine r_istore_n (pc := 1) (lv' := [(0, _), (1, _), (2, _)]) dX6_wordOf_1 (Nat.le_of_ble_eq_true rfl) rfl ?_
  have loop : ∀ i, i ≤ 27 → (∀ j, j < i → ¬ vocN j = q) → Wp E mX6_wordOf (Rm 0 0 0) (Qm E (fun v h' => (∃ k, v = some (.int k) ∧ WK q k) ∧ h' = h) 0 0) 2 [(0, .ref (x + 26)), (1, .int (nI q)), (2, .int (nI i))] [] h 0 0 := by
    refine upTo (fun i hi ih => ?_) ?_
    · intro hno
      have hv := voc_lt i hi
      refine r_iload_n (pc := 2) 2 dX6_wordOf_2 rfl ?_
      refine r_bipush (pc := 3) (27) dX6_wordOf_3 rfl ?_
      refine r_icmp_ge (pc := 5) (tgt := 30) dX6_wordOf_5 (by decide) (fun c_5 => ?_) (fun c_5 => ?_)
      · exact absurd c_5 (nI_ge (b := 27) hi (by decide))
      · refine r_aload_n (pc := 8) 0 dX6_wordOf_8 rfl ?_
        refine r_getR (pc := 9) fl_X6_20 (ca_26 hc) (cf_26_1 hc) dX6_wordOf_9 ?_
        refine r_iload_n (pc := 12) 2 dX6_wordOf_12 rfl ?_
        refine r_iald (pc := 13) (j := i) (cr_33 hc) rfl (by omega) (by decide) dX6_wordOf_13 ?_
        refine r_iload_n (pc := 14) 1 dX6_wordOf_14 rfl ?_
        rw [hw i hi]
        refine r_icmp_ne (pc := 15) (tgt := 24) dX6_wordOf_15 (by decide) (fun c_15 => ?_) (fun c_15 => ?_)
        · refine r_iinc (pc := 24) (v := _ + (1)) (lv' := [(0, _), (1, _), (2, _)]) 2 dX6_wordOf_24 rfl rfl (Nat.le_of_ble_eq_true rfl) rfl ?_
          refine r_goto (pc := 27) (tgt := 2) dX6_wordOf_27 (by decide) ?_
          rw [nI_1]
          refine ih (fun j hj => ?_)
          by_cases hji : j = i
          · rw [hji]; exact fun z => c_15 (by rw [z])
          · exact hno j (by omega)
        · refine r_sipush (pc := 18) (256) dX6_wordOf_18 rfl ?_
          refine r_iload_n (pc := 21) 2 dX6_wordOf_21 rfl ?_
          refine r_iadd (pc := 22) dX6_wordOf_22 ?_
          refine r_iret (pc := 23) rfl ?_ (Nat.le_of_ble_eq_true rfl) (Nat.le_of_ble_eq_true rfl) dX6_wordOf_23
          exact ⟨⟨_, rfl, Or.inl ⟨i, hi, nI_inj (by omega) hq c_15, by rw [show (256 : Int32) = nI 256 from rfl, nI_add]⟩⟩, rfl⟩
    · intro hno
      refine r_iload_n (pc := 2) 2 dX6_wordOf_2 rfl ?_
      refine r_bipush (pc := 3) (27) dX6_wordOf_3 rfl ?_
      refine r_icmp_ge (pc := 5) (tgt := 30) dX6_wordOf_5 (by decide) (fun c_5 => ?_) (fun c_5 => ?_)
      · refine r_sipush (pc := 30) (302) dX6_wordOf_30 rfl ?_
        refine r_iret (pc := 33) rfl ?_ (Nat.le_of_ble_eq_true rfl) (Nat.le_of_ble_eq_true rfl) dX6_wordOf_33
        exact ⟨⟨_, rfl, Or.inr ⟨hno, rfl⟩⟩, rfl⟩
      · exact absurd (show (27 : Int32) ≤ nI 27 by decide) c_5
  exact loop 0 (by omega) (fun j hj => by omega)
def srtN (a : Int32) : Nat := if isBl a = true then 0 else if isSm a = true then 1 else if isDg a = true then 2 else 3
theorem ct_sortOf (a : Int32) : Ct E 0 0 0 mX6_sortOf [.int a] h (po (some (.int (nI (srtN a)))) h) := by
  refine Ct.of (by decide +kernel) (Nat.le_of_ble_eq_true rfl) ?_
  unfold srtN isBl isSm isDg
  have last : ¬ a = 32 → ¬ (97 ≤ a ∧ a ≤ 122) → Wp E mX6_sortOf (Rm 0 0 0) (Qm E (po (some (.int (nI (if decide (a = 32) = true then 0 else if decide (97 ≤ a ∧ a ≤ 122) = true then 1 else if decide (48 ≤ a ∧ a ≤ 57) = true then 2 else 3)))) h) 0 0) 22 [(0, .int a)] [] h 0 0 := by
    intro n1 n2
    rw [if_neg (by rw [decide_eq_false n1]; decide), if_neg (by rw [decide_eq_false n2]; decide)]
    refine r_iload_n (pc := 22) 0 dX6_sortOf_22 rfl ?_
    refine r_bipush (pc := 23) (48) dX6_sortOf_23 rfl ?_
    refine r_icmp_lt (pc := 25) (tgt := 38) dX6_sortOf_25 (by decide) (fun c_25 => ?_) (fun c_25 => ?_)
    · refine r_iconst (pc := 38) (3) dX6_sortOf_38 rfl ?_
      refine r_iret (pc := 39) rfl ?_ (Nat.le_of_ble_eq_true rfl) (Nat.le_of_ble_eq_true rfl) dX6_sortOf_39
      rw [if_neg (by rw [decide_eq_false (fun z => absurd (Int32.lt_of_lt_of_le c_25 z.1) Int32.lt_irrefl)]; decide)]
      exact ⟨rfl, rfl⟩
    · refine r_iload_n (pc := 28) 0 dX6_sortOf_28 rfl ?_
      refine r_bipush (pc := 29) (57) dX6_sortOf_29 rfl ?_
      refine r_icmp_gt (pc := 31) (tgt := 38) dX6_sortOf_31 (by decide) (fun c_31 => ?_) (fun c_31 => ?_)
      · refine r_iconst (pc := 38) (3) dX6_sortOf_38 rfl ?_
        refine r_iret (pc := 39) rfl ?_ (Nat.le_of_ble_eq_true rfl) (Nat.le_of_ble_eq_true rfl) dX6_sortOf_39
        rw [if_neg (by rw [decide_eq_false (fun z => absurd (Int32.lt_of_lt_of_le c_31 z.2) Int32.lt_irrefl)]; decide)]
        exact ⟨rfl, rfl⟩
      · refine r_iconst (pc := 34) (2) dX6_sortOf_34 rfl ?_
        refine r_goto (pc := 35) (tgt := 39) dX6_sortOf_35 (by decide) ?_
        refine r_iret (pc := 39) rfl ?_ (Nat.le_of_ble_eq_true rfl) (Nat.le_of_ble_eq_true rfl) dX6_sortOf_39
        rw [if_pos (by rw [decide_eq_true ⟨Int32.not_lt.mp c_25, Int32.not_lt.mp c_31⟩])]
        exact ⟨rfl, rfl⟩
  refine r_iload_n (pc := 0) 0 dX6_sortOf_0 rfl ?_
  refine r_bipush (pc := 1) (32) dX6_sortOf_1 rfl ?_
  refine r_icmp_ne (pc := 3) (tgt := 8) dX6_sortOf_3 (by decide) (fun c_3 => ?_) (fun c_3 => ?_)
  · refine r_iload_n (pc := 8) 0 dX6_sortOf_8 rfl ?_
    refine r_bipush (pc := 9) (97) dX6_sortOf_9 rfl ?_
    refine r_icmp_lt (pc := 11) (tgt := 22) dX6_sortOf_11 (by decide) (fun c_11 => ?_) (fun c_11 => ?_)
    · exact last c_3 (fun z => absurd (Int32.lt_of_lt_of_le c_11 z.1) Int32.lt_irrefl)
    · refine r_iload_n (pc := 14) 0 dX6_sortOf_14 rfl ?_
      refine r_bipush (pc := 15) (122) dX6_sortOf_15 rfl ?_
      refine r_icmp_gt (pc := 17) (tgt := 22) dX6_sortOf_17 (by decide) (fun c_17 => ?_) (fun c_17 => ?_)
      · exact last c_3 (fun z => absurd (Int32.lt_of_lt_of_le c_17 z.2) Int32.lt_irrefl)
      · refine r_iconst (pc := 20) (1) dX6_sortOf_20 rfl ?_
        refine r_iret (pc := 21) rfl ?_ (Nat.le_of_ble_eq_true rfl) (Nat.le_of_ble_eq_true rfl) dX6_sortOf_21
        rw [if_neg (by rw [decide_eq_false c_3]; decide), if_pos (by rw [decide_eq_true ⟨Int32.not_lt.mp c_11, Int32.not_lt.mp c_17⟩])]
        exact ⟨rfl, rfl⟩
  · refine r_iconst (pc := 6) (0) dX6_sortOf_6 rfl ?_
    refine r_iret (pc := 7) rfl ?_ (Nat.le_of_ble_eq_true rfl) (Nat.le_of_ble_eq_true rfl) dX6_sortOf_7
    rw [if_pos (by rw [decide_eq_true c_3])]
    exact ⟨rfl, rfl⟩
theorem c6_addToken (hc : CS E h x) {T : Nat} (hT : hI h (x + 26) 5 = nI T) (h4 : T < 401) (kind place : Int32) : Ct E 0 0 0 mX6_addToken [.ref (x + 26), .int kind, .int place] h (po none (wI (wI (wI (wI h (x + 34) T kind) (x + 35) T place) (x + 36) T 0) (x + 26) 5 (nI (T + 1)))) := by
  refine Ct.of (by decide +kernel) (Nat.le_of_ble_eq_true rfl) ?_
  refine r_aload_n (pc := 0) 0 dX6_addToken_0 rfl ?_
  refine r_getI (pc := 1) fl_X6_86 (ca_26 hc) dX6_addToken_1 ?_
  rw [hT]
  refine r_aload_n (pc := 4) 0 dX6_addToken_4 rfl ?_
  refine r_getR (pc := 5) fl_X6_24 (ca_26 hc) (cf_26_2 hc) dX6_addToken_5 ?_
  refine r_alen (pc := 8) (cr_34 hc) (by decide) dX6_addToken_8 ?_
  refine r_icmp_ge (pc := 9) (tgt := 52) dX6_addToken_9 (by decide) (fun c_9 => ?_) (fun c_9 => ?_)
  · exact absurd c_9 (nI_ge (b := 401) h4 (by decide))
  · refine r_aload_n (pc := 12) 0 dX6_addToken_12 rfl ?_
    refine r_getR (pc := 13) fl_X6_24 (ca_26 hc) (cf_26_2 hc) dX6_addToken_13 ?_
    refine r_aload_n (pc := 16) 0 dX6_addToken_16 rfl ?_
    refine r_getI (pc := 17) fl_X6_86 (ca_26 hc) dX6_addToken_17 ?_
    rw [hT]
    refine r_iload_n (pc := 20) 1 dX6_addToken_20 rfl ?_
    refine r_iast (pc := 21) (j := T) (cr_34 hc) rfl (by omega) (by decide) dX6_addToken_21 ?_
    refine r_aload_n (pc := 22) 0 dX6_addToken_22 rfl ?_
    refine r_getR (pc := 23) fl_X6_27 (ca_26 hc) (cf_26_3 hc) dX6_addToken_23 ?_
    refine r_aload_n (pc := 26) 0 dX6_addToken_26 rfl ?_
    refine r_getI (pc := 27) fl_X6_86 (ca_26 hc) dX6_addToken_27 ?_
    rw [hI_ne (by omega), hT]
    refine r_iload_n (pc := 30) 2 dX6_addToken_30 rfl ?_
    refine r_iast (pc := 31) (j := T) (cr_35 hc) rfl (by omega) (by decide) dX6_addToken_31 ?_
    refine r_aload_n (pc := 32) 0 dX6_addToken_32 rfl ?_
    refine r_getR (pc := 33) fl_X6_30 (ca_26 hc) (cf_26_4 hc) dX6_addToken_33 ?_
    refine r_aload_n (pc := 36) 0 dX6_addToken_36 rfl ?_
    refine r_getI (pc := 37) fl_X6_86 (ca_26 hc) dX6_addToken_37 ?_
    rw [hI_ne (by omega), hI_ne (by omega), hT]
    refine r_iconst (pc := 40) (0) dX6_addToken_40 rfl ?_
    refine r_iast (pc := 41) (j := T) (cr_36 hc) rfl (by omega) (by decide) dX6_addToken_41 ?_
    refine r_aload_n (pc := 42) 0 dX6_addToken_42 rfl ?_
    refine r_dup (pc := 43) dX6_addToken_43 rfl ?_
    refine r_getI (pc := 44) fl_X6_86 (ca_26 hc) dX6_addToken_44 ?_
    rw [hI_ne (by omega), hI_ne (by omega), hI_ne (by omega), hT]
    refine r_iconst (pc := 47) (1) dX6_addToken_47 rfl ?_
    refine r_iadd (pc := 48) dX6_addToken_48 ?_
    refine r_putI (pc := 49) fp_X6_86 (ca_26 hc) dX6_addToken_49 ?_
    refine r_vret (pc := 52) rfl ?_ (Nat.le_of_ble_eq_true rfl) (Nat.le_of_ble_eq_true rfl) dX6_addToken_52
    rw [nI_1]
    exact ⟨rfl, rfl⟩
theorem min_nI {a : Nat} (ha : a < 2 ^ 31) : minI 1000000 (nI a) = nI (min 1000000 a) := by
  unfold minI
  rw [show (1000000 : Int32) = nI 1000000 from rfl]
  by_cases hz : a < 1000000
  · rw [if_pos (nI_lt (b := 1000000) hz (by decide)), Nat.min_eq_right (by omega)]
  · rw [if_neg (nI_nlt (a := a) (b := 1000000) (by omega) ha), Nat.min_eq_left (by omega)]
theorem c6_addDigit (hc : CS E h x) {T v d : Nat} (hT : hI h (x + 26) 5 = nI (T + 1)) (h4 : T < 401) (hv : hI h (x + 36) T = nI v) (hv2 : v ≤ 1000000) (hd : d ≤ 9) : Ct E 1 0 0 mX6_addDigit [.ref (x + 26), .int (nI d)] h (po none (wI h (x + 36) T (nI (min 1000000 (v * 10 + d))))) := by
  refine Ct.of (by decide +kernel) (Nat.le_of_ble_eq_true rfl) ?_
  refine r_aload_n (pc := 0) 0 dX6_addDigit_0 rfl ?_
  refine r_getI (pc := 1) fl_X6_86 (ca_26 hc) dX6_addDigit_1 ?_
  rw [hT]
  refine r_if_le (pc := 4) (tgt := 36) dX6_addDigit_4 (by decide) (fun c_4 => ?_) (fun c_4 => ?_)
  · exact absurd c_4 (nI_nle (by omega) (by omega))
  · refine r_aload_n (pc := 7) 0 dX6_addDigit_7 rfl ?_
    refine r_getI (pc := 8) fl_X6_86 (ca_26 hc) dX6_addDigit_8 ?_
    rw [hT]
    refine r_iconst (pc := 11) (1) dX6_addDigit_11 rfl ?_
    refine r_isub (pc := 12) dX6_addDigit_12 ?_
    rw [show nI (T + 1) - 1 = nI T from nI_sub (a := T + 1) (b := 1) (by omega)]
    refine r_istore_n (pc := 13) (lv' := [(0, _), (1, _), (2, _)]) dX6_addDigit_13 (Nat.le_of_ble_eq_true rfl) rfl ?_
    refine r_aload_n (pc := 14) 0 dX6_addDigit_14 rfl ?_
    refine r_getR (pc := 15) fl_X6_30 (ca_26 hc) (cf_26_4 hc) dX6_addDigit_15 ?_
    refine r_iload_n (pc := 18) 2 dX6_addDigit_18 rfl ?_
    refine r_ldc (pc := 19) cs_X6_106 dX6_addDigit_19 ?_
    refine r_aload_n (pc := 21) 0 dX6_addDigit_21 rfl ?_
    refine r_getR (pc := 22) fl_X6_30 (ca_26 hc) (cf_26_4 hc) dX6_addDigit_22 ?_
    refine r_iload_n (pc := 25) 2 dX6_addDigit_25 rfl ?_
    refine r_iald (pc := 26) (j := T) (cr_36 hc) rfl (by omega) (by decide) dX6_addDigit_26 ?_
    rw [hv]
    refine r_bipush (pc := 27) (10) dX6_addDigit_27 rfl ?_
    refine r_imul (pc := 29) dX6_addDigit_29 ?_
    refine r_iload_n (pc := 30) 1 dX6_addDigit_30 rfl ?_
    refine r_iadd (pc := 31) dX6_addDigit_31 ?_
    refine r_minI (pc := 32) ml_X6_107 (Nat.le_of_ble_eq_true rfl) (Nat.le_of_ble_eq_true rfl) (Nat.le_of_ble_eq_true rfl) (Nat.le_of_ble_eq_true rfl) (Nat.le_of_ble_eq_true rfl) dX6_addDigit_32 ?_
    rw [show (10 : Int32) = nI 10 from rfl, nI_mul, nI_add, min_nI (by omega)]
    refine r_iast (pc := 35) (j := T) (cr_36 hc) rfl (by omega) (by decide) dX6_addDigit_35 ?_
    refine r_vret (pc := 36) rfl ?_ (Nat.le_of_ble_eq_true rfl) (Nat.le_of_ble_eq_true rfl) dX6_addDigit_36
    exact ⟨rfl, rfl⟩
theorem ct_withLetter {v a : Nat} (ha : 97 ≤ a) : Ct E 0 0 0 mX6_withLetter [.int (nI v), .int (nI a)] h (po (some (.int (nI (v * 32 + (a - 96))))) h) := by
  refine Ct.of (by decide +kernel) (Nat.le_of_ble_eq_true rfl) ?_
  refine r_iload_n (pc := 0) 0 dX6_withLetter_0 rfl ?_
  refine r_bipush (pc := 1) (32) dX6_withLetter_1 rfl ?_
  refine r_imul (pc := 3) dX6_withLetter_3 ?_
  refine r_iload_n (pc := 4) 1 dX6_withLetter_4 rfl ?_
  refine r_iadd (pc := 5) dX6_withLetter_5 ?_
  refine r_bipush (pc := 6) (97) dX6_withLetter_6 rfl ?_
  refine r_isub (pc := 8) dX6_withLetter_8 ?_
  refine r_iconst (pc := 9) (1) dX6_withLetter_9 rfl ?_
  refine r_iadd (pc := 10) dX6_withLetter_10 ?_
  refine r_iret (pc := 11) rfl ?_ (Nat.le_of_ble_eq_true rfl) (Nat.le_of_ble_eq_true rfl) dX6_withLetter_11
  refine ⟨?_, rfl⟩
  rw [show (32 : Int32) = nI 32 from rfl, show (97 : Int32) = nI 97 from rfl, show (1 : Int32) = nI 1 from rfl, nI_mul, nI_add, nI_sub (by omega), nI_add, show v * 32 + a - 97 + 1 = v * 32 + (a - 96) by omega]
theorem c6_addLetter (hc : CS E h x) (hw : WdV h x) {T v a n : Nat} (hT : hI h (x + 26) 5 = nI (T + 1)) (h4 : T < 401) (hn : n ≤ 6) (hv : hI h (x + 36) T = nI v) (ha : 97 ≤ a) (hb : v * 32 + (a - 96) < 2 ^ 31) : Ct E 1 0 0 mX6_addLetter [.ref (x + 26), .int (nI a), .int (nI n)] h (fun w h' => w = none ∧ ∃ k, WK (v * 32 + (a - 96)) k ∧ h' = wI (wI h (x + 36) T (nI (v * 32 + (a - 96)))) (x + 34) T k) := by
  refine Ct.of (by decide +kernel) (Nat.le_of_ble_eq_true rfl) ?_
  refine r_aload_n (pc := 0) 0 dX6_addLetter_0 rfl ?_
  refine r_getI (pc := 1) fl_X6_86 (ca_26 hc) dX6_addLetter_1 ?_
  rw [hT]
  refine r_if_le (pc := 4) (tgt := 64) dX6_addLetter_4 (by decide) (fun c_4 => ?_) (fun c_4 => ?_)
  · exact absurd c_4 (nI_nle (by omega) (by omega))
  · refine r_aload_n (pc := 7) 0 dX6_addLetter_7 rfl ?_
    refine r_getI (pc := 8) fl_X6_86 (ca_26 hc) dX6_addLetter_8 ?_
    rw [hT]
    refine r_iconst (pc := 11) (1) dX6_addLetter_11 rfl ?_
    refine r_isub (pc := 12) dX6_addLetter_12 ?_
    rw [show nI (T + 1) - 1 = nI T from nI_sub (a := T + 1) (b := 1) (by omega)]
    refine r_istore_n (pc := 13) (lv' := [(0, _), (1, _), (2, _), (3, _)]) dX6_addLetter_13 (Nat.le_of_ble_eq_true rfl) rfl ?_
    refine r_iload_n (pc := 14) 2 dX6_addLetter_14 rfl ?_
    refine r_bipush (pc := 15) (6) dX6_addLetter_15 rfl ?_
    refine r_icmp_gt (pc := 17) (tgt := 55) dX6_addLetter_17 (by decide) (fun c_17 => ?_) (fun c_17 => ?_)
    · exact absurd c_17 (nI_nlt (a := 6) (b := n) (by omega) (by decide))
    · refine r_aload_n (pc := 20) 0 dX6_addLetter_20 rfl ?_
      refine r_getR (pc := 21) fl_X6_30 (ca_26 hc) (cf_26_4 hc) dX6_addLetter_21 ?_
      refine r_iload_n (pc := 24) 3 dX6_addLetter_24 rfl ?_
      refine r_aload_n (pc := 25) 0 dX6_addLetter_25 rfl ?_
      refine r_getR (pc := 26) fl_X6_30 (ca_26 hc) (cf_26_4 hc) dX6_addLetter_26 ?_
      refine r_iload_n (pc := 29) 3 dX6_addLetter_29 rfl ?_
      refine r_iald (pc := 30) (j := T) (cr_36 hc) rfl (by omega) (by decide) dX6_addLetter_30 ?_
      rw [hv]
      refine r_iload_n (pc := 31) 1 dX6_addLetter_31 rfl ?_
      refine r_dS (pc := 32) (As := [_, _]) ms_X6_withLetter ml_X6_48 (ct_withLetter ha) rfl rfl (Nat.le_of_ble_eq_true rfl) (Nat.le_of_ble_eq_true rfl) (Nat.le_of_ble_eq_true rfl) (Nat.le_of_ble_eq_true rfl) (Nat.le_of_ble_eq_true rfl) dX6_addLetter_32 ?_
      refine r_iast (pc := 35) (j := T) (cr_36 hc) rfl (by omega) (by decide) dX6_addLetter_35 ?_
      refine r_aload_n (pc := 36) 0 dX6_addLetter_36 rfl ?_
      refine r_getR (pc := 37) fl_X6_24 (ca_26 hc) (cf_26_2 hc) dX6_addLetter_37 ?_
      refine r_iload_n (pc := 40) 3 dX6_addLetter_40 rfl ?_
      refine r_aload_n (pc := 41) 0 dX6_addLetter_41 rfl ?_
      refine r_aload_n (pc := 42) 0 dX6_addLetter_42 rfl ?_
      refine r_getR (pc := 43) fl_X6_30 (ca_26 hc) (cf_26_4 hc) dX6_addLetter_43 ?_
      refine r_iload_n (pc := 46) 3 dX6_addLetter_46 rfl ?_
      refine r_iald (pc := 47) (j := T) (cr_36 hc) rfl (by omega) (by decide) dX6_addLetter_47 ?_
      rw [hI_at]
      have hw2 : WdV (wI h (x + 36) T (nI (v * 32 + (a - 96)))) x := fun i hi => by rw [hI_ne (by omega)]; exact hw i hi
      have hc2 : CS E (wI h (x + 36) T (nI (v * 32 + (a - 96)))) x := hc
      refine r_callV (pc := 48) (As := [_]) mv_X6_wordOf ml_X6_112 (c6_wordOf hc2 hw2 hb) (ca_26 hc) rfl rfl (Nat.le_of_ble_eq_true rfl) (Nat.le_of_ble_eq_true rfl) (Nat.le_of_ble_eq_true rfl) (Nat.le_of_ble_eq_true rfl) (Nat.le_of_ble_eq_true rfl) dX6_addLetter_48 (fun r h2 hp => ?_)
      obtain ⟨⟨k, rfl, hk⟩, rfl⟩ := hp
      show Wp E mX6_addLetter _ _ _ _ [.int _, .int _, .ref _] _ 0 0
      refine r_iast (pc := 51) (j := T) (cr_34 hc2) rfl (by omega) (by decide) dX6_addLetter_51 ?_
      refine r_goto (pc := 52) (tgt := 64) dX6_addLetter_52 (by decide) ?_
      refine r_vret (pc := 64) rfl ?_ (Nat.le_of_ble_eq_true rfl) (Nat.le_of_ble_eq_true rfl) dX6_addLetter_64
      exact ⟨rfl, k, hk, rfl⟩
theorem c6_addLetterL (hc : CS E h x) {T n : Nat} (a : Int32) (hT : hI h (x + 26) 5 = nI (T + 1)) (h4 : T < 401) (hn : 6 < n) (hn2 : n < 2 ^ 31) : Ct E 1 0 0 mX6_addLetter [.ref (x + 26), .int a, .int (nI n)] h (po none (wI h (x + 34) T 302)) := by
  refine Ct.of (by decide +kernel) (Nat.le_of_ble_eq_true rfl) ?_
  refine r_aload_n (pc := 0) 0 dX6_addLetter_0 rfl ?_
  refine r_getI (pc := 1) fl_X6_86 (ca_26 hc) dX6_addLetter_1 ?_
  rw [hT]
  refine r_if_le (pc := 4) (tgt := 64) dX6_addLetter_4 (by decide) (fun c_4 => ?_) (fun c_4 => ?_)
  · exact absurd c_4 (nI_nle (by omega) (by omega))
  · refine r_aload_n (pc := 7) 0 dX6_addLetter_7 rfl ?_
    refine r_getI (pc := 8) fl_X6_86 (ca_26 hc) dX6_addLetter_8 ?_
    rw [hT]
    refine r_iconst (pc := 11) (1) dX6_addLetter_11 rfl ?_
    refine r_isub (pc := 12) dX6_addLetter_12 ?_
    rw [show nI (T + 1) - 1 = nI T from nI_sub (a := T + 1) (b := 1) (by omega)]
    refine r_istore_n (pc := 13) (lv' := [(0, _), (1, _), (2, _), (3, _)]) dX6_addLetter_13 (Nat.le_of_ble_eq_true rfl) rfl ?_
    refine r_iload_n (pc := 14) 2 dX6_addLetter_14 rfl ?_
    refine r_bipush (pc := 15) (6) dX6_addLetter_15 rfl ?_
    refine r_icmp_gt (pc := 17) (tgt := 55) dX6_addLetter_17 (by decide) (fun c_17 => ?_) (fun c_17 => ?_)
    · refine r_aload_n (pc := 55) 0 dX6_addLetter_55 rfl ?_
      refine r_getR (pc := 56) fl_X6_24 (ca_26 hc) (cf_26_2 hc) dX6_addLetter_56 ?_
      refine r_iload_n (pc := 59) 3 dX6_addLetter_59 rfl ?_
      refine r_sipush (pc := 60) (302) dX6_addLetter_60 rfl ?_
      refine r_iast (pc := 63) (j := T) (cr_34 hc) rfl (by omega) (by decide) dX6_addLetter_63 ?_
      refine r_vret (pc := 64) rfl ?_ (Nat.le_of_ble_eq_true rfl) (Nat.le_of_ble_eq_true rfl) dX6_addLetter_64
      exact ⟨rfl, rfl⟩
    · exact absurd (nI_lt (a := 6) hn hn2) c_17
end TOKC
