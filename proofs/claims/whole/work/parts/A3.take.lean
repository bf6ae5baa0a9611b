/-! the class's reader: tokens are taken -/
section TAKE
variable {E : En} {h : Hp} {x n N i : Nat} {b : Nat → Int32}
section KRS
variable {k pl v : Int32} {t : Tk}
theorem KR.nat (hk : KR k pl v t) : ∃ κ, κ ≤ 302 ∧ k = nI κ := by
  rcases hk.2 with ⟨-, e⟩ | ⟨-, ⟨i, hi, -, e⟩ | ⟨-, e⟩⟩ | ⟨-, e, -⟩ | ⟨-, a, ha, e, -⟩
  · exact ⟨301, by omega, e⟩
  · exact ⟨256 + i, by omega, e⟩
  · exact ⟨302, by omega, e⟩
  · exact ⟨300, by omega, e⟩
  · exact ⟨a, by omega, e⟩
theorem KR.wd (hk : KR k pl v t) {j : Nat} (hj : j < 27) : k = nI (256 + j) ↔ tW t (lN (vocN j)) = true := by
  unfold tW
  rw [decide_eq_true_eq]
  rcases hk.2 with ⟨e0, e⟩ | ⟨e0, ⟨i, hi, e1, e⟩ | ⟨e1, e⟩⟩ | ⟨e0, e, -⟩ | ⟨e0, a, ha, e, -⟩
  · rw [e, e0]; exact ⟨fun z => by have := nI_inj (a := 301) (by decide) (by omega) z; omega, fun z => absurd z.1 (by decide)⟩
  · rw [e, e0, e1]
    constructor
    · intro z
      have := nI_inj (by omega) (by omega) z
      rw [show i = j by omega]; exact ⟨rfl, rfl⟩
    · intro z
      have q1 := voc_lt i hi
      have q2 := voc_lt j hj
      rw [voc_inj i hi j hj (lN_inj (by omega) (by omega) z.2)]
  · rw [e, e0]; exact ⟨fun z => by have := nI_inj (a := 302) (by decide) (by omega) z; omega, fun z => absurd z.2 (e1 j hj)⟩
  · rw [e, e0]; exact ⟨fun z => by have := nI_inj (a := 300) (by decide) (by omega) z; omega, fun z => absurd z.1 (by decide)⟩
  · rw [e, e0]; exact ⟨fun z => by have := nI_inj (by omega) (by omega) z; omega, fun z => absurd z.1 (by decide)⟩
theorem KR.sg (hk : KR k pl v t) {a : Nat} (ha : a ≤ 255) : k = nI a ↔ tS t (nI a) = true := by
  unfold tS
  rw [decide_eq_true_eq, nI_L (by omega)]
  rcases hk.2 with ⟨e0, e⟩ | ⟨e0, ⟨i, hi, e1, e⟩ | ⟨e1, e⟩⟩ | ⟨e0, e, -⟩ | ⟨e0, c, hc, e, e2⟩
  · rw [e, e0]; exact ⟨fun z => by have := nI_inj (a := 301) (by decide) (by omega) z; omega, fun z => absurd z.1 (by decide)⟩
  · rw [e, e0]; exact ⟨fun z => by have := nI_inj (by omega) (by omega) z; omega, fun z => absurd z.1 (by decide)⟩
  · rw [e, e0]; exact ⟨fun z => by have := nI_inj (a := 302) (by decide) (by omega) z; omega, fun z => absurd z.1 (by decide)⟩
  · rw [e, e0]; exact ⟨fun z => by have := nI_inj (a := 300) (by decide) (by omega) z; omega, fun z => absurd z.1 (by decide)⟩
  · rw [e, e0, e2]
    exact ⟨fun z => ⟨rfl, by rw [nI_inj (by omega) (by omega) z]⟩, fun z => by rw [lN_inj (by omega) (by omega) z.2]⟩
theorem KR.nm (hk : KR k pl v t) : k = 300 ↔ t.2.2.1 = 2 := by
  rcases hk.2 with ⟨e0, e⟩ | ⟨e0, ⟨i, hi, e1, e⟩ | ⟨e1, e⟩⟩ | ⟨e0, e, -⟩ | ⟨e0, c, hc, e, e2⟩
  · rw [e, e0]; decide
  · rw [e, e0]; exact ⟨fun z => by have := nI_inj (b := 300) (by omega) (by decide) z; omega, fun z => absurd z (by decide)⟩
  · rw [e, e0]; decide
  · rw [e, e0]; decide
  · rw [e, e0]; exact ⟨fun z => by have := nI_inj (b := 300) (by omega) (by decide) z; omega, fun z => absurd z (by decide)⟩
theorem KR.en (hk : KR k pl v t) : k = 301 ↔ t.2.2.1 = 0 := by
  rcases hk.2 with ⟨e0, e⟩ | ⟨e0, ⟨i, hi, e1, e⟩ | ⟨e1, e⟩⟩ | ⟨e0, e, -⟩ | ⟨e0, c, hc, e, e2⟩
  · rw [e, e0]; decide
  · rw [e, e0]; exact ⟨fun z => by have := nI_inj (b := 301) (by omega) (by decide) z; omega, fun z => absurd z (by decide)⟩
  · rw [e, e0]; decide
  · rw [e, e0]; decide
  · rw [e, e0]; exact ⟨fun z => by have := nI_inj (b := 301) (by omega) (by decide) z; omega, fun z => absurd z (by decide)⟩
theorem KR.num (hk : KR k pl v t) (h2 : t.2.2.1 = 2) : ∃ m, m < 2 ^ 31 ∧ t.2.2.2 = lN m ∧ v = nI (min 1000000 m) := by
  rcases hk.2 with ⟨e0, e⟩ | ⟨e0, -⟩ | ⟨e0, e, m⟩ | ⟨e0, -⟩
  · rw [h2] at e0; exact absurd e0 (by decide)
  · rw [h2] at e0; exact absurd e0 (by decide)
  · exact m
  · rw [h2] at e0; exact absurd e0 (by decide)
end KRS
theorem TokI.kr (ht : TokI h x b n N) (hi : i ≤ N) : KR (hI h (x + 34) i) (hI h (x + 35) i) (hI h (x + 36) i) (tk b n i) := by
  by_cases he : i = N
  · rw [he]; exact ht.2.2.2.1
  · exact (ht.2.2.1 i (by omega)).1
theorem TokI.end (ht : TokI h x b n N) (hi : i ≤ N) : (tk b n i).2.2.1 = 0 ↔ i = N := by
  constructor
  · intro z
    apply Classical.byContradiction
    intro w
    exact (ht.2.2.1 i (by omega)).2 z
  · intro z; rw [z]; exact ht.2.2.2.2
theorem TokI.cg {h1 : Hp} (ht : TokI h x b n N) (e5 : hI h1 (x + 26) 5 = hI h (x + 26) 5) (e1 : hI h1 (x + 34) = hI h (x + 34)) (e2 : hI h1 (x + 35) = hI h (x + 35)) (e3 : hI h1 (x + 36) = hI h (x + 36)) : TokI h1 x b n N := by
  unfold TokI TkD at ht ⊢
  rw [e5, e1, e2, e3]; exact ht
theorem TokI.w {k : Nat} {v : Int32} (ht : TokI h x b n N) {a : Nat} (ha : (a = x + 26 ∧ k ≠ 5) ∨ (a ≠ x + 26 ∧ a ≠ x + 34 ∧ a ≠ x + 35 ∧ a ≠ x + 36)) : TokI (wI h a k v) x b n N := ht.cg (hI_ne (by omega)) (by funext j; exact hI_ne (by omega)) (by funext j; exact hI_ne (by omega)) (by funext j; exact hI_ne (by omega))
theorem c6_kindNow (hc : CS E h x) (ht : TokI h x b n N) (hi : hI h (x + 26) 6 = nI i) (hN : i ≤ N) : Ct E 0 0 0 mX6_kindNow [.ref (x + 26)] h (po (some (.int (hI h (x + 34) i))) h) := by
  have h4 := ht.2.1
  refine Ct.of (by decide +kernel) (Nat.le_of_ble_eq_true rfl) ?_
  refine r_aload_n (pc := 0) 0 dX6_kindNow_0 rfl ?_
  refine r_getI (pc := 1) fl_X6_69 (ca_26 hc) dX6_kindNow_1 ?_
  refine r_aload_n (pc := 4) 0 dX6_kindNow_4 rfl ?_
  refine r_getI (pc := 5) fl_X6_86 (ca_26 hc) dX6_kindNow_5 ?_
  refine r_icmp_ge (pc := 8) (tgt := 23) dX6_kindNow_8 (by decide) (fun c_8 => ?_) (fun c_8 => ?_)
  · rw [hi, ht.1] at c_8; exact absurd c_8 (nI_ge (by omega) (by omega))
  · refine r_aload_n (pc := 11) 0 dX6_kindNow_11 rfl ?_
    refine r_getR (pc := 12) fl_X6_24 (ca_26 hc) (cf_26_2 hc) dX6_kindNow_12 ?_
    refine r_aload_n (pc := 15) 0 dX6_kindNow_15 rfl ?_
    refine r_getI (pc := 16) fl_X6_69 (ca_26 hc) dX6_kindNow_16 ?_
    rw [hi]
    refine r_iald (pc := 19) (j := i) (cr_34 hc) rfl (by omega) (by decide) dX6_kindNow_19 ?_
    refine r_goto (pc := 20) (tgt := 26) dX6_kindNow_20 (by decide) ?_
    refine r_iret (pc := 26) rfl ?_ (Nat.le_of_ble_eq_true rfl) (Nat.le_of_ble_eq_true rfl) dX6_kindNow_26
    exact ⟨rfl, rfl⟩
theorem c6_takes (hc : CS E h x) (ht : TokI h x b n N) (hi : hI h (x + 26) 6 = nI i) (hN : i ≤ N) {k : Int32} (hk : ¬ k = 301) : Ct E 0 0 0 mX6_takes [.ref (x + 26), .int k] h (fun w h' => (hI h (x + 34) i = k ∧ i < N ∧ w = some (.int 1) ∧ h' = wI h (x + 26) 6 (nI (i + 1))) ∨ (¬ hI h (x + 34) i = k ∧ w = some (.int 0) ∧ h' = h)) := by
  have h4 := ht.2.1
  have hkr := ht.kr hN
  refine Ct.of (by decide +kernel) (Nat.le_of_ble_eq_true rfl) ?_
  refine r_aload_n (pc := 0) 0 dX6_takes_0 rfl ?_
  refine r_getI (pc := 1) fl_X6_69 (ca_26 hc) dX6_takes_1 ?_
  rw [hi]
  refine r_iconst (pc := 4) (1) dX6_takes_4 rfl ?_
  refine r_iadd (pc := 5) dX6_takes_5 ?_
  refine r_aload_n (pc := 6) 0 dX6_takes_6 rfl ?_
  refine r_getI (pc := 7) fl_X6_86 (ca_26 hc) dX6_takes_7 ?_
  rw [nI_1, ht.1]
  refine r_icmp_ge (pc := 10) (tgt := 26) dX6_takes_10 (by decide) (fun c_10 => ?_) (fun c_10 => ?_)
  · have hiN : i = N := by
      rcases Nat.lt_or_ge (i + 1) (N + 1) with z | z
      · exact absurd c_10 (nI_ge z (by omega))
      · omega
    refine r_iconst (pc := 26) (0) dX6_takes_26 rfl ?_
    refine r_zret (pc := 27) rfl (by decide) ?_ (Nat.le_of_ble_eq_true rfl) (Nat.le_of_ble_eq_true rfl) dX6_takes_27
    refine Or.inr ⟨fun z => hk ?_, rfl, rfl⟩
    rw [← z]
    exact hkr.en.mpr ((ht.end hN).mpr hiN)
  · have hiN : i < N := by
      rcases Nat.lt_or_ge i N with z | z
      · exact z
      · exact absurd (nI_le (a := N + 1) (b := i + 1) (by omega) (by omega)) c_10
    refine r_aload_n (pc := 13) 0 dX6_takes_13 rfl ?_
    refine r_getR (pc := 14) fl_X6_24 (ca_26 hc) (cf_26_2 hc) dX6_takes_14 ?_
    refine r_aload_n (pc := 17) 0 dX6_takes_17 rfl ?_
    refine r_getI (pc := 18) fl_X6_69 (ca_26 hc) dX6_takes_18 ?_
    rw [hi]
    refine r_iald (pc := 21) (j := i) (cr_34 hc) rfl (by omega) (by decide) dX6_takes_21 ?_
    refine r_iload_n (pc := 22) 1 dX6_takes_22 rfl ?_
    refine r_icmp_eq (pc := 23) (tgt := 28) dX6_takes_23 (by decide) (fun c_23 => ?_) (fun c_23 => ?_)
    · refine r_aload_n (pc := 28) 0 dX6_takes_28 rfl ?_
      refine r_dup (pc := 29) dX6_takes_29 rfl ?_
      refine r_getI (pc := 30) fl_X6_69 (ca_26 hc) dX6_takes_30 ?_
      rw [hi]
      refine r_iconst (pc := 33) (1) dX6_takes_33 rfl ?_
      refine r_iadd (pc := 34) dX6_takes_34 ?_
      rw [nI_1]
      refine r_putI (pc := 35) fp_X6_69 (ca_26 hc) dX6_takes_35 ?_
      refine r_iconst (pc := 38) (1) dX6_takes_38 rfl ?_
      refine r_zret (pc := 39) rfl (by decide) ?_ (Nat.le_of_ble_eq_true rfl) (Nat.le_of_ble_eq_true rfl) dX6_takes_39
      exact Or.inl ⟨c_23, hiN, rfl, rfl⟩
    · refine r_iconst (pc := 26) (0) dX6_takes_26 rfl ?_
      refine r_zret (pc := 27) rfl (by decide) ?_ (Nat.le_of_ble_eq_true rfl) (Nat.le_of_ble_eq_true rfl) dX6_takes_27
      exact Or.inr ⟨c_23, rfl, rfl⟩
theorem numB_iff {t : Tk} {m a c : Nat} (h2 : t.2.2.1 = 2) (hm : t.2.2.2 = lN m) (hm31 : m < 2 ^ 31) (ha : a < 2 ^ 31) (hc : c < 2 ^ 31) : numB t (lN a) (lN c) = true ↔ a ≤ m ∧ m ≤ c := by
  unfold numB
  rw [decide_eq_true_eq, hm, lN_le ha hm31, lN_le hm31 hc]
  exact ⟨fun z => z.2, fun z => ⟨h2, z⟩⟩
theorem c6_takeNumber (hc : CS E h x) (ht : TokI h x b n N) (hi : hI h (x + 26) 6 = nI i) (hN : i ≤ N) {a c : Nat} (hc1 : c ≤ 1000) (hac : a ≤ 1000) : Ct E 1 0 0 mX6_takeNumber [.ref (x + 26), .int (nI a), .int (nI c)] h (fun w h' => (numB (tk b n i) (lN a) (lN c) = true ∧ i < N ∧ (∃ m, a ≤ m ∧ m ≤ c ∧ (tk b n i).2.2.2 = lN m ∧ w = some (.int (nI m))) ∧ h' = wI h (x + 26) 6 (nI (i + 1))) ∨ (numB (tk b n i) (lN a) (lN c) = false ∧ w = some (.int (-1)) ∧ h' = h)) := by
  have h4 := ht.2.1
  have hkr := ht.kr hN
  refine Ct.of (by decide +kernel) (Nat.le_of_ble_eq_true rfl) ?_
  have no : numB (tk b n i) (lN a) (lN c) = false → Wp E mX6_takeNumber (Rm 1 0 0) (Qm E (fun w h' => (numB (tk b n i) (lN a) (lN c) = true ∧ i < N ∧ (∃ m, a ≤ m ∧ m ≤ c ∧ (tk b n i).2.2.2 = lN m ∧ w = some (.int (nI m))) ∧ h' = wI h (x + 26) 6 (nI (i + 1))) ∨ (numB (tk b n i) (lN a) (lN c) = false ∧ w = some (.int (-1)) ∧ h' = h)) 0 0) 36 [(0, .ref (x + 26)), (1, .int (nI a)), (2, .int (nI c))] [] h 0 0 := by
    intro hno
    refine r_iconst (pc := 36) (-1) dX6_takeNumber_36 rfl ?_
    refine r_iret (pc := 37) rfl ?_ (Nat.le_of_ble_eq_true rfl) (Nat.le_of_ble_eq_true rfl) dX6_takeNumber_37
    exact Or.inr ⟨hno, rfl, rfl⟩
  refine r_aload_n (pc := 0) 0 dX6_takeNumber_0 rfl ?_
  refine r_dV (pc := 1) (As := []) mv_X6_kindNow ml_X6_79 (c6_kindNow hc ht hi hN) (ca_26 hc) rfl rfl (Nat.le_of_ble_eq_true rfl) (Nat.le_of_ble_eq_true rfl) (Nat.le_of_ble_eq_true rfl) (Nat.le_of_ble_eq_true rfl) (Nat.le_of_ble_eq_true rfl) dX6_takeNumber_1 ?_
  refine r_sipush (pc := 4) (300) dX6_takeNumber_4 rfl ?_
  refine r_icmp_ne (pc := 7) (tgt := 36) dX6_takeNumber_7 (by decide) (fun c_7 => ?_) (fun c_7 => ?_)
  · refine no ?_
    cases hz : numB (tk b n i) (lN a) (lN c) with
    | false => rfl
    | true => exact absurd (hkr.nm.mpr (of_decide_eq_true hz).1) c_7
  · have h2 := hkr.nm.mp c_7
    obtain ⟨m, hm31, hm, ev⟩ := hkr.num h2
    have hiff := numB_iff (a := a) (c := c) h2 hm hm31 (by omega) (by omega)
    have hiN : i < N := by
      rcases Nat.lt_or_ge i N with z | z
      · exact z
      · have := (ht.end hN).mpr (by omega)
        rw [this] at h2; exact absurd h2 (by decide)
    refine r_aload_n (pc := 10) 0 dX6_takeNumber_10 rfl ?_
    refine r_getR (pc := 11) fl_X6_30 (ca_26 hc) (cf_26_4 hc) dX6_takeNumber_11 ?_
    refine r_aload_n (pc := 14) 0 dX6_takeNumber_14 rfl ?_
    refine r_getI (pc := 15) fl_X6_69 (ca_26 hc) dX6_takeNumber_15 ?_
    rw [hi]
    refine r_iald (pc := 18) (j := i) (cr_36 hc) rfl (by omega) (by decide) dX6_takeNumber_18 ?_
    rw [ev]
    refine r_iload_n (pc := 19) 1 dX6_takeNumber_19 rfl ?_
    refine r_icmp_lt (pc := 20) (tgt := 36) dX6_takeNumber_20 (by decide) (fun c_20 => ?_) (fun c_20 => ?_)
    · refine no ?_
      cases hz : numB (tk b n i) (lN a) (lN c) with
      | false => rfl
      | true =>
        have := hiff.mp hz
        exact absurd c_20 (nI_nlt (by omega) (by omega))
    · refine r_aload_n (pc := 23) 0 dX6_takeNumber_23 rfl ?_
      refine r_getR (pc := 24) fl_X6_30 (ca_26 hc) (cf_26_4 hc) dX6_takeNumber_24 ?_
      refine r_aload_n (pc := 27) 0 dX6_takeNumber_27 rfl ?_
      refine r_getI (pc := 28) fl_X6_69 (ca_26 hc) dX6_takeNumber_28 ?_
      rw [hi]
      refine r_iald (pc := 31) (j := i) (cr_36 hc) rfl (by omega) (by decide) dX6_takeNumber_31 ?_
      rw [ev]
      refine r_iload_n (pc := 32) 2 dX6_takeNumber_32 rfl ?_
      refine r_icmp_le (pc := 33) (tgt := 38) dX6_takeNumber_33 (by decide) (fun c_33 => ?_) (fun c_33 => ?_)
      · have hmc : min 1000000 m ≤ c := by
          rcases Nat.lt_or_ge c (min 1000000 m) with z | z
          · exact absurd c_33 (nI_ge z (by omega))
          · exact z
        have ham : a ≤ min 1000000 m := by
          rcases Nat.lt_or_ge (min 1000000 m) a with z | z
          · exact absurd (nI_lt z (by omega)) c_20
          · exact z
        refine r_aload_n (pc := 38) 0 dX6_takeNumber_38 rfl ?_
        refine r_getR (pc := 39) fl_X6_30 (ca_26 hc) (cf_26_4 hc) dX6_takeNumber_39 ?_
        refine r_aload_n (pc := 42) 0 dX6_takeNumber_42 rfl ?_
        refine r_getI (pc := 43) fl_X6_69 (ca_26 hc) dX6_takeNumber_43 ?_
        rw [hi]
        refine r_iald (pc := 46) (j := i) (cr_36 hc) rfl (by omega) (by decide) dX6_takeNumber_46 ?_
        rw [ev]
        refine r_istore_n (pc := 47) (lv' := [(0, _), (1, _), (2, _), (3, _)]) dX6_takeNumber_47 (Nat.le_of_ble_eq_true rfl) rfl ?_
        refine r_aload_n (pc := 48) 0 dX6_takeNumber_48 rfl ?_
        refine r_dup (pc := 49) dX6_takeNumber_49 rfl ?_
        refine r_getI (pc := 50) fl_X6_69 (ca_26 hc) dX6_takeNumber_50 ?_
        rw [hi]
        refine r_iconst (pc := 53) (1) dX6_takeNumber_53 rfl ?_
        refine r_iadd (pc := 54) dX6_takeNumber_54 ?_
        rw [nI_1]
        refine r_putI (pc := 55) fp_X6_69 (ca_26 hc) dX6_takeNumber_55 ?_
        refine r_iload_n (pc := 58) 3 dX6_takeNumber_58 rfl ?_
        refine r_iret (pc := 59) rfl ?_ (Nat.le_of_ble_eq_true rfl) (Nat.le_of_ble_eq_true rfl) dX6_takeNumber_59
        exact Or.inl ⟨hiff.mpr ⟨by omega, by omega⟩, hiN, ⟨m, by omega, by omega, hm, by rw [show min 1000000 m = m by omega]⟩, rfl⟩
      · refine no ?_
        cases hz : numB (tk b n i) (lN a) (lN c) with
        | false => rfl
        | true =>
          have := hiff.mp hz
          exact absurd (nI_le (a := min 1000000 m) (b := c) (by omega) (by omega)) c_33
theorem c6_takeLawWord (hc : CS E h x) (hi : hI h (x + 26) 6 = nI i) {κ : Nat} (hκ : κ ≤ 302) : Ct E 0 0 0 mX6_takeLawWord [.ref (x + 26), .int (nI κ)] h (fun w h' => (∃ u, u < 8 ∧ κ = 271 + u ∧ w = some (.int (nI u)) ∧ h' = wI h (x + 26) 6 (nI (i + 1))) ∨ ((∀ u, u < 8 → ¬ κ = 271 + u) ∧ w = some (.int (-1)) ∧ h' = h)) := by
  refine Ct.of (by decide +kernel) (Nat.le_of_ble_eq_true rfl) ?_
  refine r_iload_n (pc := 0) 1 dX6_takeLawWord_0 rfl ?_
  refine r_sipush (pc := 1) (271) dX6_takeLawWord_1 rfl ?_
  refine r_icmp_lt (pc := 4) (tgt := 14) dX6_takeLawWord_4 (by decide) (fun c_4 => ?_) (fun c_4 => ?_)
  · refine r_iconst (pc := 14) (-1) dX6_takeLawWord_14 rfl ?_
    refine r_iret (pc := 15) rfl ?_ (Nat.le_of_ble_eq_true rfl) (Nat.le_of_ble_eq_true rfl) dX6_takeLawWord_15
    exact Or.inr ⟨fun u hu z => absurd c_4 (nI_nlt (b := 271) (by omega) (by omega)), rfl, rfl⟩
  · refine r_iload_n (pc := 7) 1 dX6_takeLawWord_7 rfl ?_
    refine r_sipush (pc := 8) (278) dX6_takeLawWord_8 rfl ?_
    refine r_icmp_le (pc := 11) (tgt := 16) dX6_takeLawWord_11 (by decide) (fun c_11 => ?_) (fun c_11 => ?_)
    · have h1 : 271 ≤ κ := by
        rcases Nat.lt_or_ge κ 271 with z | z
        · exact absurd (nI_lt (b := 271) z (by decide)) c_4
        · exact z
      have h2 : κ ≤ 278 := by
        rcases Nat.lt_or_ge 278 κ with z | z
        · exact absurd c_11 (nI_ge z (by omega))
        · exact z
      refine r_aload_n (pc := 16) 0 dX6_takeLawWord_16 rfl ?_
      refine r_dup (pc := 17) dX6_takeLawWord_17 rfl ?_
      refine r_getI (pc := 18) fl_X6_69 (ca_26 hc) dX6_takeLawWord_18 ?_
      rw [hi]
      refine r_iconst (pc := 21) (1) dX6_takeLawWord_21 rfl ?_
      refine r_iadd (pc := 22) dX6_takeLawWord_22 ?_
      rw [nI_1]
      refine r_putI (pc := 23) fp_X6_69 (ca_26 hc) dX6_takeLawWord_23 ?_
      refine r_iload_n (pc := 26) 1 dX6_takeLawWord_26 rfl ?_
      refine r_sipush (pc := 27) (271) dX6_takeLawWord_27 rfl ?_
      refine r_isub (pc := 30) dX6_takeLawWord_30 ?_
      refine r_iret (pc := 31) rfl ?_ (Nat.le_of_ble_eq_true rfl) (Nat.le_of_ble_eq_true rfl) dX6_takeLawWord_31
      refine Or.inl ⟨κ - 271, by omega, by omega, ?_, rfl⟩
      rw [show nI κ - 271 = nI (κ - 271) from nI_sub (b := 271) h1]
    · refine r_iconst (pc := 14) (-1) dX6_takeLawWord_14 rfl ?_
      refine r_iret (pc := 15) rfl ?_ (Nat.le_of_ble_eq_true rfl) (Nat.le_of_ble_eq_true rfl) dX6_takeLawWord_15
      exact Or.inr ⟨fun u hu z => c_11 (nI_le (b := 278) (by omega) (by decide)), rfl, rfl⟩
/-- where an order's word stands; none: 99 -/
def poW (κ : Nat) : Nat := if κ = 277 then 0 else if κ = 279 then 1 else if κ = 280 then 2 else if κ = 281 then 3 else if κ = 272 then 4 else if κ = 275 then 10 else if κ = 282 then 16 else 99
def poI (κ : Nat) : Int32 := if poW κ = 99 then -1 else nI (poW κ)
theorem ct_placeOf {κ : Nat} (hκ : κ ≤ 302) : Ct E 0 0 0 mX6_placeOfOrderWord [.int (nI κ)] h (po (some (.int (poI κ))) h) := by
  refine Ct.of (by decide +kernel) (Nat.le_of_ble_eq_true rfl) ?_
  by_cases hr : 272 ≤ κ ∧ κ ≤ 282
  · rcases (by omega : κ = 272 ∨ κ = 273 ∨ κ = 274 ∨ κ = 275 ∨ κ = 276 ∨ κ = 277 ∨ κ = 278 ∨ κ = 279 ∨ κ = 280 ∨ κ = 281 ∨ κ = 282) with rfl | rfl | rfl | rfl | rfl | rfl | rfl | rfl | rfl | rfl | rfl
    · refine r_iload_n (pc := 0) 0 dX6_placeOfOrderWord_0 rfl ?_
      refine r_tableIn (pc := 1) (off := 67) (tgt := 68) dX6_placeOfOrderWord_1 (by decide) (by decide) (by decide +kernel) (by decide) ?_
      refine r_iconst (pc := 68) (4) dX6_placeOfOrderWord_68 rfl ?_
      refine r_iret (pc := 69) rfl ?_ (Nat.le_of_ble_eq_true rfl) (Nat.le_of_ble_eq_true rfl) dX6_placeOfOrderWord_69
      exact ⟨by decide +kernel, rfl⟩
    · refine r_iload_n (pc := 0) 0 dX6_placeOfOrderWord_0 rfl ?_
      refine r_tableIn (pc := 1) (off := 75) (tgt := 76) dX6_placeOfOrderWord_1 (by decide) (by decide) (by decide +kernel) (by decide) ?_
      refine r_iconst (pc := 76) (-1) dX6_placeOfOrderWord_76 rfl ?_
      refine r_iret (pc := 77) rfl ?_ (Nat.le_of_ble_eq_true rfl) (Nat.le_of_ble_eq_true rfl) dX6_placeOfOrderWord_77
      exact ⟨by decide +kernel, rfl⟩
    · refine r_iload_n (pc := 0) 0 dX6_placeOfOrderWord_0 rfl ?_
      refine r_tableIn (pc := 1) (off := 75) (tgt := 76) dX6_placeOfOrderWord_1 (by decide) (by decide) (by decide +kernel) (by decide) ?_
      refine r_iconst (pc := 76) (-1) dX6_placeOfOrderWord_76 rfl ?_
      refine r_iret (pc := 77) rfl ?_ (Nat.le_of_ble_eq_true rfl) (Nat.le_of_ble_eq_true rfl) dX6_placeOfOrderWord_77
      exact ⟨by decide +kernel, rfl⟩
    · refine r_iload_n (pc := 0) 0 dX6_placeOfOrderWord_0 rfl ?_
      refine r_tableIn (pc := 1) (off := 69) (tgt := 70) dX6_placeOfOrderWord_1 (by decide) (by decide) (by decide +kernel) (by decide) ?_
      refine r_bipush (pc := 70) (10) dX6_placeOfOrderWord_70 rfl ?_
      refine r_iret (pc := 72) rfl ?_ (Nat.le_of_ble_eq_true rfl) (Nat.le_of_ble_eq_true rfl) dX6_placeOfOrderWord_72
      exact ⟨by decide +kernel, rfl⟩
    · refine r_iload_n (pc := 0) 0 dX6_placeOfOrderWord_0 rfl ?_
      refine r_tableIn (pc := 1) (off := 75) (tgt := 76) dX6_placeOfOrderWord_1 (by decide) (by decide) (by decide +kernel) (by decide) ?_
      refine r_iconst (pc := 76) (-1) dX6_placeOfOrderWord_76 rfl ?_
      refine r_iret (pc := 77) rfl ?_ (Nat.le_of_ble_eq_true rfl) (Nat.le_of_ble_eq_true rfl) dX6_placeOfOrderWord_77
      exact ⟨by decide +kernel, rfl⟩
    · refine r_iload_n (pc := 0) 0 dX6_placeOfOrderWord_0 rfl ?_
      refine r_tableIn (pc := 1) (off := 59) (tgt := 60) dX6_placeOfOrderWord_1 (by decide) (by decide) (by decide +kernel) (by decide) ?_
      refine r_iconst (pc := 60) (0) dX6_placeOfOrderWord_60 rfl ?_
      refine r_iret (pc := 61) rfl ?_ (Nat.le_of_ble_eq_true rfl) (Nat.le_of_ble_eq_true rfl) dX6_placeOfOrderWord_61
      exact ⟨by decide +kernel, rfl⟩
    · refine r_iload_n (pc := 0) 0 dX6_placeOfOrderWord_0 rfl ?_
      refine r_tableIn (pc := 1) (off := 75) (tgt := 76) dX6_placeOfOrderWord_1 (by decide) (by decide) (by decide +kernel) (by decide) ?_
      refine r_iconst (pc := 76) (-1) dX6_placeOfOrderWord_76 rfl ?_
      refine r_iret (pc := 77) rfl ?_ (Nat.le_of_ble_eq_true rfl) (Nat.le_of_ble_eq_true rfl) dX6_placeOfOrderWord_77
      exact ⟨by decide +kernel, rfl⟩
    · refine r_iload_n (pc := 0) 0 dX6_placeOfOrderWord_0 rfl ?_
      refine r_tableIn (pc := 1) (off := 61) (tgt := 62) dX6_placeOfOrderWord_1 (by decide) (by decide) (by decide +kernel) (by decide) ?_
      refine r_iconst (pc := 62) (1) dX6_placeOfOrderWord_62 rfl ?_
      refine r_iret (pc := 63) rfl ?_ (Nat.le_of_ble_eq_true rfl) (Nat.le_of_ble_eq_true rfl) dX6_placeOfOrderWord_63
      exact ⟨by decide +kernel, rfl⟩
    · refine r_iload_n (pc := 0) 0 dX6_placeOfOrderWord_0 rfl ?_
      refine r_tableIn (pc := 1) (off := 63) (tgt := 64) dX6_placeOfOrderWord_1 (by decide) (by decide) (by decide +kernel) (by decide) ?_
      refine r_iconst (pc := 64) (2) dX6_placeOfOrderWord_64 rfl ?_
      refine r_iret (pc := 65) rfl ?_ (Nat.le_of_ble_eq_true rfl) (Nat.le_of_ble_eq_true rfl) dX6_placeOfOrderWord_65
      exact ⟨by decide +kernel, rfl⟩
    · refine r_iload_n (pc := 0) 0 dX6_placeOfOrderWord_0 rfl ?_
      refine r_tableIn (pc := 1) (off := 65) (tgt := 66) dX6_placeOfOrderWord_1 (by decide) (by decide) (by decide +kernel) (by decide) ?_
      refine r_iconst (pc := 66) (3) dX6_placeOfOrderWord_66 rfl ?_
      refine r_iret (pc := 67) rfl ?_ (Nat.le_of_ble_eq_true rfl) (Nat.le_of_ble_eq_true rfl) dX6_placeOfOrderWord_67
      exact ⟨by decide +kernel, rfl⟩
    · refine r_iload_n (pc := 0) 0 dX6_placeOfOrderWord_0 rfl ?_
      refine r_tableIn (pc := 1) (off := 72) (tgt := 73) dX6_placeOfOrderWord_1 (by decide) (by decide) (by decide +kernel) (by decide) ?_
      refine r_bipush (pc := 73) (16) dX6_placeOfOrderWord_73 rfl ?_
      refine r_iret (pc := 75) rfl ?_ (Nat.le_of_ble_eq_true rfl) (Nat.le_of_ble_eq_true rfl) dX6_placeOfOrderWord_75
      exact ⟨by decide +kernel, rfl⟩
  · have e : poI κ = -1 := by
      unfold poI poW
      rw [if_neg (show ¬ κ = 277 by omega), if_neg (show ¬ κ = 279 by omega), if_neg (show ¬ κ = 280 by omega), if_neg (show ¬ κ = 281 by omega), if_neg (show ¬ κ = 272 by omega), if_neg (show ¬ κ = 275 by omega), if_neg (show ¬ κ = 282 by omega), if_pos rfl]
    rw [e]
    refine r_iload_n (pc := 0) 0 dX6_placeOfOrderWord_0 rfl ?_
    refine r_tableOut (pc := 1) (tgt := 76) dX6_placeOfOrderWord_1 ((by rw [nI_toInt (by omega)]; omega)) (by decide) ?_
    refine r_iconst (pc := 76) (-1) dX6_placeOfOrderWord_76 rfl ?_
    refine r_iret (pc := 77) rfl ?_ (Nat.le_of_ble_eq_true rfl) (Nat.le_of_ble_eq_true rfl) dX6_placeOfOrderWord_77
    exact ⟨rfl, rfl⟩
end TAKE
