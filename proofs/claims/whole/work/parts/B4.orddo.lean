/-! the class's reader: what an order does -/
section ORDDO
variable {E : En} {x n N : Nat} {b : Nat → Int32} {wl wo wh : Nat → Int64}
theorem c6_hasTimes {h : Hp} {i lv c q p : Nat} (hs : ClS E h x b n N true i lv c (q + 1) p) (hq : q < 12) : Ct E 3 0 0 mX6_hasTimes [.ref (x + 26)] h (fun v h' => (numB (tk b n i) 1 20 = true ∧ i < N ∧ v = some (.int 1) ∧ ∃ m, 1 ≤ m ∧ m ≤ 20 ∧ (tk b n i).2.2.2 = lN m ∧ h' = wI (wI h (x + 26) 6 (nI (i + 1))) (x + 27 + 2) q (nI m)) ∨ (numB (tk b n i) 1 20 = false ∧ v = some (.int 0) ∧ h' = wI h (x + 27 + 2) q (-1))) := by
  have hc := hs.1.1.1
  have ht := hs.1.1.2
  have hi := hs.1.2.1.1
  have hN := hs.1.2.1.2
  refine Ct.of (by decide +kernel) (Nat.le_of_ble_eq_true rfl) ?_
  refine r_aload_n (pc := 0) 0 dX6_hasTimes_0 rfl ?_
  refine r_iconst (pc := 1) (1) dX6_hasTimes_1 rfl ?_
  refine r_bipush (pc := 2) (20) dX6_hasTimes_2 rfl ?_
  refine r_callV (pc := 4) (As := [_, _]) mv_X6_takeNumber ml_X6_136 (c6_takeNumber (a := 1) (c := 20) hc ht hi hN (by omega) (by omega)) (ca_26 hc) rfl rfl (Nat.le_of_ble_eq_true rfl) (Nat.le_of_ble_eq_true rfl) (Nat.le_of_ble_eq_true rfl) (Nat.le_of_ble_eq_true rfl) (Nat.le_of_ble_eq_true rfl) dX6_hasTimes_4 (fun r h1 hp => ?_)
  rcases hp with ⟨hnb, hiN, ⟨m, hm1, hm2, hm3, rfl⟩, rfl⟩ | ⟨hnb, rfl, rfl⟩
  · show Wp E mX6_hasTimes _ _ _ _ [.int _] _ 0 0
    have hc1 : CS E (wI h (x + 26) 6 (nI (i + 1))) x := hc
    have h0 : hI (wI h (x + 26) 6 (nI (i + 1))) (x + 27) 0 = nI (q + 1) := by rw [hI_ne (by omega)]; exact hs.2.1
    refine r_istore_n (pc := 7) (lv' := [(0, _), (1, _)]) dX6_hasTimes_7 (Nat.le_of_ble_eq_true rfl) rfl ?_
    refine r_aload_n (pc := 8) 0 dX6_hasTimes_8 rfl ?_
    refine r_getR (pc := 9) fl_X6_14 (ca_26 hc1) (cf_26_0 hc1) dX6_hasTimes_9 ?_
    refine r_iload_n (pc := 12) 1 dX6_hasTimes_12 rfl ?_
    refine r_dV0 (pc := 13) (As := [_]) mv_X10_setTimes ml_X6_139 (c10_setTimes (cs_tx27 hc1) h0 hq _) (tx_is (cs_tx27 hc1)) rfl rfl (Nat.le_of_ble_eq_true rfl) (Nat.le_of_ble_eq_true rfl) (Nat.le_of_ble_eq_true rfl) (Nat.le_of_ble_eq_true rfl) (Nat.le_of_ble_eq_true rfl) dX6_hasTimes_13 ?_
    refine r_iload_n (pc := 16) 1 dX6_hasTimes_16 rfl ?_
    refine r_iconst (pc := 17) (-1) dX6_hasTimes_17 rfl ?_
    refine r_icmp_eq (pc := 18) (tgt := 25) dX6_hasTimes_18 (by decide) (fun c_18 => ?_) (fun c_18 => ?_)
    · exact absurd c_18.symm (m1_nI (by omega))
    · refine r_iconst (pc := 21) (1) dX6_hasTimes_21 rfl ?_
      refine r_goto (pc := 22) (tgt := 26) dX6_hasTimes_22 (by decide) ?_
      refine r_zret (pc := 26) rfl (by decide) ?_ (Nat.le_of_ble_eq_true rfl) (Nat.le_of_ble_eq_true rfl) dX6_hasTimes_26
      exact Or.inl ⟨hnb, hiN, rfl, m, hm1, hm2, hm3, rfl⟩
  · show Wp E mX6_hasTimes _ _ _ _ [.int _] _ 0 0
    refine r_istore_n (pc := 7) (lv' := [(0, _), (1, _)]) dX6_hasTimes_7 (Nat.le_of_ble_eq_true rfl) rfl ?_
    refine r_aload_n (pc := 8) 0 dX6_hasTimes_8 rfl ?_
    refine r_getR (pc := 9) fl_X6_14 (ca_26 hc) (cf_26_0 hc) dX6_hasTimes_9 ?_
    refine r_iload_n (pc := 12) 1 dX6_hasTimes_12 rfl ?_
    refine r_dV0 (pc := 13) (As := [_]) mv_X10_setTimes ml_X6_139 (c10_setTimes (cs_tx27 hc) hs.2.1 hq _) (tx_is (cs_tx27 hc)) rfl rfl (Nat.le_of_ble_eq_true rfl) (Nat.le_of_ble_eq_true rfl) (Nat.le_of_ble_eq_true rfl) (Nat.le_of_ble_eq_true rfl) (Nat.le_of_ble_eq_true rfl) dX6_hasTimes_13 ?_
    refine r_iload_n (pc := 16) 1 dX6_hasTimes_16 rfl ?_
    refine r_iconst (pc := 17) (-1) dX6_hasTimes_17 rfl ?_
    refine r_icmp_eq (pc := 18) (tgt := 25) dX6_hasTimes_18 (by decide) (fun c_18 => ?_) (fun c_18 => ?_)
    · refine r_iconst (pc := 25) (0) dX6_hasTimes_25 rfl ?_
      refine r_zret (pc := 26) rfl (by decide) ?_ (Nat.le_of_ble_eq_true rfl) (Nat.le_of_ble_eq_true rfl) dX6_hasTimes_26
      exact Or.inr ⟨hnb, rfl, rfl⟩
    · exact absurd rfl c_18
def pOd (E : En) (h : Hp) (x : Nat) (b : Nat → Int32) (n N : Nat) (wl wo : Nat → Int64) (i lv c q κ : Nat) : Option Value → Hp → Prop := fun v h' => Fr (clS x q c) h h' ∧ ((v = some (.int 1) ∧ ∃ hd i' lv' c1 c2 tm s1 s2, hd < 4 ∧ κ = 267 + hd ∧ ClS E h' x b n N true i' lv' c2 (q + 1) (3 * q + 2) ∧ (i < i' ∧ c ≤ c1 ∧ c1 ≤ c2 ∧ tm ≤ 20) ∧ (hI h' (x + 28) q = nI hd ∧ hI h' (x + 29) q = nI tm ∧ hI h' (x + 30) (3 * q + 1) = nI c1 ∧ hI h' (x + 30) (3 * q + 2) = nI c2) ∧ (if hd = 3 then c = c1 ∧ c1 = c2 else (∃ lf, lf ≤ 50 ∧ CSeg (hI h' (x + 31)) (hI h' (x + 32)) 19 c c1 lf s1 ∧ Bd s1) ∧ ∃ lf, lf ≤ 50 ∧ CSeg (hI h' (x + 31)) (hI h' (x + 32)) 19 c1 c2 lf s2 ∧ Bd s2) ∧ ∃ iy, OrdS wl wo (tk b n) (nI hd) (i + 1) lv (.inr (iy, lv', s1, s2)) ∧ TimM (tk b n) iy (.inr (i', tm))) ∨ (v = some (.int 0) ∧ ∃ j, hI h' (x + 26) 6 = nI j ∧ j ≤ N ∧ (((∀ u, u < 4 → ¬ κ = 267 + u) ∧ j = i) ∨ ∃ hd, hd < 4 ∧ κ = 267 + hd ∧ (OrdS wl wo (tk b n) (nI hd) (i + 1) lv (.inl j) ∨ ∃ y, OrdS wl wo (tk b n) (nI hd) (i + 1) lv (.inr y) ∧ TimM (tk b n) y.1 (.inl j)))))
theorem c6_hasOrderDoing {h : Hp} {i lv c q κ : Nat} (hw : Wls wl wo) (hs : ClS E h x b n N true i lv c q (3 * q)) (hq : q < 12) (hκ : κ ≤ 302) (hiN : (∃ u, u < 4 ∧ κ = 267 + u) → i < N) : Ct E 39 0 0 mX6_hasOrderDoing [.ref (x + 26), .int (nI κ)] h (pOd E h x b n N wl wo i lv c q κ) := by
  have hc := hs.1.1.1
  have hi := hs.1.2.1.1
  have hN := hs.1.2.1.2
  have hci := hs.1.2.2.2.2.2
  refine Ct.of (by decide +kernel) (Nat.le_of_ble_eq_true rfl) ?_
  have no : (∀ u, u < 4 → ¬ κ = 267 + u) → Wp E mX6_hasOrderDoing (Rm 39 0 0) (Qm E (pOd E h x b n N wl wo i lv c q κ) 0 0) 14 [(0, .ref (x + 26)), (1, .int (nI κ))] [] h 0 0 := by
    intro hno
    refine r_iconst (pc := 14) (0) dX6_hasOrderDoing_14 rfl ?_
    refine r_zret (pc := 15) rfl (by decide) ?_ (Nat.le_of_ble_eq_true rfl) (Nat.le_of_ble_eq_true rfl) dX6_hasOrderDoing_15
    exact ⟨Fr.rf, Or.inr ⟨rfl, i, hi, hN, Or.inl ⟨hno, rfl⟩⟩⟩
  refine r_iload_n (pc := 0) 1 dX6_hasOrderDoing_0 rfl ?_
  refine r_sipush (pc := 1) (267) dX6_hasOrderDoing_1 rfl ?_
  refine r_icmp_lt (pc := 4) (tgt := 14) dX6_hasOrderDoing_4 (by decide) (fun c_4 => ?_) (fun c_4 => ?_)
  · exact no (fun u hu z => absurd c_4 (nI_nlt (b := 267) (by omega) (by omega)))
  · refine r_iload_n (pc := 7) 1 dX6_hasOrderDoing_7 rfl ?_
    refine r_sipush (pc := 8) (270) dX6_hasOrderDoing_8 rfl ?_
    refine r_icmp_le (pc := 11) (tgt := 16) dX6_hasOrderDoing_11 (by decide) (fun c_11 => ?_) (fun c_11 => ?_)
    · have h1 : 267 ≤ κ := by
        rcases Nat.lt_or_ge κ 267 with z | z
        · exact absurd (nI_lt (b := 267) z (by decide)) c_4
        · exact z
      have h2 : κ ≤ 270 := by
        rcases Nat.lt_or_ge 270 κ with z | z
        · exact absurd c_11 (nI_ge z (by omega))
        · exact z
      obtain ⟨hd, hde⟩ : ∃ hd, κ = 267 + hd := ⟨κ - 267, by omega⟩
      have hiN2 := hiN ⟨hd, by omega, hde⟩
      refine r_aload_n (pc := 16) 0 dX6_hasOrderDoing_16 rfl ?_
      refine r_dup (pc := 17) dX6_hasOrderDoing_17 rfl ?_
      refine r_getI (pc := 18) fl_X6_69 (ca_26 hc) dX6_hasOrderDoing_18 ?_
      rw [hi]
      refine r_iconst (pc := 21) (1) dX6_hasOrderDoing_21 rfl ?_
      refine r_iadd (pc := 22) dX6_hasOrderDoing_22 ?_
      rw [nI_1]
      refine r_putI (pc := 23) fp_X6_69 (ca_26 hc) dX6_hasOrderDoing_23 ?_
      have hs1 := hs.now (i' := i + 1) (by omega) (by omega)
      have f1 : Fr (clS x q c) h (wI h (x + 26) 6 (nI (i + 1))) := Fr.wI (by unfold clS; omega)
      generalize wI h (x + 26) 6 (nI (i + 1)) = h1 at hs1 f1 ⊢
      have hc1 := hs1.1.1.1
      refine r_aload_n (pc := 26) 0 dX6_hasOrderDoing_26 rfl ?_
      refine r_getR (pc := 27) fl_X6_14 (ca_26 hc1) (cf_26_0 hc1) dX6_hasOrderDoing_27 ?_
      refine r_iload_n (pc := 30) 1 dX6_hasOrderDoing_30 rfl ?_
      refine r_sipush (pc := 31) (267) dX6_hasOrderDoing_31 rfl ?_
      refine r_isub (pc := 34) dX6_hasOrderDoing_34 ?_
      have esub := nI_sub (a := 267 + hd) (b := 267) (by omega)
      rw [Nat.add_sub_cancel_left, ← hde] at esub
      rw [show nI κ - 267 = nI hd from esub]
      refine r_dV0 (pc := 35) (As := [_]) mv_X10_beginClause ml_X6_127 (c6_begin hs1 hq _) (tx_is (cs_tx27 hc1)) rfl rfl (Nat.le_of_ble_eq_true rfl) (Nat.le_of_ble_eq_true rfl) (Nat.le_of_ble_eq_true rfl) (Nat.le_of_ble_eq_true rfl) (Nat.le_of_ble_eq_true rfl) dX6_hasOrderDoing_35 ?_
      have hs2 := hs1.bc (k := nI hd)
      have f2 : Fr (clS x q c) h (bcH h1 x q (nI hd)) := f1.tr bcH_fr
      have e28 : hI (bcH h1 x q (nI hd)) (x + 28) q = nI hd := bcH_28
      have e29 : hI (bcH h1 x q (nI hd)) (x + 29) q = nI 1 := bcH_29
      generalize bcH h1 x q (nI hd) = h2 at hs2 f2 e28 e29 ⊢
      have hc2 := hs2.1.1.1
      -- behind both sums: the second piece is ended, then times
      have at102 : ∀ (h3 : Hp) (i3 lv3 c1 c2 : Nat) (s1 s2 : Sm), Fr (clS x q c) h h3 → ClS E h3 x b n N true i3 lv3 c2 (q + 1) (3 * q + 1) → i < i3 → c ≤ c1 → c1 ≤ c2 → hI h3 (x + 28) q = nI hd → hI h3 (x + 29) q = nI 1 → hI h3 (x + 30) (3 * q + 1) = nI c1 → (if hd = 3 then c = c1 ∧ c1 = c2 else (∃ lf, lf ≤ 50 ∧ CSeg (hI h3 (x + 31)) (hI h3 (x + 32)) 19 c c1 lf s1 ∧ Bd s1) ∧ ∃ lf, lf ≤ 50 ∧ CSeg (hI h3 (x + 31)) (hI h3 (x + 32)) 19 c1 c2 lf s2 ∧ Bd s2) → OrdS wl wo (tk b n) (nI hd) (i + 1) lv (.inr (i3, lv3, s1, s2)) → Wp E mX6_hasOrderDoing (Rm 39 0 0) (Qm E (pOd E h x b n N wl wo i lv c q κ) 0 0) 102 [(0, .ref (x + 26)), (1, .int (nI κ))] [] h3 0 0 := by
        intro h3 i3 lv3 c1 c2 s1 s2 f3 hs3 hii l1 l2 g28 g29 g30 hsem hord
        have hc3 := hs3.1.1.1
        refine r_aload_n (pc := 102) 0 dX6_hasOrderDoing_102 rfl ?_
        refine r_getR (pc := 103) fl_X6_14 (ca_26 hc3) (cf_26_0 hc3) dX6_hasOrderDoing_103 ?_
        refine r_dV0 (pc := 106) (As := []) mv_X10_endPiece ml_X6_124 (c6_endP hs3 (by omega)) (tx_is (cs_tx27 hc3)) rfl rfl (Nat.le_of_ble_eq_true rfl) (Nat.le_of_ble_eq_true rfl) (Nat.le_of_ble_eq_true rfl) (Nat.le_of_ble_eq_true rfl) (Nat.le_of_ble_eq_true rfl) dX6_hasOrderDoing_106 ?_
        have hs4 := hs3.ep
        have f4 : Fr (clS x q c) h (epH h3 x (3 * q + 1) c2) := f3.tr (epH_fr (by omega))
        have k30a : hI (epH h3 x (3 * q + 1) c2) (x + 30) (3 * q + 1) = nI c1 := by rw [epH_30 (by omega)]; exact g30
        have k30b : hI (epH h3 x (3 * q + 1) c2) (x + 30) (3 * q + 2) = nI c2 := epH_at
        have k28 : hI (epH h3 x (3 * q + 1) c2) (x + 28) q = nI hd := by rw [epH_ne (by omega) (by omega)]; exact g28
        have k29 : hI (epH h3 x (3 * q + 1) c2) (x + 29) q = nI 1 := by rw [epH_ne (by omega) (by omega)]; exact g29
        have e31 : hI (epH h3 x (3 * q + 1) c2) (x + 31) = hI h3 (x + 31) := epH_ne (by omega) (by omega)
        have e32 : hI (epH h3 x (3 * q + 1) c2) (x + 32) = hI h3 (x + 32) := epH_ne (by omega) (by omega)
        rw [← e31, ← e32] at hsem
        generalize epH h3 x (3 * q + 1) c2 = h4 at hs4 f4 k30a k30b k28 k29 hsem ⊢
        obtain ⟨⟨hc4, ht4⟩, ⟨hi4, hN4⟩, -⟩ := id hs4.1
        have hkr := ht4.kr hN4
        have htm : tW (tk b n i3) 21279923 = decide (hI h4 (x + 34) i3 = 260) := hkr.wdb (j := 4) (by decide)
        refine r_aload_n (pc := 109) 0 dX6_hasOrderDoing_109 rfl ?_
        refine r_sipush (pc := 110) (260) dX6_hasOrderDoing_110 rfl ?_
        refine r_callV (pc := 113) (As := [_]) mv_X6_takes ml_X6_82 (c6_takes hc4 ht4 hi4 hN4 (k := 260) (by decide)) (ca_26 hc4) rfl rfl (Nat.le_of_ble_eq_true rfl) (Nat.le_of_ble_eq_true rfl) (Nat.le_of_ble_eq_true rfl) (Nat.le_of_ble_eq_true rfl) (Nat.le_of_ble_eq_true rfl) dX6_hasOrderDoing_113 (fun r h5 hp => ?_)
        rcases hp with ⟨hk, hlt, rfl, rfl⟩ | ⟨hk, rfl, rfl⟩
        · show Wp E mX6_hasOrderDoing _ _ _ _ [.int _] _ 0 0
          have hyes : tW (tk b n i3) 21279923 = true := by rw [htm]; exact decide_eq_true hk
          have hci4 := hs4.1.2.2.2.2.2
          have hs5 := hs4.now (i' := i3 + 1) (by omega) (by omega)
          have hc5 := hs5.1.1.1
          refine r_if_eq (pc := 116) (tgt := 126) dX6_hasOrderDoing_116 (by decide) (fun c_116 => ?_) (fun c_116 => ?_)
          · exact absurd (show (1 : Int32) = 0 from c_116) (by decide)
          · refine r_aload_n (pc := 119) 0 dX6_hasOrderDoing_119 rfl ?_
            refine r_callV (pc := 120) (As := []) mv_X6_hasTimes ml_X6_133 (c6_hasTimes hs5 hq) (ca_26 hc5) rfl rfl (Nat.le_of_ble_eq_true rfl) (Nat.le_of_ble_eq_true rfl) (Nat.le_of_ble_eq_true rfl) (Nat.le_of_ble_eq_true rfl) (Nat.le_of_ble_eq_true rfl) dX6_hasOrderDoing_120 (fun r h6 hp => ?_)
            rcases hp with ⟨hnb, hiN3, rfl, m, hm1, hm2, hm3, rfl⟩ | ⟨hnb, rfl, rfl⟩
            · show Wp E mX6_hasOrderDoing _ _ _ _ [.int _] _ 0 0
              refine r_if_eq (pc := 123) (tgt := 130) dX6_hasOrderDoing_123 (by decide) (fun c_123 => ?_) (fun c_123 => ?_)
              · exact absurd (show (1 : Int32) = 0 from c_123) (by decide)
              · refine r_iconst (pc := 126) (1) dX6_hasOrderDoing_126 rfl ?_
                refine r_goto (pc := 127) (tgt := 131) dX6_hasOrderDoing_127 (by decide) ?_
                refine r_zret (pc := 131) rfl (by decide) ?_ (Nat.le_of_ble_eq_true rfl) (Nat.le_of_ble_eq_true rfl) dX6_hasOrderDoing_131
                have hs6 := hs5.now (i' := i3 + 1 + 1) (by omega) (by omega)
                have em : m = ((tk b n (i3 + 1)).2.2.2.toInt.toNat) := by
                  rw [hm3, show (lN m).toInt = (m : Int) from lN_toInt (by omega)]; rfl
                refine ⟨((f4.tr (Fr.wI (by unfold clS; omega))).tr (Fr.wI (by unfold clS; omega))).tr (Fr.wI (by unfold clS; omega)), Or.inl ⟨rfl, hd, i3 + 1 + 1, lv3, c1, c2, m, s1, s2, by omega, hde, ?_, ⟨by omega, l1, l2, hm2⟩, ⟨?_, hI_at, ?_, ?_⟩, ?_, i3, hord, ?_⟩⟩
                · obtain ⟨⟨⟨w1, w2⟩, ⟨w3, w4⟩, ⟨w5, w6⟩, w7, w8, w9⟩, w10, w11⟩ := hs6
                  exact ⟨⟨⟨w1, w2.w (Or.inr (by omega))⟩, ⟨by rw [hI_ne (by omega)]; exact w3, w4⟩, ⟨by rw [hI_ne (by omega)]; exact w5, w6⟩, by rw [hI_ne (by omega)]; exact w7, by rw [hI_ne (by omega)]; exact w8, w9⟩, by rw [hI_ne (by omega)]; exact w10, by rw [hI_ne (by omega)]; exact w11⟩
                · rw [hI_ne (by omega), hI_ne (by omega), hI_ne (by omega)]; exact k28
                · rw [hI_ne (by omega), hI_ne (by omega), hI_ne (by omega)]; exact k30a
                · rw [hI_ne (by omega), hI_ne (by omega), hI_ne (by omega)]; exact k30b
                · have q31 : hI (wI (wI (wI h4 (x + 26) 6 (nI (i3 + 1))) (x + 26) 6 (nI (i3 + 1 + 1))) (x + 27 + 2) q (nI m)) (x + 31) = hI h4 (x + 31) := by funext k; rw [hI_ne (by omega), hI_ne (by omega), hI_ne (by omega)]
                  have q32 : hI (wI (wI (wI h4 (x + 26) 6 (nI (i3 + 1))) (x + 26) 6 (nI (i3 + 1 + 1))) (x + 27 + 2) q (nI m)) (x + 32) = hI h4 (x + 32) := by funext k; rw [hI_ne (by omega), hI_ne (by omega), hI_ne (by omega)]
                  rw [q31, q32]; exact hsem
                · unfold TimM
                  rw [if_pos hyes, if_pos hnb, em]
            · show Wp E mX6_hasOrderDoing _ _ _ _ [.int _] _ 0 0
              refine r_if_eq (pc := 123) (tgt := 130) dX6_hasOrderDoing_123 (by decide) (fun c_123 => ?_) (fun c_123 => ?_)
              · refine r_iconst (pc := 130) (0) dX6_hasOrderDoing_130 rfl ?_
                refine r_zret (pc := 131) rfl (by decide) ?_ (Nat.le_of_ble_eq_true rfl) (Nat.le_of_ble_eq_true rfl) dX6_hasOrderDoing_131
                refine ⟨(f4.tr (Fr.wI (by unfold clS; omega))).tr (Fr.wI (by unfold clS; omega)), Or.inr ⟨rfl, i3 + 1, by rw [hI_ne (by omega), hI_at], by omega, Or.inr ⟨hd, by omega, hde, Or.inr ⟨_, hord, ?_⟩⟩⟩⟩
                show TimM (tk b n) i3 (.inl (i3 + 1))
                unfold TimM
                rw [if_pos hyes, hnb, if_neg (by decide)]
              · exact absurd rfl c_123
        · show Wp E mX6_hasOrderDoing _ _ _ _ [.int _] _ 0 0
          have hno : ¬ tW (tk b n i3) 21279923 = true := by rw [htm, decide_eq_false hk]; decide
          refine r_if_eq (pc := 116) (tgt := 126) dX6_hasOrderDoing_116 (by decide) (fun c_116 => ?_) (fun c_116 => ?_)
          · refine r_iconst (pc := 126) (1) dX6_hasOrderDoing_126 rfl ?_
            refine r_goto (pc := 127) (tgt := 131) dX6_hasOrderDoing_127 (by decide) ?_
            refine r_zret (pc := 131) rfl (by decide) ?_ (Nat.le_of_ble_eq_true rfl) (Nat.le_of_ble_eq_true rfl) dX6_hasOrderDoing_131
            refine ⟨f4, Or.inl ⟨rfl, hd, i3, lv3, c1, c2, 1, s1, s2, by omega, hde, hs4, ⟨hii, l1, l2, by omega⟩, ⟨k28, k29, k30a, k30b⟩, hsem, i3, hord, ?_⟩⟩
            unfold TimM
            rw [if_neg hno]
          · exact absurd rfl c_116
      refine r_iload_n (pc := 38) 1 dX6_hasOrderDoing_38 rfl ?_
      refine r_sipush (pc := 39) (270) dX6_hasOrderDoing_39 rfl ?_
      refine r_icmp_eq (pc := 42) (tgt := 55) dX6_hasOrderDoing_42 (by decide) (fun c_42 => ?_) (fun c_42 => ?_)
      · have e3 : hd = 3 := by have := nI_inj (b := 270) (by omega) (by decide) c_42; omega
        refine r_aload_n (pc := 55) 0 dX6_hasOrderDoing_55 rfl ?_
        refine r_getR (pc := 56) fl_X6_14 (ca_26 hc2) (cf_26_0 hc2) dX6_hasOrderDoing_56 ?_
        refine r_dV0 (pc := 59) (As := []) mv_X10_endPiece ml_X6_124 (c6_endP hs2 (by omega)) (tx_is (cs_tx27 hc2)) rfl rfl (Nat.le_of_ble_eq_true rfl) (Nat.le_of_ble_eq_true rfl) (Nat.le_of_ble_eq_true rfl) (Nat.le_of_ble_eq_true rfl) (Nat.le_of_ble_eq_true rfl) dX6_hasOrderDoing_59 ?_
        have hs3 := hs2.ep
        have f3 : Fr (clS x q c) h (epH h2 x (3 * q) c) := f2.tr (epH_fr (by omega))
        refine r_iload_n (pc := 62) 1 dX6_hasOrderDoing_62 rfl ?_
        refine r_sipush (pc := 63) (270) dX6_hasOrderDoing_63 rfl ?_
        refine r_icmp_eq (pc := 66) (tgt := 102) dX6_hasOrderDoing_66 (by decide) (fun c_66 => ?_) (fun c_66 => ?_)
        · refine at102 _ (i + 1) lv c c sZ sZ f3 hs3 (by omega) (Nat.le_refl _) (Nat.le_refl _) (by rw [epH_ne (by omega) (by omega)]; exact e28) (by rw [epH_ne (by omega) (by omega)]; exact e29) epH_at (by rw [if_pos e3]; exact ⟨rfl, rfl⟩) ?_
          unfold OrdS
          rw [if_pos (by rw [e3]; rfl)]
        · exact absurd c_42 c_66
      · have n3 : ¬ hd = 3 := fun z => c_42 (by rw [hde, z]; rfl)
        have nn3 : ¬ nI hd = 3 := fun z => n3 (nI_inj (b := 3) (by omega) (by decide) z)
        refine r_aload_n (pc := 45) 0 dX6_hasOrderDoing_45 rfl ?_
        refine r_iconst (pc := 46) (0) dX6_hasOrderDoing_46 rfl ?_
        refine r_callV (pc := 47) (As := [_]) mv_X6_hasSum ml_X6_130 ((rd_all (test := false) hw 8 0 rfl).1 h2 (i + 1) lv c hs2.1) (ca_26 hc2) rfl rfl (Nat.le_of_ble_eq_true rfl) (Nat.le_of_ble_eq_true rfl) (Nat.le_of_ble_eq_true rfl) (Nat.le_of_ble_eq_true rfl) (Nat.le_of_ble_eq_true rfl) dX6_hasOrderDoing_47 (fun r h3 hp => ?_)
        obtain ⟨f3, ⟨rfl, i3, lv3, c3, s3, hr3, b1, b2, b3, b4, hseg3, hsem⟩ | ⟨rfl, j, hj, hjN, hf⟩⟩ := hp
        · show Wp E mX6_hasOrderDoing _ _ _ _ [.int _] _ 0 0
          have hs3 := hs2.rd f3 hr3
          have f23 := f2.tr (f3.mono (fun a k z => rd_cl (q := q) (Nat.le_refl c) z))
          have hc3 := hs3.1.1.1
          refine r_if_ne (pc := 50) (tgt := 55) dX6_hasOrderDoing_50 (by decide) (fun c_50 => ?_) (fun c_50 => ?_)
          · refine r_aload_n (pc := 55) 0 dX6_hasOrderDoing_55 rfl ?_
            refine r_getR (pc := 56) fl_X6_14 (ca_26 hc3) (cf_26_0 hc3) dX6_hasOrderDoing_56 ?_
            refine r_dV0 (pc := 59) (As := []) mv_X10_endPiece ml_X6_124 (c6_endP hs3 (by omega)) (tx_is (cs_tx27 hc3)) rfl rfl (Nat.le_of_ble_eq_true rfl) (Nat.le_of_ble_eq_true rfl) (Nat.le_of_ble_eq_true rfl) (Nat.le_of_ble_eq_true rfl) (Nat.le_of_ble_eq_true rfl) dX6_hasOrderDoing_59 ?_
            have hs4 := hs3.ep
            have f4 : Fr (clS x q c) h (epH h3 x (3 * q) c3) := f23.tr (epH_fr (by omega))
            have k28 : hI (epH h3 x (3 * q) c3) (x + 28) q = nI hd := by rw [epH_ne (by omega) (by omega)]; exact (f3.I (by unfold rdS; omega)).trans e28
            have k29 : hI (epH h3 x (3 * q) c3) (x + 29) q = nI 1 := by rw [epH_ne (by omega) (by omega)]; exact (f3.I (by unfold rdS; omega)).trans e29
            have k30 : hI (epH h3 x (3 * q) c3) (x + 30) (3 * q + 1) = nI c3 := epH_at
            have hseg4 : CSeg (hI (epH h3 x (3 * q) c3) (x + 31)) (hI (epH h3 x (3 * q) c3) (x + 32)) 19 c c3 (lv3 - lv) s3 := by
              rw [epH_ne (a := x + 31) (by omega) (by omega), epH_ne (a := x + 32) (by omega) (by omega)]; exact hseg3
            generalize epH h3 x (3 * q) c3 = h4 at hs4 f4 k28 k29 k30 hseg4 ⊢
            obtain ⟨⟨hc4, ht4⟩, ⟨hi4, hN4⟩, -, -, -, hci4⟩ := id hs4.1
            have hkr := ht4.kr hN4
            -- on, as
            have at86 : ∀ k : Int32, (k = 261 ∨ k = 262) → (k = 261 ↔ hd = 0) → Wp E mX6_hasOrderDoing (Rm 39 0 0) (Qm E (pOd E h x b n N wl wo i lv c q κ) 0 0) 86 [(0, .ref (x + 26)), (1, .int (nI κ))] [.int k, .ref (x + 26)] h4 0 0 := by
              intro k hk hk0
              have hon : tW (tk b n i3) (if nI hd = 0 then 494 else 51) = decide (hI h4 (x + 34) i3 = k) := by
                by_cases h0 : hd = 0
                · rw [if_pos (by rw [h0]; rfl), hk0.mpr h0]; exact hkr.wdb (j := 5) (by decide)
                · rw [if_neg (show ¬ nI hd = 0 from nI_ne0 (by omega) (by omega)), hk.resolve_left (fun z => h0 (hk0.mp z))]; exact hkr.wdb (j := 6) (by decide)
              refine r_callV (pc := 86) (As := [_]) mv_X6_takes ml_X6_82 (c6_takes hc4 ht4 hi4 hN4 (k := k) (by rcases hk with z | z <;> rw [z] <;> decide)) (ca_26 hc4) rfl rfl (Nat.le_of_ble_eq_true rfl) (Nat.le_of_ble_eq_true rfl) (Nat.le_of_ble_eq_true rfl) (Nat.le_of_ble_eq_true rfl) (Nat.le_of_ble_eq_true rfl) dX6_hasOrderDoing_86 (fun r h5 hp => ?_)
              rcases hp with ⟨hkk, hlt, rfl, rfl⟩ | ⟨hkk, rfl, rfl⟩
              · show Wp E mX6_hasOrderDoing _ _ _ _ [.int _] _ 0 0
                have hyes : tW (tk b n i3) (if nI hd = 0 then 494 else 51) = true := by rw [hon]; exact decide_eq_true hkk
                have hs5 := hs4.now (i' := i3 + 1) (by omega) (by omega)
                have f5 : Fr (rdS x c3) h4 (wI h4 (x + 26) 6 (nI (i3 + 1))) := Fr.wI (by unfold rdS; omega)
                generalize wI h4 (x + 26) 6 (nI (i3 + 1)) = h5 at hs5 f5 ⊢
                have hc5 := hs5.1.1.1
                refine r_if_eq (pc := 89) (tgt := 100) dX6_hasOrderDoing_89 (by decide) (fun c_89 => ?_) (fun c_89 => ?_)
                · exact absurd (show (1 : Int32) = 0 from c_89) (by decide)
                · refine r_aload_n (pc := 92) 0 dX6_hasOrderDoing_92 rfl ?_
                  refine r_iconst (pc := 93) (0) dX6_hasOrderDoing_93 rfl ?_
                  refine r_callV (pc := 94) (As := [_]) mv_X6_hasSum ml_X6_130 ((rd_all (test := false) hw 8 0 rfl).1 h5 (i3 + 1) lv3 c3 hs5.1) (ca_26 hc5) rfl rfl (Nat.le_of_ble_eq_true rfl) (Nat.le_of_ble_eq_true rfl) (Nat.le_of_ble_eq_true rfl) (Nat.le_of_ble_eq_true rfl) (Nat.le_of_ble_eq_true rfl) dX6_hasOrderDoing_94 (fun r h6 hp => ?_)
                  obtain ⟨f6, ⟨rfl, i6, lv6, c6, s6, hr6, d1, d2, d3, d4, hseg6, hsem6⟩ | ⟨rfl, j, hj, hjN, hf⟩⟩ := hp
                  · show Wp E mX6_hasOrderDoing _ _ _ _ [.int _] _ 0 0
                    have f56 := f5.tr f6
                    refine r_if_ne (pc := 97) (tgt := 102) dX6_hasOrderDoing_97 (by decide) (fun c_97 => ?_) (fun c_97 => ?_)
                    · refine at102 h6 i6 lv6 c3 c6 s3 s6 (f4.tr (f56.mono (fun a k z => rd_cl (by omega) z))) (hs5.rd f6 hr6) (by omega) (by omega) (by omega) ((f56.I (by unfold rdS; omega)).trans k28) ((f56.I (by unfold rdS; omega)).trans k29) ((f56.I (by unfold rdS; omega)).trans k30) ?_ ?_
                      · rw [if_neg n3]
                        exact ⟨⟨lv3 - lv, by have := hr3.2.2.1.2; omega, CSeg_cong (fun k _ k2 => ⟨f56.I (by unfold rdS; omega), f56.I (by unfold rdS; omega)⟩) hseg4, hsem.1⟩, ⟨lv6 - lv3, by have := hr6.2.2.1.2; omega, hseg6, hsem6.1⟩⟩
                      · unfold OrdS
                        rw [if_neg nn3]
                        refine ⟨.inr (i3, lv3, s3), ex_sum hsem, ?_⟩
                        show if tW (tk b n i3) (if nI hd = 0 then 494 else 51) = true then _ else _
                        rw [if_pos hyes]
                        exact ⟨.inr (i6, lv6, s6), ex_sum hsem6, rfl⟩
                    · exact absurd (show (1 : Int32) = 0 from c_97) (by decide)
                  · show Wp E mX6_hasOrderDoing _ _ _ _ [.int _] _ 0 0
                    refine r_if_ne (pc := 97) (tgt := 102) dX6_hasOrderDoing_97 (by decide) (fun c_97 => ?_) (fun c_97 => ?_)
                    · exact absurd rfl c_97
                    · refine r_iconst (pc := 100) (0) dX6_hasOrderDoing_100 rfl ?_
                      refine r_zret (pc := 101) rfl (by decide) ?_ (Nat.le_of_ble_eq_true rfl) (Nat.le_of_ble_eq_true rfl) dX6_hasOrderDoing_101
                      refine ⟨f4.tr ((f5.tr f6).mono (fun a k z => rd_cl (by omega) z)), Or.inr ⟨rfl, j, hj, hjN, Or.inr ⟨hd, by omega, hde, Or.inl ?_⟩⟩⟩
                      unfold OrdS
                      rw [if_neg nn3]
                      refine ⟨.inr (i3, lv3, s3), ex_sum hsem, ?_⟩
                      show if tW (tk b n i3) (if nI hd = 0 then 494 else 51) = true then _ else _
                      rw [if_pos hyes]
                      exact ⟨.inl j, ex_sumF hf, rfl⟩
              · show Wp E mX6_hasOrderDoing _ _ _ _ [.int _] _ 0 0
                have hno2 : ¬ tW (tk b n i3) (if nI hd = 0 then 494 else 51) = true := by rw [hon, decide_eq_false hkk]; decide
                refine r_if_eq (pc := 89) (tgt := 100) dX6_hasOrderDoing_89 (by decide) (fun c_89 => ?_) (fun c_89 => ?_)
                · refine r_iconst (pc := 100) (0) dX6_hasOrderDoing_100 rfl ?_
                  refine r_zret (pc := 101) rfl (by decide) ?_ (Nat.le_of_ble_eq_true rfl) (Nat.le_of_ble_eq_true rfl) dX6_hasOrderDoing_101
                  refine ⟨f4, Or.inr ⟨rfl, i3, hi4, hN4, Or.inr ⟨hd, by omega, hde, Or.inl ?_⟩⟩⟩
                  unfold OrdS
                  rw [if_neg nn3]
                  refine ⟨.inr (i3, lv3, s3), ex_sum hsem, ?_⟩
                  show if tW (tk b n i3) (if nI hd = 0 then 494 else 51) = true then _ else _
                  rw [if_neg hno2]
                · exact absurd rfl c_89
            refine r_iload_n (pc := 62) 1 dX6_hasOrderDoing_62 rfl ?_
            refine r_sipush (pc := 63) (270) dX6_hasOrderDoing_63 rfl ?_
            refine r_icmp_eq (pc := 66) (tgt := 102) dX6_hasOrderDoing_66 (by decide) (fun c_66 => ?_) (fun c_66 => ?_)
            · exact absurd c_66 c_42
            · refine r_aload_n (pc := 69) 0 dX6_hasOrderDoing_69 rfl ?_
              refine r_iload_n (pc := 70) 1 dX6_hasOrderDoing_70 rfl ?_
              refine r_sipush (pc := 71) (267) dX6_hasOrderDoing_71 rfl ?_
              refine r_icmp_ne (pc := 74) (tgt := 83) dX6_hasOrderDoing_74 (by decide) (fun c_74 => ?_) (fun c_74 => ?_)
              · refine r_sipush (pc := 83) (262) dX6_hasOrderDoing_83 rfl ?_
                exact at86 _ (Or.inr rfl) ⟨fun z => absurd z (by decide), fun z => absurd (by rw [hde, z]; rfl) c_74⟩
              · have e0 : hd = 0 := by have := nI_inj (b := 267) (by omega) (by decide) c_74; omega
                refine r_sipush (pc := 77) (261) dX6_hasOrderDoing_77 rfl ?_
                refine r_goto (pc := 80) (tgt := 86) dX6_hasOrderDoing_80 (by decide) ?_
                exact at86 _ (Or.inl rfl) ⟨fun _ => e0, fun _ => rfl⟩
          · exact absurd (show (1 : Int32) = 0 from c_50) (by decide)
        · show Wp E mX6_hasOrderDoing _ _ _ _ [.int _] _ 0 0
          refine r_if_ne (pc := 50) (tgt := 55) dX6_hasOrderDoing_50 (by decide) (fun c_50 => ?_) (fun c_50 => ?_)
          · exact absurd rfl c_50
          · refine r_iconst (pc := 53) (0) dX6_hasOrderDoing_53 rfl ?_
            refine r_zret (pc := 54) rfl (by decide) ?_ (Nat.le_of_ble_eq_true rfl) (Nat.le_of_ble_eq_true rfl) dX6_hasOrderDoing_54
            refine ⟨f2.tr (f3.mono (fun a k z => rd_cl (Nat.le_refl _) z)), Or.inr ⟨rfl, j, hj, hjN, Or.inr ⟨hd, by omega, hde, Or.inl ?_⟩⟩⟩
            unfold OrdS
            rw [if_neg nn3]
            exact ⟨.inl j, ex_sumF hf, rfl⟩
    · exact no (fun u hu z => c_11 (nI_le (b := 270) (by omega) (by decide)))
end ORDDO
