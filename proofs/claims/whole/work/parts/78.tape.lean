/-! the class: the tape -/
section TAPE
variable {E : En} {h : Hp} {x : Nat}
theorem bv_byte (v : BitVec 32) (s : Nat) (hs : s ≤ 24) : (v >>> s) &&& 255#32 = (v.sshiftRight s) &&& 255#32 := by
  apply BitVec.eq_of_getLsbD_eq
  intro i hi
  rw [BitVec.getLsbD_and, BitVec.getLsbD_and, BitVec.getLsbD_ushiftRight, BitVec.getLsbD_sshiftRight]
  rcases Nat.lt_or_ge i 8 with z | z
  · rw [if_pos (by omega)]
    simp [Nat.not_le.mpr hi]
  · have key : ∀ i, i < 32 → 8 ≤ i → (255#32).getLsbD i = false := by decide +kernel
    rw [key i hi z, Bool.and_false, Bool.and_false]
theorem by24 (v : Int32) : (v.toUInt32 >>> ((24 : Int32).toUInt32 &&& Int32.toUInt32 31)).toInt32 &&& 255 = byteF v 24 := Int32.toBitVec_inj.mp (bv_byte v.toBitVec 24 (by decide))
theorem by16 (v : Int32) : (v.toUInt32 >>> ((16 : Int32).toUInt32 &&& Int32.toUInt32 31)).toInt32 &&& 255 = byteF v 16 := Int32.toBitVec_inj.mp (bv_byte v.toBitVec 16 (by decide))
theorem by8 (v : Int32) : (v.toUInt32 >>> ((8 : Int32).toUInt32 &&& Int32.toUInt32 31)).toInt32 &&& 255 = byteF v 8 := Int32.toBitVec_inj.mp (bv_byte v.toBitVec 8 (by decide))
theorem by0 (v : Int32) : (v.toUInt32 >>> ((0 : Int32).toUInt32 &&& Int32.toUInt32 31)).toInt32 &&& 255 = byteF v 0 := Int32.toBitVec_inj.mp (bv_byte v.toBitVec 0 (by decide))
/-- the tape's places -/
def taS (x a k : Nat) : Prop := (a = x + 24 ∧ k = 1) ∨ a = x + 25
theorem csP_ta {a k : Nat} (hq : csP x a k) : ¬ taS x a k := by
  intro z
  obtain ⟨t, ht, rfl, rfl⟩ := hq
  have key : ∀ t ∈ csF, ¬ ((t.1 = 24 ∧ t.2.1 = 1) ∨ t.1 = 25) := by decide +kernel
  exact key t ht (by unfold taS at z; omega)
theorem CS.ta {h1 : Hp} (hc : CS E h x) (a1 : Fr (taS x) h h1) : CS E h1 x := hc.fr a1 (fun _ _ => csP_ta)
/-- one byte more, four bytes more on the class's tape -/
def byH (x : Nat) (h : Hp) (t : Nat) (b : Int32) : Hp := wI (wI h (x + 25) t b) (x + 24) 1 (nI (t + 1))
def foH (x : Nat) (h : Hp) (t : Nat) (v : Int32) : Hp := byH x (byH x (byH x (byH x h t (byteF v 24)) (t + 1) (byteF v 16)) (t + 2) (byteF v 8)) (t + 3) (byteF v 0)
theorem c9_hasRoomForFive (hc : CS E h x) {t : Nat} (ht : hI h (x + 24) 1 = nI t) (h4 : t ≤ 400) : Ct E 0 0 0 mX9_hasRoomForFive [.ref (x + 24)] h (po (some (.int (bI (decide (t + 20 ≤ 400))))) h) := by
  refine Ct.of (by decide +kernel) (Nat.le_of_ble_eq_true rfl) ?_
  refine r_aload_n (pc := 0) 0 dX9_hasRoomForFive_0 rfl ?_
  refine r_getI (pc := 1) fl_X9_15 (ca_24 hc) dX9_hasRoomForFive_1 ?_
  rw [ht]
  refine r_bipush (pc := 4) (20) dX9_hasRoomForFive_4 rfl ?_
  refine r_iadd (pc := 6) dX9_hasRoomForFive_6 ?_
  rw [show nI t + (20 : Int32) = nI (t + 20) from nI_add t 20]
  refine r_sipush (pc := 7) (400) dX9_hasRoomForFive_7 rfl ?_
  refine r_icmp_gt (pc := 10) (tgt := 17) dX9_hasRoomForFive_10 (by decide) (fun c_10 => ?_) (fun c_10 => ?_)
  · refine r_iconst (pc := 17) (0) dX9_hasRoomForFive_17 rfl ?_
    refine r_zret (pc := 18) rfl (by decide) ?_ (Nat.le_of_ble_eq_true rfl) (Nat.le_of_ble_eq_true rfl) dX9_hasRoomForFive_18
    rw [show decide (t + 20 ≤ 400) = false from decide_eq_false (fun z => absurd c_10 (Int32.not_lt.mpr ((nI_leI (a := t + 20) (b := 400) (by omega) (by decide)).mpr z)))]
    exact ⟨rfl, rfl⟩
  · refine r_iconst (pc := 13) (1) dX9_hasRoomForFive_13 rfl ?_
    refine r_goto (pc := 14) (tgt := 18) dX9_hasRoomForFive_14 (by decide) ?_
    refine r_zret (pc := 18) rfl (by decide) ?_ (Nat.le_of_ble_eq_true rfl) (Nat.le_of_ble_eq_true rfl) dX9_hasRoomForFive_18
    rw [show decide (t + 20 ≤ 400) = true from decide_eq_true ((nI_leI (a := t + 20) (b := 400) (by omega) (by decide)).mp (Int32.not_lt.mp c_10))]
    exact ⟨rfl, rfl⟩
theorem c9_byteAt (hc : CS E h x) {t : Nat} (ht : hI h (x + 24) 1 = nI t) (h4 : t ≤ 400) {a : Int32} : Ct E 0 0 0 mX9_byteAt [.ref (x + 24), .int a] h (po (some (.int (if inN a t = true then hI h (x + 25) a.toNatClampNeg else 0))) h) := by
  refine Ct.of (by decide +kernel) (Nat.le_of_ble_eq_true rfl) ?_
  rw [inN_lt (by omega)]
  refine r_iload_n (pc := 0) 1 dX9_byteAt_0 rfl ?_
  refine r_if_lt (pc := 1) (tgt := 21) dX9_byteAt_1 (by decide) (fun c_1 => ?_) (fun c_1 => ?_)
  · refine r_iconst (pc := 21) (0) dX9_byteAt_21 rfl ?_
    refine r_iret (pc := 22) rfl ?_ (Nat.le_of_ble_eq_true rfl) (Nat.le_of_ble_eq_true rfl) dX9_byteAt_22
    rw [decide_eq_false (fun z => z.1 c_1), if_neg (by decide)]
    exact ⟨rfl, rfl⟩
  · refine r_iload_n (pc := 4) 1 dX9_byteAt_4 rfl ?_
    refine r_aload_n (pc := 5) 0 dX9_byteAt_5 rfl ?_
    refine r_getI (pc := 6) fl_X9_15 (ca_24 hc) dX9_byteAt_6 ?_
    rw [ht]
    refine r_icmp_ge (pc := 9) (tgt := 21) dX9_byteAt_9 (by decide) (fun c_9 => ?_) (fun c_9 => ?_)
    · refine r_iconst (pc := 21) (0) dX9_byteAt_21 rfl ?_
      refine r_iret (pc := 22) rfl ?_ (Nat.le_of_ble_eq_true rfl) (Nat.le_of_ble_eq_true rfl) dX9_byteAt_22
      rw [decide_eq_false (fun z => z.2 c_9), if_neg (by decide)]
      exact ⟨rfl, rfl⟩
    · have hin : inN a t = true := by rw [inN_lt (by omega)]; exact decide_eq_true ⟨c_1, c_9⟩
      obtain ⟨j, hj, ej⟩ := inN_of (by omega) hin
      rw [decide_eq_true ⟨c_1, c_9⟩, if_pos rfl]
      refine r_aload_n (pc := 12) 0 dX9_byteAt_12 rfl ?_
      refine r_getR (pc := 13) fl_X9_9 (ca_24 hc) (cf_24_0 hc) dX9_byteAt_13 ?_
      refine r_iload_n (pc := 16) 1 dX9_byteAt_16 rfl ?_
      refine r_iald (pc := 17) (j := j) (cr_25 hc) ej (by omega) (by decide) dX9_byteAt_17 ?_
      refine r_goto (pc := 18) (tgt := 22) dX9_byteAt_18 (by decide) ?_
      refine r_iret (pc := 22) rfl ?_ (Nat.le_of_ble_eq_true rfl) (Nat.le_of_ble_eq_true rfl) dX9_byteAt_22
      rw [ej, nI_clamp (by omega)]
      exact ⟨rfl, rfl⟩
theorem c9_add (hc : CS E h x) (v : Int32) {t : Nat} (ht : hI h (x + 24) 1 = nI t) (h4 : t + 4 ≤ 400) : Ct E 0 0 0 mX9_add [.ref (x + 24), .int v] h (po none (foH x h t v)) := by
  refine Ct.of (by decide +kernel) (Nat.le_of_ble_eq_true rfl) ?_
  refine r_bipush (pc := 0) (24) dX9_add_0 rfl ?_
  refine r_istore_n (pc := 2) (lv' := [(0, _), (1, _), (2, _)]) dX9_add_2 (Nat.le_of_ble_eq_true rfl) rfl ?_
  have step : ∀ (k : Int32) (g : Hp) (u : Nat), CS E g x → ¬ k < 0 → u < 400 → hI g (x + 24) 1 = nI u → (v.toUInt32 >>> (k.toUInt32 &&& Int32.toUInt32 31)).toInt32 &&& 255 = byteF v k → (CS E (byH x g u (byteF v k)) x → hI (byH x g u (byteF v k)) (x + 24) 1 = nI (u + 1) → Wp E mX9_add (Rm 0 0 0) (Qm E (po none (foH x h t v)) 0 0) 3 [(0, .ref (x + 24)), (1, .int v), (2, .int (k + -8))] [] (byH x g u (byteF v k)) 0 0) → Wp E mX9_add (Rm 0 0 0) (Qm E (po none (foH x h t v)) 0 0) 3 [(0, .ref (x + 24)), (1, .int v), (2, .int k)] [] g 0 0 := by
    intro k g u hc hk hu hv hb hgo
    refine r_iload_n (pc := 3) 2 dX9_add_3 rfl ?_
    refine r_if_lt (pc := 4) (tgt := 39) dX9_add_4 (by decide) (fun c_4 => ?_) (fun c_4 => ?_)
    · exact absurd c_4 hk
    · refine r_aload_n (pc := 7) 0 dX9_add_7 rfl ?_
      refine r_getR (pc := 8) fl_X9_9 (ca_24 hc) (cf_24_0 hc) dX9_add_8 ?_
      refine r_aload_n (pc := 11) 0 dX9_add_11 rfl ?_
      refine r_getI (pc := 12) fl_X9_15 (ca_24 hc) dX9_add_12 ?_
      refine r_iload_n (pc := 15) 1 dX9_add_15 rfl ?_
      refine r_iload_n (pc := 16) 2 dX9_add_16 rfl ?_
      refine r_iushr (pc := 17) dX9_add_17 ?_
      refine r_sipush (pc := 18) (255) dX9_add_18 rfl ?_
      refine r_iand (pc := 21) dX9_add_21 ?_
      rw [hb]
      refine r_iast (pc := 22) (j := u) (cr_25 hc) hv (by omega) (by decide) dX9_add_22 ?_
      refine r_aload_n (pc := 23) 0 dX9_add_23 rfl ?_
      refine r_dup (pc := 24) dX9_add_24 rfl ?_
      refine r_getI (pc := 25) fl_X9_15 (ca_24 hc) dX9_add_25 ?_
      rw [hI_ne (by omega), hv]
      refine r_iconst (pc := 28) (1) dX9_add_28 rfl ?_
      refine r_iadd (pc := 29) dX9_add_29 ?_
      rw [nI_1]
      refine r_putI (pc := 30) fp_X9_15 (ca_24 hc) dX9_add_30 ?_
      refine r_iinc (pc := 33) (v := _ + (-8)) (lv' := [(0, _), (1, _), (2, _)]) 2 dX9_add_33 rfl rfl (Nat.le_of_ble_eq_true rfl) rfl ?_
      refine r_goto (pc := 36) (tgt := 3) dX9_add_36 (by decide) ?_
      exact hgo ((hc.ta (Fr.wI (Or.inr rfl))).ta (Fr.wI (Or.inl ⟨rfl, rfl⟩))) (by unfold byH; exact hI_at)
  refine step 24 h t hc (by decide) (by omega) ht (by24 v) (fun c1 e1 => ?_)
  refine step 16 _ (t + 1) c1 (by decide) (by omega) e1 (by16 v) (fun c2 e2 => ?_)
  refine step 8 _ (t + 2) c2 (by decide) (by omega) e2 (by8 v) (fun c3 e3 => ?_)
  refine step 0 _ (t + 3) c3 (by decide) (by omega) e3 (by0 v) (fun c4 e4 => ?_)
  refine r_iload_n (pc := 3) 2 dX9_add_3 rfl ?_
  refine r_if_lt (pc := 4) (tgt := 39) dX9_add_4 (by decide) (fun c_4 => ?_) (fun c_4 => ?_)
  · refine r_vret (pc := 39) rfl ?_ (Nat.le_of_ble_eq_true rfl) (Nat.le_of_ble_eq_true rfl) dX9_add_39
    exact ⟨rfl, rfl⟩
  · exact absurd (by decide) c_4
theorem byH_fr {t : Nat} {b : Int32} : Fr (taS x) h (byH x h t b) := (Fr.wI (Or.inr rfl)).tr (Fr.wI (Or.inl ⟨rfl, rfl⟩))
theorem foH_fr {t : Nat} {v : Int32} : Fr (taS x) h (foH x h t v) := ((byH_fr.tr byH_fr).tr byH_fr).tr byH_fr
theorem foH_t {t : Nat} {v : Int32} : hI (foH x h t v) (x + 24) 1 = nI (t + 4) := by unfold foH byH; exact hI_at
end TAPE
