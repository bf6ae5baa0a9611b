/-! the class: sets of lives; a year more of what is had -/
section SETS
/-- of a what b lacks, among nine -/
def dfN (a b : Nat) : Nat := a &&& (511 ^^^ b)
theorem t511 : ∀ i, i < 9 → (511 : Nat).testBit i = true := by decide
theorem dfN_bit {a b i : Nat} (hi : i < 9) : (dfN a b).testBit i = (a.testBit i && !b.testBit i) := by
  unfold dfN
  rw [Nat.testBit_and, Nat.testBit_xor, t511 i hi]
  cases a.testBit i <;> cases b.testBit i <;> rfl
theorem dfN_lt {a b : Nat} (ha : a < 512) : dfN a b < 512 := Nat.lt_of_le_of_lt Nat.and_le_left ha
theorem bit_hi {a i : Nat} (ha : a < 512) (hi : 9 ≤ i) : a.testBit i = false := Nat.testBit_lt_two_pow (Nat.lt_of_lt_of_le ha (show 2 ^ 9 ≤ 2 ^ i from Nat.pow_le_pow_right (by decide) hi))
theorem set_ext {a b : Nat} (ha : a < 512) (hb : b < 512) (he : ∀ i, i < 9 → a.testBit i = b.testBit i) : a = b := by
  apply Nat.eq_of_testBit_eq
  intro i
  rcases Nat.lt_or_ge i 9 with z | z
  · exact he i z
  · rw [bit_hi ha z, bit_hi hb z]
theorem andn {a b : Nat} (ha : a < 512) (hb : b < 512) : nI a &&& (nI b ^^^ -1) = nI (dfN a b) := by
  apply Int32.toBitVec_inj.mp
  apply BitVec.eq_of_getLsbD_eq
  intro i hi
  have e1 : ∀ n : Nat, (nI n).toBitVec = BitVec.ofNat 32 n := fun n => rfl
  have e2 : ((-1 : Int32)).toBitVec = BitVec.allOnes 32 := by decide
  rw [show (nI a &&& (nI b ^^^ -1)).toBitVec = BitVec.ofNat 32 a &&& (BitVec.ofNat 32 b ^^^ BitVec.allOnes 32) from by show BitVec.ofNat 32 a &&& (BitVec.ofNat 32 b ^^^ ((-1 : Int32)).toBitVec) = _; rw [e2]]
  rw [e1, BitVec.getLsbD_and, BitVec.getLsbD_xor, BitVec.getLsbD_ofNat, BitVec.getLsbD_ofNat, BitVec.getLsbD_ofNat, BitVec.getLsbD_allOnes]
  rw [decide_eq_true hi, Bool.true_and, Bool.true_and, Bool.true_and]
  rcases Nat.lt_or_ge i 9 with z | z
  · rw [dfN_bit z]; cases a.testBit i <;> cases b.testBit i <;> rfl
  · rw [bit_hi ha z, bit_hi (dfN_lt ha) z, Bool.false_and]
def subN (a b : Nat) : Prop := ∀ i, i < 9 → a.testBit i = true → b.testBit i = true
theorem dfN_0 {a b : Nat} (ha : a < 512) : dfN a b = 0 ↔ subN a b := by
  constructor
  · intro z i hi hb
    have h1 := dfN_bit (a := a) (b := b) hi
    rw [z, Nat.zero_testBit, hb] at h1
    cases hc : b.testBit i with
    | true => rfl
    | false => rw [hc] at h1; cases h1
  · intro hs
    apply set_ext (dfN_lt ha) (by decide)
    intro i hi
    rw [dfN_bit hi, Nat.zero_testBit]
    cases hc : a.testBit i with
    | false => rfl
    | true => rw [hs i hi hc]; rfl
theorem pc_df {a b : Nat} (hs : subN b a) : ∀ k, k ≤ 9 → pcN (dfN a b) k + pcN b k = pcN a k
  | 0, _ => rfl
  | k + 1, hk => by
    have ih := pc_df hs k (by omega)
    rw [pcN, pcN, pcN, dfN_bit (by omega)]
    have h1 := hs k (by omega)
    cases ha : a.testBit k <;> cases hb : b.testBit k
    · simp; omega
    · exact absurd (h1 hb) (by rw [ha]; decide)
    · simp; omega
    · simp; omega
set_option maxRecDepth 100000 in
theorem sb9 : ∀ y, y < 512 → ∀ l, l < 9 → y.testBit l = true → ∀ i, i < 9 → (y - 2 ^ l).testBit i = (y.testBit i && !decide (i = l)) := by decide +kernel
set_option maxRecDepth 100000 in
theorem pc_sb : ∀ y, y < 512 → ∀ l, l < 9 → y.testBit l = true → pcN (y - 2 ^ l) 9 + 1 = pcN y 9 := by decide +kernel
theorem bcF_df {a b : Nat} (ha : a < 512) (hb : b < 512) : bcF (nI a &&& (nI b ^^^ -1)) = nI (pcN (dfN a b) 9) := by
  rw [andn ha hb, bcF_pc _ (dfN_lt ha)]
theorem nI_z {a : Nat} (ha : a < 2 ^ 31) : nI a = 0 ↔ a = 0 := ⟨fun z => by
  rcases Nat.eq_zero_or_pos a with q | q
  · exact q
  · exact absurd z (nI_ne0 q ha), fun z => by rw [z]; rfl⟩
theorem maxL_eq (a b : Int64) : maxL a b = if a < b then b else a := by
  unfold maxL
  by_cases h1 : b < a
  · rw [if_pos h1, if_neg (fun z => absurd (Int64.lt_trans h1 z) Int64.lt_irrefl)]
  · rw [if_neg h1]
    by_cases h2 : a < b
    · rw [if_pos h2]
    · rw [if_neg h2]; exact Int64.le_antisymm_iff.mpr ⟨Int64.not_lt.mp h2, Int64.not_lt.mp h1⟩
end SETS
section FORT
variable {E : En} {h : Hp} {x : Nat}
theorem wRowJ_wRowJ {a : Nat} {f g : Nat → Int64} : wRowJ (wRowJ h a f) a g = wRowJ h a g := by
  unfold wRowJ
  show (h.1, h.2.1, va_up (va_up h.2.2.1 a f) a g, h.2.2.2) = _
  rw [va_up_up]
theorem c2_mostByNext (hc : CS E h x) {y : Nat} (hy : y < 512) : Ct E 1 0 0 mX2_mostByNext [.ref (x + 90), .int (nI y)] h (po (some (.long (mostN (hJ h (x + 91)) y 9))) h) := by
  refine Ct.of (by decide +kernel) (Nat.le_of_ble_eq_true rfl) ?_
  refine r_lconst (pc := 0) (0) dX2_mostByNext_0 rfl ?_
  refine r_lstore_n (pc := 1) (lv' := [(0, _), (1, _), (2, _)]) dX2_mostByNext_1 (Nat.le_of_ble_eq_true rfl) rfl ?_
  refine r_iconst (pc := 2) (0) dX2_mostByNext_2 rfl ?_
  refine r_istore (pc := 3) (lv' := [(0, _), (1, _), (2, _), (4, _)]) dX2_mostByNext_3 (Nat.le_of_ble_eq_true rfl) rfl ?_
  have loop : ∀ k, k ≤ 9 → Wp E mX2_mostByNext (Rm 1 0 0) (Qm E (po (some (.long (mostN (hJ h (x + 91)) y 9))) h) 0 0) 5 [(0, .ref (x + 90)), (1, .int (nI y)), (2, .long (mostN (hJ h (x + 91)) y k)), (4, .int (nI k))] [] h 0 0 := by
    refine upTo (fun k hk ih => ?_) ?_
    · refine r_iload (pc := 5) 3 dX2_mostByNext_5 rfl ?_
      refine r_bipush (pc := 7) (9) dX2_mostByNext_7 rfl ?_
      refine r_icmp_ge (pc := 9) (tgt := 51) dX2_mostByNext_9 (by decide) (fun c_9 => ?_) (fun c_9 => ?_)
      · exact absurd c_9 (nI_ge (b := 9) hk (by decide))
      · refine r_iload_n (pc := 12) 1 dX2_mostByNext_12 rfl ?_
        refine r_iload (pc := 13) 3 dX2_mostByNext_13 rfl ?_
        refine r_dN (pc := 15) (As := [_, _]) ms_X11_hasBit mk_X2_46 (ct_hasBit _ _) rfl rfl (Nat.le_of_ble_eq_true rfl) (Nat.le_of_ble_eq_true rfl) (Nat.le_of_ble_eq_true rfl) (Nat.le_of_ble_eq_true rfl) (Nat.le_of_ble_eq_true rfl) dX2_mostByNext_15 ?_
        refine r_if_eq (pc := 18) (tgt := 45) dX2_mostByNext_18 (by decide) (fun c_18 => ?_) (fun c_18 => ?_)
        · rw [isB9 y hy k hk] at c_18
          have e9 : mostN (hJ h (x + 91)) y (k + 1) = mostN (hJ h (x + 91)) y k := by rw [mostN, if_neg (by rw [bI_0.mp c_18]; decide)]
          rw [e9] at ih
          refine r_iinc (pc := 45) (v := _ + (1)) (lv' := [(0, _), (1, _), (2, _), (4, _)]) 3 dX2_mostByNext_45 rfl rfl (Nat.le_of_ble_eq_true rfl) rfl ?_
          refine r_goto (pc := 48) (tgt := 5) dX2_mostByNext_48 (by decide) ?_
          rw [nI_1]; exact ih
        · rw [isB9 y hy k hk] at c_18
          have hb := bI_n0.mp c_18
          have hle : y - 2 ^ k ≤ y := Nat.sub_le _ _
          have e9 : mostN (hJ h (x + 91)) y (k + 1) = maxL (mostN (hJ h (x + 91)) y k) (hJ h (x + 91) ((y - 2 ^ k) * 9 + k)) := by rw [mostN, if_pos hb, maxL_eq, Nat.mul_comm (y - 2 ^ k) 9]
          rw [e9] at ih
          refine r_lload_n (pc := 21) 2 dX2_mostByNext_21 rfl ?_
          refine r_aload_n (pc := 22) 0 dX2_mostByNext_22 rfl ?_
          refine r_getR (pc := 23) fl_X2_15 (ca_90 hc) (cf_90_1 hc) dX2_mostByNext_23 ?_
          refine r_iload_n (pc := 26) 1 dX2_mostByNext_26 rfl ?_
          refine r_iconst (pc := 27) (1) dX2_mostByNext_27 rfl ?_
          refine r_iload (pc := 28) 3 dX2_mostByNext_28 rfl ?_
          refine r_ishl (pc := 30) dX2_mostByNext_30 ?_
          refine r_iconst (pc := 31) (-1) dX2_mostByNext_31 rfl ?_
          refine r_ixor (pc := 32) dX2_mostByNext_32 ?_
          refine r_iand (pc := 33) dX2_mostByNext_33 ?_
          refine r_bipush (pc := 34) (9) dX2_mostByNext_34 rfl ?_
          refine r_imul (pc := 36) dX2_mostByNext_36 ?_
          refine r_iload (pc := 37) 3 dX2_mostByNext_37 rfl ?_
          refine r_iadd (pc := 39) dX2_mostByNext_39 ?_
          refine r_lald (pc := 40) (j := (y - 2 ^ k) * 9 + k) (cr_91 hc) (by rw [and9 y hy k hk, if_pos hb]; simp only [fa_lit, nI_add, nI_mul]) (by omega) (by decide) dX2_mostByNext_40 ?_
          refine r_maxL (pc := 41) ml_X2_93 (Nat.le_of_ble_eq_true rfl) (Nat.le_of_ble_eq_true rfl) (Nat.le_of_ble_eq_true rfl) (Nat.le_of_ble_eq_true rfl) (Nat.le_of_ble_eq_true rfl) dX2_mostByNext_41 ?_
          refine r_lstore_n (pc := 44) (lv' := [(0, _), (1, _), (2, _), (4, _)]) dX2_mostByNext_44 (Nat.le_of_ble_eq_true rfl) rfl ?_
          refine r_iinc (pc := 45) (v := _ + (1)) (lv' := [(0, _), (1, _), (2, _), (4, _)]) 3 dX2_mostByNext_45 rfl rfl (Nat.le_of_ble_eq_true rfl) rfl ?_
          refine r_goto (pc := 48) (tgt := 5) dX2_mostByNext_48 (by decide) ?_
          rw [nI_1]; exact ih
    · refine r_iload (pc := 5) 3 dX2_mostByNext_5 rfl ?_
      refine r_bipush (pc := 7) (9) dX2_mostByNext_7 rfl ?_
      refine r_icmp_ge (pc := 9) (tgt := 51) dX2_mostByNext_9 (by decide) (fun c_9 => ?_) (fun c_9 => ?_)
      · refine r_lload_n (pc := 51) 2 dX2_mostByNext_51 rfl ?_
        refine r_lret (pc := 52) rfl ?_ (Nat.le_of_ble_eq_true rfl) (Nat.le_of_ble_eq_true rfl) dX2_mostByNext_52
        exact ⟨rfl, rfl⟩
      · exact absurd (show (9 : Int32) ≤ nI 9 by decide) c_9
  exact loop 0 (by omega)
/-- a year more for some lives that it is at, with the lives y yet -/
def adF (e d : Nat → Int32) (f : Nat → Int64) (y lv : Nat) (w : Int64) (k : Nat) : Nat → Int64 := fun j => if j / 9 = y ∧ j % 9 < k ∧ lv.testBit (j % 9) = true then (e (9 * (j % 9) + (8 - pcN y 9))).toInt64 * 1000000 + f j * (10 - d (9 * (j % 9) + (8 - pcN y 9))).toInt64 / 10 + w * (d (9 * (j % 9) + (8 - pcN y 9))).toInt64 / 10 else f j
theorem adF_0 (e d : Nat → Int32) (f : Nat → Int64) (y lv : Nat) (w : Int64) : adF e d f y lv w 0 = f := by funext j; unfold adF; rw [if_neg (by omega)]
theorem c2_addYearAt (hc : CS E h x) {y lv : Nat} (hy : y < 511) (hlv : lv < 512) (w : Int64) : Ct E 1 0 0 mX2_addYearAt [.ref (x + 90), .int (nI y), .int (nI lv), .long w] h (po none (wRowJ h (x + 91) (adF (hI h (x + 92)) (hI h (x + 93)) (hJ h (x + 91)) y lv w 9))) := by
  have hp8 := pc_le8 y hy
  refine Ct.of (by decide +kernel) (Nat.le_of_ble_eq_true rfl) ?_
  refine r_bipush (pc := 0) (8) dX2_addYearAt_0 rfl ?_
  refine r_iload_n (pc := 2) 1 dX2_addYearAt_2 rfl ?_
  refine r_dS (pc := 3) (As := [_]) ms_J6_bitCount_0f7a4 ml_X2_80 (ct_bitCount _) rfl rfl (Nat.le_of_ble_eq_true rfl) (Nat.le_of_ble_eq_true rfl) (Nat.le_of_ble_eq_true rfl) (Nat.le_of_ble_eq_true rfl) (Nat.le_of_ble_eq_true rfl) dX2_addYearAt_3 ?_
  refine r_isub (pc := 6) dX2_addYearAt_6 ?_
  rw [bcF_pc y (by omega), show (8 : Int32) - nI (pcN y 9) = nI (8 - pcN y 9) from nI_sub (a := 8) hp8]
  refine r_istore (pc := 7) (lv' := [(0, _), (1, _), (2, _), (3, _), (5, _)]) dX2_addYearAt_7 (Nat.le_of_ble_eq_true rfl) rfl ?_
  refine r_iconst (pc := 9) (0) dX2_addYearAt_9 rfl ?_
  refine r_istore (pc := 10) (lv' := [(0, _), (1, _), (2, _), (3, _), (5, _), (6, _)]) dX2_addYearAt_10 (Nat.le_of_ble_eq_true rfl) rfl ?_
  generalize hs : 8 - pcN y 9 = sp
  have hsp : sp < 9 := by omega
  generalize hF : adF (hI h (x + 92)) (hI h (x + 93)) (hJ h (x + 91)) y lv w = F
  have loop : ∀ k, k ≤ 9 → Wp E mX2_addYearAt (Rm 1 0 0) (Qm E (po none (wRowJ h (x + 91) (F 9))) 0 0) 12 [(0, .ref (x + 90)), (1, .int (nI y)), (2, .int (nI lv)), (3, .long w), (5, .int (nI sp)), (6, .int (nI k))] [] (wRowJ h (x + 91) (F k)) 0 0 := by
    refine upTo (fun k hk ih => ?_) ?_
    · have hc1 : CS E (wRowJ h (x + 91) (F k)) x := hc
      refine r_iload (pc := 12) 5 dX2_addYearAt_12 rfl ?_
      refine r_bipush (pc := 14) (9) dX2_addYearAt_14 rfl ?_
      refine r_icmp_ge (pc := 16) (tgt := 121) dX2_addYearAt_16 (by decide) (fun c_16 => ?_) (fun c_16 => ?_)
      · exact absurd c_16 (nI_ge (b := 9) hk (by decide))
      · refine r_iload (pc := 19) 4 dX2_addYearAt_19 rfl ?_
        refine r_if_lt (pc := 21) (tgt := 121) dX2_addYearAt_21 (by decide) (fun c_21 => ?_) (fun c_21 => ?_)
        · exact absurd c_21 (nI_pos (by omega))
        · refine r_iload_n (pc := 24) 2 dX2_addYearAt_24 rfl ?_
          refine r_iload (pc := 25) 5 dX2_addYearAt_25 rfl ?_
          refine r_dN (pc := 27) (As := [_, _]) ms_X11_hasBit mk_X2_46 (ct_hasBit _ _) rfl rfl (Nat.le_of_ble_eq_true rfl) (Nat.le_of_ble_eq_true rfl) (Nat.le_of_ble_eq_true rfl) (Nat.le_of_ble_eq_true rfl) (Nat.le_of_ble_eq_true rfl) dX2_addYearAt_27 ?_
          refine r_if_eq (pc := 30) (tgt := 115) dX2_addYearAt_30 (by decide) (fun c_30 => ?_) (fun c_30 => ?_)
          · rw [isB9 lv hlv k hk] at c_30
            have e9 : F (k + 1) = F k := by
              rw [← hF]; funext j; unfold adF
              by_cases hj : j / 9 = y ∧ j % 9 < k ∧ lv.testBit (j % 9) = true
              · rw [if_pos hj, if_pos ⟨hj.1, by omega, hj.2.2⟩]
              · rw [if_neg hj, if_neg (fun z => hj ⟨z.1, by
                  rcases Nat.lt_or_ge (j % 9) k with q | q
                  · exact q
                  · have : j % 9 = k := by omega
                    rw [this, bI_0.mp c_30] at z; exact absurd z.2.2 (by decide), z.2.2⟩)]
            rw [e9] at ih
            refine r_iinc (pc := 115) (v := _ + (1)) (lv' := [(0, _), (1, _), (2, _), (3, _), (5, _), (6, _)]) 5 dX2_addYearAt_115 rfl rfl (Nat.le_of_ble_eq_true rfl) rfl ?_
            refine r_goto (pc := 118) (tgt := 12) dX2_addYearAt_118 (by decide) ?_
            rw [nI_1]; exact ih
          · rw [isB9 lv hlv k hk] at c_30
            have hb := bI_n0.mp c_30
            have ej : hJ (wRowJ h (x + 91) (F k)) (x + 91) (y * 9 + k) = hJ h (x + 91) (y * 9 + k) := by
              rw [wRowJ_at, ← hF]; unfold adF; rw [if_neg (by omega)]
            have e9 : F (k + 1) = va_up (F k) (y * 9 + k) ((hI h (x + 92) (k * 9 + sp)).toInt64 * 1000000 + hJ h (x + 91) (y * 9 + k) * (10 - hI h (x + 93) (k * 9 + sp)).toInt64 / 10 + w * (hI h (x + 93) (k * 9 + sp)).toInt64 / 10) := by
              rw [← hF]; funext j
              by_cases hj : j = y * 9 + k
              · subst hj
                rw [va_up_self]
                unfold adF
                have q1 : (y * 9 + k) / 9 = y := by omega
                have q2 : (y * 9 + k) % 9 = k := by omega
                rw [q1, q2, if_pos ⟨rfl, by omega, hb⟩, hs, Nat.mul_comm 9 k]
              · rw [va_up_ne _ _ hj]
                unfold adF
                by_cases hj2 : j / 9 = y ∧ j % 9 < k ∧ lv.testBit (j % 9) = true
                · rw [if_pos hj2, if_pos ⟨hj2.1, by omega, hj2.2.2⟩]
                · rw [if_neg hj2, if_neg (fun z => hj2 ⟨z.1, by omega, z.2.2⟩)]
            refine r_iload_n (pc := 33) 1 dX2_addYearAt_33 rfl ?_
            refine r_bipush (pc := 34) (9) dX2_addYearAt_34 rfl ?_
            refine r_imul (pc := 36) dX2_addYearAt_36 ?_
            refine r_iload (pc := 37) 5 dX2_addYearAt_37 rfl ?_
            refine r_iadd (pc := 39) dX2_addYearAt_39 ?_
            rw [show (9 : Int32) = nI 9 from rfl, nI_mul, nI_add]
            refine r_istore (pc := 40) (lv' := [(0, _), (1, _), (2, _), (3, _), (5, _), (6, _), (7, _)]) dX2_addYearAt_40 (Nat.le_of_ble_eq_true rfl) rfl ?_
            refine r_aload_n (pc := 42) 0 dX2_addYearAt_42 rfl ?_
            refine r_getR (pc := 43) fl_X2_23 (ca_90 hc1) (cf_90_3 hc1) dX2_addYearAt_43 ?_
            refine r_iload (pc := 46) 5 dX2_addYearAt_46 rfl ?_
            refine r_bipush (pc := 48) (9) dX2_addYearAt_48 rfl ?_
            refine r_imul (pc := 50) dX2_addYearAt_50 ?_
            refine r_iload (pc := 51) 4 dX2_addYearAt_51 rfl ?_
            refine r_iadd (pc := 53) dX2_addYearAt_53 ?_
            refine r_iald (pc := 54) (j := k * 9 + sp) (cr_93 hc1) (by simp only [fa_lit, nI_add, nI_mul]) (by omega) (by decide) dX2_addYearAt_54 ?_
            refine r_istore (pc := 55) (lv' := [(0, _), (1, _), (2, _), (3, _), (5, _), (6, _), (7, _), (8, _)]) dX2_addYearAt_55 (Nat.le_of_ble_eq_true rfl) rfl ?_
            refine r_aload_n (pc := 57) 0 dX2_addYearAt_57 rfl ?_
            refine r_getR (pc := 58) fl_X2_19 (ca_90 hc1) (cf_90_2 hc1) dX2_addYearAt_58 ?_
            refine r_iload (pc := 61) 5 dX2_addYearAt_61 rfl ?_
            refine r_bipush (pc := 63) (9) dX2_addYearAt_63 rfl ?_
            refine r_imul (pc := 65) dX2_addYearAt_65 ?_
            refine r_iload (pc := 66) 4 dX2_addYearAt_66 rfl ?_
            refine r_iadd (pc := 68) dX2_addYearAt_68 ?_
            refine r_iald (pc := 69) (j := k * 9 + sp) (cr_92 hc1) (by simp only [fa_lit, nI_add, nI_mul]) (by omega) (by decide) dX2_addYearAt_69 ?_
            refine r_i2l (pc := 70) dX2_addYearAt_70 ?_
            refine r_ldc2_w (pc := 71) cs_X2_99 dX2_addYearAt_71 ?_
            refine r_lmul (pc := 74) dX2_addYearAt_74 ?_
            refine r_lstore (pc := 75) (lv' := [(0, _), (1, _), (2, _), (3, _), (5, _), (6, _), (7, _), (8, _), (9, _)]) dX2_addYearAt_75 (Nat.le_of_ble_eq_true rfl) rfl ?_
            refine r_aload_n (pc := 77) 0 dX2_addYearAt_77 rfl ?_
            refine r_getR (pc := 78) fl_X2_15 (ca_90 hc1) (cf_90_1 hc1) dX2_addYearAt_78 ?_
            refine r_iload (pc := 81) 6 dX2_addYearAt_81 rfl ?_
            refine r_lload (pc := 83) 8 dX2_addYearAt_83 rfl ?_
            refine r_aload_n (pc := 85) 0 dX2_addYearAt_85 rfl ?_
            refine r_getR (pc := 86) fl_X2_15 (ca_90 hc1) (cf_90_1 hc1) dX2_addYearAt_86 ?_
            refine r_iload (pc := 89) 6 dX2_addYearAt_89 rfl ?_
            refine r_lald (pc := 91) (j := y * 9 + k) (cr_91 hc1) rfl (by omega) (by decide) dX2_addYearAt_91 ?_
            rw [ej]
            refine r_bipush (pc := 92) (10) dX2_addYearAt_92 rfl ?_
            refine r_iload (pc := 94) 7 dX2_addYearAt_94 rfl ?_
            refine r_isub (pc := 96) dX2_addYearAt_96 ?_
            refine r_i2l (pc := 97) dX2_addYearAt_97 ?_
            refine r_lmul (pc := 98) dX2_addYearAt_98 ?_
            refine r_ldc2_w (pc := 99) cs_X2_101 dX2_addYearAt_99 ?_
            refine r_ldiv (pc := 102) dX2_addYearAt_102 (by decide) ?_
            refine r_ladd (pc := 103) dX2_addYearAt_103 ?_
            refine r_lload_n (pc := 104) 3 dX2_addYearAt_104 rfl ?_
            refine r_iload (pc := 105) 7 dX2_addYearAt_105 rfl ?_
            refine r_i2l (pc := 107) dX2_addYearAt_107 ?_
            refine r_lmul (pc := 108) dX2_addYearAt_108 ?_
            refine r_ldc2_w (pc := 109) cs_X2_101 dX2_addYearAt_109 ?_
            refine r_ldiv (pc := 112) dX2_addYearAt_112 (by decide) ?_
            refine r_ladd (pc := 113) dX2_addYearAt_113 ?_
            refine r_last (pc := 114) (j := y * 9 + k) (cr_91 hc1) rfl (by omega) (by decide) dX2_addYearAt_114 ?_
            refine r_iinc (pc := 115) (v := _ + (1)) (lv' := [(0, _), (1, _), (2, _), (3, _), (5, _), (6, _), (7, _), (8, _), (9, _)]) 5 dX2_addYearAt_115 rfl rfl (Nat.le_of_ble_eq_true rfl) rfl ?_
            refine r_goto (pc := 118) (tgt := 12) dX2_addYearAt_118 (by decide) ?_
            refine r_sub [0, 1, 2, 3, 4, 5] rfl ?_
            rw [nI_1, wRowJ_w]
            rw [e9] at ih
            exact ih
    · refine r_iload (pc := 12) 5 dX2_addYearAt_12 rfl ?_
      refine r_bipush (pc := 14) (9) dX2_addYearAt_14 rfl ?_
      refine r_icmp_ge (pc := 16) (tgt := 121) dX2_addYearAt_16 (by decide) (fun c_16 => ?_) (fun c_16 => ?_)
      · refine r_vret (pc := 121) rfl ?_ (Nat.le_of_ble_eq_true rfl) (Nat.le_of_ble_eq_true rfl) dX2_addYearAt_121
        exact ⟨rfl, rfl⟩
      · exact absurd (show (9 : Int32) ≤ nI 9 by decide) c_16
  have h0 := loop 0 (by omega)
  rw [← hF, adF_0, wRowJ_self] at h0
  rw [hF] at h0
  exact h0
def ayF (e d : Nat → Int32) (f : Nat → Int64) (yn ln dt k : Nat) : Nat → Int64 := fun j => if k ≤ j / 9 ∧ j / 9 ≤ yn ∧ (dfN (j / 9) yn = 0 ∧ pcN (dfN yn (j / 9)) 9 ≤ dt) ∧ (if j / 9 = yn then 2 ^ ln else dfN yn (j / 9)).testBit (j % 9) = true then hadF e d f j else f j
theorem ayF_top (e d : Nat → Int32) (f : Nat → Int64) (yn ln dt : Nat) : ayF e d f yn ln dt (yn + 1) = f := by funext j; unfold ayF; rw [if_neg (by omega)]
theorem mostN_lo {f g : Nat → Int64} {y : Nat} (hfg : ∀ i, i / 9 < y → f i = g i) : ∀ k, k ≤ 9 → mostN f y k = mostN g y k
  | 0, _ => rfl
  | k + 1, hk => by
    rw [mostN, mostN, mostN_lo hfg k (by omega)]
    by_cases hb : y.testBit k = true
    · have h2 := bit_le hb
      have hp : 1 ≤ 2 ^ k := Nat.one_le_two_pow
      rw [hfg (9 * (y - 2 ^ k) + k) (by omega)]
    · rw [if_neg hb, if_neg hb]
theorem c2_addYear (hc : CS E h x) {yn ln dt : Nat} (hyn : yn < 511) (hln : ln < 9) (hdt : dt < 2 ^ 31) : Ct E 2 0 0 mX2_addYear [.ref (x + 90), .int (nI yn), .int (nI ln), .int (nI dt)] h (po none (wRowJ h (x + 91) (ayF (hI h (x + 92)) (hI h (x + 93)) (hJ h (x + 91)) yn ln dt 0))) := by
  refine Ct.of (by decide +kernel) (Nat.le_of_ble_eq_true rfl) ?_
  generalize hF : ayF (hI h (x + 92)) (hI h (x + 93)) (hJ h (x + 91)) yn ln dt = F
  have loop : ∀ k, k ≤ yn + 1 → Wp E mX2_addYear (Rm 2 0 0) (Qm E (po none (wRowJ h (x + 91) (F 0))) 0 0) 3 [(0, .ref (x + 90)), (1, .int (nI yn)), (2, .int (nI ln)), (3, .int (nI dt)), (4, .int (nI k - 1))] [] (wRowJ h (x + 91) (F k)) 0 0 := by
    intro k
    induction k with
    | zero =>
      intro _
      refine r_iload (pc := 3) 4 dX2_addYear_3 rfl ?_
      refine r_if_lt (pc := 5) (tgt := 74) dX2_addYear_5 (by decide) (fun c_5 => ?_) (fun c_5 => ?_)
      · refine r_vret (pc := 74) rfl ?_ (Nat.le_of_ble_eq_true rfl) (Nat.le_of_ble_eq_true rfl) dX2_addYear_74
        exact ⟨rfl, rfl⟩
      · exact absurd (by decide) c_5
    | succ k IH =>
      intro hk
      have ih := IH (by omega)
      rw [show nI (k + 1) - 1 = nI k from nI_sub (a := k + 1) (b := 1) (by omega)]
      have hc1 : CS E (wRowJ h (x + 91) (F (k + 1))) x := hc
      have no : ¬ (dfN k yn = 0 ∧ pcN (dfN yn k) 9 ≤ dt) → Wp E mX2_addYear (Rm 2 0 0) (Qm E (po none (wRowJ h (x + 91) (F 0))) 0 0) 68 [(0, .ref (x + 90)), (1, .int (nI yn)), (2, .int (nI ln)), (3, .int (nI dt)), (4, .int (nI k))] [] (wRowJ h (x + 91) (F (k + 1))) 0 0 := by
        intro hno
        have e9 : F (k + 1) = F k := by
          rw [← hF]; funext j; unfold ayF
          by_cases hj : k = j / 9
          · rw [if_neg (by omega), if_neg (fun z => hno (by rw [hj]; exact z.2.2.1))]
          · by_cases hj2 : k + 1 ≤ j / 9 ∧ j / 9 ≤ yn ∧ (dfN (j / 9) yn = 0 ∧ pcN (dfN yn (j / 9)) 9 ≤ dt) ∧ (if j / 9 = yn then 2 ^ ln else dfN yn (j / 9)).testBit (j % 9) = true
            · rw [if_pos hj2, if_pos ⟨by omega, hj2.2⟩]
            · rw [if_neg hj2, if_neg (fun z => hj2 ⟨by omega, z.2⟩)]
        rw [e9]
        refine r_iinc (pc := 68) (v := _ + (-1)) (lv' := [(0, _), (1, _), (2, _), (3, _), (4, _)]) 4 dX2_addYear_68 rfl rfl (Nat.le_of_ble_eq_true rfl) rfl ?_
        refine r_goto (pc := 71) (tgt := 3) dX2_addYear_71 (by decide) ?_
        rw [isub_m1]
        exact ih
      refine r_iload (pc := 3) 4 dX2_addYear_3 rfl ?_
      refine r_if_lt (pc := 5) (tgt := 74) dX2_addYear_5 (by decide) (fun c_5 => ?_) (fun c_5 => ?_)
      · exact absurd c_5 (nI_pos (by omega))
      · refine r_iload (pc := 8) 4 dX2_addYear_8 rfl ?_
        refine r_iload_n (pc := 10) 1 dX2_addYear_10 rfl ?_
        refine r_iconst (pc := 11) (-1) dX2_addYear_11 rfl ?_
        refine r_ixor (pc := 12) dX2_addYear_12 ?_
        refine r_iand (pc := 13) dX2_addYear_13 ?_
        refine r_if_ne (pc := 14) (tgt := 68) dX2_addYear_14 (by decide) (fun c_14 => ?_) (fun c_14 => ?_)
        · rw [andn (by omega) (by omega)] at c_14
          exact no (fun z => c_14 (by rw [z.1]; rfl))
        · rw [andn (by omega) (by omega)] at c_14
          have hd0 : dfN k yn = 0 := (nI_z (by have := dfN_lt (a := k) (b := yn) (by omega); omega)).mp c_14
          refine r_iload_n (pc := 17) 1 dX2_addYear_17 rfl ?_
          refine r_iload (pc := 18) 4 dX2_addYear_18 rfl ?_
          refine r_iconst (pc := 20) (-1) dX2_addYear_20 rfl ?_
          refine r_ixor (pc := 21) dX2_addYear_21 ?_
          refine r_iand (pc := 22) dX2_addYear_22 ?_
          refine r_dS (pc := 23) (As := [_]) ms_J6_bitCount_0f7a4 ml_X2_80 (ct_bitCount _) rfl rfl (Nat.le_of_ble_eq_true rfl) (Nat.le_of_ble_eq_true rfl) (Nat.le_of_ble_eq_true rfl) (Nat.le_of_ble_eq_true rfl) (Nat.le_of_ble_eq_true rfl) dX2_addYear_23 ?_
          refine r_iload_n (pc := 26) 3 dX2_addYear_26 rfl ?_
          refine r_icmp_gt (pc := 27) (tgt := 68) dX2_addYear_27 (by decide) (fun c_27 => ?_) (fun c_27 => ?_)
          · rw [bcF_df (by omega) (by omega)] at c_27
            exact no (fun z => absurd c_27 (nI_nlt z.2 hdt))
          · rw [bcF_df (by omega) (by omega)] at c_27
            have hp9 : pcN (dfN yn k) 9 ≤ 9 := pc_le9 _ (dfN_lt (by omega))
            have hdt2 : pcN (dfN yn k) 9 ≤ dt := by
              rcases Nat.lt_or_ge dt (pcN (dfN yn k) 9) with z | z
              · exact absurd (nI_lt z (by omega)) c_27
              · exact z
            have em : mostN (hJ (wRowJ h (x + 91) (F (k + 1))) (x + 91)) k 9 = mostN (hJ h (x + 91)) k 9 := by
              rw [wRowJ_at]
              refine mostN_lo (fun i hi => ?_) 9 (Nat.le_refl _)
              rw [← hF]; unfold ayF; rw [if_neg (by omega)]
            have hlt : (if k = yn then 2 ^ ln else dfN yn k) < 512 := by
              split
              · exact Nat.lt_of_lt_of_le (Nat.pow_lt_pow_right (by decide) hln) (by decide)
              · exact dfN_lt (by omega)
            have e9 : adF (hI h (x + 92)) (hI h (x + 93)) (F (k + 1)) k (if k = yn then 2 ^ ln else dfN yn k) (mostN (hJ h (x + 91)) k 9) 9 = F k := by
              rw [← hF]; funext j; unfold adF
              by_cases hj : j / 9 = k
              · by_cases hb : (if k = yn then 2 ^ ln else dfN yn k).testBit (j % 9) = true
                · rw [if_pos ⟨hj, by omega, hb⟩]
                  unfold ayF
                  rw [hj, if_neg (by omega), if_pos ⟨Nat.le_refl _, by omega, ⟨hd0, hdt2⟩, hb⟩]
                  unfold hadF
                  rw [hj]
                · rw [if_neg (fun z => hb z.2.2)]
                  unfold ayF
                  rw [hj, if_neg (by omega), if_neg (fun z => hb z.2.2.2)]
              · rw [if_neg (fun z => hj z.1)]
                unfold ayF
                by_cases hj2 : k + 1 ≤ j / 9 ∧ j / 9 ≤ yn ∧ (dfN (j / 9) yn = 0 ∧ pcN (dfN yn (j / 9)) 9 ≤ dt) ∧ (if j / 9 = yn then 2 ^ ln else dfN yn (j / 9)).testBit (j % 9) = true
                · rw [if_pos hj2, if_pos ⟨by omega, hj2.2⟩]
                · rw [if_neg hj2, if_neg (fun z => hj2 ⟨by omega, z.2⟩)]
            have fin : ∀ LV : Int32, LV = nI (if k = yn then 2 ^ ln else dfN yn k) → Wp E mX2_addYear (Rm 2 0 0) (Qm E (po none (wRowJ h (x + 91) (F 0))) 0 0) 56 [(0, .ref (x + 90)), (1, .int (nI yn)), (2, .int (nI ln)), (3, .int (nI dt)), (4, .int (nI k)), (5, .long (mostN (hJ h (x + 91)) k 9))] [.int LV] (wRowJ h (x + 91) (F (k + 1))) 0 0 := by
              rintro LV rfl
              have hct := c2_addYearAt (h := wRowJ h (x + 91) (F (k + 1))) hc1 (y := k) (by omega) hlt (mostN (hJ h (x + 91)) k 9)
              rw [wRowJ_at] at hct
              rw [show adF (hI (wRowJ h (x + 91) (F (k + 1))) (x + 92)) (hI (wRowJ h (x + 91) (F (k + 1))) (x + 93)) (F (k + 1)) k (if k = yn then 2 ^ ln else dfN yn k) (mostN (hJ h (x + 91)) k 9) 9 = F k from e9] at hct
              rw [wRowJ_wRowJ] at hct
              refine r_istore (pc := 56) (lv' := [(0, _), (1, _), (2, _), (3, _), (4, _), (5, _), (7, _)]) dX2_addYear_56 (Nat.le_of_ble_eq_true rfl) rfl ?_
              refine r_aload_n (pc := 58) 0 dX2_addYear_58 rfl ?_
              refine r_iload (pc := 59) 4 dX2_addYear_59 rfl ?_
              refine r_iload (pc := 61) 6 dX2_addYear_61 rfl ?_
              refine r_lload (pc := 63) 5 dX2_addYear_63 rfl ?_
              refine r_dV0 (pc := 65) (As := [_, _, _]) mv_X2_addYearAt ml_X2_89 (hct) (ca_90 hc1) rfl rfl (Nat.le_of_ble_eq_true rfl) (Nat.le_of_ble_eq_true rfl) (Nat.le_of_ble_eq_true rfl) (Nat.le_of_ble_eq_true rfl) (Nat.le_of_ble_eq_true rfl) dX2_addYear_65 ?_
              refine r_iinc (pc := 68) (v := _ + (-1)) (lv' := [(0, _), (1, _), (2, _), (3, _), (4, _), (5, _), (7, _)]) 4 dX2_addYear_68 rfl rfl (Nat.le_of_ble_eq_true rfl) rfl ?_
              refine r_goto (pc := 71) (tgt := 3) dX2_addYear_71 (by decide) ?_
              refine r_sub [0, 1, 2, 3, 4] rfl ?_
              rw [isub_m1]
              exact ih
            refine r_aload_n (pc := 30) 0 dX2_addYear_30 rfl ?_
            refine r_iload (pc := 31) 4 dX2_addYear_31 rfl ?_
            refine r_dV (pc := 33) (As := [_]) mv_X2_mostByNext ml_X2_85 (c2_mostByNext hc1 (by omega)) (ca_90 hc1) rfl rfl (Nat.le_of_ble_eq_true rfl) (Nat.le_of_ble_eq_true rfl) (Nat.le_of_ble_eq_true rfl) (Nat.le_of_ble_eq_true rfl) (Nat.le_of_ble_eq_true rfl) dX2_addYear_33 ?_
            rw [em]
            refine r_lstore (pc := 36) (lv' := [(0, _), (1, _), (2, _), (3, _), (4, _), (5, _)]) dX2_addYear_36 (Nat.le_of_ble_eq_true rfl) rfl ?_
            refine r_iload (pc := 38) 4 dX2_addYear_38 rfl ?_
            refine r_iload_n (pc := 40) 1 dX2_addYear_40 rfl ?_
            refine r_icmp_ne (pc := 41) (tgt := 50) dX2_addYear_41 (by decide) (fun c_41 => ?_) (fun c_41 => ?_)
            · have hne : ¬ k = yn := fun z => c_41 (by rw [z])
              refine r_iload_n (pc := 50) 1 dX2_addYear_50 rfl ?_
              refine r_iload (pc := 51) 4 dX2_addYear_51 rfl ?_
              refine r_iconst (pc := 53) (-1) dX2_addYear_53 rfl ?_
              refine r_ixor (pc := 54) dX2_addYear_54 ?_
              refine r_iand (pc := 55) dX2_addYear_55 ?_
              exact fin _ (by rw [andn (by omega) (by omega), if_neg hne])
            · have heq : k = yn := nI_inj (by omega) (by omega) c_41
              refine r_iconst (pc := 44) (1) dX2_addYear_44 rfl ?_
              refine r_iload_n (pc := 45) 2 dX2_addYear_45 rfl ?_
              refine r_ishl (pc := 46) dX2_addYear_46 ?_
              refine r_goto (pc := 47) (tgt := 56) dX2_addYear_47 (by decide) ?_
              exact fin _ (by rw [sh9 ln hln, if_pos heq])
  have h0 := loop (yn + 1) (Nat.le_refl _)
  rw [show nI (yn + 1) - 1 = nI yn from nI_sub (a := yn + 1) (b := 1) (by omega)] at h0
  have e0 : F (yn + 1) = hJ h (x + 91) := by rw [← hF]; exact ayF_top _ _ _ _ _ _
  rw [e0, wRowJ_self] at h0
  refine r_iload_n (pc := 0) 1 dX2_addYear_0 rfl ?_
  refine r_istore (pc := 1) (lv' := [(0, _), (1, _), (2, _), (3, _), (4, _)]) dX2_addYear_1 (Nat.le_of_ble_eq_true rfl) rfl ?_
  exact h0
end FORT
