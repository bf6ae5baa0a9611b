/-! the JDK: bitCount, max, min, fill; a life, a bit, the lowest of lives -/
theorem cs_J6_265 : Cond.constant "java/lang/Integer" 265 (1431655765) ∈ gws := gi3 39 (by decide +kernel) (by decide +kernel)
theorem cs_J6_266 : Cond.constant "java/lang/Integer" 266 (858993459) ∈ gws := gi3 40 (by decide +kernel) (by decide +kernel)
theorem cs_J6_267 : Cond.constant "java/lang/Integer" 267 (252645135) ∈ gws := gi3 41 (by decide +kernel) (by decide +kernel)
section JDK
variable {E : En} {h : Hp}
def ush (x y : Int32) : Int32 := (x.toUInt32 >>> (y.toUInt32 &&& Int32.toUInt32 31)).toInt32
def bc1 (x : Int32) : Int32 := x - (ush x 1 &&& 1431655765)
def bc2 (x : Int32) : Int32 := (x &&& 858993459) + (ush x 2 &&& 858993459)
def bc3 (x : Int32) : Int32 := (x + ush x 4) &&& 252645135
def bc4 (x : Int32) : Int32 := x + ush x 8
def bc5 (x : Int32) : Int32 := x + ush x 16
def bcF (x : Int32) : Int32 := bc5 (bc4 (bc3 (bc2 (bc1 x)))) &&& 63
theorem ct_bitCount (x : Int32) : Ct E 0 0 0 mJ6_bitCount_0f7a4 [.int x] h (po (some (.int (bcF x))) h) := by
  refine Ct.of (by decide +kernel) (Nat.le_of_ble_eq_true rfl) ?_
  refine r_iload_n (pc := 0) 0 dJ6_bitCount_0f7a4_0 rfl ?_
  refine r_iload_n (pc := 1) 0 dJ6_bitCount_0f7a4_1 rfl ?_
  refine r_iconst (pc := 2) (1) dJ6_bitCount_0f7a4_2 rfl ?_
  refine r_iushr (pc := 3) dJ6_bitCount_0f7a4_3 ?_
  refine r_ldc_w (pc := 4) cs_J6_265 dJ6_bitCount_0f7a4_4 ?_
  refine r_iand (pc := 7) dJ6_bitCount_0f7a4_7 ?_
  refine r_isub (pc := 8) dJ6_bitCount_0f7a4_8 ?_
  refine r_istore_n (pc := 9) (lv' := [(0, _)]) dJ6_bitCount_0f7a4_9 (Nat.le_of_ble_eq_true rfl) rfl ?_
  refine r_iload_n (pc := 10) 0 dJ6_bitCount_0f7a4_10 rfl ?_
  refine r_ldc_w (pc := 11) cs_J6_266 dJ6_bitCount_0f7a4_11 ?_
  refine r_iand (pc := 14) dJ6_bitCount_0f7a4_14 ?_
  refine r_iload_n (pc := 15) 0 dJ6_bitCount_0f7a4_15 rfl ?_
  refine r_iconst (pc := 16) (2) dJ6_bitCount_0f7a4_16 rfl ?_
  refine r_iushr (pc := 17) dJ6_bitCount_0f7a4_17 ?_
  refine r_ldc_w (pc := 18) cs_J6_266 dJ6_bitCount_0f7a4_18 ?_
  refine r_iand (pc := 21) dJ6_bitCount_0f7a4_21 ?_
  refine r_iadd (pc := 22) dJ6_bitCount_0f7a4_22 ?_
  refine r_istore_n (pc := 23) (lv' := [(0, _)]) dJ6_bitCount_0f7a4_23 (Nat.le_of_ble_eq_true rfl) rfl ?_
  refine r_iload_n (pc := 24) 0 dJ6_bitCount_0f7a4_24 rfl ?_
  refine r_iload_n (pc := 25) 0 dJ6_bitCount_0f7a4_25 rfl ?_
  refine r_iconst (pc := 26) (4) dJ6_bitCount_0f7a4_26 rfl ?_
  refine r_iushr (pc := 27) dJ6_bitCount_0f7a4_27 ?_
  refine r_iadd (pc := 28) dJ6_bitCount_0f7a4_28 ?_
  refine r_ldc_w (pc := 29) cs_J6_267 dJ6_bitCount_0f7a4_29 ?_
  refine r_iand (pc := 32) dJ6_bitCount_0f7a4_32 ?_
  refine r_istore_n (pc := 33) (lv' := [(0, _)]) dJ6_bitCount_0f7a4_33 (Nat.le_of_ble_eq_true rfl) rfl ?_
  refine r_iload_n (pc := 34) 0 dJ6_bitCount_0f7a4_34 rfl ?_
  refine r_iload_n (pc := 35) 0 dJ6_bitCount_0f7a4_35 rfl ?_
  refine r_bipush (pc := 36) (8) dJ6_bitCount_0f7a4_36 rfl ?_
  refine r_iushr (pc := 38) dJ6_bitCount_0f7a4_38 ?_
  refine r_iadd (pc := 39) dJ6_bitCount_0f7a4_39 ?_
  refine r_istore_n (pc := 40) (lv' := [(0, _)]) dJ6_bitCount_0f7a4_40 (Nat.le_of_ble_eq_true rfl) rfl ?_
  refine r_iload_n (pc := 41) 0 dJ6_bitCount_0f7a4_41 rfl ?_
  refine r_iload_n (pc := 42) 0 dJ6_bitCount_0f7a4_42 rfl ?_
  refine r_bipush (pc := 43) (16) dJ6_bitCount_0f7a4_43 rfl ?_
  refine r_iushr (pc := 45) dJ6_bitCount_0f7a4_45 ?_
  refine r_iadd (pc := 46) dJ6_bitCount_0f7a4_46 ?_
  refine r_istore_n (pc := 47) (lv' := [(0, _)]) dJ6_bitCount_0f7a4_47 (Nat.le_of_ble_eq_true rfl) rfl ?_
  refine r_iload_n (pc := 48) 0 dJ6_bitCount_0f7a4_48 rfl ?_
  refine r_bipush (pc := 49) (63) dJ6_bitCount_0f7a4_49 rfl ?_
  refine r_iand (pc := 51) dJ6_bitCount_0f7a4_51 ?_
  refine r_iret (pc := 52) rfl ?_ (Nat.le_of_ble_eq_true rfl) (Nat.le_of_ble_eq_true rfl) dJ6_bitCount_0f7a4_52
  exact ⟨rfl, rfl⟩
theorem bcF_pc : ∀ y, y < 512 → bcF (nI y) = nI (pcN y 9) := by decide +kernel
theorem bcF_ones {y : Nat} (hy : y < 512) : bcF (nI y) = onesN (nI y) 9 := by rw [bcF_pc y hy, onesN_pc hy 9 (Nat.le_refl _)]
theorem w_mi : Cond.initialized "java/lang/Math" ∈ gws := gi1 19 (by decide +kernel) (by decide +kernel)
def maxI (x y : Int32) : Int32 := if x < y then y else x
theorem w_maxI_s : Cond.static Lib.Math.max.name ∈ gws := gi3 82 (by decide +kernel) (by decide +kernel)
theorem w_maxI_c : Cond.code Lib.Math.max.name Lib.Math.max.code 2 (some .int) ∈ gws := gi3 83 (by decide +kernel) (by decide +kernel)
theorem r_maxI {M : Mi} {R : Room} {Q : Qg} {pc : Nat} {lv : List (Nat × Value)} {st : List Value} {cl sl idx : Nat} {x y : Int32} (hlk : Cond.methodLink M.1.cls idx Lib.Math.max.name ∈ gws) (hF : 1 ≤ R.frames) (hW : (st.map fun v => v.category).sum ≤ 8) (hLo : 8 + 13 ≤ R.locals) (hc1 : cl ≤ R.cells) (hs1 : sl ≤ R.slots) (hd : decode M.2.1 pc = .ok (.invokestatic idx, 3)) (kk : Wp E M R Q (pc + 3) lv (.int (maxI x y) :: st) h cl sl) : Wp E M R Q pc lv (.int y :: .int x :: st) h cl sl := fun p e s m ar bl me c C H lo ls hH hS hl => va_mmax C.1 C.2.1 (C.2.2.1.trans hl.1.symm) C.2.2.2.2.2.2.1 (C.2.2.2.2.2.2.2.1 _ hlk) (C.2.2.2.2.2.2.2.1 _ w_maxI_s) (C.2.2.2.2.2.2.2.1 _ w_mi) (C.2.2.2.2.2.2.2.1 _ w_maxI_c) hF (by omega) hc1 hs1 hd (kk p e s m ar bl me c C H lo ls hH hS hl)
def minI (x y : Int32) : Int32 := if y < x then y else x
theorem w_minI_s : Cond.static Lib.Math.min.name ∈ gws := gi3 70 (by decide +kernel) (by decide +kernel)
theorem w_minI_c : Cond.code Lib.Math.min.name Lib.Math.min.code 2 (some .int) ∈ gws := gi3 71 (by decide +kernel) (by decide +kernel)
theorem r_minI {M : Mi} {R : Room} {Q : Qg} {pc : Nat} {lv : List (Nat × Value)} {st : List Value} {cl sl idx : Nat} {x y : Int32} (hlk : Cond.methodLink M.1.cls idx Lib.Math.min.name ∈ gws) (hF : 1 ≤ R.frames) (hW : (st.map fun v => v.category).sum ≤ 8) (hLo : 8 + 13 ≤ R.locals) (hc1 : cl ≤ R.cells) (hs1 : sl ≤ R.slots) (hd : decode M.2.1 pc = .ok (.invokestatic idx, 3)) (kk : Wp E M R Q (pc + 3) lv (.int (minI x y) :: st) h cl sl) : Wp E M R Q pc lv (.int y :: .int x :: st) h cl sl := fun p e s m ar bl me c C H lo ls hH hS hl => va_mmin C.1 C.2.1 (C.2.2.1.trans hl.1.symm) C.2.2.2.2.2.2.1 (C.2.2.2.2.2.2.2.1 _ hlk) (C.2.2.2.2.2.2.2.1 _ w_minI_s) (C.2.2.2.2.2.2.2.1 _ w_mi) (C.2.2.2.2.2.2.2.1 _ w_minI_c) hF (by omega) hc1 hs1 hd (kk p e s m ar bl me c C H lo ls hH hS hl)
def maxL (x y : Int64) : Int64 := if y < x then x else y
theorem w_maxL_s : Cond.static Lib.MathLoose.max_long.x ∈ gws := gi3 100 (by decide +kernel) (by decide +kernel)
theorem w_maxL_c : Cond.code Lib.MathLoose.max_long.x Lib.MathLoose.max_long.code 4 (some .long) ∈ gws := gi3 101 (by decide +kernel) (by decide +kernel)
theorem r_maxL {M : Mi} {R : Room} {Q : Qg} {pc : Nat} {lv : List (Nat × Value)} {st : List Value} {cl sl idx : Nat} {x y : Int64} (hlk : Cond.methodLink M.1.cls idx Lib.MathLoose.max_long.x ∈ gws) (hF : 1 ≤ R.frames) (hW : (st.map fun v => v.category).sum ≤ 8) (hLo : 8 + 15 ≤ R.locals) (hc1 : cl ≤ R.cells) (hs1 : sl ≤ R.slots) (hd : decode M.2.1 pc = .ok (.invokestatic idx, 3)) (kk : Wp E M R Q (pc + 3) lv (.long (maxL x y) :: st) h cl sl) : Wp E M R Q pc lv (.long y :: .long x :: st) h cl sl := fun p e s m ar bl me c C H lo ls hH hS hl => va_mmax_long C.1 C.2.1 (C.2.2.1.trans hl.1.symm) C.2.2.2.2.2.2.1 (C.2.2.2.2.2.2.2.1 _ hlk) (C.2.2.2.2.2.2.2.1 _ w_maxL_s) (C.2.2.2.2.2.2.2.1 _ w_mi) (C.2.2.2.2.2.2.2.1 _ w_maxL_c) hF (by omega) hc1 hs1 hd (kk p e s m ar bl me c C H lo ls hH hS hl)
def minL (x y : Int64) : Int64 := if y < x then y else x
theorem w_minL_s : Cond.static Lib.MathLoose.min_long.x ∈ gws := gi3 97 (by decide +kernel) (by decide +kernel)
theorem w_minL_c : Cond.code Lib.MathLoose.min_long.x Lib.MathLoose.min_long.code 4 (some .long) ∈ gws := gi3 98 (by decide +kernel) (by decide +kernel)
theorem r_minL {M : Mi} {R : Room} {Q : Qg} {pc : Nat} {lv : List (Nat × Value)} {st : List Value} {cl sl idx : Nat} {x y : Int64} (hlk : Cond.methodLink M.1.cls idx Lib.MathLoose.min_long.x ∈ gws) (hF : 1 ≤ R.frames) (hW : (st.map fun v => v.category).sum ≤ 8) (hLo : 8 + 15 ≤ R.locals) (hc1 : cl ≤ R.cells) (hs1 : sl ≤ R.slots) (hd : decode M.2.1 pc = .ok (.invokestatic idx, 3)) (kk : Wp E M R Q (pc + 3) lv (.long (minL x y) :: st) h cl sl) : Wp E M R Q pc lv (.long y :: .long x :: st) h cl sl := fun p e s m ar bl me c C H lo ls hH hS hl => va_mmin_long C.1 C.2.1 (C.2.2.1.trans hl.1.symm) C.2.2.2.2.2.2.1 (C.2.2.2.2.2.2.2.1 _ hlk) (C.2.2.2.2.2.2.2.1 _ w_minL_s) (C.2.2.2.2.2.2.2.1 _ w_mi) (C.2.2.2.2.2.2.2.1 _ w_minL_c) hF (by omega) hc1 hs1 hd (kk p e s m ar bl me c C H lo ls hH hS hl)
theorem wRow_w {a i : Nat} {f : Nat → Int32} {v : Int32} : wI (wRow h a f) a i v = wRow h a (va_up f i v) := by
  unfold wI wRow
  congr 2
  funext b j
  by_cases hb : b = a
  · subst hb; rw [va_up_self]
    by_cases hj : j = i
    · subst hj; rw [up2_at, va_up_self]
    · rw [up2_ne (fun z => hj z.2), va_up_ne _ _ hj]; show va_up h.2.1 b f b j = _; rw [va_up_self]
  · rw [up2_ne (fun z => hb z.1), va_up_ne _ _ hb]; show va_up h.2.1 a f b j = _; rw [va_up_ne _ _ hb]
theorem wRow_self (a : Nat) : wRow h a (hI h a) = h := by
  unfold wRow
  have : va_up h.2.1 a (hI h a) = h.2.1 := by
    funext b
    by_cases hb : b = a
    · subst hb; rw [va_up_self]; rfl
    · rw [va_up_ne _ _ hb]
  rw [this]
theorem wRow_at {a : Nat} {f : Nat → Int32} : hI (wRow h a f) a = f := by show va_up h.2.1 a f a = f; rw [va_up_self]
theorem wRow_ne {a b : Nat} {f : Nat → Int32} (hb : b ≠ a) : hI (wRow h a f) b = hI h b := by show va_up h.2.1 a f b = h.2.1 b; rw [va_up_ne _ _ hb]
def wRowJ (h : Hp) (a : Nat) (f : Nat → Int64) : Hp := (h.1, h.2.1, va_up h.2.2.1 a f, h.2.2.2)
theorem wRowJ_w {a i : Nat} {f : Nat → Int64} {v : Int64} : wJ (wRowJ h a f) a i v = wRowJ h a (va_up f i v) := by
  unfold wJ wRowJ
  congr 3
  funext b j
  by_cases hb : b = a
  · subst hb; rw [va_up_self]
    by_cases hj : j = i
    · subst hj; rw [up2_at, va_up_self]
    · rw [up2_ne (fun z => hj z.2), va_up_ne _ _ hj]; show va_up h.2.2.1 b f b j = _; rw [va_up_self]
  · rw [up2_ne (fun z => hb z.1), va_up_ne _ _ hb]; show va_up h.2.2.1 a f b j = _; rw [va_up_ne _ _ hb]
theorem wRowJ_self (a : Nat) : wRowJ h a (hJ h a) = h := by
  unfold wRowJ
  have : va_up h.2.2.1 a (hJ h a) = h.2.2.1 := by
    funext b
    by_cases hb : b = a
    · subst hb; rw [va_up_self]; rfl
    · rw [va_up_ne _ _ hb]
  rw [this]
theorem wRowJ_at {a : Nat} {f : Nat → Int64} : hJ (wRowJ h a f) a = f := by show va_up h.2.2.1 a f a = f; rw [va_up_self]
theorem wRowJ_ne {a b : Nat} {f : Nat → Int64} (hb : b ≠ a) : hJ (wRowJ h a f) b = hJ h b := by show va_up h.2.2.1 a f b = h.2.2.1 b; rw [va_up_ne _ _ hb]
theorem Fr.wRowJ {S : Nat → Nat → Prop} {a : Nat} {f : Nat → Int64} (hs : ∀ k, S a k) : Fr S h (wRowJ h a f) := ⟨rfl, fun b j q => ⟨rfl, by show va_up h.2.2.1 a f b j = h.2.2.1 b j; rw [va_up_ne _ _ (fun z => q (by rw [z]; exact hs j))], rfl⟩⟩
def flF {α : Type} (v : α) (g : Nat → α) (n : Nat) : Nat → α := fun k => if k < n then v else g k
theorem flF_0 {α : Type} (v : α) (g : Nat → α) : flF v g 0 = g := by funext k; unfold flF; rw [if_neg (by omega)]
theorem flF_s {α : Type} (v : α) (g : Nat → α) (n : Nat) : va_up (flF v g n) n v = flF v g (n + 1) := by
  funext k
  by_cases hk : k = n
  · subst hk; rw [va_up_self]; unfold flF; rw [if_pos (by omega)]
  · rw [va_up_ne _ _ hk]; unfold flF
    by_cases h2 : k < n
    · rw [if_pos h2, if_pos (by omega)]
    · rw [if_neg h2, if_neg (by omega)]
theorem ct_fillI {a n : Nat} (ha : isR E h a 13 n) (hn : n < 2 ^ 31) (v : Int32) : Ct E 0 0 0 mJ7_fill_53178 [.ref a, .int v] h (po none (wRow h a (flF v (hI h a) n))) := by
  refine Ct.of (by decide +kernel) (Nat.le_of_ble_eq_true rfl) ?_
  refine r_iconst (pc := 0) (0) dJ7_fill_53178_0 rfl ?_
  refine r_istore_n (pc := 1) (lv' := [(0, _), (1, _), (2, _)]) dJ7_fill_53178_1 (Nat.le_of_ble_eq_true rfl) rfl ?_
  refine r_aload_n (pc := 2) 0 dJ7_fill_53178_2 rfl ?_
  refine r_alen (pc := 3) (ha) (by decide) dJ7_fill_53178_3 ?_
  refine r_istore_n (pc := 4) (lv' := [(0, _), (1, _), (2, _), (3, _)]) dJ7_fill_53178_4 (Nat.le_of_ble_eq_true rfl) rfl ?_
  have loop : ∀ k, k ≤ n → Wp E mJ7_fill_53178 (Rm 0 0 0) (Qm E (po none (wRow h a (flF v (hI h a) n))) 0 0) 5 [(0, .ref a), (1, .int v), (2, .int (nI k)), (3, .int (nI n))] [] (wRow h a (flF v (hI h a) k)) 0 0 := by
    refine upTo (fun k hk ih => ?_) ?_
    · refine r_iload_n (pc := 5) 2 dJ7_fill_53178_5 rfl ?_
      refine r_iload_n (pc := 6) 3 dJ7_fill_53178_6 rfl ?_
      refine r_icmp_ge (pc := 7) (tgt := 20) dJ7_fill_53178_7 (by decide) (fun c_7 => ?_) (fun c_7 => ?_)
      · exact absurd c_7 (nI_ge hk hn)
      · refine r_aload_n (pc := 10) 0 dJ7_fill_53178_10 rfl ?_
        refine r_iload_n (pc := 11) 2 dJ7_fill_53178_11 rfl ?_
        refine r_iload_n (pc := 12) 1 dJ7_fill_53178_12 rfl ?_
        refine r_iast (pc := 13) (j := k) ha rfl hk hn dJ7_fill_53178_13 ?_
        refine r_iinc (pc := 14) (v := _ + (1)) (lv' := [(0, _), (1, _), (2, _), (3, _)]) 2 dJ7_fill_53178_14 rfl rfl (Nat.le_of_ble_eq_true rfl) rfl ?_
        refine r_goto (pc := 17) (tgt := 5) dJ7_fill_53178_17 (by decide) ?_
        rw [wRow_w, flF_s, nI_1]
        exact ih
    · refine r_iload_n (pc := 5) 2 dJ7_fill_53178_5 rfl ?_
      refine r_iload_n (pc := 6) 3 dJ7_fill_53178_6 rfl ?_
      refine r_icmp_ge (pc := 7) (tgt := 20) dJ7_fill_53178_7 (by decide) (fun c_7 => ?_) (fun c_7 => ?_)
      · refine r_vret (pc := 20) rfl ?_ (Nat.le_of_ble_eq_true rfl) (Nat.le_of_ble_eq_true rfl) dJ7_fill_53178_20
        exact ⟨rfl, rfl⟩
      · exact absurd (Int32.le_refl _) c_7
  have h0 := loop 0 (by omega)
  rw [flF_0, wRow_self] at h0
  exact h0
theorem ct_fillJ {a n : Nat} (ha : isR E h a 14 n) (hn : n < 2 ^ 31) (v : Int64) : Ct E 0 0 0 mJ7_fill_d0a16 [.ref a, .long v] h (po none (wRowJ h a (flF v (hJ h a) n))) := by
  refine Ct.of (by decide +kernel) (Nat.le_of_ble_eq_true rfl) ?_
  refine r_iconst (pc := 0) (0) dJ7_fill_d0a16_0 rfl ?_
  refine r_istore_n (pc := 1) (lv' := [(0, _), (1, _), (3, _)]) dJ7_fill_d0a16_1 (Nat.le_of_ble_eq_true rfl) rfl ?_
  refine r_aload_n (pc := 2) 0 dJ7_fill_d0a16_2 rfl ?_
  refine r_alen (pc := 3) (ha) (by decide) dJ7_fill_d0a16_3 ?_
  refine r_istore (pc := 4) (lv' := [(0, _), (1, _), (3, _), (4, _)]) dJ7_fill_d0a16_4 (Nat.le_of_ble_eq_true rfl) rfl ?_
  have loop : ∀ k, k ≤ n → Wp E mJ7_fill_d0a16 (Rm 0 0 0) (Qm E (po none (wRowJ h a (flF v (hJ h a) n))) 0 0) 6 [(0, .ref a), (1, .long v), (3, .int (nI k)), (4, .int (nI n))] [] (wRowJ h a (flF v (hJ h a) k)) 0 0 := by
    refine upTo (fun k hk ih => ?_) ?_
    · refine r_iload_n (pc := 6) 2 dJ7_fill_d0a16_6 rfl ?_
      refine r_iload (pc := 7) 3 dJ7_fill_d0a16_7 rfl ?_
      refine r_icmp_ge (pc := 9) (tgt := 22) dJ7_fill_d0a16_9 (by decide) (fun c_9 => ?_) (fun c_9 => ?_)
      · exact absurd c_9 (nI_ge hk hn)
      · refine r_aload_n (pc := 12) 0 dJ7_fill_d0a16_12 rfl ?_
        refine r_iload_n (pc := 13) 2 dJ7_fill_d0a16_13 rfl ?_
        refine r_lload_n (pc := 14) 1 dJ7_fill_d0a16_14 rfl ?_
        refine r_last (pc := 15) (j := k) ha rfl hk hn dJ7_fill_d0a16_15 ?_
        refine r_iinc (pc := 16) (v := _ + (1)) (lv' := [(0, _), (1, _), (3, _), (4, _)]) 2 dJ7_fill_d0a16_16 rfl rfl (Nat.le_of_ble_eq_true rfl) rfl ?_
        refine r_goto (pc := 19) (tgt := 6) dJ7_fill_d0a16_19 (by decide) ?_
        rw [wRowJ_w, flF_s, nI_1]
        exact ih
    · refine r_iload_n (pc := 6) 2 dJ7_fill_d0a16_6 rfl ?_
      refine r_iload (pc := 7) 3 dJ7_fill_d0a16_7 rfl ?_
      refine r_icmp_ge (pc := 9) (tgt := 22) dJ7_fill_d0a16_9 (by decide) (fun c_9 => ?_) (fun c_9 => ?_)
      · refine r_vret (pc := 22) rfl ?_ (Nat.le_of_ble_eq_true rfl) (Nat.le_of_ble_eq_true rfl) dJ7_fill_d0a16_22
        exact ⟨rfl, rfl⟩
      · exact absurd (Int32.le_refl _) c_9
  have h0 := loop 0 (by omega)
  rw [flF_0, wRowJ_self] at h0
  exact h0
theorem ct_hasBit (x k : Int32) : Ct E 0 0 0 mX11_hasBit [.int x, .int k] h (po (some (.int (bI (isB x k)))) h) := by
  refine Ct.of (by decide +kernel) (Nat.le_of_ble_eq_true rfl) ?_
  refine r_iload_n (pc := 0) 0 dX11_hasBit_0 rfl ?_
  refine r_iload_n (pc := 1) 1 dX11_hasBit_1 rfl ?_
  refine r_ishr (pc := 2) dX11_hasBit_2 ?_
  refine r_iconst (pc := 3) (1) dX11_hasBit_3 rfl ?_
  refine r_iand (pc := 4) dX11_hasBit_4 ?_
  refine r_iconst (pc := 5) (1) dX11_hasBit_5 rfl ?_
  refine r_icmp_ne (pc := 6) (tgt := 13) dX11_hasBit_6 (by decide) (fun c_6 => ?_) (fun c_6 => ?_)
  · refine r_iconst (pc := 13) (0) dX11_hasBit_13 rfl ?_
    refine r_zret (pc := 14) rfl (by decide) ?_ (Nat.le_of_ble_eq_true rfl) (Nat.le_of_ble_eq_true rfl) dX11_hasBit_14
    exact ⟨pz0 c_6, rfl⟩
  · refine r_iconst (pc := 9) (1) dX11_hasBit_9 rfl ?_
    refine r_goto (pc := 10) (tgt := 14) dX11_hasBit_10 (by decide) ?_
    refine r_zret (pc := 14) rfl (by decide) ?_ (Nat.le_of_ble_eq_true rfl) (Nat.le_of_ble_eq_true rfl) dX11_hasBit_14
    exact ⟨pz1 c_6, rfl⟩
theorem inN_lt {c : Int32} {n : Nat} (hn : n < 2 ^ 31) : inN c n = decide (¬ c < 0 ∧ ¬ nI n ≤ c) := by
  unfold inN
  congr 1
  rw [fa_lt, fa_le, nI_toInt hn, show (0 : Int32).toInt = 0 by decide]
  apply propext
  omega
theorem ct_cisLife (c : Int32) : Ct E 0 0 0 mX11_isLife [.int c] h (po (some (.int (bI (inN c 9)))) h) := by
  refine Ct.of (by decide +kernel) (Nat.le_of_ble_eq_true rfl) ?_
  rw [inN_lt (by decide)]
  refine r_iload_n (pc := 0) 0 dX11_isLife_0 rfl ?_
  refine r_if_lt (pc := 1) (tgt := 14) dX11_isLife_1 (by decide) (fun c_1 => ?_) (fun c_1 => ?_)
  · refine r_iconst (pc := 14) (0) dX11_isLife_14 rfl ?_
    refine r_zret (pc := 15) rfl (by decide) ?_ (Nat.le_of_ble_eq_true rfl) (Nat.le_of_ble_eq_true rfl) dX11_isLife_15
    exact ⟨pz0 (fun z => z.1 c_1), rfl⟩
  · refine r_iload_n (pc := 4) 0 dX11_isLife_4 rfl ?_
    refine r_bipush (pc := 5) (9) dX11_isLife_5 rfl ?_
    refine r_icmp_ge (pc := 7) (tgt := 14) dX11_isLife_7 (by decide) (fun c_7 => ?_) (fun c_7 => ?_)
    · refine r_iconst (pc := 14) (0) dX11_isLife_14 rfl ?_
      refine r_zret (pc := 15) rfl (by decide) ?_ (Nat.le_of_ble_eq_true rfl) (Nat.le_of_ble_eq_true rfl) dX11_isLife_15
      exact ⟨pz0 (fun z => z.2 c_7), rfl⟩
    · refine r_iconst (pc := 10) (1) dX11_isLife_10 rfl ?_
      refine r_goto (pc := 11) (tgt := 15) dX11_isLife_11 (by decide) ?_
      refine r_zret (pc := 15) rfl (by decide) ?_ (Nat.le_of_ble_eq_true rfl) (Nat.le_of_ble_eq_true rfl) dX11_isLife_15
      exact ⟨pz1 ⟨c_1, c_7⟩, rfl⟩
def lowO (x : Int32) : Int32 := if lowest x 9 < 9 then nI (lowest x 9) else -1
theorem ct_lowestOf (x : Int32) : Ct E 1 0 0 mX11_lowestOf [.int x] h (po (some (.int (lowO x))) h) := by
  refine Ct.of (by decide +kernel) (Nat.le_of_ble_eq_true rfl) ?_
  refine r_iconst (pc := 0) (0) dX11_lowestOf_0 rfl ?_
  refine r_istore_n (pc := 1) (lv' := [(0, _), (1, _)]) dX11_lowestOf_1 (Nat.le_of_ble_eq_true rfl) rfl ?_
  have loop : ∀ k, k ≤ 9 → lowest x k = k → Wp E mX11_lowestOf (Rm 1 0 0) (Qm E (po (some (.int (lowO x))) h) 0 0) 2 [(0, .int x), (1, .int (nI k))] [] h 0 0 := by
    refine upTo (fun k hk ih => ?_) ?_
    · intro hl
      refine r_iload_n (pc := 2) 1 dX11_lowestOf_2 rfl ?_
      refine r_bipush (pc := 3) (9) dX11_lowestOf_3 rfl ?_
      refine r_icmp_ge (pc := 5) (tgt := 24) dX11_lowestOf_5 (by decide) (fun c_5 => ?_) (fun c_5 => ?_)
      · exact absurd c_5 (nI_ge (b := 9) hk (by decide))
      · refine r_iload_n (pc := 8) 0 dX11_lowestOf_8 rfl ?_
        refine r_iload_n (pc := 9) 1 dX11_lowestOf_9 rfl ?_
        refine r_dS (pc := 10) (As := [_, _]) ms_X11_hasBit ml_X11_330 (ct_hasBit _ _) rfl rfl (Nat.le_of_ble_eq_true rfl) (Nat.le_of_ble_eq_true rfl) (Nat.le_of_ble_eq_true rfl) (Nat.le_of_ble_eq_true rfl) (Nat.le_of_ble_eq_true rfl) dX11_lowestOf_10 ?_
        refine r_if_eq (pc := 13) (tgt := 18) dX11_lowestOf_13 (by decide) (fun c_13 => ?_) (fun c_13 => ?_)
        · refine r_iinc (pc := 18) (v := _ + (1)) (lv' := [(0, _), (1, _)]) 1 dX11_lowestOf_18 rfl rfl (Nat.le_of_ble_eq_true rfl) rfl ?_
          refine r_goto (pc := 21) (tgt := 2) dX11_lowestOf_21 (by decide) ?_
          rw [nI_1]
          exact ih (by rw [lowest, if_neg (by omega), if_neg (by rw [bI_0.mp c_13]; decide)])
        · refine r_iload_n (pc := 16) 1 dX11_lowestOf_16 rfl ?_
          refine r_iret (pc := 17) rfl ?_ (Nat.le_of_ble_eq_true rfl) (Nat.le_of_ble_eq_true rfl) dX11_lowestOf_17
          have e1 : lowest x (k + 1) = k := by rw [lowest, if_neg (by omega), if_pos (bI_n0.mp c_13)]
          have e2 := lowest_stop (x := x) (k := k + 1) (by omega) (9 - (k + 1))
          rw [show k + 1 + (9 - (k + 1)) = 9 by omega, e1] at e2
          exact ⟨by rw [lowO, e2, if_pos hk], rfl⟩
    · intro hl
      refine r_iload_n (pc := 2) 1 dX11_lowestOf_2 rfl ?_
      refine r_bipush (pc := 3) (9) dX11_lowestOf_3 rfl ?_
      refine r_icmp_ge (pc := 5) (tgt := 24) dX11_lowestOf_5 (by decide) (fun c_5 => ?_) (fun c_5 => ?_)
      · refine r_iconst (pc := 24) (-1) dX11_lowestOf_24 rfl ?_
        refine r_iret (pc := 25) rfl ?_ (Nat.le_of_ble_eq_true rfl) (Nat.le_of_ble_eq_true rfl) dX11_lowestOf_25
        exact ⟨by rw [lowO, hl, if_neg (by omega)], rfl⟩
      · exact absurd (show (9 : Int32) ≤ nI 9 by decide) c_5
  exact loop 0 (by omega) rfl
end JDK
