/-! the reference: what is had -/
section BITS9
theorem sh9 : ∀ k, k < 9 → (1 : Int32) <<< (nI k &&& 31) = nI (2 ^ k) := by decide +kernel
set_option maxRecDepth 100000 in
theorem isB9 : ∀ y, y < 512 → ∀ k, k < 9 → isB (nI y) (nI k) = y.testBit k := by decide +kernel
theorem bit_le {y k : Nat} (hb : y.testBit k = true) : 2 ^ k ≤ y := Nat.ge_two_pow_of_testBit hb
def pcN (y : Nat) : Nat → Nat
  | 0 => 0
  | k + 1 => pcN y k + (if y.testBit k = true then 1 else 0)
theorem onesN_pc {y : Nat} (hy : y < 512) : ∀ k, k ≤ 9 → onesN (nI y) k = nI (pcN y k)
  | 0, _ => rfl
  | k + 1, hk => by
    have hb := isB9 y hy k (by omega)
    unfold isB at hb
    rw [onesN, onesN_pc hy k (by omega), pcN]
    rcases and1 (nI y >>> (nI k &&& 31)) with q | q
    · rw [q, decide_eq_false (by decide)] at hb
      rw [q, ← hb, if_neg (by decide), Int32.add_zero]; rfl
    · rw [q, decide_eq_true rfl] at hb
      rw [q, ← hb, if_pos rfl, nI_1]
theorem pc_le9 : ∀ y, y < 512 → pcN y 9 ≤ 9 := by decide +kernel
theorem pc_le8 : ∀ y, y < 511 → pcN y 9 ≤ 8 := by decide +kernel
end BITS9
section MODELC
variable {E : En} {h : Hp} {m : Nat} {μ : Mu} {l : La}
/-- the most by what is next, out of f (by 9 y + life) -/
def mostN (f : Nat → Int64) (y : Nat) : Nat → Int64
  | 0 => 0
  | k + 1 => if y.testBit k = true then (if mostN f y k < f (9 * (y - 2 ^ k) + k) then f (9 * (y - 2 ^ k) + k) else mostN f y k) else mostN f y k
theorem ct_mostNext (hm : Md E h m) {y : Nat} (hy : y < 512) : Ct E 1 0 0 mX12_mostNext [.ref m, .int (nI y)] (mH h m μ l) (po (some (.long (mostN (l 24) y 9))) (mH h m μ l)) := by
  refine Ct.of (by decide +kernel) (Nat.le_of_ble_eq_true rfl) ?_
  refine r_lconst (pc := 0) (0) dX12_mostNext_0 rfl ?_
  refine r_lstore_n (pc := 1) (lv' := [(0, _), (1, _), (2, _)]) dX12_mostNext_1 (Nat.le_of_ble_eq_true rfl) rfl ?_
  refine r_iconst (pc := 2) (0) dX12_mostNext_2 rfl ?_
  refine r_istore (pc := 3) (lv' := [(0, _), (1, _), (2, _), (4, _)]) dX12_mostNext_3 (Nat.le_of_ble_eq_true rfl) rfl ?_
  have loop : ∀ k, k ≤ 9 → Wp E mX12_mostNext (Rm 1 0 0) (Qm E (po (some (.long (mostN (l 24) y 9))) (mH h m μ l)) 0 0) 5 [(0, .ref m), (1, .int (nI y)), (2, .long (mostN (l 24) y k)), (4, .int (nI k))] [] (mH h m μ l) 0 0 := by
    refine upTo (fun k hk ih => ?_) ?_
    · refine r_iload (pc := 5) 3 dX12_mostNext_5 rfl ?_
      refine r_bipush (pc := 7) (9) dX12_mostNext_7 rfl ?_
      refine r_icmp_ge (pc := 9) (tgt := 60) dX12_mostNext_9 (by decide) (fun c_9 => ?_) (fun c_9 => ?_)
      · exact absurd c_9 (nI_ge (b := 9) hk (by decide))
      · refine r_iload_n (pc := 12) 1 dX12_mostNext_12 rfl ?_
        refine r_iload (pc := 13) 3 dX12_mostNext_13 rfl ?_
        refine r_dS (pc := 15) (As := [_, _]) ms_X12_is ml_X12_197 (ct_is _ _) rfl rfl (Nat.le_of_ble_eq_true rfl) (Nat.le_of_ble_eq_true rfl) (Nat.le_of_ble_eq_true rfl) (Nat.le_of_ble_eq_true rfl) (Nat.le_of_ble_eq_true rfl) dX12_mostNext_15 ?_
        refine r_if_eq (pc := 18) (tgt := 54) dX12_mostNext_18 (by decide) (fun c_18 => ?_) (fun c_18 => ?_)
        · rw [isB9 y hy k hk] at c_18
          have e9 : mostN (l 24) y (k + 1) = mostN (l 24) y k := by rw [mostN, if_neg (by rw [bI_0.mp c_18]; decide)]
          rw [e9] at ih
          refine r_iinc (pc := 54) (v := _ + (1)) (lv' := [(0, _), (1, _), (2, _), (4, _)]) 3 dX12_mostNext_54 rfl rfl (Nat.le_of_ble_eq_true rfl) rfl ?_
          refine r_goto (pc := 57) (tgt := 5) dX12_mostNext_57 (by decide) ?_
          rw [nI_1]; exact ih
        · rw [isB9 y hy k hk] at c_18
          have hb := bI_n0.mp c_18
          have h2 := bit_le hb
          have hp : 1 ≤ 2 ^ k := Nat.one_le_two_pow
          refine r_aload_n (pc := 21) 0 dX12_mostNext_21 rfl ?_
          refine q_getR (pc := 22) fl_X12_117 hm (md_f44 hm) dX12_mostNext_22 ?_
          refine r_bipush (pc := 25) (9) dX12_mostNext_25 rfl ?_
          refine r_iload_n (pc := 27) 1 dX12_mostNext_27 rfl ?_
          refine r_iconst (pc := 28) (1) dX12_mostNext_28 rfl ?_
          refine r_iload (pc := 29) 3 dX12_mostNext_29 rfl ?_
          refine r_ishl (pc := 31) dX12_mostNext_31 ?_
          refine r_isub (pc := 32) dX12_mostNext_32 ?_
          refine r_imul (pc := 33) dX12_mostNext_33 ?_
          refine r_iload (pc := 34) 3 dX12_mostNext_34 rfl ?_
          refine r_iadd (pc := 36) dX12_mostNext_36 ?_
          refine q_lald (pc := 37) (j := 9 * (y - 2 ^ k) + k) (md_r44 hm) (by decide) (by rw [sh9 k hk, nI_sub h2]; simp only [fa_lit, nI_add, nI_mul]) (by omega) (by decide) dX12_mostNext_37 ?_
          refine r_lstore (pc := 38) (lv' := [(0, _), (1, _), (2, _), (4, _), (5, _)]) dX12_mostNext_38 (Nat.le_of_ble_eq_true rfl) rfl ?_
          refine r_lload (pc := 40) 4 dX12_mostNext_40 rfl ?_
          refine r_lload_n (pc := 42) 2 dX12_mostNext_42 rfl ?_
          refine r_lcmp_le (pc := 43) (tgt := 52) dX12_mostNext_43 dX12_mostNext_44 (by decide) (fun c_43 => ?_) (fun c_43 => ?_)
          · refine r_lload_n (pc := 52) 2 dX12_mostNext_52 rfl ?_
            refine r_lstore_n (pc := 53) (lv' := [(0, _), (1, _), (2, _), (4, _), (5, _)]) dX12_mostNext_53 (Nat.le_of_ble_eq_true rfl) rfl ?_
            refine r_iinc (pc := 54) (v := _ + (1)) (lv' := [(0, _), (1, _), (2, _), (4, _), (5, _)]) 3 dX12_mostNext_54 rfl rfl (Nat.le_of_ble_eq_true rfl) rfl ?_
            refine r_goto (pc := 57) (tgt := 5) dX12_mostNext_57 (by decide) ?_
            refine r_sub [0, 1, 2, 3] rfl ?_
            rw [nI_1]
            have e9 : mostN (l 24) y (k + 1) = mostN (l 24) y k := by rw [mostN, if_pos hb, if_neg (Int64.not_lt.mpr c_43)]
            rw [e9] at ih
            exact ih
          · refine r_lload (pc := 47) 4 dX12_mostNext_47 rfl ?_
            refine r_goto (pc := 49) (tgt := 53) dX12_mostNext_49 (by decide) ?_
            refine r_lstore_n (pc := 53) (lv' := [(0, _), (1, _), (2, _), (4, _), (5, _)]) dX12_mostNext_53 (Nat.le_of_ble_eq_true rfl) rfl ?_
            refine r_iinc (pc := 54) (v := _ + (1)) (lv' := [(0, _), (1, _), (2, _), (4, _), (5, _)]) 3 dX12_mostNext_54 rfl rfl (Nat.le_of_ble_eq_true rfl) rfl ?_
            refine r_goto (pc := 57) (tgt := 5) dX12_mostNext_57 (by decide) ?_
            refine r_sub [0, 1, 2, 3] rfl ?_
            rw [nI_1]
            have e9 : mostN (l 24) y (k + 1) = l 24 (9 * (y - 2 ^ k) + k) := by rw [mostN, if_pos hb, if_pos (Int64.not_le.mp c_43)]
            rw [e9] at ih
            exact ih
    · refine r_iload (pc := 5) 3 dX12_mostNext_5 rfl ?_
      refine r_bipush (pc := 7) (9) dX12_mostNext_7 rfl ?_
      refine r_icmp_ge (pc := 9) (tgt := 60) dX12_mostNext_9 (by decide) (fun c_9 => ?_) (fun c_9 => ?_)
      · refine r_lload_n (pc := 60) 2 dX12_mostNext_60 rfl ?_
        refine r_lret (pc := 61) rfl ?_ (Nat.le_of_ble_eq_true rfl) (Nat.le_of_ble_eq_true rfl) dX12_mostNext_61
        exact ⟨rfl, rfl⟩
      · exact absurd (show (9 : Int32) ≤ nI 9 by decide) c_9
  exact loop 0 (by omega)
/-- one place of the next year's: by what is earned and dared at each life and spent -/
def hadF (e d : Nat → Int32) (f : Nat → Int64) (i : Nat) : Int64 := (e (9 * (i % 9) + (8 - pcN (i / 9) 9))).toInt64 * 1000000 + f i * (10 - d (9 * (i % 9) + (8 - pcN (i / 9) 9))).toInt64 / 10 + mostN f (i / 9) 9 * (d (9 * (i % 9) + (8 - pcN (i / 9) 9))).toInt64 / 10
def hadS (e d : Nat → Int32) (g f : Nat → Int64) : Nat → Int64 := fun i => if i < 4599 then hadF e d f i else if i < 4608 then g i else f i
def hadN (e d : Nat → Int32) (g f : Nat → Int64) : Nat → Nat → Int64
  | 0 => f
  | n + 1 => hadS e d g (hadN e d g f n)
def z4608 (f : Nat → Int64) (k : Nat) : Nat → Int64 := fun i => if i < k then 0 else f i
/-- a cell of longs laid anew -/
def setL (l : La) (o : Nat) (f : Nat → Int64) : La := fun q j => if q = o then f j else l q j
theorem setL_at {l : La} {o : Nat} {f : Nat → Int64} : setL l o f o = f := by funext j; unfold setL; rw [if_pos rfl]
theorem setL_ne {l : La} {o q : Nat} {f : Nat → Int64} (hq : q ≠ o) : setL l o f q = l q := by funext j; unfold setL; rw [if_neg hq]
theorem setL_self (l : La) (o : Nat) : setL l o (l o) = l := by
  funext q j; unfold setL; split
  · next e => rw [e]
  · rfl
theorem setL_up {l : La} {o : Nat} {f : Nat → Int64} {j : Nat} {v : Int64} : up2 (setL l o f) o j v = setL l o (va_up f j v) := by
  funext q i; unfold up2 setL va_up
  by_cases h1 : q = o <;> by_cases h2 : i = j <;> simp [h1, h2]
theorem setL_set {l : La} {o : Nat} {f g : Nat → Int64} : setL (setL l o f) o g = setL l o g := by
  funext q i; unfold setL; split <;> rfl
theorem setL_sw {l : La} {o q : Nat} {f g : Nat → Int64} (hne : o ≠ q) : setL (setL l o f) q g = setL (setL l q g) o f := by
  funext p i; unfold setL
  by_cases h1 : p = q
  · subst h1; rw [if_pos rfl, if_neg (Ne.symm hne), if_pos rfl]
  · rw [if_neg h1, if_neg h1]
/-- the second part of layHad: from the tables of earning and daring on -/
theorem had_years (hm : Md E h m) {n : Nat} (hn9 : n ≤ 9) (c : Int32) {Q : Qg}
    (fin : ∀ g : Nat → Int64, Wp E mX12_layHad (Rm 6 0 0) Q 271 [(0, .ref m), (1, .int c), (2, .int (nI n)), (3, .int (nI n))] [] (mH h m μ (setL (setL l 25 g) 24 (hadN (μ 22) (μ 23) (l 25) (z4608 (l 24) 4608) n))) 0 0) :
    Wp E mX12_layHad (Rm 6 0 0) Q 70 [(0, .ref m), (1, .int c), (2, .int (nI n)), (3, .int (nI 9))] [] (mH h m μ l) 0 0 := by
  refine r_iconst (pc := 70) (0) dX12_layHad_70 rfl ?_
  refine r_istore_n (pc := 71) (lv' := [(0, _), (1, _), (2, _), (3, _)]) dX12_layHad_71 (Nat.le_of_ble_eq_true rfl) rfl ?_
  have years : ∀ w, w ≤ n → ∀ g : Nat → Int64, (∀ i, 4599 ≤ i → g i = l 25 i) → Wp E mX12_layHad (Rm 6 0 0) Q 94 [(0, .ref m), (1, .int c), (2, .int (nI n)), (3, .int (nI w))] [] (mH h m μ (setL (setL l 25 g) 24 (hadN (μ 22) (μ 23) (l 25) (z4608 (l 24) 4608) w))) 0 0 := by
    refine upTo (fun w hw ih => ?_) ?_
    · intro g hg
      have e9 : hadN (μ 22) (μ 23) (l 25) (z4608 (l 24) 4608) (w + 1) = hadS (μ 22) (μ 23) (l 25) (hadN (μ 22) (μ 23) (l 25) (z4608 (l 24) 4608) w) := rfl
      rw [e9] at ih
      generalize hadN (μ 22) (μ 23) (l 25) (z4608 (l 24) 4608) w = F at ih ⊢
      refine r_iload_n (pc := 94) 3 dX12_layHad_94 rfl ?_
      refine r_iload_n (pc := 95) 2 dX12_layHad_95 rfl ?_
      refine r_icmp_ge (pc := 96) (tgt := 271) dX12_layHad_96 (by decide) (fun c_96 => ?_) (fun c_96 => ?_)
      · exact absurd c_96 (nI_ge hw (by omega))
      · refine r_iconst (pc := 99) (0) dX12_layHad_99 rfl ?_
        refine r_istore (pc := 100) (lv' := [(0, _), (1, _), (2, _), (3, _), (4, _)]) dX12_layHad_100 (Nat.le_of_ble_eq_true rfl) rfl ?_
        have copy : ∀ G : Nat → Int64, (∀ i, i < 4599 → G i = hadF (μ 22) (μ 23) F i) → (∀ i, 4599 ≤ i → G i = l 25 i) → ∀ k, k ≤ 4608 → Wp E mX12_layHad (Rm 6 0 0) Q 237 [(0, .ref m), (1, .int c), (2, .int (nI n)), (3, .int (nI w)), (4, .int (nI k))] [] (mH h m μ (setL (setL l 25 G) 24 (fun i => if i < k then G i else F i))) 0 0 := by
          intro G hG1 hG2
          refine upTo (fun k hk ih2 => ?_) ?_
          · refine r_iload (pc := 237) 4 dX12_layHad_237 rfl ?_
            refine r_sipush (pc := 239) (4608) dX12_layHad_239 rfl ?_
            refine r_icmp_ge (pc := 242) (tgt := 265) dX12_layHad_242 (by decide) (fun c_242 => ?_) (fun c_242 => ?_)
            · exact absurd c_242 (nI_ge (b := 4608) hk (by decide))
            · refine r_aload_n (pc := 245) 0 dX12_layHad_245 rfl ?_
              refine q_getR (pc := 246) fl_X12_117 hm (md_f44 hm) dX12_layHad_246 ?_
              refine r_iload (pc := 249) 4 dX12_layHad_249 rfl ?_
              refine r_aload_n (pc := 251) 0 dX12_layHad_251 rfl ?_
              refine q_getR (pc := 252) fl_X12_120 hm (md_f45 hm) dX12_layHad_252 ?_
              refine r_iload (pc := 255) 4 dX12_layHad_255 rfl ?_
              refine q_lald (pc := 257) (j := k) (md_r45 hm) (by decide) rfl (by omega) (by decide) dX12_layHad_257 ?_
              refine q_last (pc := 258) (j := k) (md_r44 hm) (by decide) rfl (by omega) (by decide) dX12_layHad_258 ?_
              refine r_iinc (pc := 259) (v := _ + (1)) (lv' := [(0, _), (1, _), (2, _), (3, _), (4, _)]) 4 dX12_layHad_259 rfl rfl (Nat.le_of_ble_eq_true rfl) rfl ?_
              refine r_goto (pc := 262) (tgt := 237) dX12_layHad_262 (by decide) ?_
              rw [setL_up, setL_ne (by decide), setL_at, nI_1]
              rw [show va_up (fun i => if i < k then G i else F i) k (G k) = fun i => if i < k + 1 then G i else F i by
                funext i; unfold va_up
                by_cases h1 : i = k
                · rw [if_pos h1, h1, if_pos (by omega)]
                · rw [if_neg h1]
                  show (if i < k then G i else F i) = _
                  by_cases h2 : i < k
                  · rw [if_pos h2, if_pos (by omega)]
                  · rw [if_neg h2, if_neg (by omega)]]
              exact ih2
          · refine r_iload (pc := 237) 4 dX12_layHad_237 rfl ?_
            refine r_sipush (pc := 239) (4608) dX12_layHad_239 rfl ?_
            refine r_icmp_ge (pc := 242) (tgt := 265) dX12_layHad_242 (by decide) (fun c_242 => ?_) (fun c_242 => ?_)
            · refine r_iinc (pc := 265) (v := _ + (1)) (lv' := [(0, _), (1, _), (2, _), (3, _), (4, _)]) 3 dX12_layHad_265 rfl rfl (Nat.le_of_ble_eq_true rfl) rfl ?_
              refine r_goto (pc := 268) (tgt := 94) dX12_layHad_268 (by decide) ?_
              rw [nI_1]
              refine r_sub [0, 1, 2, 3] rfl ?_
              rw [show (fun i => if i < 4608 then G i else F i) = hadS (μ 22) (μ 23) (l 25) F by
                funext i; unfold hadS
                by_cases h1 : i < 4599
                · rw [if_pos (by omega), if_pos h1, hG1 i h1]
                · rw [if_neg h1]
                  by_cases h2 : i < 4608
                  · rw [if_pos h2, if_pos h2, hG2 i (by omega)]
                  · rw [if_neg h2, if_neg h2]]
              exact ih G hG2
            · exact absurd (show (4608 : Int32) ≤ nI 4608 by decide) c_242
        have sets : ∀ y, y ≤ 511 → ∀ G : Nat → Int64, (∀ i, i < 9 * y → G i = hadF (μ 22) (μ 23) F i) → (∀ i, 4599 ≤ i → G i = l 25 i) → Wp E mX12_layHad (Rm 6 0 0) Q 102 [(0, .ref m), (1, .int c), (2, .int (nI n)), (3, .int (nI w)), (4, .int (nI y))] [] (mH h m μ (setL (setL l 25 G) 24 F)) 0 0 := by
          refine upTo (fun y hy ih2 => ?_) ?_
          · intro G hG1 hG2
            have h8 := pc_le8 y hy
            refine r_iload (pc := 102) 4 dX12_layHad_102 rfl ?_
            refine r_sipush (pc := 104) (511) dX12_layHad_104 rfl ?_
            refine r_icmp_ge (pc := 107) (tgt := 234) dX12_layHad_107 (by decide) (fun c_107 => ?_) (fun c_107 => ?_)
            · exact absurd c_107 (nI_ge (b := 511) hy (by decide))
            · refine r_aload_n (pc := 110) 0 dX12_layHad_110 rfl ?_
              refine r_iload (pc := 111) 4 dX12_layHad_111 rfl ?_
              refine r_dV (pc := 113) (As := [_]) mv_X12_mostNext ml_X12_471 (ct_mostNext hm (by omega)) (q_is hm) rfl rfl (Nat.le_of_ble_eq_true rfl) (Nat.le_of_ble_eq_true rfl) (Nat.le_of_ble_eq_true rfl) (Nat.le_of_ble_eq_true rfl) (Nat.le_of_ble_eq_true rfl) dX12_layHad_113 ?_
              refine r_lstore (pc := 116) (lv' := [(0, _), (1, _), (2, _), (3, _), (4, _), (5, _)]) dX12_layHad_116 (Nat.le_of_ble_eq_true rfl) rfl ?_
              refine r_bipush (pc := 118) (8) dX12_layHad_118 rfl ?_
              refine r_iload (pc := 120) 4 dX12_layHad_120 rfl ?_
              refine r_dS (pc := 122) (As := [_]) ms_X12_ones ml_X12_190 (ct_ones _) rfl rfl (Nat.le_of_ble_eq_true rfl) (Nat.le_of_ble_eq_true rfl) (Nat.le_of_ble_eq_true rfl) (Nat.le_of_ble_eq_true rfl) (Nat.le_of_ble_eq_true rfl) dX12_layHad_122 ?_
              refine r_isub (pc := 125) dX12_layHad_125 ?_
              rw [setL_at, onesN_pc (by omega) 9 (by omega), show (8 : Int32) - nI (pcN y 9) = nI (8 - pcN y 9) from nI_sub (a := 8) h8]
              refine r_istore (pc := 126) (lv' := [(0, _), (1, _), (2, _), (3, _), (4, _), (5, _), (7, _)]) dX12_layHad_126 (Nat.le_of_ble_eq_true rfl) rfl ?_
              refine r_iconst (pc := 128) (0) dX12_layHad_128 rfl ?_
              refine r_istore (pc := 129) (lv' := [(0, _), (1, _), (2, _), (3, _), (4, _), (5, _), (7, _), (8, _)]) dX12_layHad_129 (Nat.le_of_ble_eq_true rfl) rfl ?_
              have lives : ∀ k, k ≤ 9 → ∀ G : Nat → Int64, (∀ i, i < 9 * y + k → G i = hadF (μ 22) (μ 23) F i) → (∀ i, 4599 ≤ i → G i = l 25 i) → Wp E mX12_layHad (Rm 6 0 0) Q 131 [(0, .ref m), (1, .int c), (2, .int (nI n)), (3, .int (nI w)), (4, .int (nI y)), (5, .long (mostN F y 9)), (7, .int (nI (8 - pcN y 9))), (8, .int (nI k))] [] (mH h m μ (setL (setL l 25 G) 24 F)) 0 0 := by
                refine upTo (fun k hk ih3 => ?_) ?_
                · intro G hG1 hG2
                  refine r_iload (pc := 131) 7 dX12_layHad_131 rfl ?_
                  refine r_bipush (pc := 133) (9) dX12_layHad_133 rfl ?_
                  refine r_icmp_ge (pc := 135) (tgt := 228) dX12_layHad_135 (by decide) (fun c_135 => ?_) (fun c_135 => ?_)
                  · exact absurd c_135 (nI_ge (b := 9) hk (by decide))
                  · have ei : (9 : Int32) * nI y + nI k = nI (9 * y + k) := by simp only [fa_lit, nI_add, nI_mul]
                    refine r_bipush (pc := 138) (9) dX12_layHad_138 rfl ?_
                    refine r_iload (pc := 140) 4 dX12_layHad_140 rfl ?_
                    refine r_imul (pc := 142) dX12_layHad_142 ?_
                    refine r_iload (pc := 143) 7 dX12_layHad_143 rfl ?_
                    refine r_iadd (pc := 145) dX12_layHad_145 ?_
                    rw [ei]
                    refine r_istore (pc := 146) (lv' := [(0, _), (1, _), (2, _), (3, _), (4, _), (5, _), (7, _), (8, _), (9, _)]) dX12_layHad_146 (Nat.le_of_ble_eq_true rfl) rfl ?_
                    refine r_aload_n (pc := 148) 0 dX12_layHad_148 rfl ?_
                    refine q_getR (pc := 149) fl_X12_111 hm (md_f42 hm) dX12_layHad_149 ?_
                    refine r_bipush (pc := 152) (9) dX12_layHad_152 rfl ?_
                    refine r_iload (pc := 154) 7 dX12_layHad_154 rfl ?_
                    refine r_imul (pc := 156) dX12_layHad_156 ?_
                    refine r_iload (pc := 157) 6 dX12_layHad_157 rfl ?_
                    refine r_iadd (pc := 159) dX12_layHad_159 ?_
                    refine q_iald (pc := 160) (j := 9 * k + (8 - pcN y 9)) (md_r42 hm) (by decide) (by simp only [fa_lit, nI_add, nI_mul]) (by omega) (by decide) dX12_layHad_160 ?_
                    refine r_istore (pc := 161) (lv' := [(0, _), (1, _), (2, _), (3, _), (4, _), (5, _), (7, _), (8, _), (9, _), (10, _)]) dX12_layHad_161 (Nat.le_of_ble_eq_true rfl) rfl ?_
                    refine r_aload_n (pc := 163) 0 dX12_layHad_163 rfl ?_
                    refine q_getR (pc := 164) fl_X12_114 hm (md_f43 hm) dX12_layHad_164 ?_
                    refine r_bipush (pc := 167) (9) dX12_layHad_167 rfl ?_
                    refine r_iload (pc := 169) 7 dX12_layHad_169 rfl ?_
                    refine r_imul (pc := 171) dX12_layHad_171 ?_
                    refine r_iload (pc := 172) 6 dX12_layHad_172 rfl ?_
                    refine r_iadd (pc := 174) dX12_layHad_174 ?_
                    refine q_iald (pc := 175) (j := 9 * k + (8 - pcN y 9)) (md_r43 hm) (by decide) (by simp only [fa_lit, nI_add, nI_mul]) (by omega) (by decide) dX12_layHad_175 ?_
                    refine r_istore (pc := 176) (lv' := [(0, _), (1, _), (2, _), (3, _), (4, _), (5, _), (7, _), (8, _), (9, _), (10, _), (11, _)]) dX12_layHad_176 (Nat.le_of_ble_eq_true rfl) rfl ?_
                    refine r_aload_n (pc := 178) 0 dX12_layHad_178 rfl ?_
                    refine q_getR (pc := 179) fl_X12_120 hm (md_f45 hm) dX12_layHad_179 ?_
                    refine r_iload (pc := 182) 8 dX12_layHad_182 rfl ?_
                    refine r_iload (pc := 184) 9 dX12_layHad_184 rfl ?_
                    refine r_i2l (pc := 186) dX12_layHad_186 ?_
                    refine r_ldc2_w (pc := 187) cs_X12_289 dX12_layHad_187 ?_
                    refine r_lmul (pc := 190) dX12_layHad_190 ?_
                    refine r_aload_n (pc := 191) 0 dX12_layHad_191 rfl ?_
                    refine q_getR (pc := 192) fl_X12_117 hm (md_f44 hm) dX12_layHad_192 ?_
                    refine r_iload (pc := 195) 8 dX12_layHad_195 rfl ?_
                    refine q_lald (pc := 197) (j := 9 * y + k) (md_r44 hm) (by decide) rfl (by omega) (by decide) dX12_layHad_197 ?_
                    refine r_bipush (pc := 198) (10) dX12_layHad_198 rfl ?_
                    refine r_iload (pc := 200) 10 dX12_layHad_200 rfl ?_
                    refine r_isub (pc := 202) dX12_layHad_202 ?_
                    refine r_i2l (pc := 203) dX12_layHad_203 ?_
                    refine r_lmul (pc := 204) dX12_layHad_204 ?_
                    refine r_ldc2_w (pc := 205) cs_X12_242 dX12_layHad_205 ?_
                    refine r_ldiv (pc := 208) dX12_layHad_208 (by decide) ?_
                    refine r_ladd (pc := 209) dX12_layHad_209 ?_
                    refine r_lload (pc := 210) 5 dX12_layHad_210 rfl ?_
                    refine r_iload (pc := 212) 10 dX12_layHad_212 rfl ?_
                    refine r_i2l (pc := 214) dX12_layHad_214 ?_
                    refine r_lmul (pc := 215) dX12_layHad_215 ?_
                    refine r_ldc2_w (pc := 216) cs_X12_242 dX12_layHad_216 ?_
                    refine r_ldiv (pc := 219) dX12_layHad_219 (by decide) ?_
                    refine r_ladd (pc := 220) dX12_layHad_220 ?_
                    refine q_last (pc := 221) (j := 9 * y + k) (md_r45 hm) (by decide) rfl (by omega) (by decide) dX12_layHad_221 ?_
                    refine r_iinc (pc := 222) (v := _ + (1)) (lv' := [(0, _), (1, _), (2, _), (3, _), (4, _), (5, _), (7, _), (8, _), (9, _), (10, _), (11, _)]) 7 dX12_layHad_222 rfl rfl (Nat.le_of_ble_eq_true rfl) rfl ?_
                    refine r_goto (pc := 225) (tgt := 131) dX12_layHad_225 (by decide) ?_
                    refine r_sub [0, 1, 2, 3, 4, 5, 6, 7] rfl ?_
                    rw [setL_at, setL_sw (by decide), setL_up, setL_sw (by decide), nI_1]
                    have em : (9 * y + k) % 9 = k := by omega
                    have ed : (9 * y + k) / 9 = y := by omega
                    refine ih3 _ (fun i hi => ?_) (fun i hi => ?_)
                    · by_cases h1 : i = 9 * y + k
                      · rw [h1, va_up_self, hadF, em, ed]
                      · rw [va_up_ne _ _ h1]; exact hG1 i (by omega)
                    · rw [va_up_ne _ _ (by omega)]; exact hG2 i hi
                · intro G hG1 hG2
                  refine r_iload (pc := 131) 7 dX12_layHad_131 rfl ?_
                  refine r_bipush (pc := 133) (9) dX12_layHad_133 rfl ?_
                  refine r_icmp_ge (pc := 135) (tgt := 228) dX12_layHad_135 (by decide) (fun c_135 => ?_) (fun c_135 => ?_)
                  · refine r_iinc (pc := 228) (v := _ + (1)) (lv' := [(0, _), (1, _), (2, _), (3, _), (4, _), (5, _), (7, _), (8, _)]) 4 dX12_layHad_228 rfl rfl (Nat.le_of_ble_eq_true rfl) rfl ?_
                    refine r_goto (pc := 231) (tgt := 102) dX12_layHad_231 (by decide) ?_
                    rw [nI_1]
                    refine r_sub [0, 1, 2, 3, 4] rfl ?_
                    exact ih2 G (fun i hi => hG1 i (by omega)) hG2
                  · exact absurd (show (9 : Int32) ≤ nI 9 by decide) c_135
              exact lives 0 (by omega) G (fun i hi => hG1 i (by omega)) hG2
          · intro G hG1 hG2
            refine r_iload (pc := 102) 4 dX12_layHad_102 rfl ?_
            refine r_sipush (pc := 104) (511) dX12_layHad_104 rfl ?_
            refine r_icmp_ge (pc := 107) (tgt := 234) dX12_layHad_107 (by decide) (fun c_107 => ?_) (fun c_107 => ?_)
            · refine r_iconst (pc := 234) (0) dX12_layHad_234 rfl ?_
              refine r_istore (pc := 235) (lv' := [(0, _), (1, _), (2, _), (3, _), (4, _)]) dX12_layHad_235 (Nat.le_of_ble_eq_true rfl) rfl ?_
              have h0 := copy G (fun i hi => hG1 i (by omega)) hG2 0 (by omega)
              rw [show (fun i => if i < 0 then G i else F i) = F by funext i; rw [if_neg (by omega)]] at h0
              exact h0
            · exact absurd (show (511 : Int32) ≤ nI 511 by decide) c_107
        exact sets 0 (by omega) g (fun i hi => absurd hi (by omega)) hg
    · intro g hg
      refine r_iload_n (pc := 94) 3 dX12_layHad_94 rfl ?_
      refine r_iload_n (pc := 95) 2 dX12_layHad_95 rfl ?_
      refine r_icmp_ge (pc := 96) (tgt := 271) dX12_layHad_96 (by decide) (fun c_96 => ?_) (fun c_96 => ?_)
      · exact fin g
      · exact absurd (Int32.le_refl _) c_96
  have zero : ∀ k, k ≤ 4608 → Wp E mX12_layHad (Rm 6 0 0) Q 72 [(0, .ref m), (1, .int c), (2, .int (nI n)), (3, .int (nI k))] [] (mH h m μ (setL l 24 (z4608 (l 24) k))) 0 0 := by
    refine upTo (fun k hk ih => ?_) ?_
    · refine r_iload_n (pc := 72) 3 dX12_layHad_72 rfl ?_
      refine r_sipush (pc := 73) (4608) dX12_layHad_73 rfl ?_
      refine r_icmp_ge (pc := 76) (tgt := 92) dX12_layHad_76 (by decide) (fun c_76 => ?_) (fun c_76 => ?_)
      · exact absurd c_76 (nI_ge (b := 4608) hk (by decide))
      · refine r_aload_n (pc := 79) 0 dX12_layHad_79 rfl ?_
        refine q_getR (pc := 80) fl_X12_117 hm (md_f44 hm) dX12_layHad_80 ?_
        refine r_iload_n (pc := 83) 3 dX12_layHad_83 rfl ?_
        refine r_lconst (pc := 84) (0) dX12_layHad_84 rfl ?_
        refine q_last (pc := 85) (j := k) (md_r44 hm) (by decide) rfl (by omega) (by decide) dX12_layHad_85 ?_
        refine r_iinc (pc := 86) (v := _ + (1)) (lv' := [(0, _), (1, _), (2, _), (3, _)]) 3 dX12_layHad_86 rfl rfl (Nat.le_of_ble_eq_true rfl) rfl ?_
        refine r_goto (pc := 89) (tgt := 72) dX12_layHad_89 (by decide) ?_
        rw [setL_up, nI_1]
        rw [show va_up (z4608 (l 24) k) k 0 = z4608 (l 24) (k + 1) by
          funext i; unfold va_up z4608
          by_cases h1 : i = k
          · rw [if_pos h1, if_pos (by omega)]
          · rw [if_neg h1]
            by_cases h2 : i < k
            · rw [if_pos h2, if_pos (by omega)]
            · rw [if_neg h2, if_neg (by omega)]]
        exact ih
    · refine r_iload_n (pc := 72) 3 dX12_layHad_72 rfl ?_
      refine r_sipush (pc := 73) (4608) dX12_layHad_73 rfl ?_
      refine r_icmp_ge (pc := 76) (tgt := 92) dX12_layHad_76 (by decide) (fun c_76 => ?_) (fun c_76 => ?_)
      · refine r_iconst (pc := 92) (0) dX12_layHad_92 rfl ?_
        refine r_istore_n (pc := 93) (lv' := [(0, _), (1, _), (2, _), (3, _)]) dX12_layHad_93 (Nat.le_of_ble_eq_true rfl) rfl ?_
        have h0 := years 0 (by omega) (l 25) (fun _ _ => rfl)
        rw [setL_self] at h0
        exact h0
      · exact absurd (show (4608 : Int32) ≤ nI 4608 by decide) c_76
  have h0 := zero 0 (by omega)
  rw [show z4608 (l 24) 0 = l 24 by funext i; unfold z4608; rw [if_neg (by omega)], setL_self] at h0
  exact h0
end MODELC
