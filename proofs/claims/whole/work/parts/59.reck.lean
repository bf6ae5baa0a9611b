/-! the class: the reckoner -/
section RECK
variable {E : En} {h : Hp} {x : Nat}
def rkH (h : Hp) (x n : Nat) (f : Nat → Int64) : Hp := wI (wRowJ h (x + 2) f) (x + 1) 1 (nI n)
theorem rk_h {n : Nat} {f : Nat → Int64} : hI (rkH h x n f) (x + 1) 1 = nI n := up2_at
theorem rk_s {n : Nat} {f : Nat → Int64} : hJ (rkH h x n f) (x + 2) = f := wRowJ_at
theorem rk_I {n a : Nat} {f : Nat → Int64} (ha : a ≠ x + 1) : hI (rkH h x n f) a = hI h a := up2_other ha
theorem rk_put {n n' : Nat} {f : Nat → Int64} : wI (rkH h x n f) (x + 1) 1 (nI n') = rkH h x n' f := by
  unfold rkH wI
  congr 2
  exact up2_up2 _ _ _ _ _
theorem rk_st {n i : Nat} {f : Nat → Int64} {v : Int64} : wJ (rkH h x n f) (x + 2) i v = rkH h x n (va_up f i v) := by
  show wI (wJ (wRowJ h (x + 2) f) (x + 2) i v) (x + 1) 1 (nI n) = _
  rw [wRowJ_w]; rfl
theorem rk_0 : ∃ n f, wI h (x + 1) 1 (nI 0) = rkH h x n f := ⟨0, hJ h (x + 2), by unfold rkH; rw [wRowJ_self]⟩
theorem c7_push (hc : CS E h x) {n : Nat} {f : Nat → Int64} (hn : n < 50) (v : Int64) : Ct E 0 0 0 mX7_push [.ref (x + 1), .long v] (rkH h x n f) (po none (rkH h x (n + 1) (va_up f n v))) := by
  refine Ct.of (by decide +kernel) (Nat.le_of_ble_eq_true rfl) ?_
  refine r_aload_n (pc := 0) 0 dX7_push_0 rfl ?_
  refine r_getI (pc := 1) fl_X7_33 (ca_1 hc) dX7_push_1 ?_
  refine r_aload_n (pc := 4) 0 dX7_push_4 rfl ?_
  refine r_getR (pc := 5) fl_X7_9 (ca_1 hc) (cf_1_0 hc) dX7_push_5 ?_
  refine r_alen (pc := 8) (cr_2 hc) (by decide) dX7_push_8 ?_
  refine r_icmp_ge (pc := 9) (tgt := 32) dX7_push_9 (by decide) (fun c_9 => ?_) (fun c_9 => ?_)
  · rw [rk_h] at c_9
    exact absurd c_9 (nI_ge (b := 50) hn (by decide))
  · refine r_aload_n (pc := 12) 0 dX7_push_12 rfl ?_
    refine r_getR (pc := 13) fl_X7_9 (ca_1 hc) (cf_1_0 hc) dX7_push_13 ?_
    refine r_aload_n (pc := 16) 0 dX7_push_16 rfl ?_
    refine r_getI (pc := 17) fl_X7_33 (ca_1 hc) dX7_push_17 ?_
    refine r_lload_n (pc := 20) 1 dX7_push_20 rfl ?_
    refine r_last (pc := 21) (j := n) (cr_2 hc) rk_h (by omega) (by decide) dX7_push_21 ?_
    rw [rk_st]
    refine r_aload_n (pc := 22) 0 dX7_push_22 rfl ?_
    refine r_dup (pc := 23) dX7_push_23 rfl ?_
    refine r_getI (pc := 24) fl_X7_33 (ca_1 hc) dX7_push_24 ?_
    refine r_iconst (pc := 27) (1) dX7_push_27 rfl ?_
    refine r_iadd (pc := 28) dX7_push_28 ?_
    refine r_putI (pc := 29) fp_X7_33 (ca_1 hc) dX7_push_29 ?_
    refine r_vret (pc := 32) rfl ?_ (Nat.le_of_ble_eq_true rfl) (Nat.le_of_ble_eq_true rfl) dX7_push_32
    rw [rk_h, nI_1, rk_put]
    exact ⟨rfl, rfl⟩
theorem c7_pop (hc : CS E h x) {n : Nat} {f : Nat → Int64} (h1 : 1 ≤ n) (hn : n ≤ 50) : Ct E 0 0 0 mX7_pop [.ref (x + 1)] (rkH h x n f) (po (some (.long (f (n - 1)))) (rkH h x (n - 1) f)) := by
  refine Ct.of (by decide +kernel) (Nat.le_of_ble_eq_true rfl) ?_
  refine r_aload_n (pc := 0) 0 dX7_pop_0 rfl ?_
  refine r_getI (pc := 1) fl_X7_33 (ca_1 hc) dX7_pop_1 ?_
  refine r_if_gt (pc := 4) (tgt := 9) dX7_pop_4 (by decide) (fun c_4 => ?_) (fun c_4 => ?_)
  · refine r_aload_n (pc := 9) 0 dX7_pop_9 rfl ?_
    refine r_dup (pc := 10) dX7_pop_10 rfl ?_
    refine r_getI (pc := 11) fl_X7_33 (ca_1 hc) dX7_pop_11 ?_
    refine r_iconst (pc := 14) (1) dX7_pop_14 rfl ?_
    refine r_isub (pc := 15) dX7_pop_15 ?_
    refine r_putI (pc := 16) fp_X7_33 (ca_1 hc) dX7_pop_16 ?_
    rw [rk_h, show nI n - 1 = nI (n - 1) from nI_sub (a := n) (b := 1) h1, rk_put]
    refine r_aload_n (pc := 19) 0 dX7_pop_19 rfl ?_
    refine r_getR (pc := 20) fl_X7_9 (ca_1 hc) (cf_1_0 hc) dX7_pop_20 ?_
    refine r_aload_n (pc := 23) 0 dX7_pop_23 rfl ?_
    refine r_getI (pc := 24) fl_X7_33 (ca_1 hc) dX7_pop_24 ?_
    refine r_lald (pc := 27) (j := n - 1) (cr_2 hc) rk_h (by omega) (by decide) dX7_pop_27 ?_
    refine r_lret (pc := 28) rfl ?_ (Nat.le_of_ble_eq_true rfl) (Nat.le_of_ble_eq_true rfl) dX7_pop_28
    exact ⟨by rw [rk_s], rfl⟩
  · rw [rk_h] at c_4
    exact absurd (nI_lt (a := 0) (b := n) (by omega) (by omega)) c_4
def jV (op : Int32) (a b : Int64) : Int64 := if rkD (copO op) b = true then -9223372036854775808 else rkV (copO op) a b
theorem cop_in {op : Int32} (hc : ¬ copO op = 0) : op = 43 ∨ op = 45 ∨ op = 42 ∨ op = 47 ∨ op = 37 ∨ op = 60 ∨ op = 62 ∨ op = 61 := by
  unfold copO at hc
  by_cases h1 : op = 43
  · exact Or.inl h1
  · rw [if_neg h1] at hc
    by_cases h2 : op = 45
    · exact Or.inr (Or.inl h2)
    · rw [if_neg h2] at hc
      by_cases h3 : op = 42
      · exact Or.inr (Or.inr (Or.inl h3))
      · rw [if_neg h3] at hc
        by_cases h4 : op = 47
        · exact Or.inr (Or.inr (Or.inr (Or.inl h4)))
        · rw [if_neg h4] at hc
          by_cases h5 : op = 37
          · exact Or.inr (Or.inr (Or.inr (Or.inr (Or.inl h5))))
          · rw [if_neg h5] at hc
            by_cases h6 : op = 60
            · exact Or.inr (Or.inr (Or.inr (Or.inr (Or.inr (Or.inl h6)))))
            · rw [if_neg h6] at hc
              by_cases h7 : op = 62
              · exact Or.inr (Or.inr (Or.inr (Or.inr (Or.inr (Or.inr (Or.inl h7))))))
              · rw [if_neg h7] at hc
                by_cases h8 : op = 61
                · exact Or.inr (Or.inr (Or.inr (Or.inr (Or.inr (Or.inr (Or.inr h8))))))
                · rw [if_neg h8] at hc; exact absurd rfl hc
theorem ct_joined {op : Int32} (hc : ¬ copO op = 0) (a b : Int64) : Ct E 0 0 0 mX7_joined [.int op, .long a, .long b] h (po (some (.long (jV op a b))) h) := by
  refine Ct.of (by decide +kernel) (Nat.le_of_ble_eq_true rfl) ?_
  rcases cop_in hc with rfl | rfl | rfl | rfl | rfl | rfl | rfl | rfl
  · refine r_iload_n (pc := 0) 0 dX7_joined_0 rfl ?_
    refine r_tableIn (pc := 1) (off := 119) (tgt := 120) dX7_joined_1 (by decide) (by decide) (by decide +kernel) (by decide) ?_
    refine r_lload_n (pc := 120) 1 dX7_joined_120 rfl ?_
    refine r_lload_n (pc := 121) 2 dX7_joined_121 rfl ?_
    refine r_ladd (pc := 122) dX7_joined_122 ?_
    refine r_lret (pc := 123) rfl ?_ (Nat.le_of_ble_eq_true rfl) (Nat.le_of_ble_eq_true rfl) dX7_joined_123
    exact ⟨rfl, rfl⟩
  · refine r_iload_n (pc := 0) 0 dX7_joined_0 rfl ?_
    refine r_tableIn (pc := 1) (off := 123) (tgt := 124) dX7_joined_1 (by decide) (by decide) (by decide +kernel) (by decide) ?_
    refine r_lload_n (pc := 124) 1 dX7_joined_124 rfl ?_
    refine r_lload_n (pc := 125) 2 dX7_joined_125 rfl ?_
    refine r_lsub (pc := 126) dX7_joined_126 ?_
    refine r_lret (pc := 127) rfl ?_ (Nat.le_of_ble_eq_true rfl) (Nat.le_of_ble_eq_true rfl) dX7_joined_127
    exact ⟨rfl, rfl⟩
  · refine r_iload_n (pc := 0) 0 dX7_joined_0 rfl ?_
    refine r_tableIn (pc := 1) (off := 127) (tgt := 128) dX7_joined_1 (by decide) (by decide) (by decide +kernel) (by decide) ?_
    refine r_lload_n (pc := 128) 1 dX7_joined_128 rfl ?_
    refine r_lload_n (pc := 129) 2 dX7_joined_129 rfl ?_
    refine r_lmul (pc := 130) dX7_joined_130 ?_
    refine r_lret (pc := 131) rfl ?_ (Nat.le_of_ble_eq_true rfl) (Nat.le_of_ble_eq_true rfl) dX7_joined_131
    exact ⟨rfl, rfl⟩
  · refine r_iload_n (pc := 0) 0 dX7_joined_0 rfl ?_
    refine r_tableIn (pc := 1) (off := 131) (tgt := 132) dX7_joined_1 (by decide) (by decide) (by decide +kernel) (by decide) ?_
    refine r_lload_n (pc := 132) 2 dX7_joined_132 rfl ?_
    refine r_lconst (pc := 133) (0) dX7_joined_133 rfl ?_
    refine r_lcmp_ne (pc := 134) (tgt := 144) dX7_joined_134 dX7_joined_135 (by decide) (fun c_134 => ?_) (fun c_134 => ?_)
    · refine r_lload_n (pc := 144) 1 dX7_joined_144 rfl ?_
      refine r_lload_n (pc := 145) 2 dX7_joined_145 rfl ?_
      refine r_ldiv (pc := 146) dX7_joined_146 c_134 ?_
      refine r_lret (pc := 147) rfl ?_ (Nat.le_of_ble_eq_true rfl) (Nat.le_of_ble_eq_true rfl) dX7_joined_147
      refine ⟨?_, rfl⟩
      have e1 : rkD (copO 47) b = false := decide_eq_false (fun z => c_134 z.2)
      rw [jV, e1, if_neg (by decide)]
      show _ = some (Value.long (if b = 0 then 0 else a / b))
      rw [if_neg c_134]
    · refine r_ldc2_w (pc := 138) cs_X7_21 dX7_joined_138 ?_
      refine r_goto (pc := 141) (tgt := 147) dX7_joined_141 (by decide) ?_
      refine r_lret (pc := 147) rfl ?_ (Nat.le_of_ble_eq_true rfl) (Nat.le_of_ble_eq_true rfl) dX7_joined_147
      refine ⟨?_, rfl⟩
      have e1 : rkD (copO 47) b = true := decide_eq_true ⟨Or.inl rfl, c_134⟩
      rw [jV, e1, if_pos rfl]
  · refine r_iload_n (pc := 0) 0 dX7_joined_0 rfl ?_
    refine r_tableIn (pc := 1) (off := 147) (tgt := 148) dX7_joined_1 (by decide) (by decide) (by decide +kernel) (by decide) ?_
    refine r_lload_n (pc := 148) 2 dX7_joined_148 rfl ?_
    refine r_lconst (pc := 149) (0) dX7_joined_149 rfl ?_
    refine r_lcmp_ne (pc := 150) (tgt := 160) dX7_joined_150 dX7_joined_151 (by decide) (fun c_150 => ?_) (fun c_150 => ?_)
    · refine r_lload_n (pc := 160) 1 dX7_joined_160 rfl ?_
      refine r_lload_n (pc := 161) 2 dX7_joined_161 rfl ?_
      refine r_lrem (pc := 162) dX7_joined_162 c_150 ?_
      refine r_lret (pc := 163) rfl ?_ (Nat.le_of_ble_eq_true rfl) (Nat.le_of_ble_eq_true rfl) dX7_joined_163
      refine ⟨?_, rfl⟩
      have e1 : rkD (copO 37) b = false := decide_eq_false (fun z => c_150 z.2)
      rw [jV, e1, if_neg (by decide)]
      show _ = some (Value.long (if b = 0 then 0 else a - a / b * b))
      rw [if_neg c_150]
    · refine r_ldc2_w (pc := 154) cs_X7_21 dX7_joined_154 ?_
      refine r_goto (pc := 157) (tgt := 163) dX7_joined_157 (by decide) ?_
      refine r_lret (pc := 163) rfl ?_ (Nat.le_of_ble_eq_true rfl) (Nat.le_of_ble_eq_true rfl) dX7_joined_163
      refine ⟨?_, rfl⟩
      have e1 : rkD (copO 37) b = true := decide_eq_true ⟨Or.inr rfl, c_150⟩
      rw [jV, e1, if_pos rfl]
  · refine r_iload_n (pc := 0) 0 dX7_joined_0 rfl ?_
    refine r_tableIn (pc := 1) (off := 163) (tgt := 164) dX7_joined_1 (by decide) (by decide) (by decide +kernel) (by decide) ?_
    refine r_lload_n (pc := 164) 1 dX7_joined_164 rfl ?_
    refine r_lload_n (pc := 165) 2 dX7_joined_165 rfl ?_
    refine r_lcmp_ge (pc := 166) (tgt := 174) dX7_joined_166 dX7_joined_167 (by decide) (fun c_166 => ?_) (fun c_166 => ?_)
    · refine r_lconst (pc := 174) (0) dX7_joined_174 rfl ?_
      refine r_lret (pc := 175) rfl ?_ (Nat.le_of_ble_eq_true rfl) (Nat.le_of_ble_eq_true rfl) dX7_joined_175
      refine ⟨?_, rfl⟩
      show _ = some (Value.long (if a < b then 1 else 0))
      rw [if_neg (Int64.not_lt.mpr c_166)]
    · refine r_lconst (pc := 170) (1) dX7_joined_170 rfl ?_
      refine r_goto (pc := 171) (tgt := 175) dX7_joined_171 (by decide) ?_
      refine r_lret (pc := 175) rfl ?_ (Nat.le_of_ble_eq_true rfl) (Nat.le_of_ble_eq_true rfl) dX7_joined_175
      refine ⟨?_, rfl⟩
      show _ = some (Value.long (if a < b then 1 else 0))
      rw [if_pos (Int64.not_le.mp c_166)]
  · refine r_iload_n (pc := 0) 0 dX7_joined_0 rfl ?_
    refine r_tableIn (pc := 1) (off := 175) (tgt := 176) dX7_joined_1 (by decide) (by decide) (by decide +kernel) (by decide) ?_
    refine r_lload_n (pc := 176) 1 dX7_joined_176 rfl ?_
    refine r_lload_n (pc := 177) 2 dX7_joined_177 rfl ?_
    refine r_lcmp_le (pc := 178) (tgt := 186) dX7_joined_178 dX7_joined_179 (by decide) (fun c_178 => ?_) (fun c_178 => ?_)
    · refine r_lconst (pc := 186) (0) dX7_joined_186 rfl ?_
      refine r_lret (pc := 187) rfl ?_ (Nat.le_of_ble_eq_true rfl) (Nat.le_of_ble_eq_true rfl) dX7_joined_187
      refine ⟨?_, rfl⟩
      show _ = some (Value.long (if b < a then 1 else 0))
      rw [if_neg (Int64.not_lt.mpr c_178)]
    · refine r_lconst (pc := 182) (1) dX7_joined_182 rfl ?_
      refine r_goto (pc := 183) (tgt := 187) dX7_joined_183 (by decide) ?_
      refine r_lret (pc := 187) rfl ?_ (Nat.le_of_ble_eq_true rfl) (Nat.le_of_ble_eq_true rfl) dX7_joined_187
      refine ⟨?_, rfl⟩
      show _ = some (Value.long (if b < a then 1 else 0))
      rw [if_pos (Int64.not_le.mp c_178)]
  · refine r_iload_n (pc := 0) 0 dX7_joined_0 rfl ?_
    refine r_tableIn (pc := 1) (off := 187) (tgt := 188) dX7_joined_1 (by decide) (by decide) (by decide +kernel) (by decide) ?_
    refine r_lload_n (pc := 188) 1 dX7_joined_188 rfl ?_
    refine r_lload_n (pc := 189) 2 dX7_joined_189 rfl ?_
    refine r_lcmp_ne (pc := 190) (tgt := 198) dX7_joined_190 dX7_joined_191 (by decide) (fun c_190 => ?_) (fun c_190 => ?_)
    · refine r_lconst (pc := 198) (0) dX7_joined_198 rfl ?_
      refine r_lret (pc := 199) rfl ?_ (Nat.le_of_ble_eq_true rfl) (Nat.le_of_ble_eq_true rfl) dX7_joined_199
      refine ⟨?_, rfl⟩
      show _ = some (Value.long (if a = b then 1 else 0))
      rw [if_neg c_190]
    · refine r_lconst (pc := 194) (1) dX7_joined_194 rfl ?_
      refine r_goto (pc := 195) (tgt := 199) dX7_joined_195 (by decide) ?_
      refine r_lret (pc := 199) rfl ?_ (Nat.le_of_ble_eq_true rfl) (Nat.le_of_ble_eq_true rfl) dX7_joined_199
      refine ⟨?_, rfl⟩
      show _ = some (Value.long (if a = b then 1 else 0))
      rw [if_pos c_190]
theorem jV_out {op : Int32} {a b : Int64} : outB (jV op a b) = rkB (copO op) a b := by
  unfold jV rkB
  cases hd : rkD (copO op) b with
  | true => rw [if_pos rfl]; rfl
  | false => rw [if_neg (by decide)]; rfl
theorem out_t {v : Int64} (h1 : 1000000000 < v ∨ v < -1000000000) : outB v = true := by
  unfold outB
  rw [decide_eq_false (fun z => h1.elim (fun y => Int64.not_le.mpr y z.2) (fun y => Int64.not_le.mpr y z.1))]; rfl
theorem out_f {v : Int64} (h1 : v ≤ 1000000000) (h2 : -1000000000 ≤ v) : outB v = false := by
  unfold outB
  rw [decide_eq_true ⟨h2, h1⟩]; rfl
/-- reckoned: only the pile was written -/
def pRk (h : Hp) (x : Nat) (v : Int64) : Option Value → Hp → Prop := fun r h' => r = some (.long v) ∧ ∃ n f, h' = rkH h x n f
theorem c7_run (hc : CS E h x) {t aw wl nn at0 a b : Nat} {ci pi : Int32} (ht : x + 2 < t) (haw : x + 2 < aw) (htx : txS E h t nn) (hnn : nn < 2 ^ 31) (hR : isR E h aw 13 wl) (hwl : wl < 2 ^ 31) (hat : ci * 3 + pi = nI at0) (ha37 : at0 + 1 < 37) (ea : hI h (t + 3) at0 = nI a) (eb : hI h (t + 3) (at0 + 1) = nI b) {sz : Nat} (es : hI h t 6 = nI sz) (hbs : b ≤ sz) (hsn : sz ≤ nn) (hab : a ≤ b) {N n' : Nat} {bk : Bool} {f' : Nat → Int64} (hr : cRun (hI h (t + 4)) (hI h (t + 5)) (hI h aw) wl b N a 0 (hJ h (x + 2)) = some (bk, n', f')) :
    Ct E 1 0 0 mX7_reckon [.ref (x + 1), .ref t, .int ci, .int pi, .ref aw] h (pRk h x (if bk = true then -9223372036854775808 else if 0 < n' then f' 0 else 1)) := by
  refine Ct.of (by decide +kernel) (Nat.le_of_ble_eq_true rfl) ?_
  have loop : ∀ (N k n : Nat) (f : Nat → Int64), cRun (hI h (t + 4)) (hI h (t + 5)) (hI h aw) wl b N k n f = some (bk, n', f') → n ≤ 50 → k < 2 ^ 31 → Wp E mX7_reckon (Rm 1 0 0) (Qm E (pRk h x (if bk = true then -9223372036854775808 else if 0 < n' then f' 0 else 1)) 0 0) 60 [(0, .ref (x + 1)), (1, .ref t), (2, .int ci), (3, .int pi), (4, .ref aw), (5, .int (nI at0)), (6, .int (nI b)), (7, .int (nI k))] [] (rkH h x n f) 0 0 := by
    intro N
    induction N with
    | zero =>
      intro k n f hrk hn50 hk31
      by_cases hk : k < b
      · rw [cRun, if_pos hk] at hrk; cases hrk
      · obtain ⟨e1, e2, e3⟩ : bk = false ∧ n' = n ∧ f' = f := by have e := cRun_end hk hrk; simpa using e
        refine r_iload (pc := 60) 7 dX7_reckon_60 rfl ?_
        refine r_iload (pc := 62) 6 dX7_reckon_62 rfl ?_
        refine r_icmp_ge (pc := 64) (tgt := 300) dX7_reckon_64 (by decide) (fun c_64 => ?_) (fun c_64 => ?_)
        · refine r_aload_n (pc := 300) 0 dX7_reckon_300 rfl ?_
          refine r_getI (pc := 301) fl_X7_33 (ca_1 hc) dX7_reckon_301 ?_
          refine r_if_le (pc := 304) (tgt := 316) dX7_reckon_304 (by decide) (fun c_304 => ?_) (fun c_304 => ?_)
          · rw [rk_h] at c_304
            have hz : n = 0 := by
              rcases Nat.eq_zero_or_pos n with z | z
              · exact z
              · exact absurd c_304 (nI_nle z (by omega))
            refine r_lconst (pc := 316) (1) dX7_reckon_316 rfl ?_
            refine r_lret (pc := 317) rfl ?_ (Nat.le_of_ble_eq_true rfl) (Nat.le_of_ble_eq_true rfl) dX7_reckon_317
            exact ⟨by rw [e1, if_neg (by decide), if_neg (by omega)], n, f, rfl⟩
          · rw [rk_h] at c_304
            have hz : 0 < n := Nat.pos_of_ne_zero (fun z => c_304 (by rw [z]; decide))
            refine r_aload_n (pc := 307) 0 dX7_reckon_307 rfl ?_
            refine r_getR (pc := 308) fl_X7_9 (ca_1 hc) (cf_1_0 hc) dX7_reckon_308 ?_
            refine r_iconst (pc := 311) (0) dX7_reckon_311 rfl ?_
            refine r_lald (pc := 312) (j := 0) (cr_2 hc) rfl (by decide) (by decide) dX7_reckon_312 ?_
            refine r_goto (pc := 313) (tgt := 317) dX7_reckon_313 (by decide) ?_
            refine r_lret (pc := 317) rfl ?_ (Nat.le_of_ble_eq_true rfl) (Nat.le_of_ble_eq_true rfl) dX7_reckon_317
            exact ⟨by rw [e1, e2, e3, if_neg (by decide), if_pos hz, rk_s], n, f, rfl⟩
        · exact absurd (nI_le (by omega) hk31) c_64
    | succ N IH =>
      intro k n f hrk hn50 hk31
      by_cases hk : k < b
      · obtain ⟨N', q, k2, n2, f2, hst, hq1, hq0⟩ := cRun_step hk hrk
        have eO : hI (rkH h x n f) (t + 4) k = hI h (t + 4) k := by rw [rk_I (by omega)]
        have eA : hI (rkH h x n f) (t + 5) k = hI h (t + 5) k := by rw [rk_I (by omega)]
        unfold cSt at hst
        refine r_iload (pc := 60) 7 dX7_reckon_60 rfl ?_
        refine r_iload (pc := 62) 6 dX7_reckon_62 rfl ?_
        refine r_icmp_ge (pc := 64) (tgt := 300) dX7_reckon_64 (by decide) (fun c_64 => ?_) (fun c_64 => ?_)
        · exact absurd c_64 (nI_ge hk (by omega))
        · refine r_aload_n (pc := 67) 1 dX7_reckon_67 rfl ?_
          refine r_getR (pc := 68) fl_X7_36 (tx_is htx) (tx_f4 htx) dX7_reckon_68 ?_
          refine r_iload (pc := 71) 7 dX7_reckon_71 rfl ?_
          refine r_iald (pc := 73) (j := k) (tx_r4 htx) rfl (by omega) (by omega) dX7_reckon_73 ?_
          refine r_istore (pc := 74) (lv' := [(0, _), (1, _), (2, _), (3, _), (4, _), (5, _), (6, _), (7, _), (8, _)]) dX7_reckon_74 (Nat.le_of_ble_eq_true rfl) rfl ?_
          refine r_aload_n (pc := 76) 1 dX7_reckon_76 rfl ?_
          refine r_getR (pc := 77) fl_X7_39 (tx_is htx) (tx_f5 htx) dX7_reckon_77 ?_
          refine r_iload (pc := 80) 7 dX7_reckon_80 rfl ?_
          refine r_iald (pc := 82) (j := k) (tx_r5 htx) rfl (by omega) (by omega) dX7_reckon_82 ?_
          refine r_istore (pc := 83) (lv' := [(0, _), (1, _), (2, _), (3, _), (4, _), (5, _), (6, _), (7, _), (8, _), (9, _)]) dX7_reckon_83 (Nat.le_of_ble_eq_true rfl) rfl ?_
          rw [eO, eA]
          generalize hop : hI h (t + 4) k = op at hst ⊢
          generalize hwi : hI h (t + 5) k = wi at hst ⊢
          have next : ∀ (k1 n1 : Nat) (f1 : Nat → Int64), q = false → (k2, n2, f2) = (k1 + 1, n1, f1) → n1 ≤ 50 → k1 + 1 < 2 ^ 31 → Wp E mX7_reckon (Rm 1 0 0) (Qm E (pRk h x (if bk = true then -9223372036854775808 else if 0 < n' then f' 0 else 1)) 0 0) 294 [(0, .ref (x + 1)), (1, .ref t), (2, .int ci), (3, .int pi), (4, .ref aw), (5, .int (nI at0)), (6, .int (nI b)), (7, .int (nI k1))] [] (rkH h x n1 f1) 0 0 := by
            intro k1 n1 f1 hqf he hn1 hk1
            obtain ⟨hr2, hN⟩ := hq0 hqf
            obtain ⟨i1, i2, i3⟩ : k2 = k1 + 1 ∧ n2 = n1 ∧ f2 = f1 := by simpa using he
            rw [i1, i2, i3] at hr2
            have e9 : N' = N := by omega
            rw [e9] at hr2
            refine r_iinc (pc := 294) (v := _ + (1)) (lv' := [(0, _), (1, _), (2, _), (3, _), (4, _), (5, _), (6, _), (7, _)]) 7 dX7_reckon_294 rfl rfl (Nat.le_of_ble_eq_true rfl) rfl ?_
            refine r_goto (pc := 297) (tgt := 60) dX7_reckon_297 (by decide) ?_
            rw [nI_1]
            exact IH (k1 + 1) n1 f1 hr2 hn1 hk1
          refine r_iload (pc := 85) 8 dX7_reckon_85 rfl ?_
          refine r_sipush (pc := 87) (300) dX7_reckon_87 rfl ?_
          refine r_icmp_ne (pc := 90) (tgt := 103) dX7_reckon_90 (by decide) (fun c_90 => ?_) (fun c_90 => ?_)
          · rw [if_neg c_90] at hst
            refine r_iload (pc := 103) 8 dX7_reckon_103 rfl ?_
            refine r_sipush (pc := 105) (303) dX7_reckon_105 rfl ?_
            refine r_icmp_ne (pc := 108) (tgt := 143) dX7_reckon_108 (by decide) (fun c_108 => ?_) (fun c_108 => ?_)
            · rw [if_neg c_108] at hst
              have leap : (op = 256 ∨ op = 257) → Wp E mX7_reckon (Rm 1 0 0) (Qm E (pRk h x (if bk = true then -9223372036854775808 else if 0 < n' then f' 0 else 1)) 0 0) 159 [(0, .ref (x + 1)), (1, .ref t), (2, .int ci), (3, .int pi), (4, .ref aw), (5, .int (nI at0)), (6, .int (nI b)), (7, .int (nI k)), (8, .int op), (9, .int wi)] [] (rkH h x n f) 0 0 := by
                intro hop2
                rw [if_pos hop2] at hst
                by_cases hn1 : 1 ≤ n ∧ n ≤ 50
                · rw [if_pos hn1] at hst
                  have at194 : ∀ g : Bool, g = decide (f (n - 1) = 1 ↔ op = 256) → Wp E mX7_reckon (Rm 1 0 0) (Qm E (pRk h x (if bk = true then -9223372036854775808 else if 0 < n' then f' 0 else 1)) 0 0) 194 [(0, .ref (x + 1)), (1, .ref t), (2, .int ci), (3, .int pi), (4, .ref aw), (5, .int (nI at0)), (6, .int (nI b)), (7, .int (nI k)), (8, .int op), (9, .int wi)] [.int (bI g)] (rkH h x (n - 1) f) 0 0 := by
                    intro g hg
                    cases g with
                    | false =>
                      rw [if_neg (of_decide_eq_false hg.symm)] at hst
                      obtain ⟨s1, s2, s3, s4⟩ : false = q ∧ k + 1 = k2 ∧ n - 1 = n2 ∧ f = f2 := by simpa using hst
                      refine r_istore (pc := 194) (lv' := [(0, _), (1, _), (2, _), (3, _), (4, _), (5, _), (6, _), (7, _), (8, _), (9, _), (10, _)]) dX7_reckon_194 (Nat.le_of_ble_eq_true rfl) rfl ?_
                      refine r_iload (pc := 196) 10 dX7_reckon_196 rfl ?_
                      refine r_if_eq (pc := 198) (tgt := 229) dX7_reckon_198 (by decide) (fun c_198 => ?_) (fun c_198 => ?_)
                      · refine r_goto (pc := 229) (tgt := 294) dX7_reckon_229 (by decide) ?_
                        refine r_sub [0, 1, 2, 3, 4, 5, 6, 7] rfl ?_
                        exact next k (n - 1) f s1.symm (by rw [s2, s3, s4]) (by omega) (by omega)
                      · exact absurd (show bI false = 0 from rfl) c_198
                    | true =>
                      rw [if_pos (of_decide_eq_true hg.symm)] at hst
                      by_cases hwk : nI (k + 1) ≤ wi
                      · rw [if_pos hwk] at hst
                        have hst2 := Option.some.inj hst
                        obtain ⟨w, hw31, ew⟩ := nI_of (x := wi) (fun z => absurd (Int32.lt_of_le_of_lt hwk z) (nI_pos (by omega)))
                        rw [ew] at hwk
                        have hkw : k + 1 ≤ w := (nI_leI (by omega) hw31).mp hwk
                        have emax : maxI (nI k) (wi - 1) = nI (w - 1) := by
                          rw [ew, show nI w - 1 = nI (w - 1) from nI_sub (a := w) (b := 1) (by omega)]
                          unfold maxI
                          split
                          · rfl
                          · next hno =>
                            have : ¬ k < w - 1 := fun z => hno (nI_lt z (by omega))
                            rw [show k = w - 1 by omega]
                        have at215 : ∀ v : Int64, v = (if op = 256 then 1 else 0) → Wp E mX7_reckon (Rm 1 0 0) (Qm E (pRk h x (if bk = true then -9223372036854775808 else if 0 < n' then f' 0 else 1)) 0 0) 215 [(0, .ref (x + 1)), (1, .ref t), (2, .int ci), (3, .int pi), (4, .ref aw), (5, .int (nI at0)), (6, .int (nI b)), (7, .int (nI k)), (8, .int op), (9, .int wi), (10, .int (bI true))] [.long v, .ref (x + 1)] (rkH h x (n - 1) f) 0 0 := by
                          intro v hv
                          refine r_dV0 (pc := 215) (As := [_]) mv_X7_push ml_X7_42 (c7_push hc (by omega) _) (ca_1 hc) rfl rfl (Nat.le_of_ble_eq_true rfl) (Nat.le_of_ble_eq_true rfl) (Nat.le_of_ble_eq_true rfl) (Nat.le_of_ble_eq_true rfl) (Nat.le_of_ble_eq_true rfl) dX7_reckon_215 ?_
                          refine r_iload (pc := 218) 7 dX7_reckon_218 rfl ?_
                          refine r_iload (pc := 220) 9 dX7_reckon_220 rfl ?_
                          refine r_iconst (pc := 222) (1) dX7_reckon_222 rfl ?_
                          refine r_isub (pc := 223) dX7_reckon_223 ?_
                          refine r_maxI (pc := 224) ml_X7_52 (Nat.le_of_ble_eq_true rfl) (Nat.le_of_ble_eq_true rfl) (Nat.le_of_ble_eq_true rfl) (Nat.le_of_ble_eq_true rfl) (Nat.le_of_ble_eq_true rfl) dX7_reckon_224 ?_
                          rw [emax, show n - 1 + 1 = n by omega]
                          refine r_istore (pc := 227) (lv' := [(0, _), (1, _), (2, _), (3, _), (4, _), (5, _), (6, _), (7, _), (8, _), (9, _), (10, _)]) dX7_reckon_227 (Nat.le_of_ble_eq_true rfl) rfl ?_
                          refine r_goto (pc := 229) (tgt := 294) dX7_reckon_229 (by decide) ?_
                          refine r_sub [0, 1, 2, 3, 4, 5, 6, 7] rfl ?_
                          exact next (w - 1) n _ (congrArg Prod.fst hst2).symm (by have z := (congrArg Prod.snd hst2).symm; rw [ew, nI_clamp hw31] at z; rw [show w - 1 + 1 = w by omega]; rw [← hv] at z; exact z) hn1.2 (by omega)
                        refine r_istore (pc := 194) (lv' := [(0, _), (1, _), (2, _), (3, _), (4, _), (5, _), (6, _), (7, _), (8, _), (9, _), (10, _)]) dX7_reckon_194 (Nat.le_of_ble_eq_true rfl) rfl ?_
                        refine r_iload (pc := 196) 10 dX7_reckon_196 rfl ?_
                        refine r_if_eq (pc := 198) (tgt := 229) dX7_reckon_198 (by decide) (fun c_198 => ?_) (fun c_198 => ?_)
                        · exact absurd (show bI true = 0 from c_198) (by decide)
                        · refine r_aload_n (pc := 201) 0 dX7_reckon_201 rfl ?_
                          refine r_iload (pc := 202) 8 dX7_reckon_202 rfl ?_
                          refine r_sipush (pc := 204) (256) dX7_reckon_204 rfl ?_
                          refine r_icmp_ne (pc := 207) (tgt := 214) dX7_reckon_207 (by decide) (fun c_207 => ?_) (fun c_207 => ?_)
                          · refine r_lconst (pc := 214) (0) dX7_reckon_214 rfl ?_
                            exact at215 0 (by rw [if_neg c_207])
                          · refine r_lconst (pc := 210) (1) dX7_reckon_210 rfl ?_
                            refine r_goto (pc := 211) (tgt := 215) dX7_reckon_211 (by decide) ?_
                            exact at215 1 (by rw [if_pos c_207])
                      · rw [if_neg hwk] at hst; cases hst
                  have at173 : ∀ g1 : Bool, g1 = decide (f (n - 1) = 1) → Wp E mX7_reckon (Rm 1 0 0) (Qm E (pRk h x (if bk = true then -9223372036854775808 else if 0 < n' then f' 0 else 1)) 0 0) 173 [(0, .ref (x + 1)), (1, .ref t), (2, .int ci), (3, .int pi), (4, .ref aw), (5, .int (nI at0)), (6, .int (nI b)), (7, .int (nI k)), (8, .int op), (9, .int wi)] [.int (bI g1)] (rkH h x (n - 1) f) 0 0 := by
                    intro g1 hg1
                    have at186 : ∀ g2 : Bool, g2 = decide (op = 256) → Wp E mX7_reckon (Rm 1 0 0) (Qm E (pRk h x (if bk = true then -9223372036854775808 else if 0 < n' then f' 0 else 1)) 0 0) 186 [(0, .ref (x + 1)), (1, .ref t), (2, .int ci), (3, .int pi), (4, .ref aw), (5, .int (nI at0)), (6, .int (nI b)), (7, .int (nI k)), (8, .int op), (9, .int wi)] [.int (bI g2), .int (bI g1)] (rkH h x (n - 1) f) 0 0 := by
                      intro g2 hg2
                      have hgg : decide (g1 = g2) = decide (f (n - 1) = 1 ↔ op = 256) := by
                        rw [hg1, hg2]
                        by_cases z1 : f (n - 1) = 1 <;> by_cases z2 : op = 256 <;> simp [z1, z2]
                      refine r_icmp_ne (pc := 186) (tgt := 193) dX7_reckon_186 (by decide) (fun c_186 => ?_) (fun c_186 => ?_)
                      · refine r_iconst (pc := 193) (0) dX7_reckon_193 rfl ?_
                        exact at194 false (by rw [← hgg, decide_eq_false (fun z => c_186 (by rw [z]))])
                      · refine r_iconst (pc := 189) (1) dX7_reckon_189 rfl ?_
                        refine r_goto (pc := 190) (tgt := 194) dX7_reckon_190 (by decide) ?_
                        exact at194 true (by rw [← hgg, decide_eq_true (by cases g1 <;> cases g2 <;> first | rfl | exact absurd c_186 (by decide))])
                    refine r_iload (pc := 173) 8 dX7_reckon_173 rfl ?_
                    refine r_sipush (pc := 175) (256) dX7_reckon_175 rfl ?_
                    refine r_icmp_ne (pc := 178) (tgt := 185) dX7_reckon_178 (by decide) (fun c_178 => ?_) (fun c_178 => ?_)
                    · refine r_iconst (pc := 185) (0) dX7_reckon_185 rfl ?_
                      exact at186 false (by rw [decide_eq_false c_178])
                    · refine r_iconst (pc := 181) (1) dX7_reckon_181 rfl ?_
                      refine r_goto (pc := 182) (tgt := 186) dX7_reckon_182 (by decide) ?_
                      exact at186 true (by rw [decide_eq_true c_178])
                  refine r_aload_n (pc := 159) 0 dX7_reckon_159 rfl ?_
                  refine r_dV (pc := 160) (As := []) mv_X7_pop ml_X7_48 (c7_pop hc hn1.1 hn1.2) (ca_1 hc) rfl rfl (Nat.le_of_ble_eq_true rfl) (Nat.le_of_ble_eq_true rfl) (Nat.le_of_ble_eq_true rfl) (Nat.le_of_ble_eq_true rfl) (Nat.le_of_ble_eq_true rfl) dX7_reckon_160 ?_
                  refine r_lconst (pc := 163) (1) dX7_reckon_163 rfl ?_
                  refine r_lcmp_ne (pc := 164) (tgt := 172) dX7_reckon_164 dX7_reckon_165 (by decide) (fun c_164 => ?_) (fun c_164 => ?_)
                  · refine r_iconst (pc := 172) (0) dX7_reckon_172 rfl ?_
                    exact at173 false (by rw [decide_eq_false c_164])
                  · refine r_iconst (pc := 168) (1) dX7_reckon_168 rfl ?_
                    refine r_goto (pc := 169) (tgt := 173) dX7_reckon_169 (by decide) ?_
                    exact at173 true (by rw [decide_eq_true c_164])
                · rw [if_neg hn1] at hst; cases hst
              refine r_iload (pc := 143) 8 dX7_reckon_143 rfl ?_
              refine r_sipush (pc := 145) (256) dX7_reckon_145 rfl ?_
              refine r_icmp_eq (pc := 148) (tgt := 159) dX7_reckon_148 (by decide) (fun c_148 => ?_) (fun c_148 => ?_)
              · exact leap (Or.inl c_148)
              · refine r_iload (pc := 151) 8 dX7_reckon_151 rfl ?_
                refine r_sipush (pc := 153) (257) dX7_reckon_153 rfl ?_
                refine r_icmp_ne (pc := 156) (tgt := 232) dX7_reckon_156 (by decide) (fun c_156 => ?_) (fun c_156 => ?_)
                · rw [if_neg (fun z => z.elim c_148 c_156)] at hst
                  have at264 : ∀ (v last : Int64) (n1 : Nat) (f1 : Nat → Int64), n1 < 50 → (q, k2, n2, f2) = (outB v, k + 1, n1 + 1, va_up f1 n1 v) ∨ (outB v = true ∧ q = true) → Wp E mX7_reckon (Rm 1 0 0) (Qm E (pRk h x (if bk = true then -9223372036854775808 else if 0 < n' then f' 0 else 1)) 0 0) 264 [(0, .ref (x + 1)), (1, .ref t), (2, .int ci), (3, .int pi), (4, .ref aw), (5, .int (nI at0)), (6, .int (nI b)), (7, .int (nI k)), (8, .int op), (9, .int wi), (10, .long last)] [.long v] (rkH h x n1 f1) 0 0 := by
                    intro v last n1 f1 hn1 hv
                    have brk : outB v = true → Wp E mX7_reckon (Rm 1 0 0) (Qm E (pRk h x (if bk = true then -9223372036854775808 else if 0 < n' then f' 0 else 1)) 0 0) 284 [(0, .ref (x + 1)), (1, .ref t), (2, .int ci), (3, .int pi), (4, .ref aw), (5, .int (nI at0)), (6, .int (nI b)), (7, .int (nI k)), (8, .int op), (9, .int wi), (10, .long last), (12, .long v)] [] (rkH h x n1 f1) 0 0 := by
                      intro hout
                      have hqt : q = true := by
                        rcases hv with hv | hv
                        · have := congrArg Prod.fst hv; rw [hout] at this; exact this
                        · exact hv.2
                      have hrr := hq1 hqt
                      have hbk : bk = true := congrArg Prod.fst hrr
                      rw [hbk]
                      refine r_ldc2_w (pc := 284) cs_X7_21 dX7_reckon_284 ?_
                      refine r_lret (pc := 287) rfl ?_ (Nat.le_of_ble_eq_true rfl) (Nat.le_of_ble_eq_true rfl) dX7_reckon_287
                      exact ⟨by rw [if_pos rfl], n1, f1, rfl⟩
                    refine r_lstore (pc := 264) (lv' := [(0, _), (1, _), (2, _), (3, _), (4, _), (5, _), (6, _), (7, _), (8, _), (9, _), (10, _), (12, _)]) dX7_reckon_264 (Nat.le_of_ble_eq_true rfl) rfl ?_
                    refine r_lload (pc := 266) 11 dX7_reckon_266 rfl ?_
                    refine r_ldc2_w (pc := 268) cs_X7_59 dX7_reckon_268 ?_
                    refine r_lcmp_gt (pc := 271) (tgt := 284) dX7_reckon_271 dX7_reckon_272 (by decide) (fun c_271 => ?_) (fun c_271 => ?_)
                    · exact brk (out_t (Or.inl c_271))
                    · refine r_lload (pc := 275) 11 dX7_reckon_275 rfl ?_
                      refine r_ldc2_w (pc := 277) cs_X7_61 dX7_reckon_277 ?_
                      refine r_lcmp_ge (pc := 280) (tgt := 288) dX7_reckon_280 dX7_reckon_281 (by decide) (fun c_280 => ?_) (fun c_280 => ?_)
                      · have hout := out_f (Int64.not_lt.mp c_271) c_280
                        rcases hv with hv | hv
                        · rw [hout] at hv
                          refine r_aload_n (pc := 288) 0 dX7_reckon_288 rfl ?_
                          refine r_lload (pc := 289) 11 dX7_reckon_289 rfl ?_
                          refine r_dV0 (pc := 291) (As := [_]) mv_X7_push ml_X7_42 (c7_push hc hn1 _) (ca_1 hc) rfl rfl (Nat.le_of_ble_eq_true rfl) (Nat.le_of_ble_eq_true rfl) (Nat.le_of_ble_eq_true rfl) (Nat.le_of_ble_eq_true rfl) (Nat.le_of_ble_eq_true rfl) dX7_reckon_291 ?_
                          refine r_sub [0, 1, 2, 3, 4, 5, 6, 7] rfl ?_
                          exact next k (n1 + 1) _ (congrArg Prod.fst hv) (congrArg Prod.snd hv) (by omega) (by omega)
                        · rw [hout] at hv; exact absurd hv.1 (by decide)
                      · exact brk (out_t (Or.inr (Int64.not_le.mp c_280)))
                  have hpop : 1 ≤ n ∧ n ≤ 50 := by
                    by_cases z : op = 258
                    · rw [if_pos z] at hst
                      by_cases y : 1 ≤ n ∧ n ≤ 50
                      · exact y
                      · rw [if_neg y] at hst; cases hst
                    · rw [if_neg z] at hst
                      by_cases y : ¬ copO op = 0
                      · rw [if_pos y] at hst
                        by_cases w : 2 ≤ n ∧ n ≤ 50
                        · omega
                        · rw [if_neg w] at hst; cases hst
                      · rw [if_neg y] at hst; cases hst
                  refine r_aload_n (pc := 232) 0 dX7_reckon_232 rfl ?_
                  refine r_dV (pc := 233) (As := []) mv_X7_pop ml_X7_48 (c7_pop hc hpop.1 hpop.2) (ca_1 hc) rfl rfl (Nat.le_of_ble_eq_true rfl) (Nat.le_of_ble_eq_true rfl) (Nat.le_of_ble_eq_true rfl) (Nat.le_of_ble_eq_true rfl) (Nat.le_of_ble_eq_true rfl) dX7_reckon_233 ?_
                  refine r_lstore (pc := 236) (lv' := [(0, _), (1, _), (2, _), (3, _), (4, _), (5, _), (6, _), (7, _), (8, _), (9, _), (10, _)]) dX7_reckon_236 (Nat.le_of_ble_eq_true rfl) rfl ?_
                  refine r_iload (pc := 238) 8 dX7_reckon_238 rfl ?_
                  refine r_sipush (pc := 240) (258) dX7_reckon_240 rfl ?_
                  refine r_icmp_ne (pc := 243) (tgt := 253) dX7_reckon_243 (by decide) (fun c_243 => ?_) (fun c_243 => ?_)
                  · rw [if_neg c_243] at hst
                    by_cases hcop : ¬ copO op = 0
                    · rw [if_pos hcop] at hst
                      by_cases h2 : 2 ≤ n ∧ n ≤ 50
                      · rw [if_pos h2] at hst
                        refine r_iload (pc := 253) 8 dX7_reckon_253 rfl ?_
                        refine r_aload_n (pc := 255) 0 dX7_reckon_255 rfl ?_
                        refine r_dV (pc := 256) (As := []) mv_X7_pop ml_X7_48 (c7_pop hc (by omega) (by omega)) (ca_1 hc) rfl rfl (Nat.le_of_ble_eq_true rfl) (Nat.le_of_ble_eq_true rfl) (Nat.le_of_ble_eq_true rfl) (Nat.le_of_ble_eq_true rfl) (Nat.le_of_ble_eq_true rfl) dX7_reckon_256 ?_
                        refine r_lload (pc := 259) 10 dX7_reckon_259 rfl ?_
                        refine r_dS (pc := 261) (As := [_, _, _]) ms_X7_joined ml_X7_55 (ct_joined hcop _ _) rfl rfl (Nat.le_of_ble_eq_true rfl) (Nat.le_of_ble_eq_true rfl) (Nat.le_of_ble_eq_true rfl) (Nat.le_of_ble_eq_true rfl) (Nat.le_of_ble_eq_true rfl) dX7_reckon_261 ?_
                        rw [show n - 1 - 1 = n - 2 by omega]
                        refine at264 _ _ (n - 2) f (by omega) ?_
                        cases hb : rkD (copO op) (f (n - 1)) with
                        | true =>
                          refine Or.inr ⟨?_, ?_⟩
                          · rw [jV_out]; unfold rkB; rw [hb]; rfl
                          · have z : rkB (copO op) (f (n - 2)) (f (n - 1)) = q := congrArg Prod.fst (Option.some.inj hst)
                            rw [← z]; unfold rkB; rw [hb]; rfl
                        | false =>
                          refine Or.inl ?_
                          rw [jV_out, ← Option.some.inj hst, show n - 2 + 1 = n - 1 by omega]
                          unfold jV
                          rw [hb, if_neg (by decide)]
                      · rw [if_neg h2] at hst; cases hst
                    · rw [if_neg hcop] at hst; cases hst
                  · rw [if_pos c_243, if_pos hpop] at hst
                    refine r_lconst (pc := 246) (1) dX7_reckon_246 rfl ?_
                    refine r_lload (pc := 247) 10 dX7_reckon_247 rfl ?_
                    refine r_lsub (pc := 249) dX7_reckon_249 ?_
                    refine r_goto (pc := 250) (tgt := 264) dX7_reckon_250 (by decide) ?_
                    refine at264 _ _ (n - 1) f (by omega) (Or.inl ?_)
                    rw [← Option.some.inj hst, show n - 1 + 1 = n by omega]
                · exact leap (Or.inr c_156)
            · rw [if_pos c_108] at hst
              by_cases hnw : n < 50 ∧ inN wi wl = true
              · rw [if_pos hnw] at hst
                have hst2 := Option.some.inj hst
                obtain ⟨w, hw, ew⟩ := inN_of hwl hnw.2
                have eW : hI (rkH h x n f) aw w = hI h aw w := by rw [rk_I (by omega)]
                refine r_aload_n (pc := 111) 0 dX7_reckon_111 rfl ?_
                refine r_iload (pc := 112) 9 dX7_reckon_112 rfl ?_
                refine r_if_lt (pc := 114) (tgt := 134) dX7_reckon_114 (by decide) (fun c_114 => ?_) (fun c_114 => ?_)
                · rw [ew] at c_114; exact absurd c_114 (nI_pos (by omega))
                · refine r_iload (pc := 117) 9 dX7_reckon_117 rfl ?_
                  refine r_aload (pc := 119) 4 dX7_reckon_119 rfl ?_
                  refine r_alen (pc := 121) (hR) (by decide) dX7_reckon_121 ?_
                  refine r_icmp_ge (pc := 122) (tgt := 134) dX7_reckon_122 (by decide) (fun c_122 => ?_) (fun c_122 => ?_)
                  · rw [ew] at c_122; exact absurd c_122 (nI_ge hw hwl)
                  · refine r_aload (pc := 125) 4 dX7_reckon_125 rfl ?_
                    refine r_iload (pc := 127) 9 dX7_reckon_127 rfl ?_
                    refine r_iald (pc := 129) (j := w) (hR) ew (by omega) (by omega) dX7_reckon_129 ?_
                    refine r_i2l (pc := 130) dX7_reckon_130 ?_
                    refine r_goto (pc := 131) (tgt := 137) dX7_reckon_131 (by decide) ?_
                    rw [eW]
                    refine r_dV0 (pc := 137) (As := [_]) mv_X7_push ml_X7_42 (c7_push hc hnw.1 _) (ca_1 hc) rfl rfl (Nat.le_of_ble_eq_true rfl) (Nat.le_of_ble_eq_true rfl) (Nat.le_of_ble_eq_true rfl) (Nat.le_of_ble_eq_true rfl) (Nat.le_of_ble_eq_true rfl) dX7_reckon_137 ?_
                    refine r_goto (pc := 140) (tgt := 294) dX7_reckon_140 (by decide) ?_
                    refine r_sub [0, 1, 2, 3, 4, 5, 6, 7] rfl ?_
                    exact next k (n + 1) _ (congrArg Prod.fst hst2).symm (by have z := (congrArg Prod.snd hst2).symm; rw [ew, nI_clamp (by omega)] at z; exact z) (by omega) (by omega)
              · rw [if_neg hnw] at hst; cases hst
          · rw [if_pos c_90] at hst
            by_cases hn1 : n < 50
            · rw [if_pos hn1] at hst
              have hst2 := Option.some.inj hst
              refine r_aload_n (pc := 93) 0 dX7_reckon_93 rfl ?_
              refine r_iload (pc := 94) 9 dX7_reckon_94 rfl ?_
              refine r_i2l (pc := 96) dX7_reckon_96 ?_
              refine r_dV0 (pc := 97) (As := [_]) mv_X7_push ml_X7_42 (c7_push hc hn1 _) (ca_1 hc) rfl rfl (Nat.le_of_ble_eq_true rfl) (Nat.le_of_ble_eq_true rfl) (Nat.le_of_ble_eq_true rfl) (Nat.le_of_ble_eq_true rfl) (Nat.le_of_ble_eq_true rfl) dX7_reckon_97 ?_
              refine r_goto (pc := 100) (tgt := 294) dX7_reckon_100 (by decide) ?_
              refine r_sub [0, 1, 2, 3, 4, 5, 6, 7] rfl ?_
              exact next k (n + 1) _ (congrArg Prod.fst hst2).symm (congrArg Prod.snd hst2).symm (by omega) (by omega)
            · rw [if_neg hn1] at hst; cases hst
      · obtain ⟨e1, e2, e3⟩ : bk = false ∧ n' = n ∧ f' = f := by have e := cRun_end hk hrk; simpa using e
        refine r_iload (pc := 60) 7 dX7_reckon_60 rfl ?_
        refine r_iload (pc := 62) 6 dX7_reckon_62 rfl ?_
        refine r_icmp_ge (pc := 64) (tgt := 300) dX7_reckon_64 (by decide) (fun c_64 => ?_) (fun c_64 => ?_)
        · refine r_aload_n (pc := 300) 0 dX7_reckon_300 rfl ?_
          refine r_getI (pc := 301) fl_X7_33 (ca_1 hc) dX7_reckon_301 ?_
          refine r_if_le (pc := 304) (tgt := 316) dX7_reckon_304 (by decide) (fun c_304 => ?_) (fun c_304 => ?_)
          · rw [rk_h] at c_304
            have hz : n = 0 := by
              rcases Nat.eq_zero_or_pos n with z | z
              · exact z
              · exact absurd c_304 (nI_nle z (by omega))
            refine r_lconst (pc := 316) (1) dX7_reckon_316 rfl ?_
            refine r_lret (pc := 317) rfl ?_ (Nat.le_of_ble_eq_true rfl) (Nat.le_of_ble_eq_true rfl) dX7_reckon_317
            exact ⟨by rw [e1, if_neg (by decide), if_neg (by omega)], n, f, rfl⟩
          · rw [rk_h] at c_304
            have hz : 0 < n := Nat.pos_of_ne_zero (fun z => c_304 (by rw [z]; decide))
            refine r_aload_n (pc := 307) 0 dX7_reckon_307 rfl ?_
            refine r_getR (pc := 308) fl_X7_9 (ca_1 hc) (cf_1_0 hc) dX7_reckon_308 ?_
            refine r_iconst (pc := 311) (0) dX7_reckon_311 rfl ?_
            refine r_lald (pc := 312) (j := 0) (cr_2 hc) rfl (by decide) (by decide) dX7_reckon_312 ?_
            refine r_goto (pc := 313) (tgt := 317) dX7_reckon_313 (by decide) ?_
            refine r_lret (pc := 317) rfl ?_ (Nat.le_of_ble_eq_true rfl) (Nat.le_of_ble_eq_true rfl) dX7_reckon_317
            exact ⟨by rw [e1, e2, e3, if_neg (by decide), if_pos hz, rk_s], n, f, rfl⟩
        · exact absurd (nI_le (by omega) hk31) c_64
  refine r_iload_n (pc := 0) 2 dX7_reckon_0 rfl ?_
  refine r_iconst (pc := 1) (3) dX7_reckon_1 rfl ?_
  refine r_imul (pc := 2) dX7_reckon_2 ?_
  refine r_iload_n (pc := 3) 3 dX7_reckon_3 rfl ?_
  refine r_iadd (pc := 4) dX7_reckon_4 ?_
  refine r_istore (pc := 5) (lv' := [(0, _), (1, _), (2, _), (3, _), (4, _), (5, _)]) dX7_reckon_5 (Nat.le_of_ble_eq_true rfl) rfl ?_
  rw [hat]
  have fin : Wp E mX7_reckon (Rm 1 0 0) (Qm E (pRk h x (if bk = true then -9223372036854775808 else if 0 < n' then f' 0 else 1)) 0 0) 28 [(0, .ref (x + 1)), (1, .ref t), (2, .int ci), (3, .int pi), (4, .ref aw), (5, .int (nI at0))] [] h 0 0 := by
    refine r_aload_n (pc := 28) 1 dX7_reckon_28 rfl ?_
    refine r_getR (pc := 29) fl_X7_15 (tx_is htx) (tx_f3 htx) dX7_reckon_29 ?_
    refine r_iload (pc := 32) 5 dX7_reckon_32 rfl ?_
    refine r_iconst (pc := 34) (1) dX7_reckon_34 rfl ?_
    refine r_iadd (pc := 35) dX7_reckon_35 ?_
    refine r_iald (pc := 36) (j := at0 + 1) (tx_r3 htx) (by simp only [fa_lit, nI_add, nI_mul]) (by omega) (by decide) dX7_reckon_36 ?_
    refine r_aload_n (pc := 37) 1 dX7_reckon_37 rfl ?_
    refine r_getI (pc := 38) fl_X7_23 (tx_is htx) dX7_reckon_38 ?_
    refine r_minI (pc := 41) ml_X7_27 (Nat.le_of_ble_eq_true rfl) (Nat.le_of_ble_eq_true rfl) (Nat.le_of_ble_eq_true rfl) (Nat.le_of_ble_eq_true rfl) (Nat.le_of_ble_eq_true rfl) dX7_reckon_41 ?_
    rw [eb, es]
    have emin : minI (nI b) (nI sz) = nI b := by
      unfold minI
      rw [if_neg (nI_nlt hbs (by omega))]
    rw [emin]
    refine r_istore (pc := 44) (lv' := [(0, _), (1, _), (2, _), (3, _), (4, _), (5, _), (6, _)]) dX7_reckon_44 (Nat.le_of_ble_eq_true rfl) rfl ?_
    refine r_aload_n (pc := 46) 0 dX7_reckon_46 rfl ?_
    refine r_iconst (pc := 47) (0) dX7_reckon_47 rfl ?_
    refine r_putI (pc := 48) fp_X7_33 (ca_1 hc) dX7_reckon_48 ?_
    refine r_aload_n (pc := 51) 1 dX7_reckon_51 rfl ?_
    refine r_getR (pc := 52) fl_X7_15 (tx_is htx) (tx_f3 htx) dX7_reckon_52 ?_
    refine r_iload (pc := 55) 5 dX7_reckon_55 rfl ?_
    refine r_iald (pc := 57) (j := at0) (tx_r3 htx) rfl (by omega) (by decide) dX7_reckon_57 ?_
    refine r_istore (pc := 58) (lv' := [(0, _), (1, _), (2, _), (3, _), (4, _), (5, _), (6, _), (7, _)]) dX7_reckon_58 (Nat.le_of_ble_eq_true rfl) rfl ?_
    have e3 : hI (wI h (x + 1) 1 0) (t + 3) at0 = nI a := by
      show up2 _ _ _ _ _ _ = _
      rw [up2_ne (by omega)]; exact ea
    rw [e3]
    have h0 := loop N a 0 (hJ h (x + 2)) hr (by omega) (by omega)
    unfold rkH at h0
    rw [wRowJ_self] at h0
    exact h0
  refine r_iload (pc := 7) 5 dX7_reckon_7 rfl ?_
  refine r_if_lt (pc := 9) (tgt := 24) dX7_reckon_9 (by decide) (fun c_9 => ?_) (fun c_9 => ?_)
  · exact absurd c_9 (nI_pos (by omega))
  · refine r_iload (pc := 12) 5 dX7_reckon_12 rfl ?_
    refine r_iconst (pc := 14) (1) dX7_reckon_14 rfl ?_
    refine r_iadd (pc := 15) dX7_reckon_15 ?_
    refine r_aload_n (pc := 16) 1 dX7_reckon_16 rfl ?_
    refine r_getR (pc := 17) fl_X7_15 (tx_is htx) (tx_f3 htx) dX7_reckon_17 ?_
    refine r_alen (pc := 20) (tx_r3 htx) (by decide) dX7_reckon_20 ?_
    refine r_icmp_lt (pc := 21) (tgt := 28) dX7_reckon_21 (by decide) (fun c_21 => ?_) (fun c_21 => ?_)
    · exact fin
    · exact absurd (show nI at0 + 1 < nI 37 by rw [nI_1]; exact nI_lt ha37 (by decide)) c_21
end RECK
