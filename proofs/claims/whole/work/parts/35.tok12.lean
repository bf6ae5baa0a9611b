/-! the tokens of a text, and how the reference steps over them -/
section TOK12
variable {E : En} {h : Hp} {m : Nat} {μ : Mu} {l : La}
def isSm (x : Int32) : Bool := decide (97 ≤ x ∧ x ≤ 122)
def isDg (x : Int32) : Bool := decide (48 ≤ x ∧ x ≤ 57)
def isBl (x : Int32) : Bool := decide (x = 32)
/-- the first place, so far from the end or nearer, whose byte is not of a sort -/
def runF (q : Int32 → Bool) (b : Nat → Int32) (n : Nat) : Nat → Nat
  | 0 => n
  | d + 1 => if q (b (n - (d + 1))) = true then runF q b n d else n - (d + 1)
def runE (q : Int32 → Bool) (b : Nat → Int32) (n p : Nat) : Nat := runF q b n (n - p)
theorem runE_y {q : Int32 → Bool} {b : Nat → Int32} {n p : Nat} (hp : p < n) (hq : q (b p) = true) : runE q b n p = runE q b n (p + 1) := by
  unfold runE
  have e : n - p = (n - (p + 1)) + 1 := by omega
  rw [e, runF, show n - (n - (p + 1) + 1) = p by omega, if_pos hq]
theorem runE_n {q : Int32 → Bool} {b : Nat → Int32} {n p : Nat} (hp : p < n) (hq : q (b p) = false) : runE q b n p = p := by
  unfold runE
  have e : n - p = (n - (p + 1)) + 1 := by omega
  rw [e, runF, show n - (n - (p + 1) + 1) = p by omega, if_neg (by rw [hq]; decide)]
theorem runE_e {q : Int32 → Bool} {b : Nat → Int32} {n p : Nat} (hp : n ≤ p) : runE q b n p = n := by
  unfold runE; rw [show n - p = 0 by omega]; rfl
theorem runE_all (q : Int32 → Bool) (b : Nat → Int32) (n : Nat) : ∀ d p, p + d = n → p ≤ runE q b n p ∧ runE q b n p ≤ n ∧ (∀ x, p ≤ x → x < runE q b n p → q (b x) = true) ∧ (runE q b n p < n → q (b (runE q b n p)) = false)
  | 0, p, hp => by
    rw [runE_e (by omega)]
    exact ⟨by omega, Nat.le_refl _, fun x h1 h2 => absurd h2 (by omega), fun z => absurd z (by omega)⟩
  | d + 1, p, hp => by
    cases hq : q (b p) with
    | false =>
      rw [runE_n (by omega) hq]
      exact ⟨Nat.le_refl _, by omega, fun x h1 h2 => absurd h2 (by omega), fun _ => hq⟩
    | true =>
      rw [runE_y (by omega) hq]
      obtain ⟨h1, h2, h3, h4⟩ := runE_all q b n d (p + 1) (by omega)
      refine ⟨by omega, h2, fun x hx hx2 => ?_, h4⟩
      by_cases hxp : x = p
      · rw [hxp]; exact hq
      · exact h3 x (by omega) hx2
theorem runE_ge {q : Int32 → Bool} {b : Nat → Int32} {n p : Nat} (hp : p ≤ n) : p ≤ runE q b n p := (runE_all q b n (n - p) p (by omega)).1
theorem runE_le {q : Int32 → Bool} {b : Nat → Int32} {n p : Nat} (hp : p ≤ n) : runE q b n p ≤ n := (runE_all q b n (n - p) p (by omega)).2.1
theorem runE_in {q : Int32 → Bool} {b : Nat → Int32} {n p x : Nat} (hp : p ≤ n) (h1 : p ≤ x) (h2 : x < runE q b n p) : q (b x) = true := (runE_all q b n (n - p) p (by omega)).2.2.1 x h1 h2
theorem runE_no {q : Int32 → Bool} {b : Nat → Int32} {n p : Nat} (hp : p ≤ n) (hs : runE q b n p < n) : q (b (runE q b n p)) = false := (runE_all q b n (n - p) p (by omega)).2.2.2 hs
/-- so many letters, digits as a number -/
def wpk (b : Nat → Int32) (f : Nat) : Nat → Int64
  | 0 => 0
  | k + 1 => if k < 10 then wpk b f k * 32 + (b (f + k)).toInt64 - 96 else -1
def dpk (b : Nat → Int32) (f : Nat) : Nat → Int64
  | 0 => 0
  | k + 1 => if (1000000 : Int64) < dpk b f k then dpk b f k else dpk b f k * 10 + (b (f + k)).toInt64 - 48
abbrev Tk : Type := Nat × Nat × Int32 × Int64
/-- the token that stands behind a place: from, to, sort, worth -/
def scanF (b : Nat → Int32) (n f : Nat) : Tk :=
  if f = n then (f, f, 0, 0) else if isSm (b f) = true then (f, runE isSm b n f, 1, wpk b f (runE isSm b n f - f)) else if isDg (b f) = true then (f, runE isDg b n f, 2, dpk b f (runE isDg b n f - f)) else (f, f + 1, 3, (b f).toInt64)
def scan (b : Nat → Int32) (n p : Nat) : Tk := scanF b n (runE isBl b n p)
def tkM (μ : Mu) (f t : Nat) (s : Int32) : Mu := up2 (up2 (up2 μ 0 14 (nI f)) 0 15 (nI t)) 0 16 s
def tkW (l : La) (w : Int64) : La := up2 l 0 17 w
theorem tkM_14 {f t : Nat} {s : Int32} : tkM μ f t s 0 14 = nI f := by unfold tkM; rw [up2_ne (by omega), up2_ne (by omega), up2_at]
theorem tkM_15 {f t : Nat} {s : Int32} : tkM μ f t s 0 15 = nI t := by unfold tkM; rw [up2_ne (by omega), up2_at]
theorem tkM_16 {f t : Nat} {s : Int32} : tkM μ f t s 0 16 = s := up2_at
theorem tkM_j {f t : Nat} {s : Int32} {j : Nat} (hj : j ≠ 14) (hk : j ≠ 15) (hs : j ≠ 16) : tkM μ f t s 0 j = μ 0 j := by unfold tkM; rw [up2_ne (by omega), up2_ne (by omega), up2_ne (by omega)]
theorem tkM_o {f t : Nat} {s : Int32} {o : Nat} (ho : o ≠ 0) : tkM μ f t s o = μ o := by funext j; unfold tkM; rw [up2_ne (by omega), up2_ne (by omega), up2_ne (by omega)]
theorem tkM_to {f t t' : Nat} {s : Int32} : up2 (tkM μ f t s) 0 15 (nI t') = tkM μ f t' s := by
  funext o j
  by_cases h1 : o = 0 ∧ j = 15
  · obtain ⟨rfl, rfl⟩ := h1; rw [up2_at, tkM_15]
  · rw [up2_ne h1]; unfold tkM
    by_cases h2 : o = 0 ∧ j = 16
    · obtain ⟨rfl, rfl⟩ := h2; rw [up2_at, up2_at]
    · rw [up2_ne h2, up2_ne h1, up2_ne h2, up2_ne h1]
theorem tkW_w {w w' : Int64} : up2 (tkW l w) 0 17 w' = tkW l w' := up2_up2 _ _ _ _ _
theorem ct_onward (hm : Md E h m) {n p : Nat} (hn : μ 0 13 = nI n) (h4 : n ≤ 400) (hp : μ 0 15 = nI p) (hpn : p ≤ n) : Ct E 1 0 0 mX12_onward [.ref m] (mH h m μ l) (po none (mH h m (tkM μ (scan (μ 9) n p).1 (scan (μ 9) n p).2.1 (scan (μ 9) n p).2.2.1) (tkW l (scan (μ 9) n p).2.2.2))) := by
  refine Ct.of (by decide +kernel) (Nat.le_of_ble_eq_true rfl) ?_
  unfold scan
  have gf := runE_ge (q := isBl) (b := μ 9) hpn
  have lf := runE_le (q := isBl) (b := μ 9) hpn
  have inf := fun x => runE_in (q := isBl) (b := μ 9) (x := x) hpn
  have nof := runE_no (q := isBl) (b := μ 9) hpn
  generalize runE isBl (μ 9) n p = f at gf lf inf nof ⊢
  have end243 : ∀ (t : Nat) (s : Int32) (w : Int64), ¬ s = 2 → (f, t, s, w) = scanF (μ 9) n f → Wp E mX12_onward (Rm 1 0 0) (Qm E (po none (mH h m (tkM μ (scanF (μ 9) n f).1 (scanF (μ 9) n f).2.1 (scanF (μ 9) n f).2.2.1) (tkW l (scanF (μ 9) n f).2.2.2))) 0 0) 243 [(0, .ref m)] [] (mH h m (tkM μ f t s) (tkW l w)) 0 0 := by
    intro t s w hs e
    refine r_aload_n (pc := 243) 0 dX12_onward_243 rfl ?_
    refine q_getI (pc := 244) fl_X12_280 hm dX12_onward_244 ?_
    refine r_iconst (pc := 247) (2) dX12_onward_247 rfl ?_
    refine r_icmp_ne (pc := 248) (tgt := 335) dX12_onward_248 (by decide) (fun c_248 => ?_) (fun c_248 => ?_)
    · refine r_vret (pc := 335) rfl ?_ (Nat.le_of_ble_eq_true rfl) (Nat.le_of_ble_eq_true rfl) dX12_onward_335
      rw [← e]; exact ⟨rfl, rfl⟩
    · rw [tkM_16] at c_248; exact absurd c_248 hs
  have end149 : ∀ (t : Nat) (s : Int32) (w : Int64), ¬ s = 1 → ¬ s = 2 → (f, t, s, w) = scanF (μ 9) n f → Wp E mX12_onward (Rm 1 0 0) (Qm E (po none (mH h m (tkM μ (scanF (μ 9) n f).1 (scanF (μ 9) n f).2.1 (scanF (μ 9) n f).2.2.1) (tkW l (scanF (μ 9) n f).2.2.2))) 0 0) 149 [(0, .ref m)] [] (mH h m (tkM μ f t s) (tkW l w)) 0 0 := by
    intro t s w hs hs2 e
    refine r_aload_n (pc := 149) 0 dX12_onward_149 rfl ?_
    refine q_getI (pc := 150) fl_X12_280 hm dX12_onward_150 ?_
    refine r_iconst (pc := 153) (1) dX12_onward_153 rfl ?_
    refine r_icmp_ne (pc := 154) (tgt := 243) dX12_onward_154 (by decide) (fun c_154 => ?_) (fun c_154 => ?_)
    · exact end243 t s w hs2 e
    · rw [tkM_16] at c_154; exact absurd c_154 hs
  have at117 : ∀ s : Int32, s = (scanF (μ 9) n f).2.2.1 → Wp E mX12_onward (Rm 1 0 0) (Qm E (po none (mH h m (tkM μ (scanF (μ 9) n f).1 (scanF (μ 9) n f).2.1 (scanF (μ 9) n f).2.2.1) (tkW l (scanF (μ 9) n f).2.2.2))) 0 0) 117 [(0, .ref m)] [] (mH h m (tkM μ f f s) (tkW l 0)) 0 0 := by
    intro s hs
    by_cases hfn : f = n
    · have e : scanF (μ 9) n f = (f, f, 0, 0) := by rw [scanF, if_pos hfn]
      replace hs : s = 0 := by rw [hs, e]
      refine r_aload_n (pc := 117) 0 dX12_onward_117 rfl ?_
      refine q_getI (pc := 118) fl_X12_280 hm dX12_onward_118 ?_
      refine r_iconst (pc := 121) (3) dX12_onward_121 rfl ?_
      refine r_icmp_ne (pc := 122) (tgt := 149) dX12_onward_122 (by decide) (fun c_122 => ?_) (fun c_122 => ?_)
      · exact end149 f s 0 (by rw [hs]; decide) (by rw [hs]; decide) (by rw [hs, e])
      · rw [tkM_16, hs] at c_122; exact absurd c_122 (by decide)
    · have hlt : f < n := by omega
      by_cases hsm : isSm (μ 9 f) = true
      · have e : scanF (μ 9) n f = (f, runE isSm (μ 9) n f, 1, wpk (μ 9) f (runE isSm (μ 9) n f - f)) := by rw [scanF, if_neg hfn, if_pos hsm]
        replace hs : s = 1 := by rw [hs, e]
        have g1 := runE_ge (q := isSm) (b := μ 9) (Nat.le_of_lt hlt)
        have l1 := runE_le (q := isSm) (b := μ 9) (Nat.le_of_lt hlt)
        have in1 := fun x => runE_in (q := isSm) (b := μ 9) (x := x) (Nat.le_of_lt hlt)
        have no1 := runE_no (q := isSm) (b := μ 9) (Nat.le_of_lt hlt)
        generalize runE isSm (μ 9) n f = t at g1 l1 in1 no1 e
        have loop : ∀ k, k ≤ t - f → Wp E mX12_onward (Rm 1 0 0) (Qm E (po none (mH h m (tkM μ (scanF (μ 9) n f).1 (scanF (μ 9) n f).2.1 (scanF (μ 9) n f).2.2.1) (tkW l (scanF (μ 9) n f).2.2.2))) 0 0) 149 [(0, .ref m)] [] (mH h m (tkM μ f (f + k) 1) (tkW l (wpk (μ 9) f k))) 0 0 := by
          have e13 : ∀ k, tkM μ f (f + k) 1 0 13 = nI n := fun k => by rw [tkM_j (by decide) (by decide) (by decide)]; exact hn
          have ew : ∀ k, tkW l (wpk (μ 9) f k) 0 17 = wpk (μ 9) f k := fun k => up2_at
          refine upTo (fun k hk ih => ?_) ?_
          · refine r_aload_n (pc := 149) 0 dX12_onward_149 rfl ?_
            refine q_getI (pc := 150) fl_X12_280 hm dX12_onward_150 ?_
            refine r_iconst (pc := 153) (1) dX12_onward_153 rfl ?_
            refine r_icmp_ne (pc := 154) (tgt := 243) dX12_onward_154 (by decide) (fun c_154 => ?_) (fun c_154 => ?_)
            · rw [tkM_16] at c_154; exact absurd rfl c_154
            · refine r_aload_n (pc := 157) 0 dX12_onward_157 rfl ?_
              refine q_getI (pc := 158) fl_X12_257 hm dX12_onward_158 ?_
              refine r_aload_n (pc := 161) 0 dX12_onward_161 rfl ?_
              refine q_getI (pc := 162) fl_X12_248 hm dX12_onward_162 ?_
              refine r_icmp_ge (pc := 165) (tgt := 243) dX12_onward_165 (by decide) (fun c_165 => ?_) (fun c_165 => ?_)
              · rw [e13, tkM_15] at c_165
                exact absurd c_165 (nI_ge (by omega) (by omega))
              · refine r_aload_n (pc := 168) 0 dX12_onward_168 rfl ?_
                refine q_getR (pc := 169) fl_X12_35 hm (md_f12 hm) dX12_onward_169 ?_
                refine r_aload_n (pc := 172) 0 dX12_onward_172 rfl ?_
                refine q_getI (pc := 173) fl_X12_257 hm dX12_onward_173 ?_
                refine q_iald (pc := 176) (j := f + k) (md_r12 hm) (by decide) tkM_15 (by omega) (by decide) dX12_onward_176 ?_
                refine r_dS (pc := 177) (As := [_]) ms_X12_isSmall ml_X12_274 (ct_isSmall _) rfl rfl (Nat.le_of_ble_eq_true rfl) (Nat.le_of_ble_eq_true rfl) (Nat.le_of_ble_eq_true rfl) (Nat.le_of_ble_eq_true rfl) (Nat.le_of_ble_eq_true rfl) dX12_onward_177 ?_
                refine r_if_eq (pc := 180) (tgt := 243) dX12_onward_180 (by decide) (fun c_180 => ?_) (fun c_180 => ?_)
                · rw [tkM_o (by decide)] at c_180
                  have := in1 (f + k) (by omega) (by omega)
                  exact absurd (bI_0.mp c_180) (by rw [show decide _ = isSm (μ 9 (f + k)) from rfl, this]; decide)
                · have es : nI (f + k) - nI f = nI k := by rw [nI_sub (by omega), show f + k - f = k by omega]
                  have fin : ∀ w : Int64, w = wpk (μ 9) f (k + 1) → Wp E mX12_onward (Rm 1 0 0) (Qm E (po none (mH h m (tkM μ (scanF (μ 9) n f).1 (scanF (μ 9) n f).2.1 (scanF (μ 9) n f).2.2.1) (tkW l (scanF (μ 9) n f).2.2.2))) 0 0) 227 [(0, .ref m)] [.long w, .ref m] (mH h m (tkM μ f (f + k) 1) (tkW l (wpk (μ 9) f k))) 0 0 := by
                    rintro w rfl
                    refine q_putJ (pc := 227) fp_X12_270 hm dX12_onward_227 ?_
                    refine r_aload_n (pc := 230) 0 dX12_onward_230 rfl ?_
                    refine r_dup (pc := 231) dX12_onward_231 rfl ?_
                    refine q_getI (pc := 232) fl_X12_257 hm dX12_onward_232 ?_
                    refine r_iconst (pc := 235) (1) dX12_onward_235 rfl ?_
                    refine r_iadd (pc := 236) dX12_onward_236 ?_
                    refine q_putI (pc := 237) fp_X12_257 hm dX12_onward_237 ?_
                    refine r_goto (pc := 240) (tgt := 149) dX12_onward_240 (by decide) ?_
                    rw [tkM_15, nI_1, tkM_to, tkW_w]
                    exact ih
                  refine r_aload_n (pc := 183) 0 dX12_onward_183 rfl ?_
                  refine r_aload_n (pc := 184) 0 dX12_onward_184 rfl ?_
                  refine q_getI (pc := 185) fl_X12_257 hm dX12_onward_185 ?_
                  refine r_aload_n (pc := 188) 0 dX12_onward_188 rfl ?_
                  refine q_getI (pc := 189) fl_X12_267 hm dX12_onward_189 ?_
                  refine r_isub (pc := 192) dX12_onward_192 ?_
                  refine r_bipush (pc := 193) (10) dX12_onward_193 rfl ?_
                  refine r_icmp_ge (pc := 195) (tgt := 224) dX12_onward_195 (by decide) (fun c_195 => ?_) (fun c_195 => ?_)
                  · rw [tkM_15, tkM_14, es] at c_195
                    refine r_ldc2_w (pc := 224) cs_X12_287 dX12_onward_224 ?_
                    refine fin _ ?_
                    rw [wpk, if_neg (fun z => nI_ge (a := k) (b := 10) z (by decide) c_195)]
                  · rw [tkM_15, tkM_14, es] at c_195
                    have hk10 : k < 10 := Nat.not_le.mp (fun z => c_195 (nI_le (a := 10) (b := k) z (by omega)))
                    refine r_aload_n (pc := 198) 0 dX12_onward_198 rfl ?_
                    refine q_getJ (pc := 199) fl_X12_270 hm dX12_onward_199 ?_
                    refine r_ldc2_w (pc := 202) cs_X12_283 dX12_onward_202 ?_
                    refine r_lmul (pc := 205) dX12_onward_205 ?_
                    refine r_aload_n (pc := 206) 0 dX12_onward_206 rfl ?_
                    refine q_getR (pc := 207) fl_X12_35 hm (md_f12 hm) dX12_onward_207 ?_
                    refine r_aload_n (pc := 210) 0 dX12_onward_210 rfl ?_
                    refine q_getI (pc := 211) fl_X12_257 hm dX12_onward_211 ?_
                    refine q_iald (pc := 214) (j := f + k) (md_r12 hm) (by decide) tkM_15 (by omega) (by decide) dX12_onward_214 ?_
                    refine r_i2l (pc := 215) dX12_onward_215 ?_
                    refine r_ladd (pc := 216) dX12_onward_216 ?_
                    refine r_ldc2_w (pc := 217) cs_X12_285 dX12_onward_217 ?_
                    refine r_lsub (pc := 220) dX12_onward_220 ?_
                    refine r_goto (pc := 221) (tgt := 227) dX12_onward_221 (by decide) ?_
                    rw [tkM_o (by decide), ew]
                    refine fin _ ?_
                    rw [wpk, if_pos hk10]
          · have e2 : f + (t - f) = t := by omega
            rw [e2]
            refine r_aload_n (pc := 149) 0 dX12_onward_149 rfl ?_
            refine q_getI (pc := 150) fl_X12_280 hm dX12_onward_150 ?_
            refine r_iconst (pc := 153) (1) dX12_onward_153 rfl ?_
            refine r_icmp_ne (pc := 154) (tgt := 243) dX12_onward_154 (by decide) (fun c_154 => ?_) (fun c_154 => ?_)
            · rw [tkM_16] at c_154; exact absurd rfl c_154
            · refine r_aload_n (pc := 157) 0 dX12_onward_157 rfl ?_
              refine q_getI (pc := 158) fl_X12_257 hm dX12_onward_158 ?_
              refine r_aload_n (pc := 161) 0 dX12_onward_161 rfl ?_
              refine q_getI (pc := 162) fl_X12_248 hm dX12_onward_162 ?_
              refine r_icmp_ge (pc := 165) (tgt := 243) dX12_onward_165 (by decide) (fun c_165 => ?_) (fun c_165 => ?_)
              · exact end243 t 1 _ (by decide) e.symm
              · have e13t : tkM μ f t 1 0 13 = nI n := by rw [← e2]; exact e13 _
                rw [e13t, tkM_15] at c_165
                have htn : t < n := Nat.not_le.mp (fun z => c_165 (nI_le z (by omega)))
                refine r_aload_n (pc := 168) 0 dX12_onward_168 rfl ?_
                refine q_getR (pc := 169) fl_X12_35 hm (md_f12 hm) dX12_onward_169 ?_
                refine r_aload_n (pc := 172) 0 dX12_onward_172 rfl ?_
                refine q_getI (pc := 173) fl_X12_257 hm dX12_onward_173 ?_
                refine q_iald (pc := 176) (j := t) (md_r12 hm) (by decide) tkM_15 (by omega) (by decide) dX12_onward_176 ?_
                refine r_dS (pc := 177) (As := [_]) ms_X12_isSmall ml_X12_274 (ct_isSmall _) rfl rfl (Nat.le_of_ble_eq_true rfl) (Nat.le_of_ble_eq_true rfl) (Nat.le_of_ble_eq_true rfl) (Nat.le_of_ble_eq_true rfl) (Nat.le_of_ble_eq_true rfl) dX12_onward_177 ?_
                refine r_if_eq (pc := 180) (tgt := 243) dX12_onward_180 (by decide) (fun c_180 => ?_) (fun c_180 => ?_)
                · exact end243 t 1 _ (by decide) e.symm
                · rw [tkM_o (by decide)] at c_180
                  have := no1 htn
                  exact absurd (bI_n0.mp c_180) (by rw [show decide _ = isSm (μ 9 t) from rfl, this]; decide)
        refine r_aload_n (pc := 117) 0 dX12_onward_117 rfl ?_
        refine q_getI (pc := 118) fl_X12_280 hm dX12_onward_118 ?_
        refine r_iconst (pc := 121) (3) dX12_onward_121 rfl ?_
        refine r_icmp_ne (pc := 122) (tgt := 149) dX12_onward_122 (by decide) (fun c_122 => ?_) (fun c_122 => ?_)
        · rw [hs]; exact loop 0 (by omega)
        · rw [tkM_16, hs] at c_122; exact absurd c_122 (by decide)
      · by_cases hdg : isDg (μ 9 f) = true
        · have e : scanF (μ 9) n f = (f, runE isDg (μ 9) n f, 2, dpk (μ 9) f (runE isDg (μ 9) n f - f)) := by rw [scanF, if_neg hfn, if_neg hsm, if_pos hdg]
          replace hs : s = 2 := by rw [hs, e]
          have g1 := runE_ge (q := isDg) (b := μ 9) (Nat.le_of_lt hlt)
          have l1 := runE_le (q := isDg) (b := μ 9) (Nat.le_of_lt hlt)
          have in1 := fun x => runE_in (q := isDg) (b := μ 9) (x := x) (Nat.le_of_lt hlt)
          have no1 := runE_no (q := isDg) (b := μ 9) (Nat.le_of_lt hlt)
          generalize runE isDg (μ 9) n f = t at g1 l1 in1 no1 e
          have loop : ∀ k, k ≤ t - f → Wp E mX12_onward (Rm 1 0 0) (Qm E (po none (mH h m (tkM μ (scanF (μ 9) n f).1 (scanF (μ 9) n f).2.1 (scanF (μ 9) n f).2.2.1) (tkW l (scanF (μ 9) n f).2.2.2))) 0 0) 243 [(0, .ref m)] [] (mH h m (tkM μ f (f + k) 2) (tkW l (dpk (μ 9) f k))) 0 0 := by
            have e13 : ∀ k, tkM μ f (f + k) 2 0 13 = nI n := fun k => by rw [tkM_j (by decide) (by decide) (by decide)]; exact hn
            have ew : ∀ k, tkW l (dpk (μ 9) f k) 0 17 = dpk (μ 9) f k := fun k => up2_at
            refine upTo (fun k hk ih => ?_) ?_
            · refine r_aload_n (pc := 243) 0 dX12_onward_243 rfl ?_
              refine q_getI (pc := 244) fl_X12_280 hm dX12_onward_244 ?_
              refine r_iconst (pc := 247) (2) dX12_onward_247 rfl ?_
              refine r_icmp_ne (pc := 248) (tgt := 335) dX12_onward_248 (by decide) (fun c_248 => ?_) (fun c_248 => ?_)
              · rw [tkM_16] at c_248; exact absurd rfl c_248
              · refine r_aload_n (pc := 251) 0 dX12_onward_251 rfl ?_
                refine q_getI (pc := 252) fl_X12_257 hm dX12_onward_252 ?_
                refine r_aload_n (pc := 255) 0 dX12_onward_255 rfl ?_
                refine q_getI (pc := 256) fl_X12_248 hm dX12_onward_256 ?_
                refine r_icmp_ge (pc := 259) (tgt := 335) dX12_onward_259 (by decide) (fun c_259 => ?_) (fun c_259 => ?_)
                · rw [e13, tkM_15] at c_259
                  exact absurd c_259 (nI_ge (by omega) (by omega))
                · refine r_aload_n (pc := 262) 0 dX12_onward_262 rfl ?_
                  refine q_getR (pc := 263) fl_X12_35 hm (md_f12 hm) dX12_onward_263 ?_
                  refine r_aload_n (pc := 266) 0 dX12_onward_266 rfl ?_
                  refine q_getI (pc := 267) fl_X12_257 hm dX12_onward_267 ?_
                  refine q_iald (pc := 270) (j := f + k) (md_r12 hm) (by decide) tkM_15 (by omega) (by decide) dX12_onward_270 ?_
                  refine r_dS (pc := 271) (As := [_]) ms_X12_isDigit ml_X12_277 (ct_isDigit _) rfl rfl (Nat.le_of_ble_eq_true rfl) (Nat.le_of_ble_eq_true rfl) (Nat.le_of_ble_eq_true rfl) (Nat.le_of_ble_eq_true rfl) (Nat.le_of_ble_eq_true rfl) dX12_onward_271 ?_
                  refine r_if_eq (pc := 274) (tgt := 335) dX12_onward_274 (by decide) (fun c_274 => ?_) (fun c_274 => ?_)
                  · rw [tkM_o (by decide)] at c_274
                    have := in1 (f + k) (by omega) (by omega)
                    exact absurd (bI_0.mp c_274) (by rw [show decide _ = isDg (μ 9 (f + k)) from rfl, this]; decide)
                  · have fin : ∀ w : Int64, w = dpk (μ 9) f (k + 1) → Wp E mX12_onward (Rm 1 0 0) (Qm E (po none (mH h m (tkM μ (scanF (μ 9) n f).1 (scanF (μ 9) n f).2.1 (scanF (μ 9) n f).2.2.1) (tkW l (scanF (μ 9) n f).2.2.2))) 0 0) 319 [(0, .ref m)] [.long w, .ref m] (mH h m (tkM μ f (f + k) 2) (tkW l (dpk (μ 9) f k))) 0 0 := by
                      rintro w rfl
                      refine q_putJ (pc := 319) fp_X12_270 hm dX12_onward_319 ?_
                      refine r_aload_n (pc := 322) 0 dX12_onward_322 rfl ?_
                      refine r_dup (pc := 323) dX12_onward_323 rfl ?_
                      refine q_getI (pc := 324) fl_X12_257 hm dX12_onward_324 ?_
                      refine r_iconst (pc := 327) (1) dX12_onward_327 rfl ?_
                      refine r_iadd (pc := 328) dX12_onward_328 ?_
                      refine q_putI (pc := 329) fp_X12_257 hm dX12_onward_329 ?_
                      refine r_goto (pc := 332) (tgt := 243) dX12_onward_332 (by decide) ?_
                      rw [tkM_15, nI_1, tkM_to, tkW_w]
                      exact ih
                    refine r_aload_n (pc := 277) 0 dX12_onward_277 rfl ?_
                    refine r_aload_n (pc := 278) 0 dX12_onward_278 rfl ?_
                    refine q_getJ (pc := 279) fl_X12_270 hm dX12_onward_279 ?_
                    refine r_ldc2_w (pc := 282) cs_X12_289 dX12_onward_282 ?_
                    refine r_lcmp_le (pc := 285) (tgt := 296) dX12_onward_285 dX12_onward_286 (by decide) (fun c_285 => ?_) (fun c_285 => ?_)
                    · rw [ew] at c_285
                      refine r_aload_n (pc := 296) 0 dX12_onward_296 rfl ?_
                      refine q_getJ (pc := 297) fl_X12_270 hm dX12_onward_297 ?_
                      refine r_ldc2_w (pc := 300) cs_X12_242 dX12_onward_300 ?_
                      refine r_lmul (pc := 303) dX12_onward_303 ?_
                      refine r_aload_n (pc := 304) 0 dX12_onward_304 rfl ?_
                      refine q_getR (pc := 305) fl_X12_35 hm (md_f12 hm) dX12_onward_305 ?_
                      refine r_aload_n (pc := 308) 0 dX12_onward_308 rfl ?_
                      refine q_getI (pc := 309) fl_X12_257 hm dX12_onward_309 ?_
                      refine q_iald (pc := 312) (j := f + k) (md_r12 hm) (by decide) tkM_15 (by omega) (by decide) dX12_onward_312 ?_
                      refine r_i2l (pc := 313) dX12_onward_313 ?_
                      refine r_ladd (pc := 314) dX12_onward_314 ?_
                      refine r_ldc2_w (pc := 315) cs_X12_291 dX12_onward_315 ?_
                      refine r_lsub (pc := 318) dX12_onward_318 ?_
                      rw [tkM_o (by decide), ew]
                      refine fin _ ?_
                      rw [dpk, if_neg (Int64.not_lt.mpr c_285)]
                    · rw [ew] at c_285
                      refine r_aload_n (pc := 289) 0 dX12_onward_289 rfl ?_
                      refine q_getJ (pc := 290) fl_X12_270 hm dX12_onward_290 ?_
                      refine r_goto (pc := 293) (tgt := 319) dX12_onward_293 (by decide) ?_
                      rw [ew]
                      refine fin _ ?_
                      rw [dpk, if_pos (Int64.not_le.mp c_285)]
            · have e2 : f + (t - f) = t := by omega
              rw [e2]
              refine r_aload_n (pc := 243) 0 dX12_onward_243 rfl ?_
              refine q_getI (pc := 244) fl_X12_280 hm dX12_onward_244 ?_
              refine r_iconst (pc := 247) (2) dX12_onward_247 rfl ?_
              refine r_icmp_ne (pc := 248) (tgt := 335) dX12_onward_248 (by decide) (fun c_248 => ?_) (fun c_248 => ?_)
              · rw [tkM_16] at c_248; exact absurd rfl c_248
              · refine r_aload_n (pc := 251) 0 dX12_onward_251 rfl ?_
                refine q_getI (pc := 252) fl_X12_257 hm dX12_onward_252 ?_
                refine r_aload_n (pc := 255) 0 dX12_onward_255 rfl ?_
                refine q_getI (pc := 256) fl_X12_248 hm dX12_onward_256 ?_
                refine r_icmp_ge (pc := 259) (tgt := 335) dX12_onward_259 (by decide) (fun c_259 => ?_) (fun c_259 => ?_)
                · refine r_vret (pc := 335) rfl ?_ (Nat.le_of_ble_eq_true rfl) (Nat.le_of_ble_eq_true rfl) dX12_onward_335
                  rw [e]; exact ⟨rfl, rfl⟩
                · have e13t : tkM μ f t 2 0 13 = nI n := by rw [← e2]; exact e13 _
                  rw [e13t, tkM_15] at c_259
                  have htn : t < n := Nat.not_le.mp (fun z => c_259 (nI_le z (by omega)))
                  refine r_aload_n (pc := 262) 0 dX12_onward_262 rfl ?_
                  refine q_getR (pc := 263) fl_X12_35 hm (md_f12 hm) dX12_onward_263 ?_
                  refine r_aload_n (pc := 266) 0 dX12_onward_266 rfl ?_
                  refine q_getI (pc := 267) fl_X12_257 hm dX12_onward_267 ?_
                  refine q_iald (pc := 270) (j := t) (md_r12 hm) (by decide) tkM_15 (by omega) (by decide) dX12_onward_270 ?_
                  refine r_dS (pc := 271) (As := [_]) ms_X12_isDigit ml_X12_277 (ct_isDigit _) rfl rfl (Nat.le_of_ble_eq_true rfl) (Nat.le_of_ble_eq_true rfl) (Nat.le_of_ble_eq_true rfl) (Nat.le_of_ble_eq_true rfl) (Nat.le_of_ble_eq_true rfl) dX12_onward_271 ?_
                  refine r_if_eq (pc := 274) (tgt := 335) dX12_onward_274 (by decide) (fun c_274 => ?_) (fun c_274 => ?_)
                  · refine r_vret (pc := 335) rfl ?_ (Nat.le_of_ble_eq_true rfl) (Nat.le_of_ble_eq_true rfl) dX12_onward_335
                    rw [e]; exact ⟨rfl, rfl⟩
                  · rw [tkM_o (by decide)] at c_274
                    have := no1 htn
                    exact absurd (bI_n0.mp c_274) (by rw [show decide _ = isDg (μ 9 t) from rfl, this]; decide)
          refine r_aload_n (pc := 117) 0 dX12_onward_117 rfl ?_
          refine q_getI (pc := 118) fl_X12_280 hm dX12_onward_118 ?_
          refine r_iconst (pc := 121) (3) dX12_onward_121 rfl ?_
          refine r_icmp_ne (pc := 122) (tgt := 149) dX12_onward_122 (by decide) (fun c_122 => ?_) (fun c_122 => ?_)
          · refine r_aload_n (pc := 149) 0 dX12_onward_149 rfl ?_
            refine q_getI (pc := 150) fl_X12_280 hm dX12_onward_150 ?_
            refine r_iconst (pc := 153) (1) dX12_onward_153 rfl ?_
            refine r_icmp_ne (pc := 154) (tgt := 243) dX12_onward_154 (by decide) (fun c_154 => ?_) (fun c_154 => ?_)
            · rw [hs]; exact loop 0 (by omega)
            · rw [tkM_16, hs] at c_154; exact absurd c_154 (by decide)
          · rw [tkM_16, hs] at c_122; exact absurd c_122 (by decide)
        · have e : scanF (μ 9) n f = (f, f + 1, 3, (μ 9 f).toInt64) := by rw [scanF, if_neg hfn, if_neg hsm, if_neg hdg]
          replace hs : s = 3 := by rw [hs, e]
          refine r_aload_n (pc := 117) 0 dX12_onward_117 rfl ?_
          refine q_getI (pc := 118) fl_X12_280 hm dX12_onward_118 ?_
          refine r_iconst (pc := 121) (3) dX12_onward_121 rfl ?_
          refine r_icmp_ne (pc := 122) (tgt := 149) dX12_onward_122 (by decide) (fun c_122 => ?_) (fun c_122 => ?_)
          · rw [tkM_16, hs] at c_122; exact absurd rfl c_122
          · refine r_aload_n (pc := 125) 0 dX12_onward_125 rfl ?_
            refine r_aload_n (pc := 126) 0 dX12_onward_126 rfl ?_
            refine q_getR (pc := 127) fl_X12_35 hm (md_f12 hm) dX12_onward_127 ?_
            refine r_aload_n (pc := 130) 0 dX12_onward_130 rfl ?_
            refine q_getI (pc := 131) fl_X12_267 hm dX12_onward_131 ?_
            refine q_iald (pc := 134) (j := f) (md_r12 hm) (by decide) tkM_14 (by omega) (by decide) dX12_onward_134 ?_
            refine r_i2l (pc := 135) dX12_onward_135 ?_
            refine q_putJ (pc := 136) fp_X12_270 hm dX12_onward_136 ?_
            refine r_aload_n (pc := 139) 0 dX12_onward_139 rfl ?_
            refine r_dup (pc := 140) dX12_onward_140 rfl ?_
            refine q_getI (pc := 141) fl_X12_257 hm dX12_onward_141 ?_
            refine r_iconst (pc := 144) (1) dX12_onward_144 rfl ?_
            refine r_iadd (pc := 145) dX12_onward_145 ?_
            refine q_putI (pc := 146) fp_X12_257 hm dX12_onward_146 ?_
            rw [tkM_15, nI_1, tkM_to, tkW_w, tkM_o (o := 9) (by decide)]
            exact end149 (f + 1) s _ (by rw [hs]; decide) (by rw [hs]; decide) (by rw [hs, e])
  have at114 : ∀ s : Int32, s = (scanF (μ 9) n f).2.2.1 → Wp E mX12_onward (Rm 1 0 0) (Qm E (po none (mH h m (tkM μ (scanF (μ 9) n f).1 (scanF (μ 9) n f).2.1 (scanF (μ 9) n f).2.2.1) (tkW l (scanF (μ 9) n f).2.2.2))) 0 0) 114 [(0, .ref m)] [.int s, .ref m] (mH h m (up2 (up2 μ 0 14 (nI f)) 0 15 (nI f)) (tkW l 0)) 0 0 := by
    intro s hs
    refine q_putI (pc := 114) fp_X12_280 hm dX12_onward_114 ?_
    exact at117 s hs
  have at46 : Wp E mX12_onward (Rm 1 0 0) (Qm E (po none (mH h m (tkM μ (scanF (μ 9) n f).1 (scanF (μ 9) n f).2.1 (scanF (μ 9) n f).2.2.1) (tkW l (scanF (μ 9) n f).2.2.2))) 0 0) 46 [(0, .ref m)] [] (mH h m (up2 μ 0 14 (nI f)) l) 0 0 := by
    refine r_aload_n (pc := 46) 0 dX12_onward_46 rfl ?_
    refine r_aload_n (pc := 47) 0 dX12_onward_47 rfl ?_
    refine q_getI (pc := 48) fl_X12_267 hm dX12_onward_48 ?_
    refine q_putI (pc := 51) fp_X12_257 hm dX12_onward_51 ?_
    refine r_aload_n (pc := 54) 0 dX12_onward_54 rfl ?_
    refine r_lconst (pc := 55) (0) dX12_onward_55 rfl ?_
    refine q_putJ (pc := 56) fp_X12_270 hm dX12_onward_56 ?_
    rw [up2_at]
    have e14 : up2 (up2 μ 0 14 (nI f)) 0 15 (nI f) 0 14 = nI f := by rw [up2_ne (by omega), up2_at]
    have e13 : up2 (up2 μ 0 14 (nI f)) 0 15 (nI f) 0 13 = nI n := by rw [up2_ne (by omega), up2_ne (by omega)]; exact hn
    have e9 : up2 (up2 μ 0 14 (nI f)) 0 15 (nI f) 9 = μ 9 := by funext j; rw [up2_ne (by omega), up2_ne (by omega)]
    refine r_aload_n (pc := 59) 0 dX12_onward_59 rfl ?_
    refine r_aload_n (pc := 60) 0 dX12_onward_60 rfl ?_
    refine q_getI (pc := 61) fl_X12_267 hm dX12_onward_61 ?_
    refine r_aload_n (pc := 64) 0 dX12_onward_64 rfl ?_
    refine q_getI (pc := 65) fl_X12_248 hm dX12_onward_65 ?_
    refine r_icmp_ne (pc := 68) (tgt := 75) dX12_onward_68 (by decide) (fun c_68 => ?_) (fun c_68 => ?_)
    · rw [e14, e13] at c_68
      have hfn : ¬ f = n := fun z => c_68 (by rw [z])
      refine r_aload_n (pc := 75) 0 dX12_onward_75 rfl ?_
      refine q_getR (pc := 76) fl_X12_35 hm (md_f12 hm) dX12_onward_76 ?_
      refine r_aload_n (pc := 79) 0 dX12_onward_79 rfl ?_
      refine q_getI (pc := 80) fl_X12_267 hm dX12_onward_80 ?_
      refine q_iald (pc := 83) (j := f) (md_r12 hm) (by decide) e14 (by omega) (by decide) dX12_onward_83 ?_
      refine r_dS (pc := 84) (As := [_]) ms_X12_isSmall ml_X12_274 (ct_isSmall _) rfl rfl (Nat.le_of_ble_eq_true rfl) (Nat.le_of_ble_eq_true rfl) (Nat.le_of_ble_eq_true rfl) (Nat.le_of_ble_eq_true rfl) (Nat.le_of_ble_eq_true rfl) dX12_onward_84 ?_
      refine r_if_eq (pc := 87) (tgt := 94) dX12_onward_87 (by decide) (fun c_87 => ?_) (fun c_87 => ?_)
      · rw [e9] at c_87
        have hsm : ¬ isSm (μ 9 f) = true := by rw [show isSm (μ 9 f) = _ from bI_0.mp c_87]; decide
        refine r_aload_n (pc := 94) 0 dX12_onward_94 rfl ?_
        refine q_getR (pc := 95) fl_X12_35 hm (md_f12 hm) dX12_onward_95 ?_
        refine r_aload_n (pc := 98) 0 dX12_onward_98 rfl ?_
        refine q_getI (pc := 99) fl_X12_267 hm dX12_onward_99 ?_
        refine q_iald (pc := 102) (j := f) (md_r12 hm) (by decide) e14 (by omega) (by decide) dX12_onward_102 ?_
        refine r_dS (pc := 103) (As := [_]) ms_X12_isDigit ml_X12_277 (ct_isDigit _) rfl rfl (Nat.le_of_ble_eq_true rfl) (Nat.le_of_ble_eq_true rfl) (Nat.le_of_ble_eq_true rfl) (Nat.le_of_ble_eq_true rfl) (Nat.le_of_ble_eq_true rfl) dX12_onward_103 ?_
        refine r_if_eq (pc := 106) (tgt := 113) dX12_onward_106 (by decide) (fun c_106 => ?_) (fun c_106 => ?_)
        · rw [e9] at c_106
          have hdg : ¬ isDg (μ 9 f) = true := by rw [show isDg (μ 9 f) = _ from bI_0.mp c_106]; decide
          refine r_iconst (pc := 113) (3) dX12_onward_113 rfl ?_
          exact at114 3 (by rw [scanF, if_neg hfn, if_neg hsm, if_neg hdg])
        · rw [e9] at c_106
          have hdg : isDg (μ 9 f) = true := bI_n0.mp c_106
          refine r_iconst (pc := 109) (2) dX12_onward_109 rfl ?_
          refine r_goto (pc := 110) (tgt := 114) dX12_onward_110 (by decide) ?_
          exact at114 2 (by rw [scanF, if_neg hfn, if_neg hsm, if_pos hdg])
      · rw [e9] at c_87
        have hsm : isSm (μ 9 f) = true := bI_n0.mp c_87
        refine r_iconst (pc := 90) (1) dX12_onward_90 rfl ?_
        refine r_goto (pc := 91) (tgt := 114) dX12_onward_91 (by decide) ?_
        exact at114 1 (by rw [scanF, if_neg hfn, if_pos hsm])
    · rw [e14, e13] at c_68
      have hfn : f = n := (nI_eq (by omega) (by omega)).mp c_68
      refine r_iconst (pc := 71) (0) dX12_onward_71 rfl ?_
      refine r_goto (pc := 72) (tgt := 114) dX12_onward_72 (by decide) ?_
      exact at114 0 (by rw [scanF, if_pos hfn])
  have loop : ∀ d, d ≤ f - p → Wp E mX12_onward (Rm 1 0 0) (Qm E (po none (mH h m (tkM μ (scanF (μ 9) n f).1 (scanF (μ 9) n f).2.1 (scanF (μ 9) n f).2.2.1) (tkW l (scanF (μ 9) n f).2.2.2))) 0 0) 8 [(0, .ref m)] [] (mH h m (up2 μ 0 14 (nI (p + d))) l) 0 0 := by
    have e13 : ∀ x, up2 μ 0 14 x 0 13 = nI n := fun x => by rw [up2_ne (by omega)]; exact hn
    have e9 : ∀ x, up2 μ 0 14 x 9 = μ 9 := fun x => by funext j; rw [up2_ne (by omega)]
    refine upTo (fun d hd ih => ?_) ?_
    · refine r_aload_n (pc := 8) 0 dX12_onward_8 rfl ?_
      refine q_getI (pc := 9) fl_X12_267 hm dX12_onward_9 ?_
      refine r_aload_n (pc := 12) 0 dX12_onward_12 rfl ?_
      refine q_getI (pc := 13) fl_X12_248 hm dX12_onward_13 ?_
      refine r_icmp_ge (pc := 16) (tgt := 46) dX12_onward_16 (by decide) (fun c_16 => ?_) (fun c_16 => ?_)
      · rw [e13, up2_at] at c_16
        exact absurd c_16 (nI_ge (by omega) (by omega))
      · refine r_aload_n (pc := 19) 0 dX12_onward_19 rfl ?_
        refine q_getR (pc := 20) fl_X12_35 hm (md_f12 hm) dX12_onward_20 ?_
        refine r_aload_n (pc := 23) 0 dX12_onward_23 rfl ?_
        refine q_getI (pc := 24) fl_X12_267 hm dX12_onward_24 ?_
        refine q_iald (pc := 27) (j := p + d) (md_r12 hm) (by decide) up2_at (by omega) (by decide) dX12_onward_27 ?_
        refine r_bipush (pc := 28) (32) dX12_onward_28 rfl ?_
        refine r_icmp_ne (pc := 30) (tgt := 46) dX12_onward_30 (by decide) (fun c_30 => ?_) (fun c_30 => ?_)
        · rw [e9] at c_30
          have := of_decide_eq_true (inf (p + d) (by omega) (by omega))
          exact absurd this c_30
        · refine r_aload_n (pc := 33) 0 dX12_onward_33 rfl ?_
          refine r_dup (pc := 34) dX12_onward_34 rfl ?_
          refine q_getI (pc := 35) fl_X12_267 hm dX12_onward_35 ?_
          refine r_iconst (pc := 38) (1) dX12_onward_38 rfl ?_
          refine r_iadd (pc := 39) dX12_onward_39 ?_
          refine q_putI (pc := 40) fp_X12_267 hm dX12_onward_40 ?_
          refine r_goto (pc := 43) (tgt := 8) dX12_onward_43 (by decide) ?_
          rw [up2_at, nI_1, up2_up2]
          exact ih
    · have e2 : p + (f - p) = f := by omega
      rw [e2]
      refine r_aload_n (pc := 8) 0 dX12_onward_8 rfl ?_
      refine q_getI (pc := 9) fl_X12_267 hm dX12_onward_9 ?_
      refine r_aload_n (pc := 12) 0 dX12_onward_12 rfl ?_
      refine q_getI (pc := 13) fl_X12_248 hm dX12_onward_13 ?_
      refine r_icmp_ge (pc := 16) (tgt := 46) dX12_onward_16 (by decide) (fun c_16 => ?_) (fun c_16 => ?_)
      · exact at46
      · rw [e13, up2_at] at c_16
        have hfn : f < n := Nat.not_le.mp (fun z => c_16 (nI_le z (by omega)))
        refine r_aload_n (pc := 19) 0 dX12_onward_19 rfl ?_
        refine q_getR (pc := 20) fl_X12_35 hm (md_f12 hm) dX12_onward_20 ?_
        refine r_aload_n (pc := 23) 0 dX12_onward_23 rfl ?_
        refine q_getI (pc := 24) fl_X12_267 hm dX12_onward_24 ?_
        refine q_iald (pc := 27) (j := f) (md_r12 hm) (by decide) up2_at (by omega) (by decide) dX12_onward_27 ?_
        refine r_bipush (pc := 28) (32) dX12_onward_28 rfl ?_
        refine r_icmp_ne (pc := 30) (tgt := 46) dX12_onward_30 (by decide) (fun c_30 => ?_) (fun c_30 => ?_)
        · exact at46
        · rw [e9] at c_30
          exact absurd (nof hfn) (by unfold isBl; rw [decide_eq_true c_30]; decide)
  refine r_aload_n (pc := 0) 0 dX12_onward_0 rfl ?_
  refine r_aload_n (pc := 1) 0 dX12_onward_1 rfl ?_
  refine q_getI (pc := 2) fl_X12_257 hm dX12_onward_2 ?_
  refine q_putI (pc := 5) fp_X12_267 hm dX12_onward_5 ?_
  rw [hp]
  exact loop 0 (by omega)
end TOK12
