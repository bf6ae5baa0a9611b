/-! the class's reader: the tape's tokens -/
section SPLIT
variable {E : En} {h : Hp} {x n : Nat} {b : Nat → Int32}
def byN (b : Nat → Int32) (q : Nat) : Nat := (b q).toNatClampNeg
def pkN (b : Nat → Int32) (f : Nat) : Nat → Nat
  | 0 => 0
  | k + 1 => pkN b f k * 32 + (byN b (f + k) - 96)
def dpN (b : Nat → Int32) (f : Nat) : Nat → Nat
  | 0 => 0
  | k + 1 => if 1000000 < dpN b f k then dpN b f k else dpN b f k * 10 + (byN b (f + k) - 48)
def ByOK (b : Nat → Int32) (n : Nat) : Prop := ∀ q, q < n → ∃ a, a ≤ 255 ∧ b q = nI a
theorem smN : ∀ a, a < 256 → (isSm (nI a) = true ↔ 97 ≤ a ∧ a ≤ 122) := by decide +kernel
theorem dgNn : ∀ a, a < 256 → (isDg (nI a) = true ↔ 48 ≤ a ∧ a ≤ 57) := by decide +kernel
theorem blN : ∀ a, a < 256 → (isBl (nI a) = true ↔ a = 32) := by decide +kernel
theorem lN_inj {a c : Nat} (ha : a < 2 ^ 63) (hc : c < 2 ^ 63) (he : lN a = lN c) : a = c := by
  have h1 := congrArg Int64.toInt he
  rw [show (lN a).toInt = (a : Int) from lg_ofNat_toInt ha, show (lN c).toInt = (c : Int) from lg_ofNat_toInt hc] at h1
  omega
theorem pk_rng (hB : ByOK b n) {f : Nat} : ∀ k, f + k ≤ n → (∀ z, f ≤ z → z < f + k → isSm (b z) = true) → pkN b f k < 32 ^ k ∧ (1 ≤ k → 32 ^ (k - 1) ≤ pkN b f k)
  | 0, _, _ => ⟨by show 0 < 1; omega, fun z => by omega⟩
  | k + 1, hk, hl => by
    obtain ⟨i1, i2⟩ := pk_rng hB k (by omega) (fun z h1 h2 => hl z h1 (by omega))
    obtain ⟨a, ha, ea⟩ := hB (f + k) (by omega)
    have hs := hl (f + k) (by omega) (by omega)
    rw [ea, smN a (by omega)] at hs
    have eb : byN b (f + k) = a := by unfold byN; rw [ea, nI_clamp (by omega)]
    rw [pkN, eb, Nat.pow_succ]
    refine ⟨by omega, fun _ => ?_⟩
    rw [Nat.add_sub_cancel]
    by_cases h0 : k = 0
    · subst h0; rw [Nat.pow_zero]; omega
    · have h3 := i2 (by omega)
      have h4 : 32 ^ k = 32 ^ (k - 1) * 32 := by rw [← Nat.pow_succ, show (k - 1).succ = k by omega]
      omega
theorem wpk_pk (hB : ByOK b n) {f : Nat} : ∀ k, k ≤ 10 → f + k ≤ n → (∀ z, f ≤ z → z < f + k → isSm (b z) = true) → wpk b f k = lN (pkN b f k)
  | 0, _, _, _ => rfl
  | k + 1, h10, hk, hl => by
    obtain ⟨a, ha, ea⟩ := hB (f + k) (by omega)
    have hs := hl (f + k) (by omega) (by omega)
    rw [ea, smN a (by omega)] at hs
    have eb : byN b (f + k) = a := by unfold byN; rw [ea, nI_clamp (by omega)]
    rw [wpk, if_pos (by omega), wpk_pk hB k (by omega) (by omega) (fun z h1 h2 => hl z h1 (by omega)), pkN, eb, ea, nI_L (by omega), show (32 : Int64) = lN 32 from rfl, show (96 : Int64) = lN 96 from rfl, lN_mul, lN_add, lN_sub (by omega), show pkN b f k * 32 + a - 96 = pkN b f k * 32 + (a - 96) by omega]
theorem wpk_far {f k : Nat} (hk : 11 ≤ k) : wpk b f k = -1 := by
  obtain ⟨j, rfl⟩ : ∃ j, k = j + 1 := ⟨k - 1, by omega⟩
  rw [wpk, if_neg (by omega)]
theorem dp_rng (hB : ByOK b n) {f : Nat} : ∀ k, f + k ≤ n → (∀ z, f ≤ z → z < f + k → isDg (b z) = true) → dpN b f k ≤ 10000009 ∧ dpk b f k = lN (dpN b f k)
  | 0, _, _ => ⟨by show 0 ≤ 10000009; omega, rfl⟩
  | k + 1, hk, hl => by
    obtain ⟨i1, i2⟩ := dp_rng hB k (by omega) (fun z h1 h2 => hl z h1 (by omega))
    obtain ⟨a, ha, ea⟩ := hB (f + k) (by omega)
    have hs := hl (f + k) (by omega) (by omega)
    rw [ea, dgNn a (by omega)] at hs
    have eb : byN b (f + k) = a := by unfold byN; rw [ea, nI_clamp (by omega)]
    rw [dpN, dpk, i2, eb, ea]
    by_cases hz : 1000000 < dpN b f k
    · rw [if_pos hz, if_pos (show (1000000 : Int64) < lN (dpN b f k) from (lN_lt (a := 1000000) (by decide) (by omega)).mpr hz)]; exact ⟨by omega, rfl⟩
    · rw [if_neg hz, if_neg (show ¬ (1000000 : Int64) < lN (dpN b f k) from fun w => hz ((lN_lt (a := 1000000) (by decide) (by omega)).mp w))]
      refine ⟨by omega, ?_⟩
      rw [nI_L (by omega), show (10 : Int64) = lN 10 from rfl, show (48 : Int64) = lN 48 from rfl, lN_mul, lN_add, lN_sub (by omega), show dpN b f k * 10 + a - 48 = dpN b f k * 10 + (a - 48) by omega]
theorem dp_min (hB : ByOK b n) {f k : Nat} (hk : f + k < n) (hl : ∀ z, f ≤ z → z < f + (k + 1) → isDg (b z) = true) : min 1000000 (min 1000000 (dpN b f k) * 10 + (byN b (f + k) - 48)) = min 1000000 (dpN b f (k + 1)) := by
  rw [dpN]
  by_cases hz : 1000000 < dpN b f k
  · rw [if_pos hz]; omega
  · rw [if_neg hz]; omega
/-- a token of the class is the reference's -/
def KR (k pl v : Int32) (t : Tk) : Prop := pl = nI t.1 ∧ ((t.2.2.1 = 0 ∧ k = 301) ∨ (t.2.2.1 = 1 ∧ WKL t.2.2.2 k) ∨ (t.2.2.1 = 2 ∧ k = 300 ∧ ∃ m, m < 2 ^ 31 ∧ t.2.2.2 = lN m ∧ v = nI (min 1000000 m)) ∨ (t.2.2.1 = 3 ∧ ∃ a, a ≤ 255 ∧ k = nI a ∧ t.2.2.2 = lN a))
def TkD (h : Hp) (x : Nat) (b : Nat → Int32) (n i : Nat) : Prop := KR (hI h (x + 34) i) (hI h (x + 35) i) (hI h (x + 36) i) (tk b n i) ∧ ¬ (tk b n i).2.2.1 = 0
/-- all done behind T tokens, blanks since -/
def SpA (h : Hp) (x : Nat) (b : Nat → Int32) (n q T : Nat) : Prop := (∀ i, i < T → TkD h x b n i) ∧ tP b n T ≤ q ∧ ∀ z, tP b n T ≤ z → z < q → isBl (b z) = true
def SpW (h : Hp) (x : Nat) (b : Nat → Int32) (n q T : Nat) (lt : Int32) : Prop := ∃ T' f, T = T' + 1 ∧ (∀ i, i < T' → TkD h x b n i) ∧ runE isBl b n (tP b n T') = f ∧ f < q ∧ (∀ z, f ≤ z → z < q → isSm (b z) = true) ∧ lt = nI (q - f) ∧ hI h (x + 35) T' = nI f ∧ (if q - f ≤ 6 then hI h (x + 36) T' = nI (pkN b f (q - f)) ∧ WK (pkN b f (q - f)) (hI h (x + 34) T') else hI h (x + 34) T' = 302)
def SpD (h : Hp) (x : Nat) (b : Nat → Int32) (n q T : Nat) : Prop := ∃ T' f, T = T' + 1 ∧ (∀ i, i < T' → TkD h x b n i) ∧ runE isBl b n (tP b n T') = f ∧ f < q ∧ (∀ z, f ≤ z → z < q → isDg (b z) = true) ∧ hI h (x + 34) T' = 300 ∧ hI h (x + 35) T' = nI f ∧ hI h (x + 36) T' = nI (min 1000000 (dpN b f (q - f)))
theorem run_is {p : Int32 → Bool} {f q : Nat} (hf : f ≤ q) (hq : q ≤ n) (ha : ∀ z, f ≤ z → z < q → p (b z) = true) (hn : q < n → p (b q) = false) : runE p b n f = q := by
  have g1 := runE_ge (q := p) (b := b) (n := n) (p := f) (by omega)
  have g2 := runE_le (q := p) (b := b) (n := n) (p := f) (by omega)
  rcases Nat.lt_trichotomy (runE p b n f) q with z | z | z
  · have h1 := ha _ g1 z
    have h2 := runE_no (q := p) (b := b) (n := n) (p := f) (by omega) (by omega)
    rw [h1] at h2; cases h2
  · exact z
  · have h1 := runE_in (q := p) (b := b) (n := n) (p := f) (x := q) (by omega) hf z
    rw [hn (by omega)] at h1; cases h1
theorem word_done (hB : ByOK b n) {f q : Nat} {K V : Int32} (hf : f < q) (hq : q ≤ n) (ha : ∀ z, f ≤ z → z < q → isSm (b z) = true) (hK : if q - f ≤ 6 then V = nI (pkN b f (q - f)) ∧ WK (pkN b f (q - f)) K else K = 302) : WKL (wpk b f (q - f)) K := by
  have ha2 : ∀ z, f ≤ z → z < f + (q - f) → isSm (b z) = true := fun z h1 h2 => ha z h1 (by omega)
  obtain ⟨r1, r2⟩ := pk_rng hB (q - f) (by omega) ha2
  by_cases h6 : q - f ≤ 6
  · rw [if_pos h6] at hK
    rw [wpk_pk hB (q - f) (by omega) (by omega) ha2]
    have : 32 ^ (q - f) ≤ 32 ^ 6 := Nat.pow_le_pow_right (by decide) h6
    exact hK.2.L (by omega)
  · rw [if_neg h6] at hK
    refine Or.inr ⟨fun i hi z => ?_, hK⟩
    have hv := voc_lt i hi
    by_cases h10 : q - f ≤ 10
    · rw [wpk_pk hB (q - f) h10 (by omega) ha2] at z
      have h3 := r2 (by omega)
      have h4 : 32 ^ 6 ≤ 32 ^ (q - f - 1) := Nat.pow_le_pow_right (by decide) (by omega)
      have h5 : 32 ^ (q - f) ≤ 32 ^ 10 := Nat.pow_le_pow_right (by decide) h10
      have := lN_inj (by omega) (by omega) z
      omega
    · rw [wpk_far (by omega)] at z
      have h1 := congrArg Int64.toInt z
      rw [show (lN (vocN i)).toInt = (vocN i : Int) from lg_ofNat_toInt (by omega), show ((-1 : Int64)).toInt = -1 by decide] at h1
      omega
theorem SpW.done (hB : ByOK b n) {q T : Nat} {lt : Int32} (hs : SpW h x b n q T lt) (hq : q ≤ n) (hn : q < n → isSm (b q) = false) : SpA h x b n q T := by
  obtain ⟨T', f, rfl, hd, ef, hf, ha, -, hp, hK⟩ := hs
  have er := run_is (by omega) hq ha hn
  have et : tk b n T' = (f, q, 1, wpk b f (q - f)) := by
    unfold tk scan scanF
    rw [ef, if_neg (by omega), if_pos (ha f (Nat.le_refl _) hf), er]
  have e2 : tP b n (T' + 1) = q := by show (tk b n T').2.1 = q; rw [et]
  refine ⟨fun i hi => ?_, by omega, fun z h1 h2 => by omega⟩
  by_cases hi2 : i = T'
  · subst hi2
    unfold TkD KR
    rw [et]
    exact ⟨⟨hp, Or.inr (Or.inl ⟨rfl, word_done hB hf hq ha hK⟩)⟩, show ¬ (1 : Int32) = 0 by decide⟩
  · exact hd i (by omega)
theorem SpD.done (hB : ByOK b n) {q T : Nat} (hs : SpD h x b n q T) (hq : q ≤ n) (hn : q < n → isDg (b q) = false) : SpA h x b n q T := by
  obtain ⟨T', f, rfl, hd, ef, hf, ha, hk, hp, hv⟩ := hs
  have er := run_is (by omega) hq ha hn
  have hno : isSm (b f) = false := by
    obtain ⟨a, ha2, ea⟩ := hB f (by omega)
    have h1 := ha f (Nat.le_refl _) hf
    rw [ea, dgNn a (by omega)] at h1
    cases hz : isSm (b f) with
    | false => rfl
    | true => rw [ea, smN a (by omega)] at hz; omega
  have et : tk b n T' = (f, q, 2, dpk b f (q - f)) := by
    unfold tk scan scanF
    rw [ef, if_neg (by omega), if_neg (by rw [hno]; decide), if_pos (ha f (Nat.le_refl _) hf), er]
  have e2 : tP b n (T' + 1) = q := by show (tk b n T').2.1 = q; rw [et]
  obtain ⟨r1, r2⟩ := dp_rng hB (f := f) (q - f) (by omega) (fun z h1 h2 => ha z h1 (by omega))
  refine ⟨fun i hi => ?_, by omega, fun z h1 h2 => by omega⟩
  by_cases hi2 : i = T'
  · subst hi2
    unfold TkD KR
    rw [et]
    exact ⟨⟨hp, Or.inr (Or.inr (Or.inl ⟨rfl, hk, dpN b f (q - f), by omega, r2, hv⟩))⟩, show ¬ (2 : Int32) = 0 by decide⟩
  · exact hd i (by omega)
/-- so far as place q, with the sort of the byte ahead -/
def SpI (h : Hp) (x : Nat) (b : Nat → Int32) (n q T bf : Nat) (lt : Int32) : Prop := (hI h (x + 26) 5 = nI T ∧ T ≤ q ∧ q ≤ n) ∧ (((bf = 0 ∨ bf = 3) ∧ SpA h x b n q T) ∨ (bf = 1 ∧ SpW h x b n q T lt) ∨ (bf = 2 ∧ SpD h x b n q T))
theorem SpI.done (hB : ByOK b n) {q T bf : Nat} {lt : Int32} (hs : SpI h x b n q T bf lt) (hn : q < n → (bf = 1 → isSm (b q) = false) ∧ (bf = 2 → isDg (b q) = false)) : SpA h x b n q T := by
  obtain ⟨⟨-, -, hq⟩, h1 | h1 | h1⟩ := hs
  · exact h1.2
  · exact h1.2.done hB hq (fun z => (hn z).1 h1.1)
  · exact h1.2.done hB hq (fun z => (hn z).2 h1.1)
theorem tk_at {q T : Nat} (hs : SpA h x b n q T) (hq : q < n) (hb : isBl (b q) = false) : runE isBl b n (tP b n T) = q := run_is hs.2.1 (by omega) hs.2.2 (fun _ => hb)
/-- what splitting writes -/
def spS (x a k : Nat) : Prop := (a = x + 26 ∧ k = 5) ∨ a = x + 34 ∨ a = x + 35 ∨ a = x + 36
theorem csP_sp {a k : Nat} (hq : csP x a k) : ¬ spS x a k := by
  obtain ⟨t, ht, rfl, rfl⟩ := hq
  intro z
  have key : ∀ t ∈ csF, ¬ ((t.1 = 26 ∧ t.2.1 = 5) ∨ t.1 = 34 ∨ t.1 = 35 ∨ t.1 = 36) := by decide +kernel
  exact key t ht (by unfold spS at z; omega)
theorem CS.sp {h1 : Hp} (hc : CS E h x) (a1 : Fr (spS x) h h1) : CS E h1 x := hc.fr a1 (fun _ _ => csP_sp)
theorem TkD.cg {h1 : Hp} {i : Nat} (ht : TkD h x b n i) (e1 : hI h1 (x + 34) i = hI h (x + 34) i) (e2 : hI h1 (x + 35) i = hI h (x + 35) i) (e3 : hI h1 (x + 36) i = hI h (x + 36) i) : TkD h1 x b n i := by
  unfold TkD at ht ⊢
  rw [e1, e2, e3]; exact ht
/-- all tokens of the tape -/
def TokI (h : Hp) (x : Nat) (b : Nat → Int32) (n N : Nat) : Prop := hI h (x + 26) 5 = nI (N + 1) ∧ N ≤ 400 ∧ (∀ i, i < N → TkD h x b n i) ∧ KR (hI h (x + 34) N) (hI h (x + 35) N) (hI h (x + 36) N) (tk b n N) ∧ (tk b n N).2.2.1 = 0
theorem c6_split (hc : CS E h x) (hw : WdV h x) {n : Nat} (hn : hI h (x + 24) 1 = nI n) (h4 : n ≤ 400) (hB : ByOK (hI h (x + 25)) n) : Ct E 2 0 0 mX6_split [.ref (x + 26), .ref (x + 24)] h (fun v h' => v = none ∧ Fr (spS x) h h' ∧ ∃ N, TokI h' x (hI h (x + 25)) n N) := by
  generalize hb : hI h (x + 25) = b at hB
  refine Ct.of (by decide +kernel) (Nat.le_of_ble_eq_true rfl) ?_
  have hFr : ∀ {h1 : Hp}, Fr (spS x) h h1 → CS E h1 x ∧ WdV h1 x ∧ hI h1 (x + 24) 1 = nI n ∧ hI h1 (x + 25) = b := fun f => ⟨hc.sp f, fun i hi => (f.I (by unfold spS; omega)).trans (hw i hi), (f.I (by unfold spS; omega)).trans hn, by rw [← hb]; funext z; exact f.I (by unfold spS; omega)⟩
  refine r_aload_n (pc := 0) 0 dX6_split_0 rfl ?_
  refine r_iconst (pc := 1) (0) dX6_split_1 rfl ?_
  refine r_putI (pc := 2) fp_X6_86 (ca_26 hc) dX6_split_2 ?_
  refine r_iconst (pc := 5) (0) dX6_split_5 rfl ?_
  refine r_istore_n (pc := 6) (lv' := [(0, _), (1, _), (2, _)]) dX6_split_6 (Nat.le_of_ble_eq_true rfl) rfl ?_
  refine r_iconst (pc := 7) (0) dX6_split_7 rfl ?_
  refine r_istore_n (pc := 8) (lv' := [(0, _), (1, _), (2, _), (3, _)]) dX6_split_8 (Nat.le_of_ble_eq_true rfl) rfl ?_
  refine r_iconst (pc := 9) (0) dX6_split_9 rfl ?_
  refine r_istore (pc := 10) (lv' := [(0, _), (1, _), (2, _), (3, _), (4, _)]) dX6_split_10 (Nat.le_of_ble_eq_true rfl) rfl ?_
  have loop : ∀ q, q ≤ n → ∀ (hh : Hp) (T bf : Nat) (lt : Int32), Fr (spS x) h hh → SpI hh x b n q T bf lt → bf ≤ 3 → Wp E mX6_split (Rm 2 0 0) (Qm E (fun v h' => v = none ∧ Fr (spS x) h h' ∧ ∃ N, TokI h' x b n N) 0 0) 12 [(0, .ref (x + 26)), (1, .ref (x + 24)), (2, .int (nI bf)), (3, .int lt), (4, .int (nI q))] [] hh 0 0 := by
    refine upTo (fun q hq ih => ?_) ?_
    · intro hh T bf lt fr hS hbf
      obtain ⟨hch, hwh, hnh, hbh⟩ := hFr fr
      obtain ⟨⟨hT, hTq, -⟩, -⟩ := id hS
      obtain ⟨a, ha, ea⟩ := hB q hq
      have hin : inN (nI q) n = true := by rw [inN_nI (by omega)]; exact decide_eq_true hq
      refine r_iload (pc := 12) 4 dX6_split_12 rfl ?_
      refine r_aload_n (pc := 14) 1 dX6_split_14 rfl ?_
      refine r_getI (pc := 15) fl_X6_60 (ca_24 hch) dX6_split_15 ?_
      rw [hnh]
      refine r_icmp_ge (pc := 18) (tgt := 148) dX6_split_18 (by decide) (fun c_18 => ?_) (fun c_18 => ?_)
      · exact absurd c_18 (nI_ge hq (by omega))
      · refine r_aload_n (pc := 21) 1 dX6_split_21 rfl ?_
        refine r_iload (pc := 22) 4 dX6_split_22 rfl ?_
        refine r_dV (pc := 24) (As := [_]) mv_X9_byteAt ml_X6_89 (c9_byteAt hch hnh h4) (ca_24 hch) rfl rfl (Nat.le_of_ble_eq_true rfl) (Nat.le_of_ble_eq_true rfl) (Nat.le_of_ble_eq_true rfl) (Nat.le_of_ble_eq_true rfl) (Nat.le_of_ble_eq_true rfl) dX6_split_24 ?_
        rw [if_pos hin, nI_clamp (by omega), hbh, ea]
        refine r_istore (pc := 27) (lv' := [(0, _), (1, _), (2, _), (3, _), (4, _), (5, _)]) dX6_split_27 (Nat.le_of_ble_eq_true rfl) rfl ?_
        refine r_iload (pc := 29) 5 dX6_split_29 rfl ?_
        refine r_dS (pc := 31) (As := [_]) ms_X6_sortOf ml_X6_93 (ct_sortOf _) rfl rfl (Nat.le_of_ble_eq_true rfl) (Nat.le_of_ble_eq_true rfl) (Nat.le_of_ble_eq_true rfl) (Nat.le_of_ble_eq_true rfl) (Nat.le_of_ble_eq_true rfl) dX6_split_31 ?_
        refine r_istore (pc := 34) (lv' := [(0, _), (1, _), (2, _), (3, _), (4, _), (5, _), (6, _)]) dX6_split_34 (Nat.le_of_ble_eq_true rfl) rfl ?_
        generalize hsr : srtN (nI a) = sr
        have hsr3 : sr ≤ 3 := by
          rw [← hsr]; unfold srtN
          split
          · omega
          · split
            · omega
            · split <;> omega
        have hs0 : sr = 0 ↔ isBl (b q) = true := by
          rw [← hsr, ea]; unfold srtN
          split
          · next z => exact ⟨fun _ => z, fun _ => rfl⟩
          · next z => refine ⟨fun w => ?_, fun w => absurd w z⟩
                      split at w
                      · omega
                      · split at w <;> omega
        have hs1 : sr = 1 ↔ isSm (b q) = true := by
          rw [← hsr, ea]; unfold srtN
          split
          · next z => refine ⟨fun w => by omega, fun w => ?_⟩
                      rw [blN a (by omega)] at z; rw [smN a (by omega)] at w; omega
          · split
            · next z => exact ⟨fun _ => z, fun _ => rfl⟩
            · next z => refine ⟨fun w => ?_, fun w => absurd w z⟩
                        split at w <;> omega
        have hs2 : sr = 2 ↔ isDg (b q) = true := by
          rw [← hsr, ea]; unfold srtN
          split
          · next z => refine ⟨fun w => by omega, fun w => ?_⟩
                      rw [blN a (by omega)] at z; rw [dgNn a (by omega)] at w; omega
          · split
            · next z => refine ⟨fun w => by omega, fun w => ?_⟩
                        rw [smN a (by omega)] at z; rw [dgNn a (by omega)] at w; omega
            · split
              · next z => exact ⟨fun _ => z, fun _ => rfl⟩
              · next z => exact ⟨fun w => by omega, fun w => absurd w z⟩
        have nxt : ∀ (h2 : Hp) (T2 : Nat) (lt2 g : Int32), Fr (spS x) h h2 → SpI h2 x b n (q + 1) T2 sr lt2 → Wp E mX6_split (Rm 2 0 0) (Qm E (fun v h' => v = none ∧ Fr (spS x) h h' ∧ ∃ N, TokI h' x b n N) 0 0) 139 [(0, .ref (x + 26)), (1, .ref (x + 24)), (2, .int (nI bf)), (3, .int lt2), (4, .int (nI q)), (5, .int (nI a)), (6, .int (nI sr)), (7, .int g)] [] h2 0 0 := by
          intro h2 T2 lt2 g f2 hS2
          refine r_iload (pc := 139) 6 dX6_split_139 rfl ?_
          refine r_istore_n (pc := 141) (lv' := [(0, _), (1, _), (2, _), (3, _), (4, _), (5, _), (6, _), (7, _)]) dX6_split_141 (Nat.le_of_ble_eq_true rfl) rfl ?_
          refine r_iinc (pc := 142) (v := _ + (1)) (lv' := [(0, _), (1, _), (2, _), (3, _), (4, _), (5, _), (6, _), (7, _)]) 4 dX6_split_142 rfl rfl (Nat.le_of_ble_eq_true rfl) rfl ?_
          refine r_goto (pc := 145) (tgt := 12) dX6_split_145 (by decide) ?_
          refine r_sub [0, 1, 2, 3, 4] rfl ?_
          rw [nI_1]
          exact ih h2 T2 sr lt2 f2 hS2 hsr3
        -- behind the choice whether a token begins: a letter, a digit, none
        have at105 : ∀ (h2 : Hp) (T2 : Nat) (lt2 g : Int32), Fr (spS x) h h2 → hI h2 (x + 26) 5 = nI T2 → T2 ≤ q + 1 → (sr = 0 → SpA h2 x b n (q + 1) T2) → (sr = 3 → SpA h2 x b n (q + 1) T2) → (sr = 1 → ∃ T' f, T2 = T' + 1 ∧ (∀ i, i < T' → TkD h2 x b n i) ∧ runE isBl b n (tP b n T') = f ∧ f ≤ q ∧ (∀ z, f ≤ z → z < q + 1 → isSm (b z) = true) ∧ lt2 = nI (q - f) ∧ hI h2 (x + 35) T' = nI f ∧ (q - f < 6 → hI h2 (x + 36) T' = nI (pkN b f (q - f)))) → (sr = 2 → ∃ T' f, T2 = T' + 1 ∧ (∀ i, i < T' → TkD h2 x b n i) ∧ runE isBl b n (tP b n T') = f ∧ f ≤ q ∧ (∀ z, f ≤ z → z < q + 1 → isDg (b z) = true) ∧ hI h2 (x + 34) T' = 300 ∧ hI h2 (x + 35) T' = nI f ∧ hI h2 (x + 36) T' = nI (min 1000000 (dpN b f (q - f)))) → Wp E mX6_split (Rm 2 0 0) (Qm E (fun v h' => v = none ∧ Fr (spS x) h h' ∧ ∃ N, TokI h' x b n N) 0 0) 105 [(0, .ref (x + 26)), (1, .ref (x + 24)), (2, .int (nI bf)), (3, .int lt2), (4, .int (nI q)), (5, .int (nI a)), (6, .int (nI sr)), (7, .int g)] [] h2 0 0 := by
          intro h2 T2 lt2 g f2 hT2 hTq2 k0 k3 k1 k2
          obtain ⟨hc2, hw2, hn2, hb2⟩ := hFr f2
          refine r_iload (pc := 105) 6 dX6_split_105 rfl ?_
          refine r_iconst (pc := 107) (1) dX6_split_107 rfl ?_
          refine r_icmp_ne (pc := 108) (tgt := 124) dX6_split_108 (by decide) (fun c_108 => ?_) (fun c_108 => ?_)
          · have n1 : ¬ sr = 1 := fun z => c_108 (by rw [z]; rfl)
            refine r_iload (pc := 124) 6 dX6_split_124 rfl ?_
            refine r_iconst (pc := 126) (2) dX6_split_126 rfl ?_
            refine r_icmp_ne (pc := 127) (tgt := 139) dX6_split_127 (by decide) (fun c_127 => ?_) (fun c_127 => ?_)
            · have n2 : ¬ sr = 2 := fun z => c_127 (by rw [z]; rfl)
              refine nxt h2 T2 lt2 g f2 ⟨⟨hT2, hTq2, by omega⟩, Or.inl ⟨by omega, ?_⟩⟩
              by_cases h0 : sr = 0
              · exact k0 h0
              · exact k3 (by omega)
            · have e2 : sr = 2 := nI_inj (b := 2) (by omega) (by decide) c_127
              obtain ⟨T', f, rfl, hd, ef, hf, hal, hk, hp, hv⟩ := k2 e2
              have hdg := hal q hf (by omega)
              rw [ea, dgNn a (by omega)] at hdg
              have hbq : byN b (f + (q - f)) = a := by unfold byN; rw [show f + (q - f) = q by omega, ea, nI_clamp (by omega)]
              refine r_aload_n (pc := 130) 0 dX6_split_130 rfl ?_
              refine r_iload (pc := 131) 5 dX6_split_131 rfl ?_
              refine r_bipush (pc := 133) (48) dX6_split_133 rfl ?_
              refine r_isub (pc := 135) dX6_split_135 ?_
              rw [show nI a - 48 = nI (a - 48) from nI_sub (b := 48) (by omega)]
              refine r_dV0 (pc := 136) (As := [_]) mv_X6_addDigit ml_X6_103 (c6_addDigit hc2 hT2 (by omega) hv (by omega) (by omega)) (ca_26 hc2) rfl rfl (Nat.le_of_ble_eq_true rfl) (Nat.le_of_ble_eq_true rfl) (Nat.le_of_ble_eq_true rfl) (Nat.le_of_ble_eq_true rfl) (Nat.le_of_ble_eq_true rfl) dX6_split_136 ?_
              refine nxt _ (T' + 1) lt2 g (f2.tr (Fr.wI (by unfold spS; omega))) ⟨⟨by rw [hI_ne (by omega)]; exact hT2, hTq2, by omega⟩, Or.inr (Or.inr ⟨e2, T', f, rfl, fun i hi => (hd i hi).cg (hI_ne (by omega)) (hI_ne (by omega)) (hI_ne (by omega)), ef, by omega, hal, by rw [hI_ne (by omega)]; exact hk, by rw [hI_ne (by omega)]; exact hp, ?_⟩)⟩
              rw [hI_at, show q + 1 - f = q - f + 1 by omega, ← dp_min hB (f := f) (k := q - f) (by omega) (fun z h1 h2 => hal z h1 (by omega)), hbq]
          · have e1 : sr = 1 := nI_inj (b := 1) (by omega) (by decide) c_108
            obtain ⟨T', f, rfl, hd, ef, hf, hal, hlt, hp, hv⟩ := k1 e1
            have hsm := hal q hf (by omega)
            rw [ea, smN a (by omega)] at hsm
            have hbq : byN b (f + (q - f)) = a := by unfold byN; rw [show f + (q - f) = q by omega, ea, nI_clamp (by omega)]
            have epk : pkN b f (q + 1 - f) = pkN b f (q - f) * 32 + (a - 96) := by rw [show q + 1 - f = q - f + 1 by omega, pkN, hbq]
            obtain ⟨r1, -⟩ := pk_rng hB (f := f) (q - f + 1) (by omega) (fun z h1 h2 => hal z h1 (by omega))
            rw [hlt]
            refine r_iinc (pc := 111) (v := _ + (1)) (lv' := [(0, _), (1, _), (2, _), (3, _), (4, _), (5, _), (6, _), (7, _)]) 3 dX6_split_111 rfl rfl (Nat.le_of_ble_eq_true rfl) rfl ?_
            rw [nI_1]
            by_cases h6 : q - f < 6
            · have hv6 := hv h6
              have h5 : 32 ^ (q - f + 1) ≤ 32 ^ 6 := Nat.pow_le_pow_right (by decide) (by omega)
              rw [show q - f + 1 = q + 1 - f by omega, epk] at r1
              rw [show q - f + 1 = q + 1 - f by omega] at h5
              refine r_aload_n (pc := 114) 0 dX6_split_114 rfl ?_
              refine r_iload (pc := 115) 5 dX6_split_115 rfl ?_
              refine r_iload_n (pc := 117) 3 dX6_split_117 rfl ?_
              refine r_callV (pc := 118) (As := [_, _]) mv_X6_addLetter ml_X6_100 (c6_addLetter hc2 hw2 hT2 (by omega) (by omega) hv6 (by omega) (by omega)) (ca_26 hc2) rfl rfl (Nat.le_of_ble_eq_true rfl) (Nat.le_of_ble_eq_true rfl) (Nat.le_of_ble_eq_true rfl) (Nat.le_of_ble_eq_true rfl) (Nat.le_of_ble_eq_true rfl) dX6_split_118 (fun r h3 hp => ?_)
              obtain ⟨rfl, kk, hkk, rfl⟩ := hp
              show Wp E mX6_split _ _ _ _ [] _ 0 0
              refine r_goto (pc := 121) (tgt := 139) dX6_split_121 (by decide) ?_
              refine nxt _ (T' + 1) _ g (f2.tr (Fr.tr (Fr.wI (by unfold spS; omega)) (Fr.wI (by unfold spS; omega)))) ⟨⟨by rw [hI_ne (by omega), hI_ne (by omega)]; exact hT2, hTq2, by omega⟩, Or.inr (Or.inl ⟨e1, T', f, rfl, fun i hi => (hd i hi).cg (by rw [hI_ne (by omega), hI_ne (by omega)]) (by rw [hI_ne (by omega), hI_ne (by omega)]) (by rw [hI_ne (by omega), hI_ne (by omega)]), ef, by omega, hal, by rw [show q + 1 - f = q - f + 1 by omega], by rw [hI_ne (by omega), hI_ne (by omega)]; exact hp, ?_⟩)⟩
              rw [if_pos (by omega), epk]
              exact ⟨by rw [hI_ne (by omega), hI_at], by rw [hI_at]; exact hkk⟩
            · refine r_aload_n (pc := 114) 0 dX6_split_114 rfl ?_
              refine r_iload (pc := 115) 5 dX6_split_115 rfl ?_
              refine r_iload_n (pc := 117) 3 dX6_split_117 rfl ?_
              refine r_dV0 (pc := 118) (As := [_, _]) mv_X6_addLetter ml_X6_100 (c6_addLetterL hc2 _ hT2 (by omega) (by omega) (by omega)) (ca_26 hc2) rfl rfl (Nat.le_of_ble_eq_true rfl) (Nat.le_of_ble_eq_true rfl) (Nat.le_of_ble_eq_true rfl) (Nat.le_of_ble_eq_true rfl) (Nat.le_of_ble_eq_true rfl) dX6_split_118 ?_
              refine r_goto (pc := 121) (tgt := 139) dX6_split_121 (by decide) ?_
              refine nxt _ (T' + 1) _ g (f2.tr (Fr.wI (by unfold spS; omega))) ⟨⟨by rw [hI_ne (by omega)]; exact hT2, hTq2, by omega⟩, Or.inr (Or.inl ⟨e1, T', f, rfl, fun i hi => (hd i hi).cg (hI_ne (by omega)) (hI_ne (by omega)) (hI_ne (by omega)), ef, by omega, hal, by rw [show q + 1 - f = q - f + 1 by omega], by rw [hI_ne (by omega)]; exact hp, ?_⟩)⟩
              rw [if_neg (by omega)]
              exact hI_at
        -- a token begins
        have newT : ∀ (g : Int32) (KI : Int32), (q < n → (bf = 1 → isSm (b q) = false) ∧ (bf = 2 → isDg (b q) = false)) → ¬ sr = 0 → (sr = 3 → KI = nI a) → (sr = 2 → KI = 300) → Wp E mX6_split (Rm 2 0 0) (Qm E (fun v h' => v = none ∧ Fr (spS x) h h' ∧ ∃ N, TokI h' x b n N) 0 0) 98 [(0, .ref (x + 26)), (1, .ref (x + 24)), (2, .int (nI bf)), (3, .int lt), (4, .int (nI q)), (5, .int (nI a)), (6, .int (nI sr)), (7, .int g)] [.int KI, .ref (x + 26)] hh 0 0 := by
          intro g KI hcl hn0 hk3 hk2
          have hA := hS.done hB hcl
          have hnb : isBl (b q) = false := by
            cases hz : isBl (b q) with
            | false => rfl
            | true => exact absurd (hs0.mpr hz) hn0
          have ef := tk_at hA hq hnb
          refine r_iload (pc := 98) 4 dX6_split_98 rfl ?_
          refine r_dV0 (pc := 100) (As := [_, _]) mv_X6_addToken ml_X6_96 (c6_addToken hch hT (by omega) _ _) (ca_26 hch) rfl rfl (Nat.le_of_ble_eq_true rfl) (Nat.le_of_ble_eq_true rfl) (Nat.le_of_ble_eq_true rfl) (Nat.le_of_ble_eq_true rfl) (Nat.le_of_ble_eq_true rfl) dX6_split_100 ?_
          refine r_iconst (pc := 103) (0) dX6_split_103 rfl ?_
          refine r_istore_n (pc := 104) (lv' := [(0, _), (1, _), (2, _), (3, _), (4, _), (5, _), (6, _), (7, _)]) dX6_split_104 (Nat.le_of_ble_eq_true rfl) rfl ?_
          have g4 : Fr (spS x) hh (wI (wI (wI (wI hh (x + 34) T KI) (x + 35) T (nI q)) (x + 36) T 0) (x + 26) 5 (nI (T + 1))) := (((Fr.wI (by unfold spS; omega)).tr (Fr.wI (by unfold spS; omega))).tr (Fr.wI (by unfold spS; omega))).tr (Fr.wI (by unfold spS; omega))
          have d34 : hI (wI (wI (wI (wI hh (x + 34) T KI) (x + 35) T (nI q)) (x + 36) T 0) (x + 26) 5 (nI (T + 1))) (x + 34) T = KI := by rw [hI_ne (by omega), hI_ne (by omega), hI_ne (by omega), hI_at]
          have d35 : hI (wI (wI (wI (wI hh (x + 34) T KI) (x + 35) T (nI q)) (x + 36) T 0) (x + 26) 5 (nI (T + 1))) (x + 35) T = nI q := by rw [hI_ne (by omega), hI_ne (by omega), hI_at]
          have d36 : hI (wI (wI (wI (wI hh (x + 34) T KI) (x + 35) T (nI q)) (x + 36) T 0) (x + 26) 5 (nI (T + 1))) (x + 36) T = 0 := by rw [hI_ne (by omega), hI_at]
          have d5 : hI (wI (wI (wI (wI hh (x + 34) T KI) (x + 35) T (nI q)) (x + 36) T 0) (x + 26) 5 (nI (T + 1))) (x + 26) 5 = nI (T + 1) := hI_at
          have dT : ∀ i, i < T → TkD (wI (wI (wI (wI hh (x + 34) T KI) (x + 35) T (nI q)) (x + 36) T 0) (x + 26) 5 (nI (T + 1))) x b n i := fun i hi => (hA.1 i hi).cg (by rw [hI_ne (by omega), hI_ne (by omega), hI_ne (by omega), hI_ne (by omega)]) (by rw [hI_ne (by omega), hI_ne (by omega), hI_ne (by omega), hI_ne (by omega)]) (by rw [hI_ne (by omega), hI_ne (by omega), hI_ne (by omega), hI_ne (by omega)])
          generalize wI (wI (wI (wI hh (x + 34) T KI) (x + 35) T (nI q)) (x + 36) T 0) (x + 26) 5 (nI (T + 1)) = h2 at g4 d34 d35 d36 d5 dT ⊢
          refine at105 h2 (T + 1) 0 g (fr.tr g4) d5 (by omega) (fun z => absurd z hn0) (fun e3 => ?_) (fun e1 => ?_) (fun e2 => ?_)
          · have nsm : isSm (b q) = false := by
              cases hz : isSm (b q) with
              | false => rfl
              | true => have := hs1.mpr hz; omega
            have ndg : isDg (b q) = false := by
              cases hz : isDg (b q) with
              | false => rfl
              | true => have := hs2.mpr hz; omega
            have et : tk b n T = (q, q + 1, 3, (b q).toInt64) := by
              unfold tk scan scanF
              rw [ef, if_neg (by omega), if_neg (by rw [nsm]; decide), if_neg (by rw [ndg]; decide)]
            have etp : tP b n (T + 1) = q + 1 := by show (tk b n T).2.1 = q + 1; rw [et]
            refine ⟨fun i hi => ?_, by omega, fun z h1 h2 => by omega⟩
            by_cases hiT : i = T
            · subst hiT
              unfold TkD KR
              rw [et, d34, d35]
              exact ⟨⟨rfl, Or.inr (Or.inr (Or.inr ⟨rfl, a, ha, hk3 e3, by rw [ea, nI_L (by omega)]⟩))⟩, show ¬ (3 : Int32) = 0 by decide⟩
            · exact dT i (by omega)
          · refine ⟨T, q, rfl, dT, ef, Nat.le_refl _, fun z h1 h2 => ?_, by rw [Nat.sub_self]; rfl, d35, fun _ => ?_⟩
            · rw [show z = q by omega]; exact hs1.mp e1
            · rw [d36, Nat.sub_self]; rfl
          · refine ⟨T, q, rfl, dT, ef, Nat.le_refl _, fun z h1 h2 => ?_, by rw [d34]; exact hk2 e2, d35, ?_⟩
            · rw [show z = q by omega]; exact hs2.mp e2
            · rw [d36, Nat.sub_self]; rfl
        -- whether it goes on
        have at59 : ∀ g : Bool, (g = true ↔ (sr = bf ∧ (sr = 1 ∨ sr = 2))) → Wp E mX6_split (Rm 2 0 0) (Qm E (fun v h' => v = none ∧ Fr (spS x) h h' ∧ ∃ N, TokI h' x b n N) 0 0) 59 [(0, .ref (x + 26)), (1, .ref (x + 24)), (2, .int (nI bf)), (3, .int lt), (4, .int (nI q)), (5, .int (nI a)), (6, .int (nI sr))] [.int (bI g)] hh 0 0 := by
          intro g hg
          refine r_istore (pc := 59) (lv' := [(0, _), (1, _), (2, _), (3, _), (4, _), (5, _), (6, _), (7, _)]) dX6_split_59 (Nat.le_of_ble_eq_true rfl) rfl ?_
          refine r_iload (pc := 61) 6 dX6_split_61 rfl ?_
          refine r_if_eq (pc := 63) (tgt := 105) dX6_split_63 (by decide) (fun c_63 => ?_) (fun c_63 => ?_)
          · have e0 : sr = 0 := (nI_z (by omega)).mp c_63
            refine at105 hh T lt _ fr hT (by omega) (fun _ => ?_) (fun z => by omega) (fun z => by omega) (fun z => by omega)
            have hbl := hs0.mp e0
            obtain ⟨i1, i2, i3⟩ := hS.done hB (fun _ => ⟨fun _ => by
              cases hz : isSm (b q) with
              | false => rfl
              | true => have := hs1.mpr hz; omega, fun _ => by
              cases hz : isDg (b q) with
              | false => rfl
              | true => have := hs2.mpr hz; omega⟩)
            exact ⟨i1, by omega, fun z h1 h2 => by
              by_cases hzq : z = q
              · rw [hzq]; exact hbl
              · exact i3 z h1 (by omega)⟩
          · have n0 : ¬ sr = 0 := fun z => c_63 (by rw [z]; rfl)
            refine r_iload (pc := 66) 7 dX6_split_66 rfl ?_
            refine r_if_ne (pc := 68) (tgt := 105) dX6_split_68 (by decide) (fun c_68 => ?_) (fun c_68 => ?_)
            · obtain ⟨e1, e2⟩ := hg.mp (bI_n0.mp c_68)
              refine at105 hh T lt _ fr hT (by omega) (fun z => absurd z n0) (fun z => by omega) (fun z1 => ?_) (fun z2 => ?_)
              · obtain ⟨-, h9⟩ := hS
                rcases h9 with h9 | h9 | h9
                · omega
                · obtain ⟨-, T', f, w1, w2, w3, w4, w5, w6, w7, w8⟩ := h9
                  refine ⟨T', f, w1, w2, w3, by omega, fun z h1 h2 => ?_, w6, w7, fun h6 => ?_⟩
                  · by_cases hzq : z = q
                    · rw [hzq]; exact hs1.mp z1
                    · exact w5 z h1 (by omega)
                  · rw [if_pos (by omega)] at w8; exact w8.1
                · omega
              · obtain ⟨-, h9⟩ := hS
                rcases h9 with h9 | h9 | h9
                · omega
                · omega
                · obtain ⟨-, T', f, w1, w2, w3, w4, w5, w6, w7, w8⟩ := h9
                  refine ⟨T', f, w1, w2, w3, by omega, fun z h1 h2 => ?_, w6, w7, w8⟩
                  by_cases hzq : z = q
                  · rw [hzq]; exact hs2.mp z2
                  · exact w5 z h1 (by omega)
            · have ng : ¬ (sr = bf ∧ (sr = 1 ∨ sr = 2)) := fun z => by rw [hg.mpr z] at c_68; exact absurd c_68 (by decide)
              have hcl : q < n → (bf = 1 → isSm (b q) = false) ∧ (bf = 2 → isDg (b q) = false) := fun _ => ⟨fun h1 => by
                cases hz : isSm (b q) with
                | false => rfl
                | true => exact absurd ⟨by rw [hs1.mpr hz, h1], Or.inl (hs1.mpr hz)⟩ ng, fun h1 => by
                cases hz : isDg (b q) with
                | false => rfl
                | true => exact absurd ⟨by rw [hs2.mpr hz, h1], Or.inr (hs2.mpr hz)⟩ ng⟩
              refine r_aload_n (pc := 71) 0 dX6_split_71 rfl ?_
              refine r_iload (pc := 72) 6 dX6_split_72 rfl ?_
              refine r_iconst (pc := 74) (3) dX6_split_74 rfl ?_
              refine r_icmp_ne (pc := 75) (tgt := 83) dX6_split_75 (by decide) (fun c_75 => ?_) (fun c_75 => ?_)
              · have n3 : ¬ sr = 3 := fun z => c_75 (by rw [z]; rfl)
                refine r_iload (pc := 83) 6 dX6_split_83 rfl ?_
                refine r_iconst (pc := 85) (2) dX6_split_85 rfl ?_
                refine r_icmp_ne (pc := 86) (tgt := 95) dX6_split_86 (by decide) (fun c_86 => ?_) (fun c_86 => ?_)
                · refine r_sipush (pc := 95) (302) dX6_split_95 rfl ?_
                  exact newT _ _ hcl n0 (fun z => absurd z n3) (fun z => absurd (by rw [z]; rfl) c_86)
                · refine r_sipush (pc := 89) (300) dX6_split_89 rfl ?_
                  refine r_goto (pc := 92) (tgt := 98) dX6_split_92 (by decide) ?_
                  exact newT _ _ hcl n0 (fun z => absurd z n3) (fun _ => rfl)
              · refine r_iload (pc := 78) 5 dX6_split_78 rfl ?_
                refine r_goto (pc := 80) (tgt := 98) dX6_split_80 (by decide) ?_
                exact newT _ _ hcl n0 (fun _ => rfl) (fun z => by have := nI_inj (b := 3) (by omega) (by decide) c_75; omega)
        refine r_iload (pc := 36) 6 dX6_split_36 rfl ?_
        refine r_iload_n (pc := 38) 2 dX6_split_38 rfl ?_
        refine r_icmp_ne (pc := 39) (tgt := 58) dX6_split_39 (by decide) (fun c_39 => ?_) (fun c_39 => ?_)
        · refine r_iconst (pc := 58) (0) dX6_split_58 rfl ?_
          exact at59 false ⟨fun z => absurd z (by decide), fun z => absurd (by rw [z.1]) c_39⟩
        · have e39 := nI_inj (by omega) (by omega) c_39
          refine r_iload (pc := 42) 6 dX6_split_42 rfl ?_
          refine r_iconst (pc := 44) (1) dX6_split_44 rfl ?_
          refine r_icmp_eq (pc := 45) (tgt := 54) dX6_split_45 (by decide) (fun c_45 => ?_) (fun c_45 => ?_)
          · refine r_iconst (pc := 54) (1) dX6_split_54 rfl ?_
            refine r_goto (pc := 55) (tgt := 59) dX6_split_55 (by decide) ?_
            exact at59 true ⟨fun _ => ⟨e39, Or.inl (nI_inj (b := 1) (by omega) (by decide) c_45)⟩, fun _ => rfl⟩
          · refine r_iload (pc := 48) 6 dX6_split_48 rfl ?_
            refine r_iconst (pc := 50) (2) dX6_split_50 rfl ?_
            refine r_icmp_ne (pc := 51) (tgt := 58) dX6_split_51 (by decide) (fun c_51 => ?_) (fun c_51 => ?_)
            · refine r_iconst (pc := 58) (0) dX6_split_58 rfl ?_
              exact at59 false ⟨fun z => absurd z (by decide), fun z => z.2.elim (fun w => absurd (by rw [w]; rfl) c_45) (fun w => absurd (by rw [w]; rfl) c_51)⟩
            · refine r_iconst (pc := 54) (1) dX6_split_54 rfl ?_
              refine r_goto (pc := 55) (tgt := 59) dX6_split_55 (by decide) ?_
              exact at59 true ⟨fun _ => ⟨e39, Or.inr (nI_inj (b := 2) (by omega) (by decide) c_51)⟩, fun _ => rfl⟩
    · intro hh T bf lt fr hS hbf
      obtain ⟨hch, hwh, hnh, hbh⟩ := hFr fr
      obtain ⟨⟨hT, hTq, -⟩, -⟩ := id hS
      have hA := hS.done hB (fun z => by omega)
      have ef : runE isBl b n (tP b n T) = n := run_is hA.2.1 (Nat.le_refl _) hA.2.2 (fun z => by omega)
      have et : tk b n T = (n, n, 0, 0) := by unfold tk scan scanF; rw [ef, if_pos rfl]
      refine r_iload (pc := 12) 4 dX6_split_12 rfl ?_
      refine r_aload_n (pc := 14) 1 dX6_split_14 rfl ?_
      refine r_getI (pc := 15) fl_X6_60 (ca_24 hch) dX6_split_15 ?_
      rw [hnh]
      refine r_icmp_ge (pc := 18) (tgt := 148) dX6_split_18 (by decide) (fun c_18 => ?_) (fun c_18 => ?_)
      · refine r_aload_n (pc := 148) 0 dX6_split_148 rfl ?_
        refine r_sipush (pc := 149) (301) dX6_split_149 rfl ?_
        refine r_aload_n (pc := 152) 1 dX6_split_152 rfl ?_
        refine r_getI (pc := 153) fl_X6_60 (ca_24 hch) dX6_split_153 ?_
        rw [hnh]
        refine r_dV0 (pc := 156) (As := [_, _]) mv_X6_addToken ml_X6_96 (c6_addToken hch hT (by omega) _ _) (ca_26 hch) rfl rfl (Nat.le_of_ble_eq_true rfl) (Nat.le_of_ble_eq_true rfl) (Nat.le_of_ble_eq_true rfl) (Nat.le_of_ble_eq_true rfl) (Nat.le_of_ble_eq_true rfl) dX6_split_156 ?_
        refine r_vret (pc := 159) rfl ?_ (Nat.le_of_ble_eq_true rfl) (Nat.le_of_ble_eq_true rfl) dX6_split_159
        refine ⟨rfl, fr.tr ((((Fr.wI (by unfold spS; omega)).tr (Fr.wI (by unfold spS; omega))).tr (Fr.wI (by unfold spS; omega))).tr (Fr.wI (by unfold spS; omega))), T, hI_at, by omega, fun i hi => (hA.1 i hi).cg (by rw [hI_ne (by omega), hI_ne (by omega), hI_ne (by omega), hI_ne (by omega)]) (by rw [hI_ne (by omega), hI_ne (by omega), hI_ne (by omega), hI_ne (by omega)]) (by rw [hI_ne (by omega), hI_ne (by omega), hI_ne (by omega), hI_ne (by omega)]), ?_, by rw [et]⟩
        unfold KR
        rw [et]
        refine ⟨by rw [hI_ne (by omega), hI_ne (by omega), hI_at], Or.inl ⟨rfl, by rw [hI_ne (by omega), hI_ne (by omega), hI_ne (by omega), hI_at]⟩⟩
      · exact absurd (Int32.le_refl _) c_18
  refine loop 0 (by omega) _ 0 0 0 (Fr.wI (by unfold spS; omega)) ⟨⟨hI_at, by omega, by omega⟩, Or.inl ⟨Or.inl rfl, fun i hi => by omega, by show 0 ≤ 0; omega, fun z h1 h2 => by omega⟩⟩ (by omega)
end SPLIT
