/-! the reference: an order read -/
section ORDER12
variable {E : En} {h : Hp} {m : Nat} {μ : Mu} {l : La} {n : Nat}
/-- a sum that is read, between two marks in the orders' row -/
theorem ct_readSumB (hm : Md E h m) {k i : Nat} {C O A P T : Nat → Int32} {x cc lv pp op : Int32} (hk : k + 1 < 96) : Ct E 7 0 0 mX12_readSum [.ref m, .int (nI k)] (mH h m (rM (clM μ 32 C x) n i true cc lv pp op O A P T) (rL μ l n i)) (po none (mH h m (rM (clM μ 32 (va_up (va_up C k cc) (k + 1) cc) x) n i true cc lv pp op O A P T) (rL μ l n i))) := by
  have hw : wOK 32 := Or.inr rfl
  refine Ct.of (by decide +kernel) (Nat.le_of_ble_eq_true rfl) ?_
  refine r_aload_n (pc := 0) 0 dX12_readSum_0 rfl ?_
  refine q_getR (pc := 1) fl_X12_149 hm (md_f52 hm) dX12_readSum_1 ?_
  refine r_iload_n (pc := 4) 1 dX12_readSum_4 rfl ?_
  refine r_aload_n (pc := 5) 0 dX12_readSum_5 rfl ?_
  refine q_getI (pc := 6) fl_X12_297 hm dX12_readSum_6 ?_
  refine q_iast (pc := 9) (j := k) (md_r52 hm) (by decide) rfl (by omega) (by decide) dX12_readSum_9 ?_
  rw [cl_uw hw]
  refine r_aload_n (pc := 10) 0 dX12_readSum_10 rfl ?_
  refine q_getI (pc := 11) fl_X12_260 hm dX12_readSum_11 ?_
  refine r_if_ne (pc := 14) (tgt := 22) dX12_readSum_14 (by decide) (fun c_14 => ?_) (fun c_14 => ?_)
  · refine r_aload_n (pc := 22) 0 dX12_readSum_22 rfl ?_
    refine q_getR (pc := 23) fl_X12_149 hm (md_f52 hm) dX12_readSum_23 ?_
    refine r_iload_n (pc := 26) 1 dX12_readSum_26 rfl ?_
    refine r_iconst (pc := 27) (1) dX12_readSum_27 rfl ?_
    refine r_iadd (pc := 28) dX12_readSum_28 ?_
    refine r_aload_n (pc := 29) 0 dX12_readSum_29 rfl ?_
    refine q_getI (pc := 30) fl_X12_297 hm dX12_readSum_30 ?_
    refine q_iast (pc := 33) (j := k + 1) (md_r52 hm) (by decide) (by simp only [fa_lit, nI_add, nI_mul]) (by omega) (by decide) dX12_readSum_33 ?_
    refine r_vret (pc := 34) rfl ?_ (Nat.le_of_ble_eq_true rfl) (Nat.le_of_ble_eq_true rfl) dX12_readSum_34
    rw [cl_uw hw]
    exact ⟨rfl, rfl⟩
  · exact absurd (show bI true = 0 from c_14) (by decide)
def pSm (h : Hp) (m : Nat) (μ : Mu) (l : La) (C : Nat → Int32) (k : Nat) (x : Int32) (n : Nat) (O0 A0 : Nat → Int32) (c0 : Nat) (r : Xr) : Option Value → Hp → Prop := fun v h' => v = none ∧ match r with
  | .inl j => ∃ C' cc lv pp op O A P T, h' = mH h m (rM (clM μ 32 C' x) n j true cc lv pp op O A P T) (rL μ l n j)
  | .inr y => ∃ cc pp op O A P T, h' = mH h m (rM (clM μ 32 (va_up (va_up C k (nI c0)) (k + 1) (nI cc)) x) n y.1 false (nI cc) (nI y.2.1) pp op O A P T) (rL μ l n y.1) ∧ Seg O A true c0 cc y.2.2 ∧ cc ≤ y.1 ∧ y.1 ≤ (tk (μ 9) n y.1).1 ∧ y.2.1 ≤ 50 ∧ ∀ k, k < c0 → O k = O0 k ∧ A k = A0 k
theorem ct_readSum (hm : Md E h m) (hn : μ 0 13 = nI n) (h4 : n ≤ 400) (ho : μ 0 20 = bI true) {C P T O0 A0 : Nat → Int32} {x pp op : Int32} {k i lv c0 : Nat} (hk : k + 1 < 96) (hlv : lv ≤ 50) (hi : i ≤ (tk (μ 9) n i).1) (hc : c0 ≤ i) {y : Xr} (hy : ExM (l 15) (l 16) true (tk (μ 9) n) false i lv y) :
    Ct E 7 0 0 mX12_readSum [.ref m, .int (nI k)] (mH h m (rM (clM μ 32 C x) n i false (nI c0) (nI lv) pp op O0 A0 P T) (rL μ l n i)) (pSm h m μ l C k x n O0 A0 c0 y) := by
  have hw : wOK 32 := Or.inr rfl
  refine Ct.of (by decide +kernel) (Nat.le_of_ble_eq_true rfl) ?_
  refine r_aload_n (pc := 0) 0 dX12_readSum_0 rfl ?_
  refine q_getR (pc := 1) fl_X12_149 hm (md_f52 hm) dX12_readSum_1 ?_
  refine r_iload_n (pc := 4) 1 dX12_readSum_4 rfl ?_
  refine r_aload_n (pc := 5) 0 dX12_readSum_5 rfl ?_
  refine q_getI (pc := 6) fl_X12_297 hm dX12_readSum_6 ?_
  refine q_iast (pc := 9) (j := k) (md_r52 hm) (by decide) rfl (by omega) (by decide) dX12_readSum_9 ?_
  rw [rM_23, cl_uw hw]
  refine r_aload_n (pc := 10) 0 dX12_readSum_10 rfl ?_
  refine q_getI (pc := 11) fl_X12_260 hm dX12_readSum_11 ?_
  refine r_if_ne (pc := 14) (tgt := 22) dX12_readSum_14 (by decide) (fun c_14 => ?_) (fun c_14 => ?_)
  · exact absurd (show bI false = 0 from rfl) c_14
  · refine r_aload_n (pc := 17) 0 dX12_readSum_17 rfl ?_
    refine r_iconst (pc := 18) (0) dX12_readSum_18 rfl ?_
    refine r_callV (pc := 19) (As := [_]) mv_X12_readExpression ml_X12_396 (cl_expr (test := false) (c0 := c0) (O0 := O0) (A0 := A0) hm hw hn h4 ho hlv hi hc hy) (q_is hm) rfl rfl (Nat.le_of_ble_eq_true rfl) (Nat.le_of_ble_eq_true rfl) (Nat.le_of_ble_eq_true rfl) (Nat.le_of_ble_eq_true rfl) (Nat.le_of_ble_eq_true rfl) dX12_readSum_19 (fun r h1 hp => ?_)
    obtain ⟨rfl, hp⟩ := hp
    show Wp E mX12_readSum _ _ _ _ [] _ 0 0
    cases y with
    | inl j =>
      obtain ⟨cc, lv', pp', op', O', A', P', T', rfl⟩ := hp
      refine r_aload_n (pc := 22) 0 dX12_readSum_22 rfl ?_
      refine q_getR (pc := 23) fl_X12_149 hm (md_f52 hm) dX12_readSum_23 ?_
      refine r_iload_n (pc := 26) 1 dX12_readSum_26 rfl ?_
      refine r_iconst (pc := 27) (1) dX12_readSum_27 rfl ?_
      refine r_iadd (pc := 28) dX12_readSum_28 ?_
      refine r_aload_n (pc := 29) 0 dX12_readSum_29 rfl ?_
      refine q_getI (pc := 30) fl_X12_297 hm dX12_readSum_30 ?_
      refine q_iast (pc := 33) (j := k + 1) (md_r52 hm) (by decide) (by simp only [fa_lit, nI_add, nI_mul]) (by omega) (by decide) dX12_readSum_33 ?_
      refine r_vret (pc := 34) rfl ?_ (Nat.le_of_ble_eq_true rfl) (Nat.le_of_ble_eq_true rfl) dX12_readSum_34
      rw [cl_uw hw]
      exact ⟨rfl, _, _, _, _, _, _, _, _, _, rfl⟩
    | inr y =>
      obtain ⟨cc, pp', op', O', A', P', T', rfl, k1, k2, k3, k4, k5⟩ := hp
      refine r_aload_n (pc := 22) 0 dX12_readSum_22 rfl ?_
      refine q_getR (pc := 23) fl_X12_149 hm (md_f52 hm) dX12_readSum_23 ?_
      refine r_iload_n (pc := 26) 1 dX12_readSum_26 rfl ?_
      refine r_iconst (pc := 27) (1) dX12_readSum_27 rfl ?_
      refine r_iadd (pc := 28) dX12_readSum_28 ?_
      refine r_aload_n (pc := 29) 0 dX12_readSum_29 rfl ?_
      refine q_getI (pc := 30) fl_X12_297 hm dX12_readSum_30 ?_
      refine q_iast (pc := 33) (j := k + 1) (md_r52 hm) (by decide) (by simp only [fa_lit, nI_add, nI_mul]) (by omega) (by decide) dX12_readSum_33 ?_
      refine r_vret (pc := 34) rfl ?_ (Nat.le_of_ble_eq_true rfl) (Nat.le_of_ble_eq_true rfl) dX12_readSum_34
      rw [rM_23, cl_uw hw]
      exact ⟨rfl, cc, _, _, O', A', _, _, rfl, k1, k2, k3, k4, k5⟩
/-- what stands of an order, its sums read -/
def OF (C O A C0 O0 A0 : Nat → Int32) (q c0 c1 : Nat) (hd : Int32) (s1 s2 : Sm) : Prop := (∃ a1 b1 a3 b3 : Nat, C (8 * q) = hd ∧ C (8 * q + 1) = nI a1 ∧ C (8 * q + 2) = nI b1 ∧ C (8 * q + 3) = nI a3 ∧ C (8 * q + 4) = nI b3 ∧ a1 ≤ c1 ∧ b1 ≤ c1 ∧ a3 ≤ c1 ∧ b3 ≤ c1 ∧ (hd ≠ 3 → Seg O A true a1 b1 s1 ∧ Seg O A true a3 b3 s2) ∧ (hd = 3 → a1 = b1 ∧ a3 = b3)) ∧ (∀ k, k < 8 * q → C k = C0 k) ∧ (∀ k, k < c0 → O k = O0 k ∧ A k = A0 k) ∧ c0 ≤ c1
theorem OF_up {C O A C0 O0 A0 : Nat → Int32} {q c0 c1 k : Nat} {hd v : Int32} {s1 s2 : Sm} (hk : 8 * q + 4 < k) (hf : OF C O A C0 O0 A0 q c0 c1 hd s1 s2) : OF (va_up C k v) O A C0 O0 A0 q c0 c1 hd s1 s2 := by
  obtain ⟨⟨a1, b1, a3, b3, e0, e1, e2, e3, e4, r⟩, g1, g2⟩ := hf
  refine ⟨⟨a1, b1, a3, b3, ?_, ?_, ?_, ?_, ?_, r⟩, fun j hj => ?_, g2⟩
  · rw [va_up_ne _ _ (by omega)]; exact e0
  · rw [va_up_ne _ _ (by omega)]; exact e1
  · rw [va_up_ne _ _ (by omega)]; exact e2
  · rw [va_up_ne _ _ (by omega)]; exact e3
  · rw [va_up_ne _ _ (by omega)]; exact e4
  · rw [va_up_ne _ _ (by omega)]; exact g1 j hj
theorem OF_code {C O A O' A' C0 O0 A0 : Nat → Int32} {q c0 c1 c2 : Nat} {hd : Int32} {s1 s2 : Sm} (hc : c1 ≤ c2) (ho : ∀ k, k < c1 → O' k = O k ∧ A' k = A k) (hf : OF C O A C0 O0 A0 q c0 c1 hd s1 s2) : OF C O' A' C0 O0 A0 q c0 c2 hd s1 s2 := by
  obtain ⟨⟨a1, b1, a3, b3, e0, e1, e2, e3, e4, r1, r2, r3, r4, r5, r6⟩, g1, g2, g3⟩ := hf
  exact ⟨⟨a1, b1, a3, b3, e0, e1, e2, e3, e4, by omega, by omega, by omega, by omega, fun z => ⟨Seg_cong (fun k h1 h2 => ho k (by omega)) (r5 z).1, Seg_cong (fun k h1 h2 => ho k (by omega)) (r5 z).2⟩, r6⟩, g1, fun k hk => ⟨(ho k (by omega)).1.trans (g2 k hk).1, (ho k (by omega)).2.trans (g2 k hk).2⟩, by omega⟩
/-- an order as it lies in the row -/
def NOr (C O A : Nat → Int32) (q : Nat) (d : Od) (hi : Nat) : Prop := ∃ a1 b1 a3 b3 a5 b5 : Nat, a1 ≤ hi ∧ b1 ≤ hi ∧ a3 ≤ hi ∧ b3 ≤ hi ∧ a5 ≤ hi ∧ b5 ≤ hi ∧ (∃ k, k < 4 ∧ d.1 = nI k) ∧ C (8 * q) = d.1 ∧ C (8 * q + 1) = nI a1 ∧ C (8 * q + 2) = nI b1 ∧ C (8 * q + 3) = nI a3 ∧ C (8 * q + 4) = nI b3 ∧ C (8 * q + 5) = nI a5 ∧ C (8 * q + 6) = nI b5 ∧ C (8 * q + 7) = nI d.2.1 ∧ d.2.1 ≤ 20 ∧ (match d.2.2.1 with | none => b5 ≤ a5 | some s => Seg O A true a5 b5 s) ∧ (d.1 ≠ 3 → Seg O A true a1 b1 d.2.2.2.1 ∧ Seg O A true a3 b3 d.2.2.2.2) ∧ (d.1 = 3 → a1 = b1 ∧ a3 = b3)
theorem NOr_cong {C O A C' O' A' : Nat → Int32} {q : Nat} {d : Od} {hi hi' : Nat} (hh : hi ≤ hi') (hC : ∀ k, k < 8 * q + 8 → C' k = C k) (hO : ∀ k, k < hi → O' k = O k ∧ A' k = A k) (hc : NOr C O A q d hi) : NOr C' O' A' q d hi' := by
  obtain ⟨a1, b1, a3, b3, a5, b5, h1, h2, h3, h4, h5, h6, hk, e0, e1, e2, e3, e4, e5, e6, e7, h20, hif, hs, hz⟩ := hc
  refine ⟨a1, b1, a3, b3, a5, b5, by omega, by omega, by omega, by omega, by omega, by omega, hk, (hC _ (by omega)).trans e0, (hC _ (by omega)).trans e1, (hC _ (by omega)).trans e2, (hC _ (by omega)).trans e3, (hC _ (by omega)).trans e4, (hC _ (by omega)).trans e5, (hC _ (by omega)).trans e6, (hC _ (by omega)).trans e7, h20, ?_, fun z => ⟨Seg_cong (fun k g1 g2 => hO k (by omega)) (hs z).1, Seg_cong (fun k g1 g2 => hO k (by omega)) (hs z).2⟩, hz⟩
  cases hc1 : d.2.2.1 with
  | none => rw [hc1] at hif; exact hif
  | some s => rw [hc1] at hif; exact Seg_cong (fun k g1 g2 => hO k (by omega)) hif
def pD (h : Hp) (m : Nat) (μ : Mu) (l : La) (n q c0 : Nat) (C0 O0 A0 : Nat → Int32) (r : Nat ⊕ (Nat × Nat × Od)) : Option Value → Hp → Prop := fun v h' => v = none ∧ match r with
  | .inl j => ∃ C x cc lv pp op O A P T, h' = mH h m (rM (clM μ 32 C x) n j true cc lv pp op O A P T) (rL μ l n j)
  | .inr y => ∃ C cc pp op O A P T, h' = mH h m (rM (clM μ 32 C (nI (q + 1))) n y.1 false (nI cc) (nI y.2.1) pp op O A P T) (rL μ l n y.1) ∧ NOr C O A q y.2.2 cc ∧ c0 ≤ cc ∧ cc ≤ y.1 ∧ y.1 ≤ (tk (μ 9) n y.1).1 ∧ y.2.1 ≤ 50 ∧ q < 12 ∧ (∀ k, k < 8 * q → C k = C0 k) ∧ ∀ k, k < c0 → O k = O0 k ∧ A k = A0 k
theorem num_20 {t : Tk} (ht : numB t 1 20 = true) : t.2.2.2.toInt.toNat ≤ 20 ∧ t.2.2.2.toInt32 = nI t.2.2.2.toInt.toNat := by
  obtain ⟨_, g1, g2⟩ := of_decide_eq_true ht
  rw [fa_le64] at g1 g2
  have g1' : (1 : Int) ≤ t.2.2.2.toInt := g1
  have g2' : t.2.2.2.toInt ≤ (20 : Int) := g2
  refine ⟨by omega, ?_⟩
  apply Int32.toInt_inj.mp
  rw [nI_toInt (by omega), Int64.toInt_toInt32, Int.bmod_eq_of_le (by omega) (by omega)]; omega
theorem ct_readOrder (hm : Md E h m) (hn : μ 0 13 = nI n) (h4 : n ≤ 400) (ho : μ 0 20 = bI true) {C0 P T O0 A0 : Nat → Int32} {pp op : Int32} {i lv c0 q : Nat} (hq : q ≤ 12) (hlv : lv ≤ 50) (hi : i ≤ (tk (μ 9) n i).1) (hc : c0 ≤ i) {rr : Nat ⊕ (Nat × Nat × Od)} (hr : OrdCl (l 15) (l 16) (l 31) (tk (μ 9) n) q i lv rr) :
    Ct E 8 0 0 mX12_readOrder [.ref m] (mH h m (rM (clM μ 32 C0 (nI q)) n i false (nI c0) (nI lv) pp op O0 A0 P T) (rL μ l n i)) (pD h m μ l n q c0 C0 O0 A0 rr) := by
  have hw : wOK 32 := Or.inr rfl
  refine Ct.of (by decide +kernel) (Nat.le_of_ble_eq_true rfl) ?_
  have hhd := hdN_k (l 31) (tk (μ 9) n i) 4
  unfold OrdCl at hr
  generalize hde : hdN (l 31) (tk (μ 9) n i) 4 = hd at hr hhd
  have bad246 : ∀ (a3 : Int32) (C : Nat → Int32) (x cc lv pp op : Int32) (O A P T : Nat → Int32) (j : Nat), q < 12 → rr = .inl j → Wp E mX12_readOrder (Rm 8 0 0) (Qm E (pD h m μ l n q c0 C0 O0 A0 rr) 0 0) 246 [(0, .ref m), (1, .int hd), (2, .int (nI (8 * q))), (3, .int a3)] [] (mH h m (rM (clM μ 32 C x) n j true cc lv pp op O A P T) (rL μ l n j)) 0 0 := by
    intro a3 C x cc lv pp op O A P T j hq12 hj
    subst hj
    refine r_aload_n (pc := 246) 0 dX12_readOrder_246 rfl ?_
    refine q_getR (pc := 247) fl_X12_149 hm (md_f52 hm) dX12_readOrder_247 ?_
    refine r_iload_n (pc := 250) 2 dX12_readOrder_250 rfl ?_
    refine r_bipush (pc := 251) (6) dX12_readOrder_251 rfl ?_
    refine r_iadd (pc := 253) dX12_readOrder_253 ?_
    refine r_aload_n (pc := 254) 0 dX12_readOrder_254 rfl ?_
    refine q_getI (pc := 255) fl_X12_297 hm dX12_readOrder_255 ?_
    refine q_iast (pc := 258) (j := 8 * q + 6) (md_r52 hm) (by decide) (by simp only [fa_lit, nI_add, nI_mul]) (by omega) (by decide) dX12_readOrder_258 ?_
    refine r_vret (pc := 259) rfl ?_ (Nat.le_of_ble_eq_true rfl) (Nat.le_of_ble_eq_true rfl) dX12_readOrder_259
    rw [cl_uw hw]
    exact ⟨rfl, _, _, _, _, _, _, _, _, _, _, rfl⟩
  have bad208 : ∀ (a3 : Int32) (C : Nat → Int32) (x cc lv pp op : Int32) (O A P T : Nat → Int32) (j : Nat), q < 12 → rr = .inl j → Wp E mX12_readOrder (Rm 8 0 0) (Qm E (pD h m μ l n q c0 C0 O0 A0 rr) 0 0) 208 [(0, .ref m), (1, .int hd), (2, .int (nI (8 * q))), (3, .int a3)] [] (mH h m (rM (clM μ 32 C x) n j true cc lv pp op O A P T) (rL μ l n j)) 0 0 := by
    intro a3 C x cc lv pp op O A P T j hq12 hj
    refine r_aload_n (pc := 208) 0 dX12_readOrder_208 rfl ?_
    refine q_getR (pc := 209) fl_X12_149 hm (md_f52 hm) dX12_readOrder_209 ?_
    refine r_iload_n (pc := 212) 2 dX12_readOrder_212 rfl ?_
    refine r_iconst (pc := 213) (5) dX12_readOrder_213 rfl ?_
    refine r_iadd (pc := 214) dX12_readOrder_214 ?_
    refine r_aload_n (pc := 215) 0 dX12_readOrder_215 rfl ?_
    refine q_getI (pc := 216) fl_X12_297 hm dX12_readOrder_216 ?_
    refine q_iast (pc := 219) (j := 8 * q + 5) (md_r52 hm) (by decide) (by simp only [fa_lit, nI_add, nI_mul]) (by omega) (by decide) dX12_readOrder_219 ?_
    rw [cl_uw hw]
    refine r_aload_n (pc := 220) 0 dX12_readOrder_220 rfl ?_
    refine q_getI (pc := 221) fl_X12_260 hm dX12_readOrder_221 ?_
    refine r_if_ne (pc := 224) (tgt := 246) dX12_readOrder_224 (by decide) (fun c_224 => ?_) (fun c_224 => ?_)
    · exact bad246 _ _ _ _ _ _ _ _ _ _ _ j hq12 hj
    · exact absurd (show bI true = 0 from c_224) (by decide)
  have bad160 : ∀ (a3 : Int32) (C : Nat → Int32) (x cc lv pp op : Int32) (O A P T : Nat → Int32) (j : Nat), q < 12 → rr = .inl j → Wp E mX12_readOrder (Rm 8 0 0) (Qm E (pD h m μ l n q c0 C0 O0 A0 rr) 0 0) 160 [(0, .ref m), (1, .int hd), (2, .int (nI (8 * q))), (3, .int a3)] [] (mH h m (rM (clM μ 32 C x) n j true cc lv pp op O A P T) (rL μ l n j)) 0 0 := by
    intro a3 C x cc lv pp op O A P T j hq12 hj
    refine r_aload_n (pc := 160) 0 dX12_readOrder_160 rfl ?_
    refine q_getR (pc := 161) fl_X12_149 hm (md_f52 hm) dX12_readOrder_161 ?_
    refine r_iload_n (pc := 164) 2 dX12_readOrder_164 rfl ?_
    refine r_bipush (pc := 165) (7) dX12_readOrder_165 rfl ?_
    refine r_iadd (pc := 167) dX12_readOrder_167 ?_
    refine r_iconst (pc := 168) (1) dX12_readOrder_168 rfl ?_
    refine q_iast (pc := 169) (j := 8 * q + 7) (md_r52 hm) (by decide) (by simp only [fa_lit, nI_add, nI_mul]) (by omega) (by decide) dX12_readOrder_169 ?_
    rw [cl_uw hw]
    refine r_aload_n (pc := 170) 0 dX12_readOrder_170 rfl ?_
    refine q_getI (pc := 171) fl_X12_260 hm dX12_readOrder_171 ?_
    refine r_if_ne (pc := 174) (tgt := 208) dX12_readOrder_174 (by decide) (fun c_174 => ?_) (fun c_174 => ?_)
    · exact bad208 _ _ _ _ _ _ _ _ _ _ _ j hq12 hj
    · exact absurd (show bI true = 0 from c_174) (by decide)
  have bad153 : ∀ (a3 : Int32) (C : Nat → Int32) (x cc lv pp op : Int32) (O A P T : Nat → Int32) (j : Nat), q < 12 → rr = .inl j → Wp E mX12_readOrder (Rm 8 0 0) (Qm E (pD h m μ l n q c0 C0 O0 A0 rr) 0 0) 153 [(0, .ref m), (1, .int hd), (2, .int (nI (8 * q))), (3, .int a3)] [] (mH h m (rM (clM μ 32 C x) n j true cc lv pp op O A P T) (rL μ l n j)) 0 0 := by
    intro a3 C x cc lv pp op O A P T j hq12 hj
    refine r_aload_n (pc := 153) 0 dX12_readOrder_153 rfl ?_
    refine r_iload_n (pc := 154) 2 dX12_readOrder_154 rfl ?_
    refine r_iconst (pc := 155) (3) dX12_readOrder_155 rfl ?_
    refine r_iadd (pc := 156) dX12_readOrder_156 ?_
    rw [show nI (8 * q) + 3 = nI (8 * q + 3) by simp only [fa_lit, nI_add]]
    refine r_dV0 (pc := 157) (As := [_]) mv_X12_readSum ml_X12_495 (ct_readSumB hm (show 8 * q + 3 + 1 < 96 by omega)) (q_is hm) rfl rfl (Nat.le_of_ble_eq_true rfl) (Nat.le_of_ble_eq_true rfl) (Nat.le_of_ble_eq_true rfl) (Nat.le_of_ble_eq_true rfl) (Nat.le_of_ble_eq_true rfl) dX12_readOrder_157 ?_
    exact bad160 _ _ _ _ _ _ _ _ _ _ _ j hq12 hj
  have good208 : ∀ (a3 : Int32) (C : Nat → Int32) (i2 lv2 c2 tm : Nat) (s1 s2 : Sm) (pp op : Int32) (O A P T : Nat → Int32), q < 12 → OF C O A C0 O0 A0 q c0 c2 hd s1 s2 → C (8 * q + 7) = nI tm → tm ≤ 20 → (∃ k, k < 4 ∧ hd = nI k) → (∃ z, IfM (l 15) (l 16) (tk (μ 9) n) true i2 lv2 z ∧ (match z with | .inl j => rr = .inl j | .inr w => rr = .inr (w.1, w.2.1, (hd, tm, w.2.2, s1, s2)))) → c2 ≤ i2 → i2 ≤ (tk (μ 9) n i2).1 → lv2 ≤ 50 → Wp E mX12_readOrder (Rm 8 0 0) (Qm E (pD h m μ l n q c0 C0 O0 A0 rr) 0 0) 208 [(0, .ref m), (1, .int hd), (2, .int (nI (8 * q))), (3, .int a3)] [] (mH h m (rM (clM μ 32 C (nI (q + 1))) n i2 false (nI c2) (nI lv2) pp op O A P T) (rL μ l n i2)) 0 0 := by
    intro a3 C i2 lv2 c2 tm s1 s2 pp op O A P T hq12 hof h7 ht20 hk4 hz g2 g3 g4
    obtain ⟨z, hz, hzr⟩ := hz
    refine r_aload_n (pc := 208) 0 dX12_readOrder_208 rfl ?_
    refine q_getR (pc := 209) fl_X12_149 hm (md_f52 hm) dX12_readOrder_209 ?_
    refine r_iload_n (pc := 212) 2 dX12_readOrder_212 rfl ?_
    refine r_iconst (pc := 213) (5) dX12_readOrder_213 rfl ?_
    refine r_iadd (pc := 214) dX12_readOrder_214 ?_
    refine r_aload_n (pc := 215) 0 dX12_readOrder_215 rfl ?_
    refine q_getI (pc := 216) fl_X12_297 hm dX12_readOrder_216 ?_
    refine q_iast (pc := 219) (j := 8 * q + 5) (md_r52 hm) (by decide) (by simp only [fa_lit, nI_add, nI_mul]) (by omega) (by decide) dX12_readOrder_219 ?_
    rw [rM_23, cl_uw hw]
    have hof5 := OF_up (k := 8 * q + 5) (v := nI c2) (by omega) hof
    have fin : ∀ (w : Option Sm) (i3 lv3 c3 : Nat) (pp op : Int32) (O' A' P T : Nat → Int32), rr = .inr (i3, lv3, (hd, tm, w, s1, s2)) → OF (va_up C (8 * q + 5) (nI c2)) O' A' C0 O0 A0 q c0 c3 hd s1 s2 → c2 ≤ c3 → c3 ≤ i3 → i3 ≤ (tk (μ 9) n i3).1 → lv3 ≤ 50 → (match w with | none => c3 ≤ c2 | some s => Seg O' A' true c2 c3 s) → Wp E mX12_readOrder (Rm 8 0 0) (Qm E (pD h m μ l n q c0 C0 O0 A0 rr) 0 0) 246 [(0, .ref m), (1, .int hd), (2, .int (nI (8 * q))), (3, .int a3)] [] (mH h m (rM (clM μ 32 (va_up C (8 * q + 5) (nI c2)) (nI (q + 1))) n i3 false (nI c3) (nI lv3) pp op O' A' P T) (rL μ l n i3)) 0 0 := by
      intro w i3 lv3 c3 pp op O' A' P T hrr hof3 b1 b2 b3 b4 hseg
      subst hrr
      refine r_aload_n (pc := 246) 0 dX12_readOrder_246 rfl ?_
      refine q_getR (pc := 247) fl_X12_149 hm (md_f52 hm) dX12_readOrder_247 ?_
      refine r_iload_n (pc := 250) 2 dX12_readOrder_250 rfl ?_
      refine r_bipush (pc := 251) (6) dX12_readOrder_251 rfl ?_
      refine r_iadd (pc := 253) dX12_readOrder_253 ?_
      refine r_aload_n (pc := 254) 0 dX12_readOrder_254 rfl ?_
      refine q_getI (pc := 255) fl_X12_297 hm dX12_readOrder_255 ?_
      refine q_iast (pc := 258) (j := 8 * q + 6) (md_r52 hm) (by decide) (by simp only [fa_lit, nI_add, nI_mul]) (by omega) (by decide) dX12_readOrder_258 ?_
      refine r_vret (pc := 259) rfl ?_ (Nat.le_of_ble_eq_true rfl) (Nat.le_of_ble_eq_true rfl) dX12_readOrder_259
      rw [rM_23, cl_uw hw]
      obtain ⟨⟨a1, b1', a3', b3', e0, e1, e2, e3, e4, r1, r2, r3, r4, r5, r6⟩, q1, q2, q3⟩ := OF_up (k := 8 * q + 6) (v := nI c3) (by omega) hof3
      refine ⟨rfl, _, c3, _, _, O', A', P, T, rfl, ⟨a1, b1', a3', b3', c2, c3, r1, r2, r3, r4, b1, Nat.le_refl _, hk4, e0, e1, e2, e3, e4, ?_, va_up_self _ _ _, ?_, ht20, hseg, r5, r6⟩, by omega, b2, b3, b4, hq12, q1, q2⟩
      · rw [va_up_ne _ _ (by omega), va_up_self]
      · rw [va_up_ne _ _ (by omega), va_up_ne _ _ (by omega)]; exact h7
    unfold IfM at hz
    refine r_aload_n (pc := 220) 0 dX12_readOrder_220 rfl ?_
    refine q_getI (pc := 221) fl_X12_260 hm dX12_readOrder_221 ?_
    refine r_if_ne (pc := 224) (tgt := 246) dX12_readOrder_224 (by decide) (fun c_224 => ?_) (fun c_224 => ?_)
    · exact absurd (show bI false = 0 from rfl) c_224
    · refine r_aload_n (pc := 227) 0 dX12_readOrder_227 rfl ?_
      refine r_ldc2_w (pc := 228) cs_X12_399 dX12_readOrder_228 ?_
      refine r_dV (pc := 231) (As := [_]) mv_X12_isWord ml_X12_318 (cl_isW hm hw 294) (q_is hm) rfl rfl (Nat.le_of_ble_eq_true rfl) (Nat.le_of_ble_eq_true rfl) (Nat.le_of_ble_eq_true rfl) (Nat.le_of_ble_eq_true rfl) (Nat.le_of_ble_eq_true rfl) dX12_readOrder_231 ?_
      refine r_if_eq (pc := 234) (tgt := 246) dX12_readOrder_234 (by decide) (fun c_234 => ?_) (fun c_234 => ?_)
      · rw [if_neg (by rw [bI_0.mp c_234]; decide)] at hz
        subst hz
        exact fin none i2 lv2 c2 _ _ _ _ _ _ hzr hof5 (Nat.le_refl _) g2 g3 g4 (Nat.le_refl _)
      · have h294 := bI_n0.mp c_234
        rw [if_pos h294] at hz
        obtain ⟨y, hy, rfl⟩ := hz
        refine r_aload_n (pc := 237) 0 dX12_readOrder_237 rfl ?_
        refine r_dV0 (pc := 238) (As := []) mv_X12_onward ml_X12_264 (cl_onw hm hw hn h4) (q_is hm) rfl rfl (Nat.le_of_ble_eq_true rfl) (Nat.le_of_ble_eq_true rfl) (Nat.le_of_ble_eq_true rfl) (Nat.le_of_ble_eq_true rfl) (Nat.le_of_ble_eq_true rfl) dX12_readOrder_238 ?_
        refine r_aload_n (pc := 241) 0 dX12_readOrder_241 rfl ?_
        refine r_iconst (pc := 242) (1) dX12_readOrder_242 rfl ?_
        refine r_callV (pc := 243) (As := [_]) mv_X12_readExpression ml_X12_396 (cl_expr (c0 := c2) (O0 := O) (A0 := A) hm hw hn h4 ho true g4 (tk_next g3 (tW_n0 h294)) (by omega) hy) (q_is hm) rfl rfl (Nat.le_of_ble_eq_true rfl) (Nat.le_of_ble_eq_true rfl) (Nat.le_of_ble_eq_true rfl) (Nat.le_of_ble_eq_true rfl) (Nat.le_of_ble_eq_true rfl) dX12_readOrder_243 (fun r h1 hp => ?_)
        obtain ⟨rfl, hp⟩ := hp
        show Wp E mX12_readOrder _ _ _ _ [] _ 0 0
        cases y with
        | inl j =>
          obtain ⟨cc, lv', pp', op', O', A', P', T', rfl⟩ := hp
          exact bad246 _ _ _ _ _ _ _ _ _ _ _ j hq12 hzr
        | inr y =>
          obtain ⟨cc, pp', op', O', A', P', T', rfl, k1, k2, k3, k4, k5⟩ := hp
          have k1' := k1.1
          exact fin (some y.2.2) y.1 y.2.1 cc _ _ _ _ _ _ hzr (OF_code (by omega) k5 hof5) (by omega) k2 k3 k4 k1
  have good160 : ∀ (a3 : Int32) (C : Nat → Int32) (i1 lv1 c1 : Nat) (s1 s2 : Sm) (pp op : Int32) (O A P T : Nat → Int32), q < 12 → OF C O A C0 O0 A0 q c0 c1 hd s1 s2 → (∃ k, k < 4 ∧ hd = nI k) → (∃ u, TimM (tk (μ 9) n) i1 u ∧ (match u with
      | .inl j => rr = .inl j
      | .inr v => ∃ z, IfM (l 15) (l 16) (tk (μ 9) n) true v.1 lv1 z ∧ (match z with | .inl j => rr = .inl j | .inr w => rr = .inr (w.1, w.2.1, (hd, v.2, w.2.2, s1, s2))))) → c1 ≤ i1 → i1 ≤ (tk (μ 9) n i1).1 → lv1 ≤ 50 → Wp E mX12_readOrder (Rm 8 0 0) (Qm E (pD h m μ l n q c0 C0 O0 A0 rr) 0 0) 160 [(0, .ref m), (1, .int hd), (2, .int (nI (8 * q))), (3, .int a3)] [] (mH h m (rM (clM μ 32 C (nI (q + 1))) n i1 false (nI c1) (nI lv1) pp op O A P T) (rL μ l n i1)) 0 0 := by
    intro a3 C i1 lv1 c1 s1 s2 pp op O A P T hq12 hof hk4 hu g2 g3 g4
    obtain ⟨u, hu, hur⟩ := hu
    refine r_aload_n (pc := 160) 0 dX12_readOrder_160 rfl ?_
    refine q_getR (pc := 161) fl_X12_149 hm (md_f52 hm) dX12_readOrder_161 ?_
    refine r_iload_n (pc := 164) 2 dX12_readOrder_164 rfl ?_
    refine r_bipush (pc := 165) (7) dX12_readOrder_165 rfl ?_
    refine r_iadd (pc := 167) dX12_readOrder_167 ?_
    refine r_iconst (pc := 168) (1) dX12_readOrder_168 rfl ?_
    refine q_iast (pc := 169) (j := 8 * q + 7) (md_r52 hm) (by decide) (by simp only [fa_lit, nI_add, nI_mul]) (by omega) (by decide) dX12_readOrder_169 ?_
    rw [cl_uw hw]
    have hof7 := OF_up (k := 8 * q + 7) (v := 1) (by omega) hof
    unfold TimM at hu
    refine r_aload_n (pc := 170) 0 dX12_readOrder_170 rfl ?_
    refine q_getI (pc := 171) fl_X12_260 hm dX12_readOrder_171 ?_
    refine r_if_ne (pc := 174) (tgt := 208) dX12_readOrder_174 (by decide) (fun c_174 => ?_) (fun c_174 => ?_)
    · exact absurd (show bI false = 0 from rfl) c_174
    · refine r_aload_n (pc := 177) 0 dX12_readOrder_177 rfl ?_
      refine r_ldc2_w (pc := 178) cs_X12_502 dX12_readOrder_178 ?_
      refine r_dV (pc := 181) (As := [_]) mv_X12_isWord ml_X12_318 (cl_isW hm hw 21279923) (q_is hm) rfl rfl (Nat.le_of_ble_eq_true rfl) (Nat.le_of_ble_eq_true rfl) (Nat.le_of_ble_eq_true rfl) (Nat.le_of_ble_eq_true rfl) (Nat.le_of_ble_eq_true rfl) dX12_readOrder_181 ?_
      refine r_if_eq (pc := 184) (tgt := 208) dX12_readOrder_184 (by decide) (fun c_184 => ?_) (fun c_184 => ?_)
      · rw [if_neg (by rw [bI_0.mp c_184]; decide)] at hu
        subst hu
        exact good208 _ _ i1 lv1 c1 1 s1 s2 _ _ _ _ _ _ hq12 hof7 (va_up_self _ _ _) (by omega) hk4 hur g2 g3 g4
      · have hT := bI_n0.mp c_184
        rw [if_pos hT] at hu
        have hnx := tk_next g3 (tW_n0 hT)
        refine r_aload_n (pc := 187) 0 dX12_readOrder_187 rfl ?_
        refine r_dV0 (pc := 188) (As := []) mv_X12_onward ml_X12_264 (cl_onw hm hw hn h4) (q_is hm) rfl rfl (Nat.le_of_ble_eq_true rfl) (Nat.le_of_ble_eq_true rfl) (Nat.le_of_ble_eq_true rfl) (Nat.le_of_ble_eq_true rfl) (Nat.le_of_ble_eq_true rfl) dX12_readOrder_188 ?_
        refine r_aload_n (pc := 191) 0 dX12_readOrder_191 rfl ?_
        refine q_getR (pc := 192) fl_X12_149 hm (md_f52 hm) dX12_readOrder_192 ?_
        refine r_iload_n (pc := 195) 2 dX12_readOrder_195 rfl ?_
        refine r_bipush (pc := 196) (7) dX12_readOrder_196 rfl ?_
        refine r_iadd (pc := 198) dX12_readOrder_198 ?_
        refine r_aload_n (pc := 199) 0 dX12_readOrder_199 rfl ?_
        refine r_lconst (pc := 200) (1) dX12_readOrder_200 rfl ?_
        refine r_ldc2_w (pc := 201) cs_X12_310 dX12_readOrder_201 ?_
        refine r_dV (pc := 204) (As := [_, _]) mv_X12_number ml_X12_357 (cl_number hm hw 1 20 hn h4) (q_is hm) rfl rfl (Nat.le_of_ble_eq_true rfl) (Nat.le_of_ble_eq_true rfl) (Nat.le_of_ble_eq_true rfl) (Nat.le_of_ble_eq_true rfl) (Nat.le_of_ble_eq_true rfl) dX12_readOrder_204 ?_
        refine q_iast (pc := 207) (j := 8 * q + 7) (md_r52 hm) (by decide) (by simp only [fa_lit, nI_add, nI_mul]) (by omega) (by decide) dX12_readOrder_207 ?_
        rw [cl_uw hw, va_up_up]
        by_cases hnb : numB (tk (μ 9) n (i1 + 1)) 1 20 = true
        · rw [if_pos hnb] at hu
          subst hu
          obtain ⟨n1, n3⟩ := num_20 hnb
          have eS : mustS (i1 + 1) false (numB (tk (μ 9) n (i1 + 1)) 1 20) = (i1 + 2, false) := by rw [hnb]; rfl
          rw [eS]
          exact good208 _ _ (i1 + 2) lv1 c1 _ s1 s2 _ _ _ _ _ _ hq12 (OF_up (k := 8 * q + 7) (by omega) hof) ((va_up_self _ _ _).trans n3) n1 hk4 hur (by omega) (tk_next hnx (numB_n0 hnb)) g4
        · rw [if_neg hnb] at hu
          subst hu
          have eS : mustS (i1 + 1) false (numB (tk (μ 9) n (i1 + 1)) 1 20) = (i1 + 1, true) := by rw [Bool.eq_false_iff.mpr hnb]; rfl
          rw [eS]
          exact bad208 _ _ _ _ _ _ _ _ _ _ _ (i1 + 1) hq12 hur
  have at54 : ∀ (g : Bool) (k : Int32), g = decide (¬ (hd = -1 ∨ ¬ q < 12)) → Wp E mX12_readOrder (Rm 8 0 0) (Qm E (pD h m μ l n q c0 C0 O0 A0 rr) 0 0) 54 [(0, .ref m), (1, .int hd), (2, .int k)] [.int (bI g), .ref m] (mH h m (rM (clM μ 32 C0 (nI q)) n i false (nI c0) (nI lv) pp op O0 A0 P T) (rL μ l n i)) 0 0 := by
    intro g k hg
    cases g with
    | false =>
      have hno : hd = -1 ∨ ¬ q < 12 := Decidable.not_not.mp (of_decide_eq_false hg.symm)
      rw [if_pos hno] at hr
      subst hr
      refine r_dV0 (pc := 54) (As := [_]) mv_X12_must ml_X12_293 (cl_must hm hw false hn h4) (q_is hm) rfl rfl (Nat.le_of_ble_eq_true rfl) (Nat.le_of_ble_eq_true rfl) (Nat.le_of_ble_eq_true rfl) (Nat.le_of_ble_eq_true rfl) (Nat.le_of_ble_eq_true rfl) dX12_readOrder_54 ?_
      refine r_aload_n (pc := 57) 0 dX12_readOrder_57 rfl ?_
      refine q_getI (pc := 58) fl_X12_260 hm dX12_readOrder_58 ?_
      refine r_if_eq (pc := 61) (tgt := 65) dX12_readOrder_61 (by decide) (fun c_61 => ?_) (fun c_61 => ?_)
      · exact absurd (show bI true = 0 from c_61) (by decide)
      · refine r_vret (pc := 64) rfl ?_ (Nat.le_of_ble_eq_true rfl) (Nat.le_of_ble_eq_true rfl) dX12_readOrder_64
        exact ⟨rfl, _, _, _, _, _, _, _, _, _, _, rfl⟩
    | true =>
      have hyes := of_decide_eq_true hg.symm
      rw [if_neg hyes] at hr
      have hq12 : q < 12 := Nat.not_le.mp (fun z => hyes (Or.inr (by omega)))
      obtain ⟨hkk, hs0⟩ := hhd.resolve_left (fun z => hyes (Or.inl z))
      have hnx := tk_next hi hs0
      refine r_dV0 (pc := 54) (As := [_]) mv_X12_must ml_X12_293 (cl_must hm hw true hn h4) (q_is hm) rfl rfl (Nat.le_of_ble_eq_true rfl) (Nat.le_of_ble_eq_true rfl) (Nat.le_of_ble_eq_true rfl) (Nat.le_of_ble_eq_true rfl) (Nat.le_of_ble_eq_true rfl) dX12_readOrder_54 ?_
      refine r_aload_n (pc := 57) 0 dX12_readOrder_57 rfl ?_
      refine q_getI (pc := 58) fl_X12_260 hm dX12_readOrder_58 ?_
      refine r_if_eq (pc := 61) (tgt := 65) dX12_readOrder_61 (by decide) (fun c_61 => ?_) (fun c_61 => ?_)
      · have eS : mustS i false true = (i + 1, false) := rfl
        rw [eS]
        refine r_bipush (pc := 65) (8) dX12_readOrder_65 rfl ?_
        refine r_aload_n (pc := 67) 0 dX12_readOrder_67 rfl ?_
        refine q_getI (pc := 68) fl_X12_393 hm dX12_readOrder_68 ?_
        refine r_imul (pc := 71) dX12_readOrder_71 ?_
        refine r_istore_n (pc := 72) (lv' := [(0, _), (1, _), (2, _)]) dX12_readOrder_72 (Nat.le_of_ble_eq_true rfl) rfl ?_
        rw [cl_21 hw, show (8 : Int32) * nI q = nI (8 * q) from nI_mul 8 q]
        refine r_aload_n (pc := 73) 0 dX12_readOrder_73 rfl ?_
        refine r_dup (pc := 74) dX12_readOrder_74 rfl ?_
        refine q_getI (pc := 75) fl_X12_393 hm dX12_readOrder_75 ?_
        refine r_iconst (pc := 78) (1) dX12_readOrder_78 rfl ?_
        refine r_iadd (pc := 79) dX12_readOrder_79 ?_
        refine q_putI (pc := 80) fp_X12_393 hm dX12_readOrder_80 ?_
        refine r_iconst (pc := 83) (0) dX12_readOrder_83 rfl ?_
        refine r_istore_n (pc := 84) (lv' := [(0, _), (1, _), (2, _), (3, _)]) dX12_readOrder_84 (Nat.le_of_ble_eq_true rfl) rfl ?_
        rw [cl_21 hw, nI_1, cl_un hw]
        have at106 : Wp E mX12_readOrder (Rm 8 0 0) (Qm E (pD h m μ l n q c0 C0 O0 A0 rr) 0 0) 106 [(0, .ref m), (1, .int hd), (2, .int (nI (8 * q))), (3, .int (nI 8))] [] (mH h m (rM (clM μ 32 (zC C0 q 8) (nI (q + 1))) n (i + 1) false (nI c0) (nI lv) pp op O0 A0 P T) (rL μ l n (i + 1))) 0 0 := by
          refine r_aload_n (pc := 106) 0 dX12_readOrder_106 rfl ?_
          refine q_getR (pc := 107) fl_X12_149 hm (md_f52 hm) dX12_readOrder_107 ?_
          refine r_iload_n (pc := 110) 2 dX12_readOrder_110 rfl ?_
          refine r_iload_n (pc := 111) 1 dX12_readOrder_111 rfl ?_
          refine q_iast (pc := 112) (j := 8 * q) (md_r52 hm) (by decide) rfl (by omega) (by decide) dX12_readOrder_112 ?_
          rw [cl_uw hw]
          obtain ⟨y, hy, hyr⟩ := hr
          unfold OrdS at hy
          have hz0 : ∀ j, 8 * q ≤ j → j < 8 * q + 8 → zC C0 q 8 j = nI 0 := fun j z1 z2 => by unfold zC; rw [if_pos ⟨z1, z2⟩]; rfl
          refine r_iload_n (pc := 113) 1 dX12_readOrder_113 rfl ?_
          refine r_iconst (pc := 114) (3) dX12_readOrder_114 rfl ?_
          refine r_icmp_eq (pc := 115) (tgt := 160) dX12_readOrder_115 (by decide) (fun c_115 => ?_) (fun c_115 => ?_)
          · rw [if_pos c_115] at hy
            subst hy
            refine good160 _ _ (i + 1) lv c0 sZ sZ _ _ _ _ _ _ hq12 ⟨⟨0, 0, 0, 0, va_up_self _ _ _, ?_, ?_, ?_, ?_, by omega, by omega, by omega, by omega, fun z => absurd c_115 z, fun _ => ⟨rfl, rfl⟩⟩, fun k hk => ?_, fun _ _ => ⟨rfl, rfl⟩, Nat.le_refl _⟩ hkk hyr (by omega) hnx hlv
            · rw [va_up_ne _ _ (by omega)]; exact hz0 _ (by omega) (by omega)
            · rw [va_up_ne _ _ (by omega)]; exact hz0 _ (by omega) (by omega)
            · rw [va_up_ne _ _ (by omega)]; exact hz0 _ (by omega) (by omega)
            · rw [va_up_ne _ _ (by omega)]; exact hz0 _ (by omega) (by omega)
            · rw [va_up_ne _ _ (by omega), zC_lo hk]
          · rw [if_neg c_115] at hy
            obtain ⟨x1, hx1, hx1r⟩ := hy
            refine r_aload_n (pc := 118) 0 dX12_readOrder_118 rfl ?_
            refine r_iload_n (pc := 119) 2 dX12_readOrder_119 rfl ?_
            refine r_iconst (pc := 120) (1) dX12_readOrder_120 rfl ?_
            refine r_iadd (pc := 121) dX12_readOrder_121 ?_
            rw [nI_1 (8 * q)]
            refine r_callV (pc := 122) (As := [_]) mv_X12_readSum ml_X12_495 (ct_readSum (c0 := c0) (O0 := O0) (A0 := A0) hm hn h4 ho (by omega) hlv hnx (by omega) hx1) (q_is hm) rfl rfl (Nat.le_of_ble_eq_true rfl) (Nat.le_of_ble_eq_true rfl) (Nat.le_of_ble_eq_true rfl) (Nat.le_of_ble_eq_true rfl) (Nat.le_of_ble_eq_true rfl) dX12_readOrder_122 (fun r h1 hp => ?_)
            obtain ⟨rfl, hp⟩ := hp
            show Wp E mX12_readOrder _ _ _ _ [] _ 0 0
            cases x1 with
            | inl j =>
              simp only at hx1r
              subst hx1r
              obtain ⟨C', cc, lv', pp', op', O', A', P', T', rfl⟩ := hp
              refine r_aload_n (pc := 125) 0 dX12_readOrder_125 rfl ?_
              refine q_getI (pc := 126) fl_X12_260 hm dX12_readOrder_126 ?_
              refine r_if_ne (pc := 129) (tgt := 153) dX12_readOrder_129 (by decide) (fun c_129 => ?_) (fun c_129 => ?_)
              · exact bad153 _ _ _ _ _ _ _ _ _ _ _ j hq12 hyr
              · exact absurd (show bI true = 0 from c_129) (by decide)
            | inr x1 =>
              simp only at hx1r
              obtain ⟨cc, pp', op', O', A', P', T', rfl, k1, k2, k3, k4, k5⟩ := hp
              have k1' := k1.1
              have at147 : ∀ w : Int64, w = (if hd = 0 then 494 else 51) → Wp E mX12_readOrder (Rm 8 0 0) (Qm E (pD h m μ l n q c0 C0 O0 A0 rr) 0 0) 147 [(0, .ref m), (1, .int hd), (2, .int (nI (8 * q))), (3, .int (nI 8))] [.long w, .ref m, .ref m] (mH h m (rM (clM μ 32 (va_up (va_up (va_up (zC C0 q 8) (8 * q) hd) (8 * q + 1) (nI c0)) (8 * q + 1 + 1) (nI cc)) (nI (q + 1))) n x1.1 false (nI cc) (nI x1.2.1) pp' op' O' A' P' T') (rL μ l n x1.1)) 0 0 := by
                intro w hwv
                rw [← hwv] at hx1r
                by_cases hW : tW (tk (μ 9) n x1.1) w = true
                · rw [if_pos hW] at hx1r
                  obtain ⟨x2, hx2, hx2r⟩ := hx1r
                  refine r_dV (pc := 147) (As := [_]) mv_X12_isWord ml_X12_318 (cl_isW hm hw w) (q_is hm) rfl rfl (Nat.le_of_ble_eq_true rfl) (Nat.le_of_ble_eq_true rfl) (Nat.le_of_ble_eq_true rfl) (Nat.le_of_ble_eq_true rfl) (Nat.le_of_ble_eq_true rfl) dX12_readOrder_147 ?_
                  rw [hW]
                  refine r_dV0 (pc := 150) (As := [_]) mv_X12_must ml_X12_293 (cl_must hm hw true hn h4) (q_is hm) rfl rfl (Nat.le_of_ble_eq_true rfl) (Nat.le_of_ble_eq_true rfl) (Nat.le_of_ble_eq_true rfl) (Nat.le_of_ble_eq_true rfl) (Nat.le_of_ble_eq_true rfl) dX12_readOrder_150 ?_
                  have eS2 : mustS x1.1 false true = (x1.1 + 1, false) := rfl
                  rw [eS2]
                  have hnx1 := tk_next k3 (tW_n0 hW)
                  refine r_aload_n (pc := 153) 0 dX12_readOrder_153 rfl ?_
                  refine r_iload_n (pc := 154) 2 dX12_readOrder_154 rfl ?_
                  refine r_iconst (pc := 155) (3) dX12_readOrder_155 rfl ?_
                  refine r_iadd (pc := 156) dX12_readOrder_156 ?_
                  rw [show nI (8 * q) + 3 = nI (8 * q + 3) by simp only [fa_lit, nI_add]]
                  refine r_callV (pc := 157) (As := [_]) mv_X12_readSum ml_X12_495 (ct_readSum (c0 := cc) (O0 := O') (A0 := A') hm hn h4 ho (by omega) k4 hnx1 (by omega) hx2) (q_is hm) rfl rfl (Nat.le_of_ble_eq_true rfl) (Nat.le_of_ble_eq_true rfl) (Nat.le_of_ble_eq_true rfl) (Nat.le_of_ble_eq_true rfl) (Nat.le_of_ble_eq_true rfl) dX12_readOrder_157 (fun r h1 hp => ?_)
                  obtain ⟨rfl, hp⟩ := hp
                  show Wp E mX12_readOrder _ _ _ _ [] _ 0 0
                  cases x2 with
                  | inl j =>
                    simp only at hx2r
                    subst hx2r
                    obtain ⟨C'', cc2, lv2, pp2, op2, O2, A2, P2, T2, rfl⟩ := hp
                    exact bad160 _ _ _ _ _ _ _ _ _ _ _ j hq12 hyr
                  | inr x2 =>
                    simp only at hx2r
                    subst hx2r
                    obtain ⟨cc2, pp2, op2, O2, A2, P2, T2, rfl, j1, j2, j3, j4, j5⟩ := hp
                    have j1' := j1.1
                    refine good160 _ _ x2.1 x2.2.1 cc2 x1.2.2 x2.2.2 _ _ _ _ _ _ hq12 ⟨⟨c0, cc, cc, cc2, ?_, ?_, ?_, ?_, va_up_self _ _ _, by omega, by omega, by omega, by omega, fun _ => ⟨Seg_cong (fun k z1 z2 => j5 k (by omega)) k1, j1⟩, fun z => absurd z c_115⟩, fun k hk => ?_, fun k hk => ⟨(j5 k (by omega)).1.trans (k5 k hk).1, (j5 k (by omega)).2.trans (k5 k hk).2⟩, by omega⟩ hkk hyr j2 j3 j4
                    · rw [va_up_ne _ _ (by omega), va_up_ne _ _ (by omega), va_up_ne _ _ (by omega), va_up_ne _ _ (by omega), va_up_self]
                    · rw [va_up_ne _ _ (by omega), va_up_ne _ _ (by omega), va_up_ne _ _ (by omega), va_up_self]
                    · rw [va_up_ne _ _ (by omega), va_up_ne _ _ (by omega)]; exact va_up_self _ _ _
                    · rw [va_up_ne _ _ (by omega), va_up_self]
                    · rw [va_up_ne _ _ (by omega), va_up_ne _ _ (by omega), va_up_ne _ _ (by omega), va_up_ne _ _ (by omega), va_up_ne _ _ (by omega), zC_lo hk]
                · rw [if_neg hW] at hx1r
                  subst hx1r
                  refine r_dV (pc := 147) (As := [_]) mv_X12_isWord ml_X12_318 (cl_isW hm hw w) (q_is hm) rfl rfl (Nat.le_of_ble_eq_true rfl) (Nat.le_of_ble_eq_true rfl) (Nat.le_of_ble_eq_true rfl) (Nat.le_of_ble_eq_true rfl) (Nat.le_of_ble_eq_true rfl) dX12_readOrder_147 ?_
                  rw [Bool.eq_false_iff.mpr hW]
                  refine r_dV0 (pc := 150) (As := [_]) mv_X12_must ml_X12_293 (cl_must hm hw false hn h4) (q_is hm) rfl rfl (Nat.le_of_ble_eq_true rfl) (Nat.le_of_ble_eq_true rfl) (Nat.le_of_ble_eq_true rfl) (Nat.le_of_ble_eq_true rfl) (Nat.le_of_ble_eq_true rfl) dX12_readOrder_150 ?_
                  exact bad153 _ _ _ _ _ _ _ _ _ _ _ x1.1 hq12 hyr
              refine r_aload_n (pc := 125) 0 dX12_readOrder_125 rfl ?_
              refine q_getI (pc := 126) fl_X12_260 hm dX12_readOrder_126 ?_
              refine r_if_ne (pc := 129) (tgt := 153) dX12_readOrder_129 (by decide) (fun c_129 => ?_) (fun c_129 => ?_)
              · exact absurd (show bI false = 0 from rfl) c_129
              · refine r_aload_n (pc := 132) 0 dX12_readOrder_132 rfl ?_
                refine r_aload_n (pc := 133) 0 dX12_readOrder_133 rfl ?_
                refine r_iload_n (pc := 134) 1 dX12_readOrder_134 rfl ?_
                refine r_if_ne (pc := 135) (tgt := 144) dX12_readOrder_135 (by decide) (fun c_135 => ?_) (fun c_135 => ?_)
                · refine r_ldc2_w (pc := 144) cs_X12_500 dX12_readOrder_144 ?_
                  exact at147 51 (by rw [if_neg c_135])
                · refine r_ldc2_w (pc := 138) cs_X12_498 dX12_readOrder_138 ?_
                  refine r_goto (pc := 141) (tgt := 147) dX12_readOrder_141 (by decide) ?_
                  exact at147 494 (by rw [if_pos c_135])
        have loop : ∀ k, k ≤ 8 → Wp E mX12_readOrder (Rm 8 0 0) (Qm E (pD h m μ l n q c0 C0 O0 A0 rr) 0 0) 85 [(0, .ref m), (1, .int hd), (2, .int (nI (8 * q))), (3, .int (nI k))] [] (mH h m (rM (clM μ 32 (zC C0 q k) (nI (q + 1))) n (i + 1) false (nI c0) (nI lv) pp op O0 A0 P T) (rL μ l n (i + 1))) 0 0 := by
          refine upTo (fun k hk ih => ?_) ?_
          · refine r_iload_n (pc := 85) 3 dX12_readOrder_85 rfl ?_
            refine r_bipush (pc := 86) (8) dX12_readOrder_86 rfl ?_
            refine r_icmp_ge (pc := 88) (tgt := 106) dX12_readOrder_88 (by decide) (fun c_88 => ?_) (fun c_88 => ?_)
            · exact absurd c_88 (nI_ge (b := 8) hk (by decide))
            · refine r_aload_n (pc := 91) 0 dX12_readOrder_91 rfl ?_
              refine q_getR (pc := 92) fl_X12_149 hm (md_f52 hm) dX12_readOrder_92 ?_
              refine r_iload_n (pc := 95) 2 dX12_readOrder_95 rfl ?_
              refine r_iload_n (pc := 96) 3 dX12_readOrder_96 rfl ?_
              refine r_iadd (pc := 97) dX12_readOrder_97 ?_
              refine r_iconst (pc := 98) (0) dX12_readOrder_98 rfl ?_
              refine q_iast (pc := 99) (j := 8 * q + k) (md_r52 hm) (by decide) (by simp only [fa_lit, nI_add, nI_mul]) (by omega) (by decide) dX12_readOrder_99 ?_
              refine r_iinc (pc := 100) (v := _ + (1)) (lv' := [(0, _), (1, _), (2, _), (3, _)]) 3 dX12_readOrder_100 rfl rfl (Nat.le_of_ble_eq_true rfl) rfl ?_
              refine r_goto (pc := 103) (tgt := 85) dX12_readOrder_103 (by decide) ?_
              rw [cl_uw hw, zC_s, nI_1]
              exact ih
          · refine r_iload_n (pc := 85) 3 dX12_readOrder_85 rfl ?_
            refine r_bipush (pc := 86) (8) dX12_readOrder_86 rfl ?_
            refine r_icmp_ge (pc := 88) (tgt := 106) dX12_readOrder_88 (by decide) (fun c_88 => ?_) (fun c_88 => ?_)
            · exact at106
            · exact absurd (show (8 : Int32) ≤ nI 8 by decide) c_88
        have h0 := loop 0 (by omega)
        rw [zC_0] at h0
        exact h0
      · exact absurd (show bI false = 0 from rfl) c_61
  have at34 : ∀ k : Int32, Wp E mX12_readOrder (Rm 8 0 0) (Qm E (pD h m μ l n q c0 C0 O0 A0 rr) 0 0) 34 [(0, .ref m), (1, .int hd), (2, .int k)] [] (mH h m (rM (clM μ 32 C0 (nI q)) n i false (nI c0) (nI lv) pp op O0 A0 P T) (rL μ l n i)) 0 0 := by
    intro k
    refine r_aload_n (pc := 34) 0 dX12_readOrder_34 rfl ?_
    refine r_iload_n (pc := 35) 1 dX12_readOrder_35 rfl ?_
    refine r_iconst (pc := 36) (-1) dX12_readOrder_36 rfl ?_
    refine r_icmp_eq (pc := 37) (tgt := 53) dX12_readOrder_37 (by decide) (fun c_37 => ?_) (fun c_37 => ?_)
    · refine r_iconst (pc := 53) (0) dX12_readOrder_53 rfl ?_
      exact at54 false _ (decide_eq_false (fun z => z (Or.inl c_37))).symm
    · refine r_aload_n (pc := 40) 0 dX12_readOrder_40 rfl ?_
      refine q_getI (pc := 41) fl_X12_393 hm dX12_readOrder_41 ?_
      refine r_bipush (pc := 44) (12) dX12_readOrder_44 rfl ?_
      refine r_icmp_ge (pc := 46) (tgt := 53) dX12_readOrder_46 (by decide) (fun c_46 => ?_) (fun c_46 => ?_)
      · rw [cl_21 hw] at c_46
        refine r_iconst (pc := 53) (0) dX12_readOrder_53 rfl ?_
        exact at54 false _ (decide_eq_false (fun z => z (Or.inr (fun y => nI_ge (a := q) (b := 12) y (by decide) c_46)))).symm
      · rw [cl_21 hw] at c_46
        refine r_iconst (pc := 49) (1) dX12_readOrder_49 rfl ?_
        refine r_goto (pc := 50) (tgt := 54) dX12_readOrder_50 (by decide) ?_
        exact at54 true _ (decide_eq_true (p := ¬ (hd = -1 ∨ ¬ q < 12)) (fun z => z.elim c_37 (fun y => c_46 (nI_le (a := 12) (b := q) (by omega) (by omega))))).symm
  have loop : ∀ k, k ≤ 4 → Wp E mX12_readOrder (Rm 8 0 0) (Qm E (pD h m μ l n q c0 C0 O0 A0 rr) 0 0) 4 [(0, .ref m), (1, .int (hdN (l 31) (tk (μ 9) n i) k)), (2, .int (nI k))] [] (mH h m (rM (clM μ 32 C0 (nI q)) n i false (nI c0) (nI lv) pp op O0 A0 P T) (rL μ l n i)) 0 0 := by
    refine upTo (fun k hk ih => ?_) ?_
    · refine r_iload_n (pc := 4) 2 dX12_readOrder_4 rfl ?_
      refine r_iconst (pc := 5) (4) dX12_readOrder_5 rfl ?_
      refine r_icmp_ge (pc := 6) (tgt := 34) dX12_readOrder_6 (by decide) (fun c_6 => ?_) (fun c_6 => ?_)
      · exact absurd c_6 (nI_ge (b := 4) hk (by decide))
      · refine r_aload_n (pc := 9) 0 dX12_readOrder_9 rfl ?_
        refine r_aload_n (pc := 10) 0 dX12_readOrder_10 rfl ?_
        refine q_getR (pc := 11) fl_X12_146 hm (md_f51 hm) dX12_readOrder_11 ?_
        refine r_iload_n (pc := 14) 2 dX12_readOrder_14 rfl ?_
        refine q_lald (pc := 15) (j := k) (md_r51 hm) (by decide) rfl (by omega) (by decide) dX12_readOrder_15 ?_
        refine r_dV (pc := 16) (As := [_]) mv_X12_isWord ml_X12_318 (cl_isW hm hw _) (q_is hm) rfl rfl (Nat.le_of_ble_eq_true rfl) (Nat.le_of_ble_eq_true rfl) (Nat.le_of_ble_eq_true rfl) (Nat.le_of_ble_eq_true rfl) (Nat.le_of_ble_eq_true rfl) dX12_readOrder_16 ?_
        refine r_if_eq (pc := 19) (tgt := 26) dX12_readOrder_19 (by decide) (fun c_19 => ?_) (fun c_19 => ?_)
        · rw [rL_o (by decide)] at c_19
          have e9 : hdN (l 31) (tk (μ 9) n i) (k + 1) = hdN (l 31) (tk (μ 9) n i) k := by rw [hdN, if_neg (by rw [bI_0.mp c_19]; decide)]
          rw [e9] at ih
          refine r_iload_n (pc := 26) 1 dX12_readOrder_26 rfl ?_
          refine r_istore_n (pc := 27) (lv' := [(0, _), (1, _), (2, _)]) dX12_readOrder_27 (Nat.le_of_ble_eq_true rfl) rfl ?_
          refine r_iinc (pc := 28) (v := _ + (1)) (lv' := [(0, _), (1, _), (2, _)]) 2 dX12_readOrder_28 rfl rfl (Nat.le_of_ble_eq_true rfl) rfl ?_
          refine r_goto (pc := 31) (tgt := 4) dX12_readOrder_31 (by decide) ?_
          rw [nI_1]; exact ih
        · rw [rL_o (by decide)] at c_19
          have e9 : hdN (l 31) (tk (μ 9) n i) (k + 1) = nI k := by rw [hdN, if_pos (bI_n0.mp c_19)]
          rw [e9] at ih
          refine r_iload_n (pc := 22) 2 dX12_readOrder_22 rfl ?_
          refine r_goto (pc := 23) (tgt := 27) dX12_readOrder_23 (by decide) ?_
          refine r_istore_n (pc := 27) (lv' := [(0, _), (1, _), (2, _)]) dX12_readOrder_27 (Nat.le_of_ble_eq_true rfl) rfl ?_
          refine r_iinc (pc := 28) (v := _ + (1)) (lv' := [(0, _), (1, _), (2, _)]) 2 dX12_readOrder_28 rfl rfl (Nat.le_of_ble_eq_true rfl) rfl ?_
          refine r_goto (pc := 31) (tgt := 4) dX12_readOrder_31 (by decide) ?_
          rw [nI_1]; exact ih
    · rw [hde]
      refine r_iload_n (pc := 4) 2 dX12_readOrder_4 rfl ?_
      refine r_iconst (pc := 5) (4) dX12_readOrder_5 rfl ?_
      refine r_icmp_ge (pc := 6) (tgt := 34) dX12_readOrder_6 (by decide) (fun c_6 => ?_) (fun c_6 => ?_)
      · exact at34 _
      · exact absurd (show (4 : Int32) ≤ nI 4 by decide) c_6
  refine r_iconst (pc := 0) (-1) dX12_readOrder_0 rfl ?_
  refine r_istore_n (pc := 1) (lv' := [(0, _), (1, _)]) dX12_readOrder_1 (Nat.le_of_ble_eq_true rfl) rfl ?_
  refine r_iconst (pc := 2) (0) dX12_readOrder_2 rfl ?_
  refine r_istore_n (pc := 3) (lv' := [(0, _), (1, _), (2, _)]) dX12_readOrder_3 (Nat.le_of_ble_eq_true rfl) rfl ?_
  exact loop 0 (by omega)
end ORDER12
