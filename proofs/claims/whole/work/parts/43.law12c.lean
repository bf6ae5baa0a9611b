/-! the reference: a text begun and ended; law() -/
section LAW12C
variable {E : En} {h : Hp} {m : Nat} {μ : Mu} {l : La} {n i : Nat} {bd : Bool} {c lv p op : Int32} {O A P T : Nat → Int32}
theorem cl_of {ν : Mu} {w : Nat} (hw : wOK w) {y : Int32} : up2 ν 0 21 y = clM ν w (ν w) y := by
  unfold wOK at hw
  funext o j; unfold up2 clM
  by_cases h1 : o = w
  · subst h1; rw [if_pos rfl, if_neg (by omega)]
  · rw [if_neg h1]
theorem ct_beginText (hm : Md E h m) (od : Bool) {w : Nat} (hw : wOK w) (hn : μ 0 13 = nI n) (h4 : n ≤ 400) : Ct E 3 0 0 mX12_beginText [.ref m, .int (bI od)] (mH h m μ l) (po none (mH h m (rM (clM (up2 μ 0 20 (bI od)) w (up2 μ 0 20 (bI od) w) (nI 0)) n 0 false (nI 0) (nI 0) (up2 μ 0 20 (bI od) 0 29) (up2 μ 0 20 (bI od) 0 30) (up2 μ 0 20 (bI od) 11) (up2 μ 0 20 (bI od) 12) (up2 μ 0 20 (bI od) 13) (up2 μ 0 20 (bI od) 14)) (rL (up2 μ 0 20 (bI od)) l n 0))) := by
  refine Ct.of (by decide +kernel) (Nat.le_of_ble_eq_true rfl) ?_
  have h1 := ct_begin (μ := up2 μ 0 20 (bI od)) (l := l) hm (n := n) (by rw [up2_ne (by omega)]; exact hn) h4
  refine r_aload_n (pc := 0) 0 dX12_beginText_0 rfl ?_
  refine r_iload_n (pc := 1) 1 dX12_beginText_1 rfl ?_
  refine q_putZ (pc := 2) fp_X12_337 hm (bI_01 od) dX12_beginText_2 ?_
  refine r_aload_n (pc := 5) 0 dX12_beginText_5 rfl ?_
  refine r_dV0 (pc := 6) (As := []) mv_X12_begin ml_X12_390 (h1) (q_is hm) rfl rfl (Nat.le_of_ble_eq_true rfl) (Nat.le_of_ble_eq_true rfl) (Nat.le_of_ble_eq_true rfl) (Nat.le_of_ble_eq_true rfl) (Nat.le_of_ble_eq_true rfl) dX12_beginText_6 ?_
  refine r_aload_n (pc := 9) 0 dX12_beginText_9 rfl ?_
  refine r_iconst (pc := 10) (0) dX12_beginText_10 rfl ?_
  refine q_putI (pc := 11) fp_X12_393 hm dX12_beginText_11 ?_
  rw [rM_field (by decide), cl_of hw]
  refine r_aload_n (pc := 14) 0 dX12_beginText_14 rfl ?_
  refine r_iconst (pc := 15) (0) dX12_beginText_15 rfl ?_
  refine q_putI (pc := 16) fp_X12_297 hm dX12_beginText_16 ?_
  rw [rM_uc]
  refine r_aload_n (pc := 19) 0 dX12_beginText_19 rfl ?_
  refine r_iconst (pc := 20) (0) dX12_beginText_20 rfl ?_
  refine q_putI (pc := 21) fp_X12_328 hm dX12_beginText_21 ?_
  refine r_vret (pc := 24) rfl ?_ (Nat.le_of_ble_eq_true rfl) (Nat.le_of_ble_eq_true rfl) dX12_beginText_24
  rw [rM_ul]
  refine ⟨rfl, ?_⟩
  rfl
/-- behind a text: nothing is ordered, the tape is empty -/
def enM (ρ : Mu) : Mu := up2 (up2 ρ 0 20 0) 0 13 0
theorem ct_endText (hm : Md E h m) {ν : Mu} {w : Nat} {C : Nat → Int32} {x : Int32} (hw : wOK w) (hn : ν 0 13 = nI n) (h4 : n ≤ 400) : Ct E 3 0 0 mX12_endText [.ref m] (mH h m (rM (clM ν w C x) n i bd c lv p op O A P T) (rL ν l n i)) (po none (mH h m (rM (enM (clM ν w C x)) n i (bd || decide (¬ (tk (ν 9) n i).2.2.1 = 0)) c lv p op O A P T) (rL ν l n i))) := by
  refine Ct.of (by decide +kernel) (Nat.le_of_ble_eq_true rfl) ?_
  have fin : ∀ b : Bool, b = (bd || decide (¬ (tk (ν 9) n i).2.2.1 = 0)) → Wp E mX12_endText (Rm 3 0 0) (Qm E (po none (mH h m (rM (enM (clM ν w C x)) n i (bd || decide (¬ (tk (ν 9) n i).2.2.1 = 0)) c lv p op O A P T) (rL ν l n i))) 0 0) 19 [(0, .ref m)] [] (mH h m (rM (clM ν w C x) n i b c lv p op O A P T) (rL ν l n i)) 0 0 := by
    rintro b rfl
    refine r_aload_n (pc := 19) 0 dX12_endText_19 rfl ?_
    refine r_iconst (pc := 20) (0) dX12_endText_20 rfl ?_
    refine q_putZ (pc := 21) fp_X12_337 hm (by decide) dX12_endText_21 ?_
    rw [rM_field (by decide)]
    refine r_aload_n (pc := 24) 0 dX12_endText_24 rfl ?_
    refine r_iconst (pc := 25) (0) dX12_endText_25 rfl ?_
    refine q_putI (pc := 26) fp_X12_248 hm dX12_endText_26 ?_
    refine r_vret (pc := 29) rfl ?_ (Nat.le_of_ble_eq_true rfl) (Nat.le_of_ble_eq_true rfl) dX12_endText_29
    rw [rM_field (by decide)]
    exact ⟨rfl, rfl⟩
  have e16 : rM (clM ν w C x) n i bd c lv p op O A P T 0 16 = (tk (ν 9) n i).2.2.1 := by rw [rM_16, clM_9 hw]
  refine r_aload_n (pc := 0) 0 dX12_endText_0 rfl ?_
  refine q_getI (pc := 1) fl_X12_260 hm dX12_endText_1 ?_
  refine r_if_ne (pc := 4) (tgt := 19) dX12_endText_4 (by decide) (fun c_4 => ?_) (fun c_4 => ?_)
  · have hb := bI_n0.mp c_4
    exact fin bd (by rw [hb]; rfl)
  · have hb := bI_0.mp c_4
    refine r_aload_n (pc := 7) 0 dX12_endText_7 rfl ?_
    refine q_getI (pc := 8) fl_X12_280 hm dX12_endText_8 ?_
    refine r_if_eq (pc := 11) (tgt := 19) dX12_endText_11 (by decide) (fun c_11 => ?_) (fun c_11 => ?_)
    · rw [e16] at c_11
      exact fin bd (by rw [hb, decide_eq_false (fun z => z c_11)]; rfl)
    · rw [e16] at c_11
      refine r_aload_n (pc := 14) 0 dX12_endText_14 rfl ?_
      refine r_iconst (pc := 15) (0) dX12_endText_15 rfl ?_
      refine r_dV0 (pc := 16) (As := [_]) mv_X12_must ml_X12_293 (cl_must hm hw false hn h4) (q_is hm) rfl rfl (Nat.le_of_ble_eq_true rfl) (Nat.le_of_ble_eq_true rfl) (Nat.le_of_ble_eq_true rfl) (Nat.le_of_ble_eq_true rfl) (Nat.le_of_ble_eq_true rfl) dX12_endText_16 ?_
      have eS : mustS i bd false = (i, true) := by rw [hb]; rfl
      rw [eS]
      exact fin true (by rw [decide_eq_true c_11, Bool.or_true])
theorem Ob_rd {w : Nat} {C : Nat → Int32} {x y : Int32} (hw : wOK w) (h20 : μ 0 20 = 0) {ν : Mu} (hν : ν = up2 (up2 μ 0 0 0) 0 20 y) : Ob (up2 (up2 μ 0 13 0) 0 18 (if bd = true then nI (tk (μ 9) n i).1 else -1)) l (rM (enM (clM ν w C x)) n i bd c lv p op O A P T) (rL ν l n i) := by
  subst hν
  have e9 : enM (clM (up2 (up2 μ 0 0 0) 0 20 y) w C x) 9 = μ 9 := by
    funext j
    unfold enM
    rw [up2_ne (by omega), up2_ne (by omega), clM_9 hw, up2_ne (by omega), up2_ne (by omega)]
  have eo : ∀ o, o ≠ 0 → o ≠ w → enM (clM (up2 (up2 μ 0 0 0) 0 20 y) w C x) o = μ o := by
    intro o h0 h1
    funext j
    unfold enM
    rw [up2_ne (by omega), up2_ne (by omega), clM_ne h1 h0, up2_ne (by omega), up2_ne (by omega)]
  have ej : ∀ j, j ≠ 0 → j ≠ 13 → j ≠ 20 → j ≠ 21 → enM (clM (up2 (up2 μ 0 0 0) 0 20 y) w C x) 0 j = μ 0 j := by
    intro j h0 h1 h2 h3
    unfold enM
    rw [up2_ne (by omega), up2_ne (by omega), clM_0 hw h3, up2_ne (by omega), up2_ne (by omega)]
  unfold wOK at hw
  refine ⟨fun o ho => ?_, fun j hj => ?_, fun j hj => ?_, fun o ho => ?_⟩
  · simp only [List.mem_cons, List.not_mem_nil, or_false] at ho
    have e1 : up2 (up2 μ 0 13 0) 0 18 (if bd = true then nI (tk (μ 9) n i).1 else -1) o = μ o := by funext j; rw [up2_ne (by omega), up2_ne (by omega)]
    rw [e1, ← eo o (by omega) (by omega)]
    funext j
    unfold rM
    rw [if_neg (by omega), if_neg (by omega), if_neg (by omega), if_neg (by omega), if_neg (by omega)]
  · rw [up2_ne (by omega), up2_ne (by omega), ← eo 5 (by omega) (by omega)]
    rfl
  · simp only [List.mem_cons, List.not_mem_nil, or_false] at hj
    rcases hj with rfl | rfl | rfl | rfl | rfl | rfl | rfl | rfl
    · rw [up2_ne (by omega), up2_ne (by omega), ← ej 1 (by decide) (by decide) (by decide) (by decide)]; rfl
    · rw [up2_ne (by omega), up2_ne (by omega), ← ej 8 (by decide) (by decide) (by decide) (by decide)]; rfl
    · rw [up2_ne (by omega), up2_ne (by omega), ← ej 11 (by decide) (by decide) (by decide) (by decide)]; rfl
    · rw [up2_ne (by omega), up2_at]
      show enM (clM (up2 (up2 μ 0 0 0) 0 20 y) w C x) 0 13 = 0
      unfold enM; exact up2_at
    · rw [up2_at]
      show (if bd = true then nI (tk (enM (clM (up2 (up2 μ 0 0 0) 0 20 y) w C x) 9) n i).1 else -1) = _
      rw [e9]
    · rw [up2_ne (by omega), up2_ne (by omega), h20]
      show enM (clM (up2 (up2 μ 0 0 0) 0 20 y) w C x) 0 20 = 0
      unfold enM; rw [up2_ne (by omega), up2_at]
    · rw [up2_ne (by omega), up2_ne (by omega), ← ej 55 (by decide) (by decide) (by decide) (by decide)]; rfl
    · rw [up2_ne (by omega), up2_ne (by omega), ← ej 59 (by decide) (by decide) (by decide) (by decide)]; rfl
  · simp only [List.mem_cons, List.not_mem_nil, or_false] at ho
    exact rL_o (by omega)
theorem rM_setR {ρ : Mu} {R : Nat → Int32} : rM (setR ρ R) n i bd c lv p op O A P T = setR (rM ρ n i bd c lv p op O A P T) R := by
  have e9 : setR ρ R 9 = ρ 9 := setR_ne (by decide)
  funext o j
  by_cases h2 : o = 2
  · subst h2; rw [setR_2]; rfl
  · rw [setR_ne h2]; unfold rM; rw [e9, setR_ne h2, setR_ne (by decide)]
theorem rM_row {ρ : Mu} {R : Nat → Int32} {j : Nat} {v : Int32} : up2 (rM (setR ρ R) n i bd c lv p op O A P T) 2 j v = rM (setR ρ (va_up R j v)) n i bd c lv p op O A P T := by
  rw [rM_other (by decide) (by decide) (by decide) (by decide) (by decide) (by decide), setR_up]
theorem rM_R2 {ρ : Mu} {R : Nat → Int32} : rM (setR ρ R) n i bd c lv p op O A P T 2 = R := by rw [rM_setR, setR_2]
/-- the row with the clauses, with the code, laid so far -/
def cRow (R C : Nat → Int32) (L k : Nat) : Nat → Int32 := fun j => if L + 2 ≤ j ∧ j < L + 2 + k then C (j - (L + 2)) else R j
def oRow (R O A : Nat → Int32) (L k : Nat) : Nat → Int32 := fun j => if L + 98 ≤ j ∧ j < L + 98 + 2 * k then (if (j - (L + 98)) % 2 = 0 then O ((j - (L + 98)) / 2) else A ((j - (L + 98)) / 2)) else R j
theorem cRow_0 {R C : Nat → Int32} {L : Nat} : cRow R C L 0 = R := by funext j; unfold cRow; rw [if_neg (by omega)]
theorem oRow_0 {R O A : Nat → Int32} {L : Nat} : oRow R O A L 0 = R := by funext j; unfold oRow; rw [if_neg (by omega)]
theorem cRow_s {R C : Nat → Int32} {L k : Nat} : va_up (cRow R C L k) (L + 2 + k) (C k) = cRow R C L (k + 1) := by
  funext j
  by_cases h1 : j = L + 2 + k
  · subst h1; rw [va_up_self]; unfold cRow; rw [if_pos (by omega), show L + 2 + k - (L + 2) = k by omega]
  · rw [va_up_ne _ _ h1]; unfold cRow
    by_cases h2 : L + 2 ≤ j ∧ j < L + 2 + k
    · rw [if_pos h2, if_pos (by omega)]
    · rw [if_neg h2, if_neg (by omega)]
theorem oRow_s {R O A : Nat → Int32} {L k : Nat} : va_up (va_up (oRow R O A L k) (L + 98 + 2 * k) (O k)) (L + 98 + 2 * k + 1) (A k) = oRow R O A L (k + 1) := by
  funext j
  by_cases h1 : j = L + 98 + 2 * k + 1
  · subst h1; rw [va_up_self]; unfold oRow; rw [if_pos (by omega), if_neg (by omega), show (L + 98 + 2 * k + 1 - (L + 98)) / 2 = k by omega]
  · rw [va_up_ne _ _ h1]
    by_cases h0 : j = L + 98 + 2 * k
    · subst h0; rw [va_up_self]; unfold oRow; rw [if_pos (by omega), if_pos (by omega), show (L + 98 + 2 * k - (L + 98)) / 2 = k by omega]
    · rw [va_up_ne _ _ h0]; unfold oRow
      by_cases h2 : L + 98 ≤ j ∧ j < L + 98 + 2 * k
      · rw [if_pos h2, if_pos (show L + 98 ≤ j ∧ j < L + 98 + 2 * (k + 1) by omega)]
      · rw [if_neg h2, if_neg (by omega)]
theorem lfL_OK (e : Nat → Int64) : LfOK false (cutE e) (lfL e) := by
  intro op arg hl
  unfold lfL lfE
  rcases hl with rfl | ⟨_, k, h1, h2, rfl⟩ | ⟨z, _⟩
  · rw [if_pos rfl, if_pos rfl]
  · have h0 : ¬ nI k = 0 := fun z => by have := (nI_eq (a := k) (b := 0) (by omega) (by omega)).mp z; omega
    rw [if_neg h0, if_neg h0, if_pos (by rw [inN_nI (by omega)]; exact decide_eq_true (by omega)), if_pos rfl, nI_clamp (by omega)]
    unfold cutE
    rw [if_pos (by omega), show k - 1 + 1 = k by omega]
  · cases z
/-- the law's row in the end -/
def lawR (r C O A : Nat → Int32) (nl q cc : Nat) : Nat → Int32 := va_up (oRow (cRow (va_up r (50 + 900 * nl + 1) (nI q)) C (50 + 900 * nl) (8 * q)) O A (50 + 900 * nl) cc) 3 (nI (nl + 1))
theorem lawR_OK {r C O A : Nat → Int32} {nl cc : Nat} {cls : List Cl} (h6 : nl < 6) (h12 : cls.length ≤ 12) (hcc : cc ≤ 400) (hcl : ∀ q d, cls[q]? = some d → NCl C O A q d cc) : LawOK (lawR r C O A nl cls.length cc) nl cls := by
  have hO : ∀ k, k < cc → lOps (lawR r C O A nl cls.length cc) (50 + 900 * nl) k = O k := by
    intro k hk
    show lawR _ _ _ _ _ _ _ (50 + 900 * nl + 98 + 2 * k) = O k
    unfold lawR
    rw [va_up_ne _ _ (by omega)]
    unfold oRow
    rw [if_pos (by omega), if_pos (by omega), show (50 + 900 * nl + 98 + 2 * k - (50 + 900 * nl + 98)) / 2 = k by omega]
  have hA : ∀ k, k < cc → lArgs (lawR r C O A nl cls.length cc) (50 + 900 * nl) k = A k := by
    intro k hk
    show lawR _ _ _ _ _ _ _ (50 + 900 * nl + 98 + 2 * k + 1) = A k
    unfold lawR
    rw [va_up_ne _ _ (by omega)]
    unfold oRow
    rw [if_pos (by omega), if_neg (by omega), show (50 + 900 * nl + 98 + 2 * k + 1 - (50 + 900 * nl + 98)) / 2 = k by omega]
  have hC : ∀ k, k < 8 * cls.length → lawR r C O A nl cls.length cc (50 + 900 * nl + 2 + k) = C k := by
    intro k hk
    unfold lawR
    rw [va_up_ne _ _ (by omega)]
    unfold oRow
    rw [if_neg (by omega)]
    unfold cRow
    rw [if_pos (by omega), show 50 + 900 * nl + 2 + k - (50 + 900 * nl + 2) = k by omega]
  refine ⟨h6, h12, ?_, fun q d hq => ?_⟩
  · unfold lawR
    rw [va_up_ne _ _ (by omega)]
    unfold oRow
    rw [if_neg (by omega)]
    unfold cRow
    rw [if_neg (by omega), va_up_self]
  · have hqn : q < cls.length := by
      rcases Nat.lt_or_ge q cls.length with z | z
      · exact z
      · rw [List.getElem?_eq_none z] at hq; cases hq
    obtain ⟨a3, a4, a5, a6, g3, g4, g5, g6, e0, e3, e4, e5, e6, hif, hs⟩ := hcl q d hq
    refine ⟨a3, a4, a5, a6, by omega, by omega, by omega, by omega, (hC _ (by omega)).trans e0, ?_, ?_, ?_, ?_, ?_, fun z e f0 => ?_⟩
    · rw [Nat.add_assoc (50 + 900 * nl + 2)]; exact (hC _ (by omega)).trans e3
    · rw [Nat.add_assoc (50 + 900 * nl + 2)]; exact (hC _ (by omega)).trans e4
    · rw [Nat.add_assoc (50 + 900 * nl + 2)]; exact (hC _ (by omega)).trans e5
    · rw [Nat.add_assoc (50 + 900 * nl + 2)]; exact (hC _ (by omega)).trans e6
    · cases hd : d.2.1 with
      | none => rw [hd] at hif; exact hif
      | some s =>
        rw [hd] at hif
        refine ⟨hif.1, fun e f0 => Seg_mEv (Seg_cong (fun k b1 b2 => ⟨hO k (by omega), hA k (by omega)⟩) hif) (by omega) (lfL_OK e) f0⟩
    · exact Seg_mEv (Seg_cong (fun k b1 b2 => ⟨hO k (by omega), hA k (by omega)⟩) (hs z)) (by omega) (lfL_OK e) f0
theorem lawR_far {r C O A : Nat → Int32} {nl q cc j : Nat} (hq : q ≤ 12) (hcc : cc ≤ 400) (h3 : j ≠ 3) (hj : j < 50 + 900 * nl ∨ 50 + 900 * nl + 900 ≤ j) : lawR r C O A nl q cc j = r j := by
  unfold lawR
  rw [va_up_ne _ _ h3]
  unfold oRow
  rw [if_neg (by omega)]
  unfold cRow
  rw [if_neg (by omega), va_up_ne _ _ (by omega)]
theorem acc_snoc {α : Type} {acc : List α} {a d : α} {q : Nat} (hq : (acc ++ [a])[q]? = some d) : (q < acc.length ∧ acc[q]? = some d) ∨ (q = acc.length ∧ d = a) := by
  rw [List.getElem?_append] at hq
  split at hq
  · next hn => exact Or.inl ⟨hn, hq⟩
  · next hn =>
    rcases Nat.eq_or_lt_of_le (Nat.not_lt.mp hn) with e | e
    · rw [← e, Nat.sub_self] at hq
      cases hq
      exact Or.inr ⟨e.symm, rfl⟩
    · rw [List.getElem?_eq_none (by simp; omega)] at hq
      cases hq
/-- law() -/
def pLaw (h : Hp) (m : Nat) (μ : Mu) (l : La) (n nl : Nat) (R : Nat ⊕ List Cl) : Option Value → Hp → Prop := fun v h' =>
  if nl = 6 then v = some (.int (-5)) ∧ h' = mH h m (tellM (up2 (up2 μ 0 0 0) 0 13 0) (-5)) l else match R with
  | .inl j => ∃ ν κ, Ob (up2 (up2 μ 0 13 0) 0 18 (nI (tk (μ 9) n j).1)) l ν κ ∧ h' = mH h m (tellM ν (-6)) κ ∧ v = some (.int (-6))
  | .inr cls => ∃ ν κ R', Ob (up2 (up2 μ 0 13 0) 0 18 (-1)) l ν κ ∧ h' = mH h m (tellM (setR ν R') (nI nl)) κ ∧ v = some (.int (nI nl)) ∧ R' 3 = nI (nl + 1) ∧ LawOK R' nl cls ∧ ∀ j, j ≠ 3 → (j < 50 + 900 * nl ∨ 50 + 900 * nl + 900 ≤ j) → R' j = μ 2 j
theorem ct_mlaw (hm : Md E h m) {nl : Nat} (hn : μ 0 13 = nI n) (h4 : n ≤ 400) (h20 : μ 0 20 = 0) (hnl : μ 2 3 = nI nl) (hl6 : nl ≤ 6) {R : Nat ⊕ List Cl} (hR : nl < 6 → LawRun (l 15) (l 16) (l 17) (tk (μ 9) n) 13 0 0 0 R) : Ct E 8 0 0 mX12_law [.ref m] (mH h m μ l) (pLaw h m μ l n nl R) := by
  have hw : wOK 10 := Or.inl rfl
  refine Ct.of (by decide +kernel) (Nat.le_of_ble_eq_true rfl) ?_
  refine r_aload_n (pc := 0) 0 dX12_law_0 rfl ?_
  refine r_iconst (pc := 1) (0) dX12_law_1 rfl ?_
  refine q_putI (pc := 2) fp_X12_161 hm dX12_law_2 ?_
  refine r_aload_n (pc := 5) 0 dX12_law_5 rfl ?_
  refine q_getR (pc := 6) fl_X12_13 hm (md_f3 hm) dX12_law_6 ?_
  refine r_iconst (pc := 9) (3) dX12_law_9 rfl ?_
  refine q_iald (pc := 10) (j := 3) (md_r3 hm) (by decide) rfl (by decide) (by decide) dX12_law_10 ?_
  refine r_bipush (pc := 11) (6) dX12_law_11 rfl ?_
  refine r_icmp_ne (pc := 13) (tgt := 28) dX12_law_13 (by decide) (fun c_13 => ?_) (fun c_13 => ?_)
  · rw [th_2, hnl] at c_13
    have hlt : nl < 6 := Nat.lt_of_le_of_ne hl6 (fun z => c_13 (by rw [z]; rfl))
    replace hR := hR hlt
    generalize hν : up2 (up2 μ 0 0 0) 0 20 (bI false) = ν
    have n9 : ν 9 = μ 9 := by rw [← hν]; funext j; rw [up2_ne (by omega), up2_ne (by omega)]
    have n13 : ν 0 13 = nI n := by rw [← hν, up2_ne (by omega), up2_ne (by omega)]; exact hn
    have n20 : ν 0 20 = bI false := by rw [← hν]; exact up2_at
    have n2 : ν 2 = μ 2 := by rw [← hν]; funext j; rw [up2_ne (by omega), up2_ne (by omega)]
    have done : ∀ (C : Nat → Int32) (i cc lv : Nat) (pp op : Int32) (O A P T : Nat → Int32) (cls : List Cl), R = .inr cls → cls.length ≤ 12 → cc ≤ 400 → (∀ q d, cls[q]? = some d → NCl C O A q d cc) → Wp E mX12_law (Rm 8 0 0) (Qm E (pLaw h m μ l n nl R) 0 0) 82 [(0, .ref m)] [] (mH h m (rM (enM (clM ν 10 C (nI cls.length))) n i false (nI cc) (nI lv) pp op O A P T) (rL ν l n i)) 0 0 := by
      intro C i cc lv pp op O A P T cls hRc h12 hcc hcl
      have hob := Ob_rd (μ := μ) (l := l) (n := n) (i := i) (bd := false) (c := nI cc) (lv := nI lv) (p := pp) (op := op) (O := O) (A := A) (P := P) (T := T) (C := C) (x := nI cls.length) hw h20 hν.symm
      have r21 : enM (clM ν 10 C (nI cls.length)) 0 21 = nI cls.length := by
        unfold enM; rw [up2_ne (by omega), up2_ne (by omega)]; unfold clM; rw [if_neg (by decide), if_pos ⟨rfl, rfl⟩]
      have r10 : enM (clM ν 10 C (nI cls.length)) 10 = C := by
        unfold enM; funext j; rw [up2_ne (by omega), up2_ne (by omega), clM_w]
      have r2 : enM (clM ν 10 C (nI cls.length)) 2 = μ 2 := by
        unfold enM; funext j; rw [up2_ne (by omega), up2_ne (by omega), clM_ne (by decide) (by decide), n2]
      generalize enM (clM ν 10 C (nI cls.length)) = ρ at hob r21 r10 r2
      rw [← setR_self ρ, r2]
      have s21 : ∀ RR : Nat → Int32, rM (setR ρ RR) n i false (nI cc) (nI lv) pp op O A P T 0 21 = nI cls.length := fun RR => by rw [rM_setR, setR_ne (by decide)]; exact r21
      have s10 : ∀ RR : Nat → Int32, rM (setR ρ RR) n i false (nI cc) (nI lv) pp op O A P T 10 = C := fun RR => by rw [rM_setR, setR_ne (by decide)]; exact r10
      refine r_bipush (pc := 82) (50) dX12_law_82 rfl ?_
      refine r_sipush (pc := 84) (900) dX12_law_84 rfl ?_
      refine r_aload_n (pc := 87) 0 dX12_law_87 rfl ?_
      refine q_getR (pc := 88) fl_X12_13 hm (md_f3 hm) dX12_law_88 ?_
      refine r_iconst (pc := 91) (3) dX12_law_91 rfl ?_
      refine q_iald (pc := 92) (j := 3) (md_r3 hm) (by decide) rfl (by decide) (by decide) dX12_law_92 ?_
      refine r_imul (pc := 93) dX12_law_93 ?_
      refine r_iadd (pc := 94) dX12_law_94 ?_
      refine r_istore_n (pc := 95) (lv' := [(0, _), (1, _)]) dX12_law_95 (Nat.le_of_ble_eq_true rfl) rfl ?_
      rw [rM_R2, hnl, show (50 : Int32) + 900 * nI nl = nI (50 + 900 * nl) by simp only [fa_lit, nI_add, nI_mul]]
      refine r_aload_n (pc := 96) 0 dX12_law_96 rfl ?_
      refine q_getR (pc := 97) fl_X12_13 hm (md_f3 hm) dX12_law_97 ?_
      refine r_iload_n (pc := 100) 1 dX12_law_100 rfl ?_
      refine r_iconst (pc := 101) (1) dX12_law_101 rfl ?_
      refine r_iadd (pc := 102) dX12_law_102 ?_
      refine r_aload_n (pc := 103) 0 dX12_law_103 rfl ?_
      refine q_getI (pc := 104) fl_X12_393 hm dX12_law_104 ?_
      refine q_iast (pc := 107) (j := 50 + 900 * nl + 1) (md_r3 hm) (by decide) (by simp only [fa_lit, nI_add, nI_mul]) (by omega) (by decide) dX12_law_107 ?_
      refine r_iconst (pc := 108) (0) dX12_law_108 rfl ?_
      refine r_istore_n (pc := 109) (lv' := [(0, _), (1, _), (2, _)]) dX12_law_109 (Nat.le_of_ble_eq_true rfl) rfl ?_
      rw [rM_row, s21]
      have at199 : ∀ k : Int32, ∀ RR : Nat → Int32, RR = oRow (cRow (va_up (μ 2) (50 + 900 * nl + 1) (nI cls.length)) C (50 + 900 * nl) (8 * cls.length)) O A (50 + 900 * nl) cc → Wp E mX12_law (Rm 8 0 0) (Qm E (pLaw h m μ l n nl R) 0 0) 199 [(0, .ref m), (1, .int (nI (50 + 900 * nl))), (2, .int k)] [] (mH h m (rM (setR ρ RR) n i false (nI cc) (nI lv) pp op O A P T) (rL ν l n i)) 0 0 := by
        intro k RR hRR
        have e3 : RR 3 = nI nl := by
          rw [hRR]; unfold oRow; rw [if_neg (by omega)]; unfold cRow; rw [if_neg (by omega), va_up_ne _ _ (by omega)]; exact hnl
        refine r_aload_n (pc := 199) 0 dX12_law_199 rfl ?_
        refine q_getR (pc := 200) fl_X12_13 hm (md_f3 hm) dX12_law_200 ?_
        refine r_iconst (pc := 203) (3) dX12_law_203 rfl ?_
        refine r_dup2_11 (pc := 204) dX12_law_204 rfl rfl ?_
        refine q_iald (pc := 205) (j := 3) (md_r3 hm) (by decide) rfl (by decide) (by decide) dX12_law_205 ?_
        refine r_iconst (pc := 206) (1) dX12_law_206 rfl ?_
        refine r_iadd (pc := 207) dX12_law_207 ?_
        refine q_iast (pc := 208) (j := 3) (md_r3 hm) (by decide) rfl (by decide) (by decide) dX12_law_208 ?_
        rw [rM_R2, e3, nI_1, rM_row]
        refine r_aload_n (pc := 209) 0 dX12_law_209 rfl ?_
        refine r_aload_n (pc := 210) 0 dX12_law_210 rfl ?_
        refine q_getR (pc := 211) fl_X12_13 hm (md_f3 hm) dX12_law_211 ?_
        refine r_iconst (pc := 214) (3) dX12_law_214 rfl ?_
        refine q_iald (pc := 215) (j := 3) (md_r3 hm) (by decide) rfl (by decide) (by decide) dX12_law_215 ?_
        refine r_iconst (pc := 216) (1) dX12_law_216 rfl ?_
        refine r_isub (pc := 217) dX12_law_217 ?_
        rw [rM_R2, va_up_self, show nI (nl + 1) - 1 = nI nl from nI_sub (a := nl + 1) (b := 1) (by omega)]
        refine r_dV (pc := 218) (As := [_]) mv_X12_tell ml_X12_170 (ct_tell hm _ (t_p (nI_pos' (by omega)))) (q_is hm) rfl rfl (Nat.le_of_ble_eq_true rfl) (Nat.le_of_ble_eq_true rfl) (Nat.le_of_ble_eq_true rfl) (Nat.le_of_ble_eq_true rfl) (Nat.le_of_ble_eq_true rfl) dX12_law_218 ?_
        refine r_iret (pc := 221) rfl ?_ (Nat.le_of_ble_eq_true rfl) (Nat.le_of_ble_eq_true rfl) dX12_law_221
        have hne : ¬ nl = 6 := by omega
        show pLaw h m μ l n nl R _ _
        unfold pLaw
        rw [if_neg hne, hRc]
        refine ⟨_, _, lawR (μ 2) C O A nl cls.length cc, hob, ?_, rfl, va_up_self _ _ _, lawR_OK hlt h12 hcc hcl, fun j h3 hj => lawR_far h12 hcc h3 hj⟩
        rw [rM_setR, hRR]; rfl
      have loop2 : ∀ k, k ≤ cc → ∀ RR : Nat → Int32, RR = oRow (cRow (va_up (μ 2) (50 + 900 * nl + 1) (nI cls.length)) C (50 + 900 * nl) (8 * cls.length)) O A (50 + 900 * nl) k → Wp E mX12_law (Rm 8 0 0) (Qm E (pLaw h m μ l n nl R) 0 0) 145 [(0, .ref m), (1, .int (nI (50 + 900 * nl))), (2, .int (nI k))] [] (mH h m (rM (setR ρ RR) n i false (nI cc) (nI lv) pp op O A P T) (rL ν l n i)) 0 0 := by
        refine upTo (fun k hk ih => ?_) ?_
        · intro RR hRR
          refine r_iload_n (pc := 145) 2 dX12_law_145 rfl ?_
          refine r_aload_n (pc := 146) 0 dX12_law_146 rfl ?_
          refine q_getI (pc := 147) fl_X12_297 hm dX12_law_147 ?_
          refine r_icmp_ge (pc := 150) (tgt := 199) dX12_law_150 (by decide) (fun c_150 => ?_) (fun c_150 => ?_)
          · rw [rM_23] at c_150
            exact absurd c_150 (nI_ge hk (by omega))
          · refine r_aload_n (pc := 153) 0 dX12_law_153 rfl ?_
            refine q_getR (pc := 154) fl_X12_13 hm (md_f3 hm) dX12_law_154 ?_
            refine r_iload_n (pc := 157) 1 dX12_law_157 rfl ?_
            refine r_bipush (pc := 158) (98) dX12_law_158 rfl ?_
            refine r_iadd (pc := 160) dX12_law_160 ?_
            refine r_iconst (pc := 161) (2) dX12_law_161 rfl ?_
            refine r_iload_n (pc := 162) 2 dX12_law_162 rfl ?_
            refine r_imul (pc := 163) dX12_law_163 ?_
            refine r_iadd (pc := 164) dX12_law_164 ?_
            refine r_aload_n (pc := 165) 0 dX12_law_165 rfl ?_
            refine q_getR (pc := 166) fl_X12_45 hm (md_f24 hm) dX12_law_166 ?_
            refine r_iload_n (pc := 169) 2 dX12_law_169 rfl ?_
            refine q_iald (pc := 170) (j := k) (md_r24 hm) (by decide) rfl (by omega) (by decide) dX12_law_170 ?_
            refine q_iast (pc := 171) (j := 50 + 900 * nl + 98 + 2 * k) (md_r3 hm) (by decide) (by simp only [fa_lit, nI_add, nI_mul]) (by omega) (by decide) dX12_law_171 ?_
            rw [rM_row]
            refine r_aload_n (pc := 172) 0 dX12_law_172 rfl ?_
            refine q_getR (pc := 173) fl_X12_13 hm (md_f3 hm) dX12_law_173 ?_
            refine r_iload_n (pc := 176) 1 dX12_law_176 rfl ?_
            refine r_bipush (pc := 177) (98) dX12_law_177 rfl ?_
            refine r_iadd (pc := 179) dX12_law_179 ?_
            refine r_iconst (pc := 180) (2) dX12_law_180 rfl ?_
            refine r_iload_n (pc := 181) 2 dX12_law_181 rfl ?_
            refine r_imul (pc := 182) dX12_law_182 ?_
            refine r_iadd (pc := 183) dX12_law_183 ?_
            refine r_iconst (pc := 184) (1) dX12_law_184 rfl ?_
            refine r_iadd (pc := 185) dX12_law_185 ?_
            refine r_aload_n (pc := 186) 0 dX12_law_186 rfl ?_
            refine q_getR (pc := 187) fl_X12_48 hm (md_f25 hm) dX12_law_187 ?_
            refine r_iload_n (pc := 190) 2 dX12_law_190 rfl ?_
            refine q_iald (pc := 191) (j := k) (md_r25 hm) (by decide) rfl (by omega) (by decide) dX12_law_191 ?_
            refine q_iast (pc := 192) (j := 50 + 900 * nl + 98 + 2 * k + 1) (md_r3 hm) (by decide) (by simp only [fa_lit, nI_add, nI_mul]) (by omega) (by decide) dX12_law_192 ?_
            refine r_iinc (pc := 193) (v := _ + (1)) (lv' := [(0, _), (1, _), (2, _)]) 2 dX12_law_193 rfl rfl (Nat.le_of_ble_eq_true rfl) rfl ?_
            refine r_goto (pc := 196) (tgt := 145) dX12_law_196 (by decide) ?_
            rw [rM_row, nI_1]
            refine ih _ ?_
            rw [rM_O, rM_A, hRR, oRow_s]
        · intro RR hRR
          refine r_iload_n (pc := 145) 2 dX12_law_145 rfl ?_
          refine r_aload_n (pc := 146) 0 dX12_law_146 rfl ?_
          refine q_getI (pc := 147) fl_X12_297 hm dX12_law_147 ?_
          refine r_icmp_ge (pc := 150) (tgt := 199) dX12_law_150 (by decide) (fun c_150 => ?_) (fun c_150 => ?_)
          · exact at199 _ RR hRR
          · exact absurd (by rw [rM_23]; exact Int32.le_refl _) c_150
      have loop1 : ∀ k, k ≤ 8 * cls.length → ∀ RR : Nat → Int32, RR = cRow (va_up (μ 2) (50 + 900 * nl + 1) (nI cls.length)) C (50 + 900 * nl) k → Wp E mX12_law (Rm 8 0 0) (Qm E (pLaw h m μ l n nl R) 0 0) 110 [(0, .ref m), (1, .int (nI (50 + 900 * nl))), (2, .int (nI k))] [] (mH h m (rM (setR ρ RR) n i false (nI cc) (nI lv) pp op O A P T) (rL ν l n i)) 0 0 := by
        refine upTo (fun k hk ih => ?_) ?_
        · intro RR hRR
          refine r_iload_n (pc := 110) 2 dX12_law_110 rfl ?_
          refine r_bipush (pc := 111) (8) dX12_law_111 rfl ?_
          refine r_aload_n (pc := 113) 0 dX12_law_113 rfl ?_
          refine q_getI (pc := 114) fl_X12_393 hm dX12_law_114 ?_
          refine r_imul (pc := 117) dX12_law_117 ?_
          refine r_icmp_ge (pc := 118) (tgt := 143) dX12_law_118 (by decide) (fun c_118 => ?_) (fun c_118 => ?_)
          · rw [s21, show (8 : Int32) * nI cls.length = nI (8 * cls.length) from nI_mul 8 cls.length] at c_118
            exact absurd c_118 (nI_ge hk (by omega))
          · refine r_aload_n (pc := 121) 0 dX12_law_121 rfl ?_
            refine q_getR (pc := 122) fl_X12_13 hm (md_f3 hm) dX12_law_122 ?_
            refine r_iload_n (pc := 125) 1 dX12_law_125 rfl ?_
            refine r_iconst (pc := 126) (2) dX12_law_126 rfl ?_
            refine r_iadd (pc := 127) dX12_law_127 ?_
            refine r_iload_n (pc := 128) 2 dX12_law_128 rfl ?_
            refine r_iadd (pc := 129) dX12_law_129 ?_
            refine r_aload_n (pc := 130) 0 dX12_law_130 rfl ?_
            refine q_getR (pc := 131) fl_X12_42 hm (md_f22 hm) dX12_law_131 ?_
            refine r_iload_n (pc := 134) 2 dX12_law_134 rfl ?_
            refine q_iald (pc := 135) (j := k) (md_r22 hm) (by decide) rfl (by omega) (by decide) dX12_law_135 ?_
            refine q_iast (pc := 136) (j := 50 + 900 * nl + 2 + k) (md_r3 hm) (by decide) (by simp only [fa_lit, nI_add, nI_mul]) (by omega) (by decide) dX12_law_136 ?_
            refine r_iinc (pc := 137) (v := _ + (1)) (lv' := [(0, _), (1, _), (2, _)]) 2 dX12_law_137 rfl rfl (Nat.le_of_ble_eq_true rfl) rfl ?_
            refine r_goto (pc := 140) (tgt := 110) dX12_law_140 (by decide) ?_
            rw [rM_row, s10, nI_1]
            refine ih _ ?_
            rw [hRR, cRow_s]
        · intro RR hRR
          refine r_iload_n (pc := 110) 2 dX12_law_110 rfl ?_
          refine r_bipush (pc := 111) (8) dX12_law_111 rfl ?_
          refine r_aload_n (pc := 113) 0 dX12_law_113 rfl ?_
          refine q_getI (pc := 114) fl_X12_393 hm dX12_law_114 ?_
          refine r_imul (pc := 117) dX12_law_117 ?_
          refine r_icmp_ge (pc := 118) (tgt := 143) dX12_law_118 (by decide) (fun c_118 => ?_) (fun c_118 => ?_)
          · refine r_iconst (pc := 143) (0) dX12_law_143 rfl ?_
            refine r_istore_n (pc := 144) (lv' := [(0, _), (1, _), (2, _)]) dX12_law_144 (Nat.le_of_ble_eq_true rfl) rfl ?_
            exact loop2 0 (by omega) RR (by rw [hRR, oRow_0])
          · exact absurd (by rw [s21, show (8 : Int32) * nI cls.length = nI (8 * cls.length) from nI_mul 8 cls.length]; exact Int32.le_refl _) c_118
      exact loop1 0 (by omega) _ cRow_0.symm
    have fail : ∀ (C : Nat → Int32) (x : Int32) (i : Nat) (c lv pp op : Int32) (O A P T : Nat → Int32), R = .inl i → Wp E mX12_law (Rm 8 0 0) (Qm E (pLaw h m μ l n nl R) 0 0) 68 [(0, .ref m)] [] (mH h m (rM (enM (clM ν 10 C x)) n i true c lv pp op O A P T) (rL ν l n i)) 0 0 := by
      intro C x i cc lv pp op O A P T hRc
      have hob := Ob_rd (μ := μ) (l := l) (n := n) (i := i) (bd := true) (c := cc) (lv := lv) (p := pp) (op := op) (O := O) (A := A) (P := P) (T := T) (C := C) (x := x) hw h20 hν.symm
      refine r_aload_n (pc := 68) 0 dX12_law_68 rfl ?_
      refine q_getI (pc := 69) fl_X12_260 hm dX12_law_69 ?_
      refine r_if_eq (pc := 72) (tgt := 82) dX12_law_72 (by decide) (fun c_72 => ?_) (fun c_72 => ?_)
      · exact absurd (show bI true = 0 from c_72) (by decide)
      · refine r_aload_n (pc := 75) 0 dX12_law_75 rfl ?_
        refine r_bipush (pc := 76) (-6) dX12_law_76 rfl ?_
        refine r_dV (pc := 78) (As := [_]) mv_X12_tell ml_X12_170 (ct_tell hm _ t_6) (q_is hm) rfl rfl (Nat.le_of_ble_eq_true rfl) (Nat.le_of_ble_eq_true rfl) (Nat.le_of_ble_eq_true rfl) (Nat.le_of_ble_eq_true rfl) (Nat.le_of_ble_eq_true rfl) dX12_law_78 ?_
        refine r_iret (pc := 81) rfl ?_ (Nat.le_of_ble_eq_true rfl) (Nat.le_of_ble_eq_true rfl) dX12_law_81
        have hne : ¬ nl = 6 := by omega
        show pLaw h m μ l n nl R _ _
        unfold pLaw
        rw [if_neg hne, hRc]
        exact ⟨_, _, hob, rfl, rfl⟩
    have fail64 : ∀ (C : Nat → Int32) (x : Int32) (i : Nat) (bd : Bool) (c lv pp op : Int32) (O A P T : Nat → Int32), R = .inl i → (bd || decide (¬ (tk (ν 9) n i).2.2.1 = 0)) = true → Wp E mX12_law (Rm 8 0 0) (Qm E (pLaw h m μ l n nl R) 0 0) 64 [(0, .ref m)] [] (mH h m (rM (clM ν 10 C x) n i bd c lv pp op O A P T) (rL ν l n i)) 0 0 := by
      intro C x i bd cc lv pp op O A P T hRc hb
      have h1 := ct_endText (l := l) (i := i) (bd := bd) (c := cc) (lv := lv) (p := pp) (op := op) (O := O) (A := A) (P := P) (T := T) (C := C) (x := x) hm hw n13 h4
      rw [hb] at h1
      refine r_aload_n (pc := 64) 0 dX12_law_64 rfl ?_
      refine r_dV0 (pc := 65) (As := []) mv_X12_endText ml_X12_407 (h1) (q_is hm) rfl rfl (Nat.le_of_ble_eq_true rfl) (Nat.le_of_ble_eq_true rfl) (Nat.le_of_ble_eq_true rfl) (Nat.le_of_ble_eq_true rfl) (Nat.le_of_ble_eq_true rfl) dX12_law_65 ?_
      exact fail C x i _ _ _ _ O A P T hRc
    have good64 : ∀ (C : Nat → Int32) (i cc lv : Nat) (pp op : Int32) (O A P T : Nat → Int32) (cls : List Cl), R = .inr cls → cls.length ≤ 12 → cc ≤ 400 → (∀ q d, cls[q]? = some d → NCl C O A q d cc) → (tk (ν 9) n i).2.2.1 = 0 → Wp E mX12_law (Rm 8 0 0) (Qm E (pLaw h m μ l n nl R) 0 0) 64 [(0, .ref m)] [] (mH h m (rM (clM ν 10 C (nI cls.length)) n i false (nI cc) (nI lv) pp op O A P T) (rL ν l n i)) 0 0 := by
      intro C i cc lv pp op O A P T cls hRc h12 hcc hcl hs
      have h1 := ct_endText (l := l) (i := i) (bd := false) (c := nI cc) (lv := nI lv) (p := pp) (op := op) (O := O) (A := A) (P := P) (T := T) (C := C) (x := nI cls.length) hm hw n13 h4
      rw [hs, show (false || decide (¬ (0 : Int32) = 0)) = false by decide] at h1
      refine r_aload_n (pc := 64) 0 dX12_law_64 rfl ?_
      refine r_dV0 (pc := 65) (As := []) mv_X12_endText ml_X12_407 (h1) (q_is hm) rfl rfl (Nat.le_of_ble_eq_true rfl) (Nat.le_of_ble_eq_true rfl) (Nat.le_of_ble_eq_true rfl) (Nat.le_of_ble_eq_true rfl) (Nat.le_of_ble_eq_true rfl) dX12_law_65 ?_
      refine r_aload_n (pc := 68) 0 dX12_law_68 rfl ?_
      refine q_getI (pc := 69) fl_X12_260 hm dX12_law_69 ?_
      refine r_if_eq (pc := 72) (tgt := 82) dX12_law_72 (by decide) (fun c_72 => ?_) (fun c_72 => ?_)
      · exact done C i cc lv pp op O A P T cls hRc h12 hcc hcl
      · exact absurd (show bI false = 0 from rfl) c_72
    have at37 : ∀ (N q : Nat) (R1 : Nat ⊕ List Cl) (y : Nat ⊕ (Nat × Nat × Cl)) (acc : List Cl) (C0 O0 A0 : Nat → Int32) (c0 : Nat), (match y with
        | .inl j => R1 = .inl j
        | .inr y => if tS (tk (μ 9) n y.1) 59 = true then ∃ R', LawRun (l 15) (l 16) (l 17) (tk (μ 9) n) N (q + 1) (y.1 + 1) y.2.1 R' ∧ (match R' with | .inl j => R1 = .inl j | .inr cs => R1 = .inr (y.2.2 :: cs)) else if (tk (μ 9) n y.1).2.2.1 = 0 then R1 = .inr [y.2.2] else R1 = .inl y.1) → acc.length = q → (∀ q' d, acc[q']? = some d → NCl C0 O0 A0 q' d c0) → (∀ j, R1 = .inl j → R = .inl j) → (∀ cs, R1 = .inr cs → R = .inr (acc ++ cs)) → ∀ (v : Option Value) (h1 : Hp), pC h m ν l n q c0 C0 O0 A0 y v h1 → Wp E mX12_law (Rm 8 0 0) (Qm E (pLaw h m μ l n nl R) 0 0) 37 [(0, .ref m)] (v.toList ++ []) h1 0 0 := by
      intro N
      induction N with
      | zero =>
        intro q R1 y acc C0 O0 A0 c0 hy hacc hcl hf hg v h1 hp
        obtain ⟨rfl, hp⟩ := hp
        show Wp E mX12_law _ _ _ _ [] _ 0 0
        cases y with
        | inl j =>
          obtain ⟨C, x, cc, lv, pp, op, O, A, P, T, rfl⟩ := hp
          refine r_aload_n (pc := 37) 0 dX12_law_37 rfl ?_
          refine q_getI (pc := 38) fl_X12_260 hm dX12_law_38 ?_
          refine r_if_ne (pc := 41) (tgt := 64) dX12_law_41 (by decide) (fun c_41 => ?_) (fun c_41 => ?_)
          · exact fail64 C x j true _ _ _ _ O A P T (hf j hy) rfl
          · exact absurd (show bI true = 0 from c_41) (by decide)
        | inr y =>
          obtain ⟨C, cc, pp, op, O, A, P, T, rfl, k1, k2, k3, k4, k5, k6, k7, k8⟩ := hp
          simp only at hy
          have hS : ¬ tS (tk (μ 9) n y.1) 59 = true := fun z => by
            rw [if_pos z] at hy
            obtain ⟨_, z1, _⟩ := hy
            exact z1
          have hnew : ∀ q' d, (acc ++ [y.2.2])[q']? = some d → NCl C O A q' d cc := by
            intro q' d hq'
            rcases acc_snoc hq' with ⟨z1, z2⟩ | ⟨z1, z2⟩
            · exact NCl_cong k2 (fun k hk => k7 k (by omega)) k8 (hcl q' d z2)
            · rw [z1, z2, hacc]; exact k1
          have hlast : Wp E mX12_law (Rm 8 0 0) (Qm E (pLaw h m μ l n nl R) 0 0) 37 [(0, .ref m)] [] (mH h m (rM (clM ν 10 C (nI (q + 1))) n y.1 false (nI cc) (nI y.2.1) pp op O A P T) (rL ν l n y.1)) 0 0 := by
            rw [if_neg hS] at hy
            have hq12 := k6
            have hi4 := tk_from (ν 9) n y.1
            refine r_aload_n (pc := 37) 0 dX12_law_37 rfl ?_
            refine q_getI (pc := 38) fl_X12_260 hm dX12_law_38 ?_
            refine r_if_ne (pc := 41) (tgt := 64) dX12_law_41 (by decide) (fun c_41 => ?_) (fun c_41 => ?_)
            · exact absurd (show bI false = 0 from rfl) c_41
            · refine r_aload_n (pc := 44) 0 dX12_law_44 rfl ?_
              refine r_bipush (pc := 45) (59) dX12_law_45 rfl ?_
              refine r_dV (pc := 47) (As := [_]) mv_X12_isSign ml_X12_331 (cl_isS hm hw 59) (q_is hm) rfl rfl (Nat.le_of_ble_eq_true rfl) (Nat.le_of_ble_eq_true rfl) (Nat.le_of_ble_eq_true rfl) (Nat.le_of_ble_eq_true rfl) (Nat.le_of_ble_eq_true rfl) dX12_law_47 ?_
              refine r_if_eq (pc := 50) (tgt := 64) dX12_law_50 (by decide) (fun c_50 => ?_) (fun c_50 => ?_)
              · by_cases hs : (tk (μ 9) n y.1).2.2.1 = 0
                · rw [if_pos hs] at hy
                  have hlen : (acc ++ [y.2.2]).length = q + 1 := by rw [List.length_append, hacc]; rfl
                  rw [← hlen]
                  exact good64 C y.1 cc y.2.1 pp op O A P T (acc ++ [y.2.2]) (hg _ hy) (by omega) (by omega) hnew (by rw [n9]; exact hs)
                · rw [if_neg hs] at hy
                  exact fail64 C _ y.1 false _ _ _ _ O A P T (hf _ hy) (by rw [n9, decide_eq_true hs]; rfl)
              · rw [n9] at c_50
                exact absurd (bI_n0.mp c_50) hS
          exact hlast
      | succ N IH =>
        intro q R1 y acc C0 O0 A0 c0 hy hacc hcl hf hg v h1 hp
        obtain ⟨rfl, hp⟩ := hp
        show Wp E mX12_law _ _ _ _ [] _ 0 0
        cases y with
        | inl j =>
          obtain ⟨C, x, cc, lv, pp, op, O, A, P, T, rfl⟩ := hp
          refine r_aload_n (pc := 37) 0 dX12_law_37 rfl ?_
          refine q_getI (pc := 38) fl_X12_260 hm dX12_law_38 ?_
          refine r_if_ne (pc := 41) (tgt := 64) dX12_law_41 (by decide) (fun c_41 => ?_) (fun c_41 => ?_)
          · exact fail64 C x j true _ _ _ _ O A P T (hf j hy) rfl
          · exact absurd (show bI true = 0 from c_41) (by decide)
        | inr y =>
          obtain ⟨C, cc, pp, op, O, A, P, T, rfl, k1, k2, k3, k4, k5, k6, k7, k8⟩ := hp
          simp only at hy
          have hnew : ∀ q' d, (acc ++ [y.2.2])[q']? = some d → NCl C O A q' d cc := by
            intro q' d hq'
            rcases acc_snoc hq' with ⟨z1, z2⟩ | ⟨z1, z2⟩
            · exact NCl_cong k2 (fun k hk => k7 k (by omega)) k8 (hcl q' d z2)
            · rw [z1, z2, hacc]; exact k1
          by_cases hS : tS (tk (μ 9) n y.1) 59 = true
          · rw [if_pos hS] at hy
            obtain ⟨R', ⟨x, hx, hxr⟩, hRR⟩ := hy
            rw [n9] at k4
            have hx' : LawCl (l 15) (l 16) (l 17) (tk (ν 9) n) (q + 1) (y.1 + 1) y.2.1 x := by rw [n9]; exact hx
            refine r_aload_n (pc := 37) 0 dX12_law_37 rfl ?_
            refine q_getI (pc := 38) fl_X12_260 hm dX12_law_38 ?_
            refine r_if_ne (pc := 41) (tgt := 64) dX12_law_41 (by decide) (fun c_41 => ?_) (fun c_41 => ?_)
            · exact absurd (show bI false = 0 from rfl) c_41
            · refine r_aload_n (pc := 44) 0 dX12_law_44 rfl ?_
              refine r_bipush (pc := 45) (59) dX12_law_45 rfl ?_
              refine r_dV (pc := 47) (As := [_]) mv_X12_isSign ml_X12_331 (cl_isS hm hw 59) (q_is hm) rfl rfl (Nat.le_of_ble_eq_true rfl) (Nat.le_of_ble_eq_true rfl) (Nat.le_of_ble_eq_true rfl) (Nat.le_of_ble_eq_true rfl) (Nat.le_of_ble_eq_true rfl) dX12_law_47 ?_
              refine r_if_eq (pc := 50) (tgt := 64) dX12_law_50 (by decide) (fun c_50 => ?_) (fun c_50 => ?_)
              · rw [n9, hS] at c_50
                exact absurd c_50 (by decide)
              · refine r_aload_n (pc := 53) 0 dX12_law_53 rfl ?_
                refine r_dV0 (pc := 54) (As := []) mv_X12_onward ml_X12_264 (cl_onw hm hw n13 h4) (q_is hm) rfl rfl (Nat.le_of_ble_eq_true rfl) (Nat.le_of_ble_eq_true rfl) (Nat.le_of_ble_eq_true rfl) (Nat.le_of_ble_eq_true rfl) (Nat.le_of_ble_eq_true rfl) dX12_law_54 ?_
                refine r_aload_n (pc := 57) 0 dX12_law_57 rfl ?_
                refine r_callV (pc := 58) (As := []) mv_X12_readLaw ml_X12_404 (ct_readLaw (q := q + 1) (c0 := cc) (i := y.1 + 1) (lv := y.2.1) hm n13 h4 n20 (by omega) k5 (by rw [n9]; exact tk_next k4 (tS_n0 hS)) (by omega) hx') (q_is hm) rfl rfl (Nat.le_of_ble_eq_true rfl) (Nat.le_of_ble_eq_true rfl) (Nat.le_of_ble_eq_true rfl) (Nat.le_of_ble_eq_true rfl) (Nat.le_of_ble_eq_true rfl) dX12_law_58 (fun r h1 hp => ?_)
                have h37 := IH (q + 1) R' x (acc ++ [y.2.2]) C O A cc hxr (by rw [List.length_append, hacc]; rfl) hnew (fun j hj => by subst hj; exact hf j hRR) (fun cs hcs => by subst hcs; rw [hg _ hRR, List.append_assoc]; rfl) r h1 hp
                obtain ⟨rfl, -⟩ := hp
                show Wp E mX12_law _ _ _ _ [] _ 0 0
                refine r_goto (pc := 61) (tgt := 37) dX12_law_61 (by decide) ?_
                exact h37
          · have hlast : Wp E mX12_law (Rm 8 0 0) (Qm E (pLaw h m μ l n nl R) 0 0) 37 [(0, .ref m)] [] (mH h m (rM (clM ν 10 C (nI (q + 1))) n y.1 false (nI cc) (nI y.2.1) pp op O A P T) (rL ν l n y.1)) 0 0 := by
              rw [if_neg hS] at hy
              have hq12 := k6
              have hi4 := tk_from (ν 9) n y.1
              refine r_aload_n (pc := 37) 0 dX12_law_37 rfl ?_
              refine q_getI (pc := 38) fl_X12_260 hm dX12_law_38 ?_
              refine r_if_ne (pc := 41) (tgt := 64) dX12_law_41 (by decide) (fun c_41 => ?_) (fun c_41 => ?_)
              · exact absurd (show bI false = 0 from rfl) c_41
              · refine r_aload_n (pc := 44) 0 dX12_law_44 rfl ?_
                refine r_bipush (pc := 45) (59) dX12_law_45 rfl ?_
                refine r_dV (pc := 47) (As := [_]) mv_X12_isSign ml_X12_331 (cl_isS hm hw 59) (q_is hm) rfl rfl (Nat.le_of_ble_eq_true rfl) (Nat.le_of_ble_eq_true rfl) (Nat.le_of_ble_eq_true rfl) (Nat.le_of_ble_eq_true rfl) (Nat.le_of_ble_eq_true rfl) dX12_law_47 ?_
                refine r_if_eq (pc := 50) (tgt := 64) dX12_law_50 (by decide) (fun c_50 => ?_) (fun c_50 => ?_)
                · by_cases hs : (tk (μ 9) n y.1).2.2.1 = 0
                  · rw [if_pos hs] at hy
                    have hlen : (acc ++ [y.2.2]).length = q + 1 := by rw [List.length_append, hacc]; rfl
                    rw [← hlen]
                    exact good64 C y.1 cc y.2.1 pp op O A P T (acc ++ [y.2.2]) (hg _ hy) (by omega) (by omega) hnew (by rw [n9]; exact hs)
                  · rw [if_neg hs] at hy
                    exact fail64 C _ y.1 false _ _ _ _ O A P T (hf _ hy) (by rw [n9, decide_eq_true hs]; rfl)
                · rw [n9] at c_50
                  exact absurd (bI_n0.mp c_50) hS
            exact hlast
    obtain ⟨x, hx, hxr⟩ := hR
    have hx' : LawCl (l 15) (l 16) (l 17) (tk (ν 9) n) 0 0 0 x := by rw [n9]; exact hx
    have h1 := ct_beginText (μ := up2 μ 0 0 0) (l := l) hm false hw (n := n) (by rw [up2_ne (by omega)]; exact hn) h4
    rw [hν] at h1
    refine r_aload_n (pc := 28) 0 dX12_law_28 rfl ?_
    refine r_iconst (pc := 29) (0) dX12_law_29 rfl ?_
    refine r_dV0 (pc := 30) (As := [_]) mv_X12_beginText ml_X12_401 (h1) (q_is hm) rfl rfl (Nat.le_of_ble_eq_true rfl) (Nat.le_of_ble_eq_true rfl) (Nat.le_of_ble_eq_true rfl) (Nat.le_of_ble_eq_true rfl) (Nat.le_of_ble_eq_true rfl) dX12_law_30 ?_
    refine r_aload_n (pc := 33) 0 dX12_law_33 rfl ?_
    refine r_callV (pc := 34) (As := []) mv_X12_readLaw ml_X12_404 (ct_readLaw (q := 0) (c0 := 0) (i := 0) (lv := 0) hm n13 h4 n20 (by omega) (by omega) (by omega) (by omega) hx') (q_is hm) rfl rfl (Nat.le_of_ble_eq_true rfl) (Nat.le_of_ble_eq_true rfl) (Nat.le_of_ble_eq_true rfl) (Nat.le_of_ble_eq_true rfl) (Nat.le_of_ble_eq_true rfl) dX12_law_34 (fun r h1 hp => ?_)
    exact at37 12 0 R x [] _ _ _ 0 hxr rfl (fun q' d z => by cases z) (fun _ z => z) (fun _ z => z) r h1 hp
  · rw [th_2, hnl] at c_13
    have h6 : nl = 6 := (nI_eq (by omega) (by omega)).mp c_13
    refine r_aload_n (pc := 16) 0 dX12_law_16 rfl ?_
    refine r_iconst (pc := 17) (0) dX12_law_17 rfl ?_
    refine q_putI (pc := 18) fp_X12_248 hm dX12_law_18 ?_
    refine r_aload_n (pc := 21) 0 dX12_law_21 rfl ?_
    refine r_bipush (pc := 22) (-5) dX12_law_22 rfl ?_
    refine r_dV (pc := 24) (As := [_]) mv_X12_tell ml_X12_170 (ct_tell hm _ t_5) (q_is hm) rfl rfl (Nat.le_of_ble_eq_true rfl) (Nat.le_of_ble_eq_true rfl) (Nat.le_of_ble_eq_true rfl) (Nat.le_of_ble_eq_true rfl) (Nat.le_of_ble_eq_true rfl) dX12_law_24 ?_
    refine r_iret (pc := 27) rfl ?_ (Nat.le_of_ble_eq_true rfl) (Nat.le_of_ble_eq_true rfl) dX12_law_27
    show pLaw h m μ l n nl R _ _
    unfold pLaw
    rw [if_pos h6]
    exact ⟨rfl, rfl⟩
end LAW12C
