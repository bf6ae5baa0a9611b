/-! the reference: a year passes -/
section MODEL9
variable {E : En} {h : Hp} {m : Nat} {μ : Mu} {l : La}
def earnA (r : Nat → Int32) (fo : Option (List Cl)) (k : Nat) : Int32 := if aliveF r k = true then earnF r fo k (r (8 + k)) (spentF r k) else 0
def passK (r : Nat → Int32) (fo : Option (List Cl)) (k : Nat) : Nat → Int32 := fun j => if 26 ≤ j ∧ j < 26 + k then withinF (r j + earnA r fo (j - 26)).toInt64 0 9999 else r j
def passR (r : Nat → Int32) (fo : Option (List Cl)) (n : Nat) : Nat → Int32 := va_up (passK r fo n) 5 (r 5 + 1)
def setR (ν : Mu) (r : Nat → Int32) : Mu := fun o j => if o = 2 then r j else ν o j
theorem setR_2 {ν : Mu} {r : Nat → Int32} : setR ν r 2 = r := by funext j; unfold setR; rw [if_pos rfl]
theorem setR_ne {ν : Mu} {r : Nat → Int32} {o : Nat} (ho : o ≠ 2) : setR ν r o = ν o := by funext j; unfold setR; rw [if_neg ho]
theorem setR_self (ν : Mu) : setR ν (ν 2) = ν := by
  funext o j; unfold setR; split
  · next e => rw [e]
  · rfl
theorem setR_up {ν : Mu} {r : Nat → Int32} {j : Nat} {v : Int32} : up2 (setR ν r) 2 j v = setR ν (va_up r j v) := by
  funext o i; unfold up2 setR va_up
  by_cases h1 : o = 2 <;> by_cases h2 : i = j <;> simp [h1, h2]
theorem passK_0 (r : Nat → Int32) (fo : Option (List Cl)) : passK r fo 0 = r := by funext j; unfold passK; rw [if_neg (by omega)]
theorem passK_s (r : Nat → Int32) (fo : Option (List Cl)) (k : Nat) : va_up (passK r fo k) (26 + k) (withinF (r (26 + k) + earnA r fo k).toInt64 0 9999) = passK r fo (k + 1) := by
  funext j; unfold va_up passK
  by_cases h1 : j = 26 + k
  · subst h1; rw [if_pos rfl, if_pos ⟨by omega, by omega⟩, show 26 + k - 26 = k by omega]
  · rw [if_neg h1]
    by_cases h2 : 26 ≤ j ∧ j < 26 + k
    · rw [if_pos h2, if_pos ⟨h2.1, by omega⟩]
    · rw [if_neg h2, if_neg (by omega)]
theorem ct_passIt (hm : Md E h m) {fo : Option (List Cl)} {nc ns : Nat} (hx : Mx μ fo nc ns) : Ct E 6 0 0 mX12_passIt [.ref m] (mH h m μ l) (pX h m μ l (fun ν => setR ν (passR (μ 2) fo nc)) none) := by
  have h6 := hx.2.2.2.1
  have hnc := hx.2.2.1
  refine Ct.of (by decide +kernel) (Nat.le_of_ble_eq_true rfl) ?_
  refine r_iconst (pc := 0) (0) dX12_passIt_0 rfl ?_
  refine r_istore_n (pc := 1) (lv' := [(0, _), (1, _)]) dX12_passIt_1 (Nat.le_of_ble_eq_true rfl) rfl ?_
  have second : ∀ ν κ, Sx μ l ν κ → (∀ j, j < nc → ν 21 j = earnA (μ 2) fo j) → ∀ k, k ≤ nc → Wp E mX12_passIt (Rm 6 0 0) (Qm E (pX h m μ l (fun ν => setR ν (passR (μ 2) fo nc)) none) 0 0) 57 [(0, .ref m), (1, .int (nI k))] [] (mH h m (setR ν (passK (μ 2) fo k)) κ) 0 0 := by
    intro ν κ hS hea
    have e0 : ∀ k, setR ν (passK (μ 2) fo k) 2 0 = nI nc := fun k => by rw [setR_2]; unfold passK; rw [if_neg (by omega)]; exact hnc
    refine upTo (fun k hk ih => ?_) ?_
    · refine r_iload_n (pc := 57) 1 dX12_passIt_57 rfl ?_
      refine r_aload_n (pc := 58) 0 dX12_passIt_58 rfl ?_
      refine q_getR (pc := 59) fl_X12_13 hm (md_f3 hm) dX12_passIt_59 ?_
      refine r_iconst (pc := 62) (0) dX12_passIt_62 rfl ?_
      refine q_iald (pc := 63) (j := 0) (md_r3 hm) (by decide) rfl (by decide) (by decide) dX12_passIt_63 ?_
      refine r_icmp_ge (pc := 64) (tgt := 106) dX12_passIt_64 (by decide) (fun c_64 => ?_) (fun c_64 => ?_)
      · rw [e0] at c_64
        exact absurd c_64 (nI_ge hk (by omega))
      · refine r_aload_n (pc := 67) 0 dX12_passIt_67 rfl ?_
        refine q_getR (pc := 68) fl_X12_13 hm (md_f3 hm) dX12_passIt_68 ?_
        refine r_bipush (pc := 71) (26) dX12_passIt_71 rfl ?_
        refine r_iload_n (pc := 73) 1 dX12_passIt_73 rfl ?_
        refine r_iadd (pc := 74) dX12_passIt_74 ?_
        refine r_aload_n (pc := 75) 0 dX12_passIt_75 rfl ?_
        refine q_getR (pc := 76) fl_X12_13 hm (md_f3 hm) dX12_passIt_76 ?_
        refine r_bipush (pc := 79) (26) dX12_passIt_79 rfl ?_
        refine r_iload_n (pc := 81) 1 dX12_passIt_81 rfl ?_
        refine r_iadd (pc := 82) dX12_passIt_82 ?_
        refine q_iald (pc := 83) (j := 26 + k) (md_r3 hm) (by decide) (by simp only [fa_lit, nI_add, nI_mul]) (by omega) (by decide) dX12_passIt_83 ?_
        refine r_aload_n (pc := 84) 0 dX12_passIt_84 rfl ?_
        refine q_getR (pc := 85) fl_X12_108 hm (md_f41 hm) dX12_passIt_85 ?_
        refine r_iload_n (pc := 88) 1 dX12_passIt_88 rfl ?_
        refine q_iald (pc := 89) (j := k) (md_r41 hm) (by decide) rfl (by omega) (by decide) dX12_passIt_89 ?_
        refine r_iadd (pc := 90) dX12_passIt_90 ?_
        refine r_i2l (pc := 91) dX12_passIt_91 ?_
        refine r_iconst (pc := 92) (0) dX12_passIt_92 rfl ?_
        refine r_sipush (pc := 93) (9999) dX12_passIt_93 rfl ?_
        refine r_dS (pc := 96) (As := [_, _, _]) ms_X12_within ml_X12_443 (ct_within _ _ _) rfl rfl (Nat.le_of_ble_eq_true rfl) (Nat.le_of_ble_eq_true rfl) (Nat.le_of_ble_eq_true rfl) (Nat.le_of_ble_eq_true rfl) (Nat.le_of_ble_eq_true rfl) dX12_passIt_96 ?_
        refine q_iast (pc := 99) (j := 26 + k) (md_r3 hm) (by decide) (by simp only [fa_lit, nI_add, nI_mul]) (by omega) (by decide) dX12_passIt_99 ?_
        refine r_iinc (pc := 100) (v := _ + (1)) (lv' := [(0, _), (1, _)]) 1 dX12_passIt_100 rfl rfl (Nat.le_of_ble_eq_true rfl) rfl ?_
        refine r_goto (pc := 103) (tgt := 57) dX12_passIt_103 (by decide) ?_
        rw [setR_up, setR_2, setR_ne (by decide), hea k hk, nI_1, show passK (μ 2) fo k (26 + k) = μ 2 (26 + k) by unfold passK; rw [if_neg (by omega)]]
        rw [← passK_s] at ih
        exact ih
    · refine r_iload_n (pc := 57) 1 dX12_passIt_57 rfl ?_
      refine r_aload_n (pc := 58) 0 dX12_passIt_58 rfl ?_
      refine q_getR (pc := 59) fl_X12_13 hm (md_f3 hm) dX12_passIt_59 ?_
      refine r_iconst (pc := 62) (0) dX12_passIt_62 rfl ?_
      refine q_iald (pc := 63) (j := 0) (md_r3 hm) (by decide) rfl (by decide) (by decide) dX12_passIt_63 ?_
      refine r_icmp_ge (pc := 64) (tgt := 106) dX12_passIt_64 (by decide) (fun c_64 => ?_) (fun c_64 => ?_)
      · refine r_aload_n (pc := 106) 0 dX12_passIt_106 rfl ?_
        refine q_getR (pc := 107) fl_X12_13 hm (md_f3 hm) dX12_passIt_107 ?_
        refine r_iconst (pc := 110) (5) dX12_passIt_110 rfl ?_
        refine r_dup2_11 (pc := 111) dX12_passIt_111 rfl rfl ?_
        refine q_iald (pc := 112) (j := 5) (md_r3 hm) (by decide) rfl (by decide) (by decide) dX12_passIt_112 ?_
        refine r_iconst (pc := 113) (1) dX12_passIt_113 rfl ?_
        refine r_iadd (pc := 114) dX12_passIt_114 ?_
        refine q_iast (pc := 115) (j := 5) (md_r3 hm) (by decide) rfl (by decide) (by decide) dX12_passIt_115 ?_
        refine r_vret (pc := 116) rfl ?_ (Nat.le_of_ble_eq_true rfl) (Nat.le_of_ble_eq_true rfl) dX12_passIt_116
        refine ⟨ν, κ, hS, ?_, rfl⟩
        rw [setR_up, setR_2, show passK (μ 2) fo nc 5 = μ 2 5 by unfold passK; rw [if_neg (by omega)]]
        rfl
      · exact absurd (by rw [e0]; exact Int32.le_refl _) c_64
  have first : ∀ k, k ≤ nc → ∀ ν κ, Sx μ l ν κ → (∀ j, j < k → ν 21 j = earnA (μ 2) fo j) → Wp E mX12_passIt (Rm 6 0 0) (Qm E (pX h m μ l (fun ν => setR ν (passR (μ 2) fo nc)) none) 0 0) 2 [(0, .ref m), (1, .int (nI k))] [] (mH h m ν κ) 0 0 := by
    refine upTo (fun k hk ih => ?_) ?_
    · intro ν κ hS hea
      have e2 := hS.row
      have hx1 := hx.x hS
      have fin : ∀ (v : Int32) ν κ, Sx μ l ν κ → (∀ j, j < k → ν 21 j = earnA (μ 2) fo j) → v = earnA (μ 2) fo k → Wp E mX12_passIt (Rm 6 0 0) (Qm E (pX h m μ l (fun ν => setR ν (passR (μ 2) fo nc)) none) 0 0) 48 [(0, .ref m), (1, .int (nI k))] [.int v, .int (nI k), .ref (m + 21)] (mH h m ν κ) 0 0 := by
        intro v ν κ hS hea hv
        refine q_iast (pc := 48) (j := k) (md_r41 hm) (by decide) rfl (by omega) (by decide) dX12_passIt_48 ?_
        refine r_iinc (pc := 49) (v := _ + (1)) (lv' := [(0, _), (1, _)]) 1 dX12_passIt_49 rfl rfl (Nat.le_of_ble_eq_true rfl) rfl ?_
        refine r_goto (pc := 52) (tgt := 2) dX12_passIt_52 (by decide) ?_
        rw [nI_1]
        refine ih _ _ (hS.tr (Sx.I (by unfold isScr; omega) (by decide))) (fun j hj => ?_)
        by_cases hjk : j = k
        · rw [hjk, up2_at, hv]
        · rw [up2_ne (by omega)]; exact hea j (by omega)
      refine r_iload_n (pc := 2) 1 dX12_passIt_2 rfl ?_
      refine r_aload_n (pc := 3) 0 dX12_passIt_3 rfl ?_
      refine q_getR (pc := 4) fl_X12_13 hm (md_f3 hm) dX12_passIt_4 ?_
      refine r_iconst (pc := 7) (0) dX12_passIt_7 rfl ?_
      refine q_iald (pc := 8) (j := 0) (md_r3 hm) (by decide) rfl (by decide) (by decide) dX12_passIt_8 ?_
      refine r_icmp_ge (pc := 9) (tgt := 55) dX12_passIt_9 (by decide) (fun c_9 => ?_) (fun c_9 => ?_)
      · rw [e2, hnc] at c_9
        exact absurd c_9 (nI_ge hk (by omega))
      · refine r_aload_n (pc := 12) 0 dX12_passIt_12 rfl ?_
        refine q_getR (pc := 13) fl_X12_108 hm (md_f41 hm) dX12_passIt_13 ?_
        refine r_iload_n (pc := 16) 1 dX12_passIt_16 rfl ?_
        refine r_aload_n (pc := 17) 0 dX12_passIt_17 rfl ?_
        refine r_iload_n (pc := 18) 1 dX12_passIt_18 rfl ?_
        refine r_dV (pc := 19) (As := [_]) mv_X12_isAlive ml_X12_193 (ct_isAlive hm k (by omega)) (q_is hm) rfl rfl (Nat.le_of_ble_eq_true rfl) (Nat.le_of_ble_eq_true rfl) (Nat.le_of_ble_eq_true rfl) (Nat.le_of_ble_eq_true rfl) (Nat.le_of_ble_eq_true rfl) dX12_passIt_19 ?_
        refine r_if_eq (pc := 22) (tgt := 47) dX12_passIt_22 (by decide) (fun c_22 => ?_) (fun c_22 => ?_)
        · rw [e2] at c_22
          refine r_iconst (pc := 47) (0) dX12_passIt_47 rfl ?_
          exact fin _ ν κ hS hea (by rw [earnA, if_neg (by rw [bI_0.mp c_22]; decide)])
        · rw [e2] at c_22
          refine r_aload_n (pc := 25) 0 dX12_passIt_25 rfl ?_
          refine r_iload_n (pc := 26) 1 dX12_passIt_26 rfl ?_
          refine r_aload_n (pc := 27) 0 dX12_passIt_27 rfl ?_
          refine q_getR (pc := 28) fl_X12_13 hm (md_f3 hm) dX12_passIt_28 ?_
          refine r_bipush (pc := 31) (8) dX12_passIt_31 rfl ?_
          refine r_iload_n (pc := 33) 1 dX12_passIt_33 rfl ?_
          refine r_iadd (pc := 34) dX12_passIt_34 ?_
          refine q_iald (pc := 35) (j := 8 + k) (md_r3 hm) (by decide) (by simp only [fa_lit, nI_add, nI_mul]) (by omega) (by decide) dX12_passIt_35 ?_
          refine r_aload_n (pc := 36) 0 dX12_passIt_36 rfl ?_
          refine r_iload_n (pc := 37) 1 dX12_passIt_37 rfl ?_
          refine r_dV (pc := 38) (As := [_]) mv_X12_spentOf ml_X12_213 (ct_spentOf hm k (by omega)) (q_is hm) rfl rfl (Nat.le_of_ble_eq_true rfl) (Nat.le_of_ble_eq_true rfl) (Nat.le_of_ble_eq_true rfl) (Nat.le_of_ble_eq_true rfl) (Nat.le_of_ble_eq_true rfl) dX12_passIt_38 ?_
          refine r_callV (pc := 41) (As := [_, _, _]) mv_X12_earnsOf ml_X12_216 (ct_earnsOf hm hx1 (by omega) _ _) (q_is hm) rfl rfl (Nat.le_of_ble_eq_true rfl) (Nat.le_of_ble_eq_true rfl) (Nat.le_of_ble_eq_true rfl) (Nat.le_of_ble_eq_true rfl) (Nat.le_of_ble_eq_true rfl) dX12_passIt_41 (fun r h1 hp => ?_)
          obtain ⟨ν2, κ2, rfl, hS2, rfl⟩ := hp
          show Wp E mX12_passIt _ _ _ _ [.int _, .int _, .ref _] _ 0 0
          refine r_goto (pc := 44) (tgt := 48) dX12_passIt_44 (by decide) ?_
          refine fin _ _ _ (hS.tr hS2.x) (fun j hj => by rw [hS2.1 21 (by decide)]; exact hea j hj) ?_
          rw [e2, earnA, if_pos (bI_n0.mp c_22)]
    · intro ν κ hS hea
      have e2 := hS.row
      refine r_iload_n (pc := 2) 1 dX12_passIt_2 rfl ?_
      refine r_aload_n (pc := 3) 0 dX12_passIt_3 rfl ?_
      refine q_getR (pc := 4) fl_X12_13 hm (md_f3 hm) dX12_passIt_4 ?_
      refine r_iconst (pc := 7) (0) dX12_passIt_7 rfl ?_
      refine q_iald (pc := 8) (j := 0) (md_r3 hm) (by decide) rfl (by decide) (by decide) dX12_passIt_8 ?_
      refine r_icmp_ge (pc := 9) (tgt := 55) dX12_passIt_9 (by decide) (fun c_9 => ?_) (fun c_9 => ?_)
      · refine r_iconst (pc := 55) (0) dX12_passIt_55 rfl ?_
        refine r_istore_n (pc := 56) (lv' := [(0, _), (1, _)]) dX12_passIt_56 (Nat.le_of_ble_eq_true rfl) rfl ?_
        have h0 := second ν κ hS hea 0 (by omega)
        have e9 : setR ν (passK (μ 2) fo 0) = ν := by rw [passK_0, ← e2, setR_self]
        rw [e9] at h0
        exact h0
      · exact absurd (by rw [e2, hnc]; exact Int32.le_refl _) c_9
  exact first 0 (by omega) μ l Sx.rf (fun j hj => absurd hj (by omega))
def passV (r : Nat → Int32) : Int32 := if r 5 = 999 then -3 else r 5 + 1
def passM (r : Nat → Int32) (fo : Option (List Cl)) (nc u : Nat) (ν : Mu) : Mu := if r 5 = 999 then ν else setR ν (passR r fo nc)
theorem ct_passNow (hm : Md E h m) {fo : Option (List Cl)} {nc ns u : Nat} (hx : Mx μ fo nc ns) (hu : μ 0 8 = nI u) (h16 : u ≤ 16) : Ct E 7 0 0 mX12_passNow [.ref m] (mH h m μ l) (pX h m (if μ 2 5 = 999 then μ else remM μ u 3) l (passM (μ 2) fo nc u) (some (.int (passV (μ 2))))) := by
  refine Ct.of (by decide +kernel) (Nat.le_of_ble_eq_true rfl) ?_
  refine r_aload_n (pc := 0) 0 dX12_passNow_0 rfl ?_
  refine q_getR (pc := 1) fl_X12_13 hm (md_f3 hm) dX12_passNow_1 ?_
  refine r_iconst (pc := 4) (5) dX12_passNow_4 rfl ?_
  refine q_iald (pc := 5) (j := 5) (md_r3 hm) (by decide) rfl (by decide) (by decide) dX12_passNow_5 ?_
  refine r_sipush (pc := 6) (999) dX12_passNow_6 rfl ?_
  refine r_icmp_ne (pc := 9) (tgt := 15) dX12_passNow_9 (by decide) (fun c_9 => ?_) (fun c_9 => ?_)
  · have er : remM μ u 3 2 = μ 2 := remM_2 _ _ _
    have e20 : remM μ u 3 0 20 = 0 := by
      unfold remM
      rw [up2_ne (by omega), up2_ne (by omega)]
      unfold keepN
      rw [if_neg (by omega)]
      unfold remA
      split
      · rw [up2_ne (by omega)]; unfold shK shN; rw [if_neg (by omega), if_neg (by omega)]; exact hx.1
      · exact hx.1
    have hx1 : Mx (remM μ u 3) fo nc ns := ⟨e20, by rw [er]; exact hx.2.1, by rw [er]; exact hx.2.2.1, hx.2.2.2.1, by rw [er]; exact hx.2.2.2.2.1, hx.2.2.2.2.2⟩
    rw [if_neg c_9]
    refine r_aload_n (pc := 15) 0 dX12_passNow_15 rfl ?_
    refine r_iconst (pc := 16) (3) dX12_passNow_16 rfl ?_
    refine r_dV0 (pc := 17) (As := [_]) mv_X12_remember ml_X12_450 (ct_remember hm 3 hu h16) (q_is hm) rfl rfl (Nat.le_of_ble_eq_true rfl) (Nat.le_of_ble_eq_true rfl) (Nat.le_of_ble_eq_true rfl) (Nat.le_of_ble_eq_true rfl) (Nat.le_of_ble_eq_true rfl) dX12_passNow_17 ?_
    refine r_aload_n (pc := 20) 0 dX12_passNow_20 rfl ?_
    refine r_callV (pc := 21) (As := []) mv_X12_passIt ml_X12_465 (ct_passIt hm hx1) (q_is hm) rfl rfl (Nat.le_of_ble_eq_true rfl) (Nat.le_of_ble_eq_true rfl) (Nat.le_of_ble_eq_true rfl) (Nat.le_of_ble_eq_true rfl) (Nat.le_of_ble_eq_true rfl) dX12_passNow_21 (fun r h1 hp => ?_)
    obtain ⟨ν, κ, hS, rfl, rfl⟩ := hp
    show Wp E mX12_passNow _ _ _ _ [] _ 0 0
    refine r_aload_n (pc := 24) 0 dX12_passNow_24 rfl ?_
    refine q_getR (pc := 25) fl_X12_13 hm (md_f3 hm) dX12_passNow_25 ?_
    refine r_iconst (pc := 28) (5) dX12_passNow_28 rfl ?_
    refine q_iald (pc := 29) (j := 5) (md_r3 hm) (by decide) rfl (by decide) (by decide) dX12_passNow_29 ?_
    refine r_iret (pc := 30) rfl ?_ (Nat.le_of_ble_eq_true rfl) (Nat.le_of_ble_eq_true rfl) dX12_passNow_30
    refine ⟨ν, κ, hS, ?_, ?_⟩
    · rw [passM, if_neg c_9, er]
    · show some (Value.int (setR ν (passR (remM μ u 3 2) fo nc) 2 5)) = _
      rw [setR_2, passV, if_neg c_9, er]; unfold passR; rw [va_up_self]
  · rw [if_pos c_9]
    refine r_bipush (pc := 12) (-3) dX12_passNow_12 rfl ?_
    refine r_iret (pc := 14) rfl ?_ (Nat.le_of_ble_eq_true rfl) (Nat.le_of_ble_eq_true rfl) dX12_passNow_14
    exact ⟨μ, l, Sx.rf, by rw [passM, if_pos c_9], by rw [passV, if_pos c_9]⟩
theorem ct_mpass (hm : Md E h m) {fo : Option (List Cl)} {nc ns u y : Nat} (hx : Mx μ fo nc ns) (hu : μ 0 8 = nI u) (h16 : u ≤ 16) (hy : μ 2 5 = nI y) (hy9 : y ≤ 999) : Ct E 8 0 0 mX12_pass [.ref m] (mH h m μ l) (pX h m (if μ 2 5 = 999 then up2 μ 0 0 0 else remM (up2 μ 0 0 0) u 3) l (fun ν => tellM (passM (μ 2) fo nc u ν) (passV (μ 2))) (some (.int (passV (μ 2))))) := by
  refine Ct.of (by decide +kernel) (Nat.le_of_ble_eq_true rfl) ?_
  have hpn := ct_passNow (μ := up2 μ 0 0 0) (l := l) (u := u) hm (mx_th hx) ((up2_ne (by omega)).trans hu) h16
  rw [th_2] at hpn
  refine r_aload_n (pc := 0) 0 dX12_pass_0 rfl ?_
  refine r_iconst (pc := 1) (0) dX12_pass_1 rfl ?_
  refine q_putI (pc := 2) fp_X12_161 hm dX12_pass_2 ?_
  refine r_aload_n (pc := 5) 0 dX12_pass_5 rfl ?_
  refine r_aload_n (pc := 6) 0 dX12_pass_6 rfl ?_
  refine r_callV (pc := 7) (As := []) mv_X12_passNow ml_X12_468 (hpn) (q_is hm) rfl rfl (Nat.le_of_ble_eq_true rfl) (Nat.le_of_ble_eq_true rfl) (Nat.le_of_ble_eq_true rfl) (Nat.le_of_ble_eq_true rfl) (Nat.le_of_ble_eq_true rfl) dX12_pass_7 (fun r h1 hp => ?_)
  obtain ⟨ν, κ, hS, rfl, rfl⟩ := hp
  show Wp E mX12_pass _ _ _ _ [.int _, .ref m] _ 0 0
  have ht : passV (μ 2) < 0 → ∃ j, j < 7 ∧ -(passV (μ 2)) = nI j := by
    unfold passV
    split
    · exact t_3
    · rw [hy, nI_1]; exact t_p (nI_pos' (by omega))
  refine r_dV (pc := 10) (As := [_]) mv_X12_tell ml_X12_170 (ct_tell hm _ ht) (q_is hm) rfl rfl (Nat.le_of_ble_eq_true rfl) (Nat.le_of_ble_eq_true rfl) (Nat.le_of_ble_eq_true rfl) (Nat.le_of_ble_eq_true rfl) (Nat.le_of_ble_eq_true rfl) dX12_pass_10 ?_
  refine r_iret (pc := 13) rfl ?_ (Nat.le_of_ble_eq_true rfl) (Nat.le_of_ble_eq_true rfl) dX12_pass_13
  exact ⟨ν, κ, hS, rfl, rfl⟩
end MODEL9
