/-! the reference: to sign, die, clip, pass -/
section MODEL8
variable {E : En} {h : Hp} {m : Nat} {μ : Mu} {l : La}
def isScr (o : Nat) : Prop := o = 0 ∨ o = 21 ∨ o = 22 ∨ o = 23 ∨ o = 27 ∨ o = 28 ∨ o = 29 ∨ o = 30
def isScL (o : Nat) : Prop := o = 0 ∨ o = 18 ∨ o = 20 ∨ o = 24 ∨ o = 25 ∨ o = 26
/-- what any reckoning may leave written: nothing that is told later -/
def Sx (μ : Mu) (l : La) (μ' : Mu) (l' : La) : Prop := (∀ o, ¬ isScr o → μ' o = μ o) ∧ (∀ j, j ≠ 34 → j ≠ 38 → μ' 0 j = μ 0 j) ∧ (∀ o, ¬ isScL o → l' o = l o) ∧ (∀ j, j ≠ 39 → j ≠ 40 → l' 0 j = l 0 j)
theorem Sx.rf : Sx μ l μ l := ⟨fun _ _ => rfl, fun _ _ _ => rfl, fun _ _ => rfl, fun _ _ _ => rfl⟩
theorem Sx.tr {μ1 μ2 : Mu} {l1 l2 : La} (h1 : Sx μ l μ1 l1) (h2 : Sx μ1 l1 μ2 l2) : Sx μ l μ2 l2 := ⟨fun o ho => (h2.1 o ho).trans (h1.1 o ho), fun j hj hk => (h2.2.1 j hj hk).trans (h1.2.1 j hj hk), fun o a => (h2.2.2.1 o a).trans (h1.2.2.1 o a), fun j a b => (h2.2.2.2 j a b).trans (h1.2.2.2 j a b)⟩
theorem S2.x {μ1 : Mu} {l1 : La} (h1 : S2 μ l μ1 l1) : Sx μ l μ1 l1 := ⟨fun o ho => h1.1 o (fun z => ho (Or.inl z)), h1.2.1, fun o ho => h1.2.2.1 o (fun z => ho (Or.inl z)) (fun z => ho (Or.inr (Or.inl z))) (fun z => ho (Or.inr (Or.inr (Or.inl z)))), h1.2.2.2⟩
theorem Sx.I {o j : Nat} {v : Int32} (ho : isScr o) (h0 : o ≠ 0) : Sx μ l (up2 μ o j v) l := ⟨fun q hq => by funext i; exact up2_ne (fun z => hq (by rw [z.1]; exact ho)), fun i _ _ => up2_ne (fun z => h0 z.1.symm), fun _ _ => rfl, fun _ _ _ => rfl⟩
theorem Sx.J {o j : Nat} {v : Int64} (ho : isScL o) (h0 : o ≠ 0) : Sx μ l μ (up2 l o j v) := ⟨fun _ _ => rfl, fun _ _ _ => rfl, fun q hq => by funext i; exact up2_ne (fun z => hq (by rw [z.1]; exact ho)), fun i _ _ => up2_ne (fun z => h0 z.1.symm)⟩
theorem Mx.x {μ' : Mu} {l' : La} {fo : Option (List Cl)} {nc ns : Nat} (hx : Mx μ fo nc ns) (hS : Sx μ l μ' l') : Mx μ' fo nc ns := by
  obtain ⟨h1, h2, h3, h4, h5, h6⟩ := hx
  have e2 : μ' 2 = μ 2 := hS.1 2 (by unfold isScr; omega)
  refine ⟨(hS.2.1 20 (by decide) (by decide)).trans h1, ?_, ?_, h4, ?_, h6⟩
  · rw [e2]; exact h2
  · rw [e2]; exact h3
  · rw [e2]; exact h5
theorem Sx.row {μ' : Mu} {l' : La} (hS : Sx μ l μ' l') : μ' 2 = μ 2 := hS.1 2 (by unfold isScr; omega)
/-- an answer; the memory behind a reckoning, changed by F -/
def pX (h : Hp) (m : Nat) (μ : Mu) (l : La) (F : Mu → Mu) (v : Option Value) : Option Value → Hp → Prop := fun r h' => ∃ ν κ, Sx μ l ν κ ∧ h' = mH h m (F ν) κ ∧ r = v
theorem remM_2 (μ : Mu) (u : Nat) (s : Int32) : remM μ u s 2 = μ 2 := by
  funext j
  unfold remM
  rw [up2_ne (by omega), up2_ne (by omega)]
  unfold keepN
  rw [if_neg (by omega)]
  unfold remA
  split
  · rw [up2_ne (by omega)]; unfold shK shN; rw [if_neg (by omega), if_neg (by omega)]
  · rfl
def signV (r : Nat → Int32) (fo : Option (List Cl)) (nc ns : Nat) (c s : Int32) : Int32 :=
  if inN c nc = true ∧ inN s ns = true then (if aliveF r c.toNatClampNeg = false ∨ r (32 + c.toNatClampNeg) = s ∨ barF r fo c.toNatClampNeg s = true then -3 else onesN (crewN (va_up r (32 + c.toNatClampNeg) s) s nc) 9) else -2
def signM (v : Int32) (u : Nat) (c s : Int32) (ν : Mu) : Mu := if 0 ≤ v then up2 (remM ν u 0) 2 (32 + c.toNatClampNeg) s else ν
theorem ct_signNow (hm : Md E h m) {fo : Option (List Cl)} {nc ns u : Nat} (hx : Mx μ fo nc ns) (hu : μ 0 8 = nI u) (h16 : u ≤ 16) (c s : Int32) : Ct E 6 0 0 mX12_signNow [.ref m, .int c, .int s] (mH h m μ l) (pX h m μ l (signM (signV (μ 2) fo nc ns c s) u c s) (some (.int (signV (μ 2) fo nc ns c s)))) := by
  have h6 := hx.2.2.2.1
  have h3 := hx.2.2.2.2.2
  refine Ct.of (by decide +kernel) (Nat.le_of_ble_eq_true rfl) ?_
  have no2 : ¬ (inN c nc = true ∧ inN s ns = true) → Wp E mX12_signNow (Rm 6 0 0) (Qm E (pX h m μ l (signM (signV (μ 2) fo nc ns c s) u c s) (some (.int (signV (μ 2) fo nc ns c s)))) 0 0) 16 [(0, .ref m), (1, .int c), (2, .int s)] [] (mH h m μ l) 0 0 := by
    intro hno
    refine r_bipush (pc := 16) (-2) dX12_signNow_16 rfl ?_
    refine r_iret (pc := 18) rfl ?_ (Nat.le_of_ble_eq_true rfl) (Nat.le_of_ble_eq_true rfl) dX12_signNow_18
    refine ⟨μ, l, Sx.rf, ?_, ?_⟩
    · rw [signM, signV, if_neg hno, if_neg (by decide)]
    · rw [signV, if_neg hno]
  refine r_aload_n (pc := 0) 0 dX12_signNow_0 rfl ?_
  refine r_iload_n (pc := 1) 1 dX12_signNow_1 rfl ?_
  refine r_dV (pc := 2) (As := [_]) mv_X12_isCat ml_X12_210 (ct_isCat hm c hx.2.2.1 (by omega)) (q_is hm) rfl rfl (Nat.le_of_ble_eq_true rfl) (Nat.le_of_ble_eq_true rfl) (Nat.le_of_ble_eq_true rfl) (Nat.le_of_ble_eq_true rfl) (Nat.le_of_ble_eq_true rfl) dX12_signNow_2 ?_
  refine r_if_eq (pc := 5) (tgt := 16) dX12_signNow_5 (by decide) (fun c_5 => ?_) (fun c_5 => ?_)
  · exact no2 (fun z => by rw [bI_0.mp c_5] at z; exact absurd z.1 (by decide))
  · refine r_aload_n (pc := 8) 0 dX12_signNow_8 rfl ?_
    refine r_iload_n (pc := 9) 2 dX12_signNow_9 rfl ?_
    refine r_dV (pc := 10) (As := [_]) mv_X12_isShip ml_X12_228 (ct_isShip hm s hx.2.2.2.2.1 (by omega)) (q_is hm) rfl rfl (Nat.le_of_ble_eq_true rfl) (Nat.le_of_ble_eq_true rfl) (Nat.le_of_ble_eq_true rfl) (Nat.le_of_ble_eq_true rfl) (Nat.le_of_ble_eq_true rfl) dX12_signNow_10 ?_
    refine r_if_ne (pc := 13) (tgt := 19) dX12_signNow_13 (by decide) (fun c_13 => ?_) (fun c_13 => ?_)
    · have hcs : inN c nc = true ∧ inN s ns = true := ⟨bI_n0.mp c_5, bI_n0.mp c_13⟩
      obtain ⟨k, hk, rfl⟩ := inN_of (by omega) hcs.1
      have eV : signV (μ 2) fo nc ns (nI k) s = (if aliveF (μ 2) k = false ∨ μ 2 (32 + k) = s ∨ barF (μ 2) fo k s = true then -3 else onesN (crewN (va_up (μ 2) (32 + k) s) s nc) 9) := by rw [signV, if_pos hcs, nI_clamp (by omega)]
      have no3 : (aliveF (μ 2) k = false ∨ μ 2 (32 + k) = s ∨ barF (μ 2) fo k s = true) → ∀ ν κ, Sx μ l ν κ → Wp E mX12_signNow (Rm 6 0 0) (Qm E (pX h m μ l (signM (signV (μ 2) fo nc ns (nI k) s) u (nI k) s) (some (.int (signV (μ 2) fo nc ns (nI k) s)))) 0 0) 49 [(0, .ref m), (1, .int (nI k)), (2, .int s)] [] (mH h m ν κ) 0 0 := by
        intro hy ν κ hS
        rw [eV, if_pos hy]
        refine r_bipush (pc := 49) (-3) dX12_signNow_49 rfl ?_
        refine r_iret (pc := 51) rfl ?_ (Nat.le_of_ble_eq_true rfl) (Nat.le_of_ble_eq_true rfl) dX12_signNow_51
        exact ⟨ν, κ, hS, by rw [signM, if_neg (by decide)], rfl⟩
      refine r_aload_n (pc := 19) 0 dX12_signNow_19 rfl ?_
      refine r_iload_n (pc := 20) 1 dX12_signNow_20 rfl ?_
      refine r_dV (pc := 21) (As := [_]) mv_X12_isAlive ml_X12_193 (ct_isAlive hm k (by omega)) (q_is hm) rfl rfl (Nat.le_of_ble_eq_true rfl) (Nat.le_of_ble_eq_true rfl) (Nat.le_of_ble_eq_true rfl) (Nat.le_of_ble_eq_true rfl) (Nat.le_of_ble_eq_true rfl) dX12_signNow_21 ?_
      refine r_if_eq (pc := 24) (tgt := 49) dX12_signNow_24 (by decide) (fun c_24 => ?_) (fun c_24 => ?_)
      · exact no3 (Or.inl (bI_0.mp c_24)) μ l Sx.rf
      · refine r_aload_n (pc := 27) 0 dX12_signNow_27 rfl ?_
        refine q_getR (pc := 28) fl_X12_13 hm (md_f3 hm) dX12_signNow_28 ?_
        refine r_bipush (pc := 31) (32) dX12_signNow_31 rfl ?_
        refine r_iload_n (pc := 33) 1 dX12_signNow_33 rfl ?_
        refine r_iadd (pc := 34) dX12_signNow_34 ?_
        refine q_iald (pc := 35) (j := 32 + k) (md_r3 hm) (by decide) (by simp only [fa_lit, nI_add, nI_mul]) (by omega) (by decide) dX12_signNow_35 ?_
        refine r_iload_n (pc := 36) 2 dX12_signNow_36 rfl ?_
        refine r_icmp_eq (pc := 37) (tgt := 49) dX12_signNow_37 (by decide) (fun c_37 => ?_) (fun c_37 => ?_)
        · exact no3 (Or.inr (Or.inl c_37)) μ l Sx.rf
        · refine r_aload_n (pc := 40) 0 dX12_signNow_40 rfl ?_
          refine r_iload_n (pc := 41) 1 dX12_signNow_41 rfl ?_
          refine r_iload_n (pc := 42) 2 dX12_signNow_42 rfl ?_
          refine r_callV (pc := 43) (As := [_, _]) mv_X12_isBarred ml_X12_447 (ct_isBarred hm hx (by omega) s) (q_is hm) rfl rfl (Nat.le_of_ble_eq_true rfl) (Nat.le_of_ble_eq_true rfl) (Nat.le_of_ble_eq_true rfl) (Nat.le_of_ble_eq_true rfl) (Nat.le_of_ble_eq_true rfl) dX12_signNow_43 (fun r h1 hp => ?_)
          obtain ⟨ν, κ, rfl, hS, rfl⟩ := hp
          show Wp E mX12_signNow _ _ _ _ [.int _] _ 0 0
          refine r_if_eq (pc := 46) (tgt := 52) dX12_signNow_46 (by decide) (fun c_46 => ?_) (fun c_46 => ?_)
          · have hno : ¬ (aliveF (μ 2) k = false ∨ μ 2 (32 + k) = s ∨ barF (μ 2) fo k s = true) := by
              rintro (z | z | z)
              · rw [bI_n0.mp c_24] at z; cases z
              · exact c_37 z
              · rw [bI_0.mp c_46] at z; cases z
            rw [eV, if_neg hno]
            have e2 : ν 2 = μ 2 := hS.1 2 (by decide)
            have er : (up2 (remM ν u 0) 2 (32 + k) s) 2 = va_up (μ 2) (32 + k) s := by rw [up2_same, remM_2, e2]
            refine r_aload_n (pc := 52) 0 dX12_signNow_52 rfl ?_
            refine r_iconst (pc := 53) (0) dX12_signNow_53 rfl ?_
            refine r_dV0 (pc := 54) (As := [_]) mv_X12_remember ml_X12_450 (ct_remember hm 0 ((hS.2.1 8 (by decide) (by decide)).trans hu) h16) (q_is hm) rfl rfl (Nat.le_of_ble_eq_true rfl) (Nat.le_of_ble_eq_true rfl) (Nat.le_of_ble_eq_true rfl) (Nat.le_of_ble_eq_true rfl) (Nat.le_of_ble_eq_true rfl) dX12_signNow_54 ?_
            refine r_aload_n (pc := 57) 0 dX12_signNow_57 rfl ?_
            refine q_getR (pc := 58) fl_X12_13 hm (md_f3 hm) dX12_signNow_58 ?_
            refine r_bipush (pc := 61) (32) dX12_signNow_61 rfl ?_
            refine r_iload_n (pc := 63) 1 dX12_signNow_63 rfl ?_
            refine r_iadd (pc := 64) dX12_signNow_64 ?_
            refine r_iload_n (pc := 65) 2 dX12_signNow_65 rfl ?_
            refine q_iast (pc := 66) (j := 32 + k) (md_r3 hm) (by decide) (by simp only [fa_lit, nI_add, nI_mul]) (by omega) (by decide) dX12_signNow_66 ?_
            refine r_aload_n (pc := 67) 0 dX12_signNow_67 rfl ?_
            refine r_iload_n (pc := 68) 2 dX12_signNow_68 rfl ?_
            refine r_dV (pc := 69) (As := [_]) mv_X12_crewOf ml_X12_231 (ct_crewOf hm s (by rw [er, va_up_ne _ _ (by omega)]; exact hx.2.2.1) h6) (q_is hm) rfl rfl (Nat.le_of_ble_eq_true rfl) (Nat.le_of_ble_eq_true rfl) (Nat.le_of_ble_eq_true rfl) (Nat.le_of_ble_eq_true rfl) (Nat.le_of_ble_eq_true rfl) dX12_signNow_69 ?_
            refine r_dS (pc := 72) (As := [_]) ms_X12_ones ml_X12_190 (ct_ones _) rfl rfl (Nat.le_of_ble_eq_true rfl) (Nat.le_of_ble_eq_true rfl) (Nat.le_of_ble_eq_true rfl) (Nat.le_of_ble_eq_true rfl) (Nat.le_of_ble_eq_true rfl) dX12_signNow_72 ?_
            refine r_iret (pc := 75) rfl ?_ (Nat.le_of_ble_eq_true rfl) (Nat.le_of_ble_eq_true rfl) dX12_signNow_75
            rw [er]
            have hV0 := onesN_p (crewN (va_up (μ 2) (32 + k) s) s nc)
            refine ⟨ν, κ, hS.x, ?_, rfl⟩
            generalize onesN (crewN (va_up (μ 2) (32 + k) s) s nc) 9 = V at hV0 ⊢
            rw [signM, if_pos hV0, nI_clamp (by omega)]
          · exact no3 (Or.inr (Or.inr (bI_n0.mp c_46))) ν κ hS.x
    · exact no2 (fun z => by rw [bI_0.mp c_13] at z; exact absurd z.2 (by decide))
theorem signV_t (r : Nat → Int32) (fo : Option (List Cl)) (nc ns : Nat) (c s : Int32) : signV r fo nc ns c s < 0 → ∃ j, j < 7 ∧ -(signV r fo nc ns c s) = nI j := by
  unfold signV
  split
  · split
    · exact t_3
    · exact t_p (onesN_p _)
  · exact t_2
theorem mx_th {fo : Option (List Cl)} {nc ns : Nat} (hx : Mx μ fo nc ns) : Mx (up2 μ 0 0 0) fo nc ns := by
  have er : up2 μ 0 0 0 2 = μ 2 := by funext j; exact up2_ne (by omega)
  exact ⟨(up2_ne (by omega)).trans hx.1, by rw [er]; exact hx.2.1, by rw [er]; exact hx.2.2.1, hx.2.2.2.1, by rw [er]; exact hx.2.2.2.2.1, hx.2.2.2.2.2⟩
theorem th_2 (μ : Mu) : up2 μ 0 0 0 2 = μ 2 := by funext j; exact up2_ne (by omega)
theorem ct_msign (hm : Md E h m) {fo : Option (List Cl)} {nc ns u : Nat} (hx : Mx μ fo nc ns) (hu : μ 0 8 = nI u) (h16 : u ≤ 16) (c s : Int32) : Ct E 7 0 0 mX12_sign [.ref m, .int c, .int s] (mH h m μ l) (pX h m (up2 μ 0 0 0) l (fun ν => tellM (signM (signV (μ 2) fo nc ns c s) u c s ν) (signV (μ 2) fo nc ns c s)) (some (.int (signV (μ 2) fo nc ns c s)))) := by
  refine Ct.of (by decide +kernel) (Nat.le_of_ble_eq_true rfl) ?_
  refine r_aload_n (pc := 0) 0 dX12_sign_0 rfl ?_
  refine r_iconst (pc := 1) (0) dX12_sign_1 rfl ?_
  refine q_putI (pc := 2) fp_X12_161 hm dX12_sign_2 ?_
  refine r_aload_n (pc := 5) 0 dX12_sign_5 rfl ?_
  refine r_aload_n (pc := 6) 0 dX12_sign_6 rfl ?_
  refine r_iload_n (pc := 7) 1 dX12_sign_7 rfl ?_
  refine r_iload_n (pc := 8) 2 dX12_sign_8 rfl ?_
  refine r_callV (pc := 9) (As := [_, _]) mv_X12_signNow ml_X12_453 (ct_signNow hm (mx_th hx) ((up2_ne (by omega)).trans hu) h16 c s) (q_is hm) rfl rfl (Nat.le_of_ble_eq_true rfl) (Nat.le_of_ble_eq_true rfl) (Nat.le_of_ble_eq_true rfl) (Nat.le_of_ble_eq_true rfl) (Nat.le_of_ble_eq_true rfl) dX12_sign_9 (fun r h1 hp => ?_)
  obtain ⟨ν, κ, hS, rfl, rfl⟩ := hp
  rw [th_2]
  show Wp E mX12_sign _ _ _ _ [.int _, .ref m] _ 0 0
  refine r_dV (pc := 12) (As := [_]) mv_X12_tell ml_X12_170 (ct_tell hm _ (signV_t _ _ _ _ _ _)) (q_is hm) rfl rfl (Nat.le_of_ble_eq_true rfl) (Nat.le_of_ble_eq_true rfl) (Nat.le_of_ble_eq_true rfl) (Nat.le_of_ble_eq_true rfl) (Nat.le_of_ble_eq_true rfl) dX12_sign_12 ?_
  refine r_iret (pc := 15) rfl ?_ (Nat.le_of_ble_eq_true rfl) (Nat.le_of_ble_eq_true rfl) dX12_sign_15
  exact ⟨ν, κ, hS, rfl, rfl⟩
def yetF (y life : Int32) : Int32 := y &&& (if life = 9 then (0 : Int32) else (1 : Int32) <<< (life &&& 31) ^^^ -1)
def dieItM (μ : Mu) (k : Nat) (life : Int32) : Mu := up2 (up2 (up2 μ 2 (8 + k) (if life = 9 then -1 else life)) 2 (14 + k) (yetF (μ 2 (14 + k)) life)) 2 (32 + k) (if life = 9 then -1 else μ 2 (32 + k))
theorem ct_dieIt (hm : Md E h m) {k : Nat} (hk : k < 6) (life : Int32) : Ct E 0 0 0 mX12_dieIt [.ref m, .int (nI k), .int life] (mH h m μ l) (po none (mH h m (dieItM μ k life) l)) := by
  refine Ct.of (by decide +kernel) (Nat.le_of_ble_eq_true rfl) ?_
  refine r_aload_n (pc := 0) 0 dX12_dieIt_0 rfl ?_
  refine q_getR (pc := 1) fl_X12_13 hm (md_f3 hm) dX12_dieIt_1 ?_
  refine r_bipush (pc := 4) (8) dX12_dieIt_4 rfl ?_
  refine r_iload_n (pc := 6) 1 dX12_dieIt_6 rfl ?_
  refine r_iadd (pc := 7) dX12_dieIt_7 ?_
  refine r_iload_n (pc := 8) 2 dX12_dieIt_8 rfl ?_
  refine r_bipush (pc := 9) (9) dX12_dieIt_9 rfl ?_
  refine r_icmp_ne (pc := 11) (tgt := 18) dX12_dieIt_11 (by decide) (fun c_11 => ?_) (fun c_11 => ?_)
  · refine r_iload_n (pc := 18) 2 dX12_dieIt_18 rfl ?_
    refine q_iast (pc := 19) (j := 8 + k) (md_r3 hm) (by decide) (by simp only [fa_lit, nI_add, nI_mul]) (by omega) (by decide) dX12_dieIt_19 ?_
    refine r_aload_n (pc := 20) 0 dX12_dieIt_20 rfl ?_
    refine q_getR (pc := 21) fl_X12_13 hm (md_f3 hm) dX12_dieIt_21 ?_
    refine r_bipush (pc := 24) (14) dX12_dieIt_24 rfl ?_
    refine r_iload_n (pc := 26) 1 dX12_dieIt_26 rfl ?_
    refine r_iadd (pc := 27) dX12_dieIt_27 ?_
    refine r_dup2_11 (pc := 28) dX12_dieIt_28 rfl rfl ?_
    refine q_iald (pc := 29) (j := 14 + k) (md_r3 hm) (by decide) (by simp only [fa_lit, nI_add, nI_mul]) (by omega) (by decide) dX12_dieIt_29 ?_
    refine r_iload_n (pc := 30) 2 dX12_dieIt_30 rfl ?_
    refine r_bipush (pc := 31) (9) dX12_dieIt_31 rfl ?_
    refine r_icmp_ne (pc := 33) (tgt := 40) dX12_dieIt_33 (by decide) (fun c_33 => ?_) (fun c_33 => ?_)
    · refine r_iconst (pc := 40) (1) dX12_dieIt_40 rfl ?_
      refine r_iload_n (pc := 41) 2 dX12_dieIt_41 rfl ?_
      refine r_ishl (pc := 42) dX12_dieIt_42 ?_
      refine r_iconst (pc := 43) (-1) dX12_dieIt_43 rfl ?_
      refine r_ixor (pc := 44) dX12_dieIt_44 ?_
      refine r_iand (pc := 45) dX12_dieIt_45 ?_
      refine q_iast (pc := 46) (j := 14 + k) (md_r3 hm) (by decide) (by simp only [fa_lit, nI_add, nI_mul]) (by omega) (by decide) dX12_dieIt_46 ?_
      refine r_aload_n (pc := 47) 0 dX12_dieIt_47 rfl ?_
      refine q_getR (pc := 48) fl_X12_13 hm (md_f3 hm) dX12_dieIt_48 ?_
      refine r_bipush (pc := 51) (32) dX12_dieIt_51 rfl ?_
      refine r_iload_n (pc := 53) 1 dX12_dieIt_53 rfl ?_
      refine r_iadd (pc := 54) dX12_dieIt_54 ?_
      refine r_iload_n (pc := 55) 2 dX12_dieIt_55 rfl ?_
      refine r_bipush (pc := 56) (9) dX12_dieIt_56 rfl ?_
      refine r_icmp_ne (pc := 58) (tgt := 65) dX12_dieIt_58 (by decide) (fun c_58 => ?_) (fun c_58 => ?_)
      · refine r_aload_n (pc := 65) 0 dX12_dieIt_65 rfl ?_
        refine q_getR (pc := 66) fl_X12_13 hm (md_f3 hm) dX12_dieIt_66 ?_
        refine r_bipush (pc := 69) (32) dX12_dieIt_69 rfl ?_
        refine r_iload_n (pc := 71) 1 dX12_dieIt_71 rfl ?_
        refine r_iadd (pc := 72) dX12_dieIt_72 ?_
        refine q_iald (pc := 73) (j := 32 + k) (md_r3 hm) (by decide) (by simp only [fa_lit, nI_add, nI_mul]) (by omega) (by decide) dX12_dieIt_73 ?_
        refine q_iast (pc := 74) (j := 32 + k) (md_r3 hm) (by decide) (by simp only [fa_lit, nI_add, nI_mul]) (by omega) (by decide) dX12_dieIt_74 ?_
        refine r_vret (pc := 75) rfl ?_ (Nat.le_of_ble_eq_true rfl) (Nat.le_of_ble_eq_true rfl) dX12_dieIt_75
        refine ⟨rfl, ?_⟩
        rw [up2_ne (by omega), up2_ne (by omega), up2_ne (by omega), dieItM, yetF, if_neg c_11, if_neg c_11, if_neg c_11]
      · exact absurd c_58 c_11
    · exact absurd c_33 c_11
  · refine r_iconst (pc := 14) (-1) dX12_dieIt_14 rfl ?_
    refine r_goto (pc := 15) (tgt := 19) dX12_dieIt_15 (by decide) ?_
    refine q_iast (pc := 19) (j := 8 + k) (md_r3 hm) (by decide) (by simp only [fa_lit, nI_add, nI_mul]) (by omega) (by decide) dX12_dieIt_19 ?_
    refine r_aload_n (pc := 20) 0 dX12_dieIt_20 rfl ?_
    refine q_getR (pc := 21) fl_X12_13 hm (md_f3 hm) dX12_dieIt_21 ?_
    refine r_bipush (pc := 24) (14) dX12_dieIt_24 rfl ?_
    refine r_iload_n (pc := 26) 1 dX12_dieIt_26 rfl ?_
    refine r_iadd (pc := 27) dX12_dieIt_27 ?_
    refine r_dup2_11 (pc := 28) dX12_dieIt_28 rfl rfl ?_
    refine q_iald (pc := 29) (j := 14 + k) (md_r3 hm) (by decide) (by simp only [fa_lit, nI_add, nI_mul]) (by omega) (by decide) dX12_dieIt_29 ?_
    refine r_iload_n (pc := 30) 2 dX12_dieIt_30 rfl ?_
    refine r_bipush (pc := 31) (9) dX12_dieIt_31 rfl ?_
    refine r_icmp_ne (pc := 33) (tgt := 40) dX12_dieIt_33 (by decide) (fun c_33 => ?_) (fun c_33 => ?_)
    · exact absurd c_11 c_33
    · refine r_iconst (pc := 36) (0) dX12_dieIt_36 rfl ?_
      refine r_goto (pc := 37) (tgt := 45) dX12_dieIt_37 (by decide) ?_
      refine r_iand (pc := 45) dX12_dieIt_45 ?_
      refine q_iast (pc := 46) (j := 14 + k) (md_r3 hm) (by decide) (by simp only [fa_lit, nI_add, nI_mul]) (by omega) (by decide) dX12_dieIt_46 ?_
      refine r_aload_n (pc := 47) 0 dX12_dieIt_47 rfl ?_
      refine q_getR (pc := 48) fl_X12_13 hm (md_f3 hm) dX12_dieIt_48 ?_
      refine r_bipush (pc := 51) (32) dX12_dieIt_51 rfl ?_
      refine r_iload_n (pc := 53) 1 dX12_dieIt_53 rfl ?_
      refine r_iadd (pc := 54) dX12_dieIt_54 ?_
      refine r_iload_n (pc := 55) 2 dX12_dieIt_55 rfl ?_
      refine r_bipush (pc := 56) (9) dX12_dieIt_56 rfl ?_
      refine r_icmp_ne (pc := 58) (tgt := 65) dX12_dieIt_58 (by decide) (fun c_58 => ?_) (fun c_58 => ?_)
      · exact absurd c_11 c_58
      · refine r_iconst (pc := 61) (-1) dX12_dieIt_61 rfl ?_
        refine r_goto (pc := 62) (tgt := 74) dX12_dieIt_62 (by decide) ?_
        refine q_iast (pc := 74) (j := 32 + k) (md_r3 hm) (by decide) (by simp only [fa_lit, nI_add, nI_mul]) (by omega) (by decide) dX12_dieIt_74 ?_
        refine r_vret (pc := 75) rfl ?_ (Nat.le_of_ble_eq_true rfl) (Nat.le_of_ble_eq_true rfl) dX12_dieIt_75
        refine ⟨rfl, ?_⟩
        rw [up2_ne (by omega), dieItM, yetF, if_pos c_11, if_pos c_11, if_pos c_11]
def dieOK (r : Nat → Int32) (k : Nat) (life : Int32) : Prop := aliveF r k = true ∧ ((life = 9 ∧ r (14 + k) = 0) ∨ (¬ life = 9 ∧ isB (r (14 + k)) life = true))
def dieV (r : Nat → Int32) (nc : Nat) (c life : Int32) : Int32 := if inN life 10 = true then (if inN c nc = true then (if aliveF r c.toNatClampNeg = true ∧ ((life = 9 ∧ r (14 + c.toNatClampNeg) = 0) ∨ (¬ life = 9 ∧ isB (r (14 + c.toNatClampNeg)) life = true)) then onesN (yetF (r (14 + c.toNatClampNeg)) life) 9 else -3) else -2) else -1
def dieM (v : Int32) (u : Nat) (c life : Int32) (ν : Mu) : Mu := if 0 ≤ v then dieItM (remM ν u 1) c.toNatClampNeg life else ν
theorem ct_dieNow (hm : Md E h m) {nc u : Nat} (hnc : μ 2 0 = nI nc) (h6 : nc ≤ 6) (hu : μ 0 8 = nI u) (h16 : u ≤ 16) (c life : Int32) : Ct E 2 0 0 mX12_dieNow [.ref m, .int c, .int life] (mH h m μ l) (po (some (.int (dieV (μ 2) nc c life))) (mH h m (dieM (dieV (μ 2) nc c life) u c life μ) l)) := by
  refine Ct.of (by decide +kernel) (Nat.le_of_ble_eq_true rfl) ?_
  refine r_iload_n (pc := 0) 2 dX12_dieNow_0 rfl ?_
  refine r_i2l (pc := 1) dX12_dieNow_1 ?_
  refine r_lconst (pc := 2) (0) dX12_dieNow_2 rfl ?_
  refine r_ldc2_w (pc := 3) cs_X12_204 dX12_dieNow_3 ?_
  refine r_dS (pc := 6) (As := [_, _, _]) ms_X12_in ml_X12_181 (ct_in _ _ _) rfl rfl (Nat.le_of_ble_eq_true rfl) (Nat.le_of_ble_eq_true rfl) (Nat.le_of_ble_eq_true rfl) (Nat.le_of_ble_eq_true rfl) (Nat.le_of_ble_eq_true rfl) dX12_dieNow_6 ?_
  refine r_if_ne (pc := 9) (tgt := 14) dX12_dieNow_9 (by decide) (fun c_9 => ?_) (fun c_9 => ?_)
  · rw [show decide _ = inN life 10 from in_lit (b := 9) (n := 9) (by decide)] at c_9
    have hl := bI_n0.mp c_9
    refine r_aload_n (pc := 14) 0 dX12_dieNow_14 rfl ?_
    refine r_iload_n (pc := 15) 1 dX12_dieNow_15 rfl ?_
    refine r_dV (pc := 16) (As := [_]) mv_X12_isCat ml_X12_210 (ct_isCat hm c hnc (by omega)) (q_is hm) rfl rfl (Nat.le_of_ble_eq_true rfl) (Nat.le_of_ble_eq_true rfl) (Nat.le_of_ble_eq_true rfl) (Nat.le_of_ble_eq_true rfl) (Nat.le_of_ble_eq_true rfl) dX12_dieNow_16 ?_
    refine r_if_ne (pc := 19) (tgt := 25) dX12_dieNow_19 (by decide) (fun c_19 => ?_) (fun c_19 => ?_)
    · have hc := bI_n0.mp c_19
      obtain ⟨k, hk, rfl⟩ := inN_of (by omega) hc
      have eV : dieV (μ 2) nc (nI k) life = (if aliveF (μ 2) k = true ∧ ((life = 9 ∧ μ 2 (14 + k) = 0) ∨ (¬ life = 9 ∧ isB (μ 2 (14 + k)) life = true)) then onesN (yetF (μ 2 (14 + k)) life) 9 else -3) := by rw [dieV, if_pos hl, if_pos hc, nI_clamp (by omega)]
      have no : ¬ (aliveF (μ 2) k = true ∧ ((life = 9 ∧ μ 2 (14 + k) = 0) ∨ (¬ life = 9 ∧ isB (μ 2 (14 + k)) life = true))) → Wp E mX12_dieNow (Rm 2 0 0) (Qm E (po (some (.int (dieV (μ 2) nc (nI k) life))) (mH h m (dieM (dieV (μ 2) nc (nI k) life) u (nI k) life μ) l)) 0 0) 74 [(0, .ref m), (1, .int (nI k)), (2, .int life)] [] (mH h m μ l) 0 0 := by
        intro hno
        rw [eV, if_neg hno]
        refine r_iconst (pc := 74) (0) dX12_dieNow_74 rfl ?_
        refine r_istore_n (pc := 75) (lv' := [(0, _), (1, _), (2, _), (3, _)]) dX12_dieNow_75 (Nat.le_of_ble_eq_true rfl) rfl ?_
        refine r_iload_n (pc := 76) 3 dX12_dieNow_76 rfl ?_
        refine r_if_ne (pc := 77) (tgt := 83) dX12_dieNow_77 (by decide) (fun c_77 => ?_) (fun c_77 => ?_)
        · exact absurd rfl c_77
        · refine r_bipush (pc := 80) (-3) dX12_dieNow_80 rfl ?_
          refine r_iret (pc := 82) rfl ?_ (Nat.le_of_ble_eq_true rfl) (Nat.le_of_ble_eq_true rfl) dX12_dieNow_82
          exact ⟨rfl, by rw [dieM, if_neg (by decide)]⟩
      have yes : (aliveF (μ 2) k = true ∧ ((life = 9 ∧ μ 2 (14 + k) = 0) ∨ (¬ life = 9 ∧ isB (μ 2 (14 + k)) life = true))) → Wp E mX12_dieNow (Rm 2 0 0) (Qm E (po (some (.int (dieV (μ 2) nc (nI k) life))) (mH h m (dieM (dieV (μ 2) nc (nI k) life) u (nI k) life μ) l)) 0 0) 70 [(0, .ref m), (1, .int (nI k)), (2, .int life)] [] (mH h m μ l) 0 0 := by
        intro hy
        rw [eV, if_pos hy]
        refine r_iconst (pc := 70) (1) dX12_dieNow_70 rfl ?_
        refine r_goto (pc := 71) (tgt := 75) dX12_dieNow_71 (by decide) ?_
        refine r_istore_n (pc := 75) (lv' := [(0, _), (1, _), (2, _), (3, _)]) dX12_dieNow_75 (Nat.le_of_ble_eq_true rfl) rfl ?_
        refine r_iload_n (pc := 76) 3 dX12_dieNow_76 rfl ?_
        refine r_if_ne (pc := 77) (tgt := 83) dX12_dieNow_77 (by decide) (fun c_77 => ?_) (fun c_77 => ?_)
        · have er : dieItM (remM μ u 1) k life 2 (14 + k) = yetF (μ 2 (14 + k)) life := by unfold dieItM; rw [up2_ne (by omega), up2_at, remM_2]
          refine r_aload_n (pc := 83) 0 dX12_dieNow_83 rfl ?_
          refine r_iconst (pc := 84) (1) dX12_dieNow_84 rfl ?_
          refine r_dV0 (pc := 85) (As := [_]) mv_X12_remember ml_X12_450 (ct_remember hm 1 hu h16) (q_is hm) rfl rfl (Nat.le_of_ble_eq_true rfl) (Nat.le_of_ble_eq_true rfl) (Nat.le_of_ble_eq_true rfl) (Nat.le_of_ble_eq_true rfl) (Nat.le_of_ble_eq_true rfl) dX12_dieNow_85 ?_
          refine r_aload_n (pc := 88) 0 dX12_dieNow_88 rfl ?_
          refine r_iload_n (pc := 89) 1 dX12_dieNow_89 rfl ?_
          refine r_iload_n (pc := 90) 2 dX12_dieNow_90 rfl ?_
          refine r_dV0 (pc := 91) (As := [_, _]) mv_X12_dieIt ml_X12_456 (ct_dieIt hm (by omega) life) (q_is hm) rfl rfl (Nat.le_of_ble_eq_true rfl) (Nat.le_of_ble_eq_true rfl) (Nat.le_of_ble_eq_true rfl) (Nat.le_of_ble_eq_true rfl) (Nat.le_of_ble_eq_true rfl) dX12_dieNow_91 ?_
          refine r_aload_n (pc := 94) 0 dX12_dieNow_94 rfl ?_
          refine q_getR (pc := 95) fl_X12_13 hm (md_f3 hm) dX12_dieNow_95 ?_
          refine r_bipush (pc := 98) (14) dX12_dieNow_98 rfl ?_
          refine r_iload_n (pc := 100) 1 dX12_dieNow_100 rfl ?_
          refine r_iadd (pc := 101) dX12_dieNow_101 ?_
          refine q_iald (pc := 102) (j := 14 + k) (md_r3 hm) (by decide) (by simp only [fa_lit, nI_add, nI_mul]) (by omega) (by decide) dX12_dieNow_102 ?_
          refine r_dS (pc := 103) (As := [_]) ms_X12_ones ml_X12_190 (ct_ones _) rfl rfl (Nat.le_of_ble_eq_true rfl) (Nat.le_of_ble_eq_true rfl) (Nat.le_of_ble_eq_true rfl) (Nat.le_of_ble_eq_true rfl) (Nat.le_of_ble_eq_true rfl) dX12_dieNow_103 ?_
          refine r_iret (pc := 106) rfl ?_ (Nat.le_of_ble_eq_true rfl) (Nat.le_of_ble_eq_true rfl) dX12_dieNow_106
          rw [er]
          have hV0 := onesN_p (yetF (μ 2 (14 + k)) life)
          generalize onesN (yetF (μ 2 (14 + k)) life) 9 = V at hV0 ⊢
          exact ⟨rfl, by rw [dieM, if_pos hV0, nI_clamp (by omega)]⟩
        · exact absurd c_77 (by decide)
      refine r_aload_n (pc := 25) 0 dX12_dieNow_25 rfl ?_
      refine r_iload_n (pc := 26) 1 dX12_dieNow_26 rfl ?_
      refine r_dV (pc := 27) (As := [_]) mv_X12_isAlive ml_X12_193 (ct_isAlive hm k (by omega)) (q_is hm) rfl rfl (Nat.le_of_ble_eq_true rfl) (Nat.le_of_ble_eq_true rfl) (Nat.le_of_ble_eq_true rfl) (Nat.le_of_ble_eq_true rfl) (Nat.le_of_ble_eq_true rfl) dX12_dieNow_27 ?_
      refine r_if_eq (pc := 30) (tgt := 74) dX12_dieNow_30 (by decide) (fun c_30 => ?_) (fun c_30 => ?_)
      · exact no (fun z => by rw [bI_0.mp c_30] at z; exact absurd z.1 (by decide))
      · refine r_iload_n (pc := 33) 2 dX12_dieNow_33 rfl ?_
        refine r_bipush (pc := 34) (9) dX12_dieNow_34 rfl ?_
        refine r_icmp_ne (pc := 36) (tgt := 54) dX12_dieNow_36 (by decide) (fun c_36 => ?_) (fun c_36 => ?_)
        · refine r_aload_n (pc := 54) 0 dX12_dieNow_54 rfl ?_
          refine q_getR (pc := 55) fl_X12_13 hm (md_f3 hm) dX12_dieNow_55 ?_
          refine r_bipush (pc := 58) (14) dX12_dieNow_58 rfl ?_
          refine r_iload_n (pc := 60) 1 dX12_dieNow_60 rfl ?_
          refine r_iadd (pc := 61) dX12_dieNow_61 ?_
          refine q_iald (pc := 62) (j := 14 + k) (md_r3 hm) (by decide) (by simp only [fa_lit, nI_add, nI_mul]) (by omega) (by decide) dX12_dieNow_62 ?_
          refine r_iload_n (pc := 63) 2 dX12_dieNow_63 rfl ?_
          refine r_dS (pc := 64) (As := [_, _]) ms_X12_is ml_X12_197 (ct_is _ _) rfl rfl (Nat.le_of_ble_eq_true rfl) (Nat.le_of_ble_eq_true rfl) (Nat.le_of_ble_eq_true rfl) (Nat.le_of_ble_eq_true rfl) (Nat.le_of_ble_eq_true rfl) dX12_dieNow_64 ?_
          refine r_if_eq (pc := 67) (tgt := 74) dX12_dieNow_67 (by decide) (fun c_67 => ?_) (fun c_67 => ?_)
          · exact no (fun z => z.2.elim (fun y => c_36 y.1) (fun y => by rw [bI_0.mp c_67] at y; exact absurd y.2 (by decide)))
          · exact yes ⟨bI_n0.mp c_30, Or.inr ⟨c_36, bI_n0.mp c_67⟩⟩
        · refine r_aload_n (pc := 39) 0 dX12_dieNow_39 rfl ?_
          refine q_getR (pc := 40) fl_X12_13 hm (md_f3 hm) dX12_dieNow_40 ?_
          refine r_bipush (pc := 43) (14) dX12_dieNow_43 rfl ?_
          refine r_iload_n (pc := 45) 1 dX12_dieNow_45 rfl ?_
          refine r_iadd (pc := 46) dX12_dieNow_46 ?_
          refine q_iald (pc := 47) (j := 14 + k) (md_r3 hm) (by decide) (by simp only [fa_lit, nI_add, nI_mul]) (by omega) (by decide) dX12_dieNow_47 ?_
          refine r_if_ne (pc := 48) (tgt := 74) dX12_dieNow_48 (by decide) (fun c_48 => ?_) (fun c_48 => ?_)
          · exact no (fun z => z.2.elim (fun y => c_48 y.2) (fun y => y.1 c_36))
          · refine r_goto (pc := 51) (tgt := 70) dX12_dieNow_51 (by decide) ?_
            exact yes ⟨bI_n0.mp c_30, Or.inl ⟨c_36, c_48⟩⟩
    · have eV : dieV (μ 2) nc c life = -2 := by rw [dieV, if_pos hl, if_neg (by rw [bI_0.mp c_19]; decide)]
      refine r_bipush (pc := 22) (-2) dX12_dieNow_22 rfl ?_
      refine r_iret (pc := 24) rfl ?_ (Nat.le_of_ble_eq_true rfl) (Nat.le_of_ble_eq_true rfl) dX12_dieNow_24
      exact ⟨by rw [eV], by rw [eV, dieM, if_neg (by decide)]⟩
  · rw [show decide _ = inN life 10 from in_lit (b := 9) (n := 9) (by decide)] at c_9
    have eV : dieV (μ 2) nc c life = -1 := by rw [dieV, if_neg (by rw [bI_0.mp c_9]; decide)]
    refine r_iconst (pc := 12) (-1) dX12_dieNow_12 rfl ?_
    refine r_iret (pc := 13) rfl ?_ (Nat.le_of_ble_eq_true rfl) (Nat.le_of_ble_eq_true rfl) dX12_dieNow_13
    exact ⟨by rw [eV], by rw [eV, dieM, if_neg (by decide)]⟩
theorem dieV_t (r : Nat → Int32) (nc : Nat) (c life : Int32) : dieV r nc c life < 0 → ∃ j, j < 7 ∧ -(dieV r nc c life) = nI j := by
  unfold dieV
  split
  · split
    · split
      · exact t_p (onesN_p _)
      · exact t_3
    · exact t_2
  · exact t_1
theorem ct_mdie (hm : Md E h m) {nc u : Nat} (hnc : μ 2 0 = nI nc) (h6 : nc ≤ 6) (hu : μ 0 8 = nI u) (h16 : u ≤ 16) (c life : Int32) : Ct E 3 0 0 mX12_die [.ref m, .int c, .int life] (mH h m μ l) (po (some (.int (dieV (μ 2) nc c life))) (mH h m (tellM (dieM (dieV (μ 2) nc c life) u c life (up2 μ 0 0 0)) (dieV (μ 2) nc c life)) l)) := by
  refine Ct.of (by decide +kernel) (Nat.le_of_ble_eq_true rfl) ?_
  have hdn := ct_dieNow (μ := up2 μ 0 0 0) (l := l) hm (by rw [th_2]; exact hnc) h6 ((up2_ne (by omega)).trans hu) h16 c life
  rw [th_2] at hdn
  refine r_aload_n (pc := 0) 0 dX12_die_0 rfl ?_
  refine r_iconst (pc := 1) (0) dX12_die_1 rfl ?_
  refine q_putI (pc := 2) fp_X12_161 hm dX12_die_2 ?_
  refine r_aload_n (pc := 5) 0 dX12_die_5 rfl ?_
  refine r_aload_n (pc := 6) 0 dX12_die_6 rfl ?_
  refine r_iload_n (pc := 7) 1 dX12_die_7 rfl ?_
  refine r_iload_n (pc := 8) 2 dX12_die_8 rfl ?_
  refine r_dV (pc := 9) (As := [_, _]) mv_X12_dieNow ml_X12_459 (hdn) (q_is hm) rfl rfl (Nat.le_of_ble_eq_true rfl) (Nat.le_of_ble_eq_true rfl) (Nat.le_of_ble_eq_true rfl) (Nat.le_of_ble_eq_true rfl) (Nat.le_of_ble_eq_true rfl) dX12_die_9 ?_
  refine r_dV (pc := 12) (As := [_]) mv_X12_tell ml_X12_170 (ct_tell hm _ (dieV_t _ _ _ _)) (q_is hm) rfl rfl (Nat.le_of_ble_eq_true rfl) (Nat.le_of_ble_eq_true rfl) (Nat.le_of_ble_eq_true rfl) (Nat.le_of_ble_eq_true rfl) (Nat.le_of_ble_eq_true rfl) dX12_die_12 ?_
  refine r_iret (pc := 15) rfl ?_ (Nat.le_of_ble_eq_true rfl) (Nat.le_of_ble_eq_true rfl) dX12_die_15
  exact ⟨rfl, rfl⟩
def clipV (r : Nat → Int32) (nc : Nat) (c ear : Int32) : Int32 := if inN ear 9 = true then (if inN c nc = true then (if r (20 + c.toNatClampNeg) = ear then -3 else r (20 + c.toNatClampNeg)) else -2) else -1
def clipM (v : Int32) (u : Nat) (c ear : Int32) (ν : Mu) : Mu := if 0 ≤ v then up2 (remM ν u 2) 2 (20 + c.toNatClampNeg) ear else ν
theorem ct_clipNow (hm : Md E h m) {nc u : Nat} (hnc : μ 2 0 = nI nc) (h6 : nc ≤ 6) (hu : μ 0 8 = nI u) (h16 : u ≤ 16) (he : ∀ k, k < nc → 0 ≤ μ 2 (20 + k)) (c ear : Int32) : Ct E 2 0 0 mX12_clipNow [.ref m, .int c, .int ear] (mH h m μ l) (po (some (.int (clipV (μ 2) nc c ear))) (mH h m (clipM (clipV (μ 2) nc c ear) u c ear μ) l)) := by
  refine Ct.of (by decide +kernel) (Nat.le_of_ble_eq_true rfl) ?_
  refine r_iload_n (pc := 0) 2 dX12_clipNow_0 rfl ?_
  refine r_i2l (pc := 1) dX12_clipNow_1 ?_
  refine r_lconst (pc := 2) (0) dX12_clipNow_2 rfl ?_
  refine r_ldc2_w (pc := 3) cs_X12_188 dX12_clipNow_3 ?_
  refine r_dS (pc := 6) (As := [_, _, _]) ms_X12_in ml_X12_181 (ct_in _ _ _) rfl rfl (Nat.le_of_ble_eq_true rfl) (Nat.le_of_ble_eq_true rfl) (Nat.le_of_ble_eq_true rfl) (Nat.le_of_ble_eq_true rfl) (Nat.le_of_ble_eq_true rfl) dX12_clipNow_6 ?_
  refine r_if_ne (pc := 9) (tgt := 14) dX12_clipNow_9 (by decide) (fun c_9 => ?_) (fun c_9 => ?_)
  · rw [show decide _ = inN ear 9 from in_lit (b := 8) (n := 8) (by decide)] at c_9
    have hl := bI_n0.mp c_9
    refine r_aload_n (pc := 14) 0 dX12_clipNow_14 rfl ?_
    refine r_iload_n (pc := 15) 1 dX12_clipNow_15 rfl ?_
    refine r_dV (pc := 16) (As := [_]) mv_X12_isCat ml_X12_210 (ct_isCat hm c hnc (by omega)) (q_is hm) rfl rfl (Nat.le_of_ble_eq_true rfl) (Nat.le_of_ble_eq_true rfl) (Nat.le_of_ble_eq_true rfl) (Nat.le_of_ble_eq_true rfl) (Nat.le_of_ble_eq_true rfl) dX12_clipNow_16 ?_
    refine r_if_ne (pc := 19) (tgt := 25) dX12_clipNow_19 (by decide) (fun c_19 => ?_) (fun c_19 => ?_)
    · have hc := bI_n0.mp c_19
      obtain ⟨k, hk, rfl⟩ := inN_of (by omega) hc
      have eV : clipV (μ 2) nc (nI k) ear = (if μ 2 (20 + k) = ear then -3 else μ 2 (20 + k)) := by rw [clipV, if_pos hl, if_pos hc, nI_clamp (by omega)]
      refine r_aload_n (pc := 25) 0 dX12_clipNow_25 rfl ?_
      refine q_getR (pc := 26) fl_X12_13 hm (md_f3 hm) dX12_clipNow_26 ?_
      refine r_bipush (pc := 29) (20) dX12_clipNow_29 rfl ?_
      refine r_iload_n (pc := 31) 1 dX12_clipNow_31 rfl ?_
      refine r_iadd (pc := 32) dX12_clipNow_32 ?_
      refine q_iald (pc := 33) (j := 20 + k) (md_r3 hm) (by decide) (by simp only [fa_lit, nI_add, nI_mul]) (by omega) (by decide) dX12_clipNow_33 ?_
      refine r_istore_n (pc := 34) (lv' := [(0, _), (1, _), (2, _), (3, _)]) dX12_clipNow_34 (Nat.le_of_ble_eq_true rfl) rfl ?_
      refine r_iload_n (pc := 35) 3 dX12_clipNow_35 rfl ?_
      refine r_iload_n (pc := 36) 2 dX12_clipNow_36 rfl ?_
      refine r_icmp_ne (pc := 37) (tgt := 43) dX12_clipNow_37 (by decide) (fun c_37 => ?_) (fun c_37 => ?_)
      · refine r_aload_n (pc := 43) 0 dX12_clipNow_43 rfl ?_
        refine r_iconst (pc := 44) (2) dX12_clipNow_44 rfl ?_
        refine r_dV0 (pc := 45) (As := [_]) mv_X12_remember ml_X12_450 (ct_remember hm 2 hu h16) (q_is hm) rfl rfl (Nat.le_of_ble_eq_true rfl) (Nat.le_of_ble_eq_true rfl) (Nat.le_of_ble_eq_true rfl) (Nat.le_of_ble_eq_true rfl) (Nat.le_of_ble_eq_true rfl) dX12_clipNow_45 ?_
        refine r_aload_n (pc := 48) 0 dX12_clipNow_48 rfl ?_
        refine q_getR (pc := 49) fl_X12_13 hm (md_f3 hm) dX12_clipNow_49 ?_
        refine r_bipush (pc := 52) (20) dX12_clipNow_52 rfl ?_
        refine r_iload_n (pc := 54) 1 dX12_clipNow_54 rfl ?_
        refine r_iadd (pc := 55) dX12_clipNow_55 ?_
        refine r_iload_n (pc := 56) 2 dX12_clipNow_56 rfl ?_
        refine q_iast (pc := 57) (j := 20 + k) (md_r3 hm) (by decide) (by simp only [fa_lit, nI_add, nI_mul]) (by omega) (by decide) dX12_clipNow_57 ?_
        refine r_iload_n (pc := 58) 3 dX12_clipNow_58 rfl ?_
        refine r_iret (pc := 59) rfl ?_ (Nat.le_of_ble_eq_true rfl) (Nat.le_of_ble_eq_true rfl) dX12_clipNow_59
        rw [eV, if_neg c_37]
        exact ⟨rfl, by rw [clipM, if_pos (he k hk), nI_clamp (by omega)]⟩
      · refine r_bipush (pc := 40) (-3) dX12_clipNow_40 rfl ?_
        refine r_iret (pc := 42) rfl ?_ (Nat.le_of_ble_eq_true rfl) (Nat.le_of_ble_eq_true rfl) dX12_clipNow_42
        rw [eV, if_pos c_37]
        exact ⟨rfl, by rw [clipM, if_neg (by decide)]⟩
    · have eV : clipV (μ 2) nc c ear = -2 := by rw [clipV, if_pos hl, if_neg (by rw [bI_0.mp c_19]; decide)]
      refine r_bipush (pc := 22) (-2) dX12_clipNow_22 rfl ?_
      refine r_iret (pc := 24) rfl ?_ (Nat.le_of_ble_eq_true rfl) (Nat.le_of_ble_eq_true rfl) dX12_clipNow_24
      exact ⟨by rw [eV], by rw [eV, clipM, if_neg (by decide)]⟩
  · rw [show decide _ = inN ear 9 from in_lit (b := 8) (n := 8) (by decide)] at c_9
    have eV : clipV (μ 2) nc c ear = -1 := by rw [clipV, if_neg (by rw [bI_0.mp c_9]; decide)]
    refine r_iconst (pc := 12) (-1) dX12_clipNow_12 rfl ?_
    refine r_iret (pc := 13) rfl ?_ (Nat.le_of_ble_eq_true rfl) (Nat.le_of_ble_eq_true rfl) dX12_clipNow_13
    exact ⟨by rw [eV], by rw [eV, clipM, if_neg (by decide)]⟩
theorem clipV_t {r : Nat → Int32} {nc : Nat} (h6 : nc ≤ 6) (he : ∀ k, k < nc → 0 ≤ r (20 + k)) (c ear : Int32) : clipV r nc c ear < 0 → ∃ j, j < 7 ∧ -(clipV r nc c ear) = nI j := by
  unfold clipV
  split
  · split
    · next hc =>
      obtain ⟨k, hk, rfl⟩ := inN_of (by omega) hc
      split
      · exact t_3
      · rw [nI_clamp (by omega)]; exact t_p (he k hk)
    · exact t_2
  · exact t_1
theorem ct_mclip (hm : Md E h m) {nc u : Nat} (hnc : μ 2 0 = nI nc) (h6 : nc ≤ 6) (hu : μ 0 8 = nI u) (h16 : u ≤ 16) (he : ∀ k, k < nc → 0 ≤ μ 2 (20 + k)) (c ear : Int32) : Ct E 3 0 0 mX12_clip [.ref m, .int c, .int ear] (mH h m μ l) (po (some (.int (clipV (μ 2) nc c ear))) (mH h m (tellM (clipM (clipV (μ 2) nc c ear) u c ear (up2 μ 0 0 0)) (clipV (μ 2) nc c ear)) l)) := by
  refine Ct.of (by decide +kernel) (Nat.le_of_ble_eq_true rfl) ?_
  have hdn := ct_clipNow (μ := up2 μ 0 0 0) (l := l) hm (by rw [th_2]; exact hnc) h6 ((up2_ne (by omega)).trans hu) h16 (by rw [th_2]; exact he) c ear
  rw [th_2] at hdn
  refine r_aload_n (pc := 0) 0 dX12_clip_0 rfl ?_
  refine r_iconst (pc := 1) (0) dX12_clip_1 rfl ?_
  refine q_putI (pc := 2) fp_X12_161 hm dX12_clip_2 ?_
  refine r_aload_n (pc := 5) 0 dX12_clip_5 rfl ?_
  refine r_aload_n (pc := 6) 0 dX12_clip_6 rfl ?_
  refine r_iload_n (pc := 7) 1 dX12_clip_7 rfl ?_
  refine r_iload_n (pc := 8) 2 dX12_clip_8 rfl ?_
  refine r_dV (pc := 9) (As := [_, _]) mv_X12_clipNow ml_X12_462 (hdn) (q_is hm) rfl rfl (Nat.le_of_ble_eq_true rfl) (Nat.le_of_ble_eq_true rfl) (Nat.le_of_ble_eq_true rfl) (Nat.le_of_ble_eq_true rfl) (Nat.le_of_ble_eq_true rfl) dX12_clip_9 ?_
  refine r_dV (pc := 12) (As := [_]) mv_X12_tell ml_X12_170 (ct_tell hm _ (clipV_t h6 he _ _)) (q_is hm) rfl rfl (Nat.le_of_ble_eq_true rfl) (Nat.le_of_ble_eq_true rfl) (Nat.le_of_ble_eq_true rfl) (Nat.le_of_ble_eq_true rfl) (Nat.le_of_ble_eq_true rfl) dX12_clip_12 ?_
  refine r_iret (pc := 15) rfl ?_ (Nat.le_of_ble_eq_true rfl) (Nat.le_of_ble_eq_true rfl) dX12_clip_15
  exact ⟨rfl, rfl⟩
end MODEL8
