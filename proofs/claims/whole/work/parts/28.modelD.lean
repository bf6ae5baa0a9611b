/-! the reference: had, next -/
section MODELD
variable {E : En} {h : Hp} {m : Nat} {μ : Mu} {l : La}
/-- what layHad leaves: hadNow, and only its own cells written -/
def pH (h : Hp) (m : Nat) (μ : Mu) (l : La) (F : Nat → Int64) : Option Value → Hp → Prop := fun r h' => ∃ ν κ, Sx μ l ν κ ∧ h' = mH h m ν κ ∧ r = none ∧ ∀ i, i < 4599 → κ 24 i = F i
/-- what is earned and dared, by 9 life + spent -/
def eT (r : Nat → Int32) (fo : Option (List Cl)) (k : Nat) : Nat → Int32 := fun i => earnF r fo k (nI (i / 9)) (nI (i % 9))
def dT (r : Nat → Int32) (fo : Option (List Cl)) (k : Nat) : Nat → Int32 := fun i => dareF r fo k (nI (i / 9)) (nI (i % 9))
/-- what is had in n years, by 9 y + life -/
def HN (e d : Nat → Int32) (n : Nat) : Nat → Int64 := hadN e d (fun _ => 0) (fun _ => 0) n
theorem mostN_cong {f g : Nat → Int64} {y : Nat} (hy : y < 511) (hfg : ∀ i, i < 4599 → f i = g i) : ∀ k, k ≤ 9 → mostN f y k = mostN g y k
  | 0, _ => rfl
  | k + 1, hk => by
    rw [mostN, mostN, mostN_cong hy hfg k (by omega)]
    by_cases hb : y.testBit k = true
    · have h2 := bit_le hb
      have hp : 1 ≤ 2 ^ k := Nat.one_le_two_pow
      rw [hfg (9 * (y - 2 ^ k) + k) (by omega)]
    · rw [if_neg hb, if_neg hb]
theorem hadN_cong {e d e' d' : Nat → Int32} {g f g' f' : Nat → Int64} (he : ∀ i, i < 81 → e i = e' i) (hd : ∀ i, i < 81 → d i = d' i) (hf : ∀ i, i < 4599 → f i = f' i) : ∀ n i, i < 4599 → hadN e d g f n i = hadN e' d' g' f' n i
  | 0, i, hi => hf i hi
  | n + 1, i, hi => by
    have ih := hadN_cong (g := g) (g' := g') he hd hf n
    show hadS e d g _ i = hadS e' d' g' _ i
    unfold hadS
    rw [if_pos hi, if_pos hi]
    unfold hadF
    have h1 : i / 9 < 511 := by omega
    rw [he _ (by omega), hd _ (by omega), ih i hi, mostN_cong h1 ih 9 (by omega)]
theorem ct_layHad (hm : Md E h m) {fo : Option (List Cl)} {nc ns k n : Nat} (hx : Mx μ fo nc ns) (hk : k < 6) (hn9 : n ≤ 9) : Ct E 6 0 0 mX12_layHad [.ref m, .int (nI k), .int (nI n)] (mH h m μ l) (pH h m μ l (HN (eT (μ 2) fo k) (dT (μ 2) fo k) n)) := by
  refine Ct.of (by decide +kernel) (Nat.le_of_ble_eq_true rfl) ?_
  refine r_iconst (pc := 0) (0) dX12_layHad_0 rfl ?_
  refine r_istore_n (pc := 1) (lv' := [(0, _), (1, _), (2, _), (3, _)]) dX12_layHad_1 (Nat.le_of_ble_eq_true rfl) rfl ?_
  have outer : ∀ a, a ≤ 9 → ∀ ν κ, Sx μ l ν κ → (∀ i, i < 9 * a → ν 22 i = eT (μ 2) fo k i ∧ ν 23 i = dT (μ 2) fo k i) → Wp E mX12_layHad (Rm 6 0 0) (Qm E (pH h m μ l (HN (eT (μ 2) fo k) (dT (μ 2) fo k) n)) 0 0) 2 [(0, .ref m), (1, .int (nI k)), (2, .int (nI n)), (3, .int (nI a))] [] (mH h m ν κ) 0 0 := by
    refine upTo (fun a ha ih => ?_) ?_
    · intro ν κ hS hT
      refine r_iload_n (pc := 2) 3 dX12_layHad_2 rfl ?_
      refine r_bipush (pc := 3) (9) dX12_layHad_3 rfl ?_
      refine r_icmp_ge (pc := 5) (tgt := 70) dX12_layHad_5 (by decide) (fun c_5 => ?_) (fun c_5 => ?_)
      · exact absurd c_5 (nI_ge (b := 9) ha (by decide))
      · refine r_iconst (pc := 8) (0) dX12_layHad_8 rfl ?_
        refine r_istore (pc := 9) (lv' := [(0, _), (1, _), (2, _), (3, _), (4, _)]) dX12_layHad_9 (Nat.le_of_ble_eq_true rfl) rfl ?_
        have inner : ∀ b, b ≤ 9 → ∀ ν κ, Sx μ l ν κ → (∀ i, i < 9 * a + b → ν 22 i = eT (μ 2) fo k i ∧ ν 23 i = dT (μ 2) fo k i) → Wp E mX12_layHad (Rm 6 0 0) (Qm E (pH h m μ l (HN (eT (μ 2) fo k) (dT (μ 2) fo k) n)) 0 0) 11 [(0, .ref m), (1, .int (nI k)), (2, .int (nI n)), (3, .int (nI a)), (4, .int (nI b))] [] (mH h m ν κ) 0 0 := by
          refine upTo (fun b hb ih2 => ?_) ?_
          · intro ν κ hS hT
            have e2 := hS.row
            refine r_iload (pc := 11) 4 dX12_layHad_11 rfl ?_
            refine r_bipush (pc := 13) (9) dX12_layHad_13 rfl ?_
            refine r_icmp_ge (pc := 15) (tgt := 64) dX12_layHad_15 (by decide) (fun c_15 => ?_) (fun c_15 => ?_)
            · exact absurd c_15 (nI_ge (b := 9) hb (by decide))
            · refine r_aload_n (pc := 18) 0 dX12_layHad_18 rfl ?_
              refine q_getR (pc := 19) fl_X12_111 hm (md_f42 hm) dX12_layHad_19 ?_
              refine r_bipush (pc := 22) (9) dX12_layHad_22 rfl ?_
              refine r_iload_n (pc := 24) 3 dX12_layHad_24 rfl ?_
              refine r_imul (pc := 25) dX12_layHad_25 ?_
              refine r_iload (pc := 26) 4 dX12_layHad_26 rfl ?_
              refine r_iadd (pc := 28) dX12_layHad_28 ?_
              refine r_aload_n (pc := 29) 0 dX12_layHad_29 rfl ?_
              refine r_iload_n (pc := 30) 1 dX12_layHad_30 rfl ?_
              refine r_iload_n (pc := 31) 3 dX12_layHad_31 rfl ?_
              refine r_iload (pc := 32) 4 dX12_layHad_32 rfl ?_
              refine r_callV (pc := 34) (As := [_, _, _]) mv_X12_earnsOf ml_X12_216 (ct_earnsOf hm (hx.x hS) hk _ _) (q_is hm) rfl rfl (Nat.le_of_ble_eq_true rfl) (Nat.le_of_ble_eq_true rfl) (Nat.le_of_ble_eq_true rfl) (Nat.le_of_ble_eq_true rfl) (Nat.le_of_ble_eq_true rfl) dX12_layHad_34 (fun r h1 hp => ?_)
              obtain ⟨ν2, κ2, rfl, hS2, rfl⟩ := hp
              show Wp E mX12_layHad _ _ _ _ [.int _, .int _, .ref _] _ 0 0
              refine q_iast (pc := 37) (j := 9 * a + b) (md_r42 hm) (by decide) (by simp only [fa_lit, nI_add, nI_mul]) (by omega) (by decide) dX12_layHad_37 ?_
              refine r_aload_n (pc := 38) 0 dX12_layHad_38 rfl ?_
              refine q_getR (pc := 39) fl_X12_114 hm (md_f43 hm) dX12_layHad_39 ?_
              refine r_bipush (pc := 42) (9) dX12_layHad_42 rfl ?_
              refine r_iload_n (pc := 44) 3 dX12_layHad_44 rfl ?_
              refine r_imul (pc := 45) dX12_layHad_45 ?_
              refine r_iload (pc := 46) 4 dX12_layHad_46 rfl ?_
              refine r_iadd (pc := 48) dX12_layHad_48 ?_
              refine r_aload_n (pc := 49) 0 dX12_layHad_49 rfl ?_
              refine r_iload_n (pc := 50) 1 dX12_layHad_50 rfl ?_
              refine r_iload_n (pc := 51) 3 dX12_layHad_51 rfl ?_
              refine r_iload (pc := 52) 4 dX12_layHad_52 rfl ?_
              have hS3 : Sx μ l (up2 ν2 22 (9 * a + b) (earnF (ν 2) fo k (nI a) (nI b))) κ2 := (hS.tr hS2.x).tr (Sx.I (by unfold isScr; omega) (by decide))
              refine r_callV (pc := 54) (As := [_, _, _]) mv_X12_daresOf ml_X12_219 (ct_daresOf hm (hx.x hS3) hk _ _) (q_is hm) rfl rfl (Nat.le_of_ble_eq_true rfl) (Nat.le_of_ble_eq_true rfl) (Nat.le_of_ble_eq_true rfl) (Nat.le_of_ble_eq_true rfl) (Nat.le_of_ble_eq_true rfl) dX12_layHad_54 (fun r h1 hp => ?_)
              obtain ⟨ν4, κ4, rfl, hS4, rfl⟩ := hp
              have e3 := hS3.row
              rw [e3]
              show Wp E mX12_layHad _ _ _ _ [.int _, .int _, .ref _] _ 0 0
              refine q_iast (pc := 57) (j := 9 * a + b) (md_r43 hm) (by decide) (by simp only [fa_lit, nI_add, nI_mul]) (by omega) (by decide) dX12_layHad_57 ?_
              refine r_iinc (pc := 58) (v := _ + (1)) (lv' := [(0, _), (1, _), (2, _), (3, _), (4, _)]) 4 dX12_layHad_58 rfl rfl (Nat.le_of_ble_eq_true rfl) rfl ?_
              refine r_goto (pc := 61) (tgt := 11) dX12_layHad_61 (by decide) ?_
              rw [nI_1]
              refine ih2 _ _ ((hS3.tr hS4.x).tr (Sx.I (by unfold isScr; omega) (by decide))) (fun i hi => ?_)
              have em : (9 * a + b) % 9 = b := by omega
              have ed : (9 * a + b) / 9 = a := by omega
              rw [e2] at hS4
              have n22 : ν4 22 = up2 ν2 22 (9 * a + b) (earnF (μ 2) fo k (nI a) (nI b)) 22 := hS4.1 22 (by decide)
              have n23 : ν4 23 = ν 23 := (hS4.1 23 (by decide)).trans ((up2_other (by decide)).trans (hS2.1 23 (by decide)))
              constructor
              · rw [up2_ne (by omega), n22]
                by_cases h1 : i = 9 * a + b
                · rw [h1, up2_at, eT, em, ed]
                · rw [up2_ne (by omega), hS2.1 22 (by decide)]; exact (hT i (by omega)).1
              · by_cases h1 : i = 9 * a + b
                · rw [h1, up2_at, dT, em, ed]
                · rw [up2_ne (by omega), n23]; exact (hT i (by omega)).2
          · intro ν κ hS hT
            refine r_iload (pc := 11) 4 dX12_layHad_11 rfl ?_
            refine r_bipush (pc := 13) (9) dX12_layHad_13 rfl ?_
            refine r_icmp_ge (pc := 15) (tgt := 64) dX12_layHad_15 (by decide) (fun c_15 => ?_) (fun c_15 => ?_)
            · refine r_iinc (pc := 64) (v := _ + (1)) (lv' := [(0, _), (1, _), (2, _), (3, _), (4, _)]) 3 dX12_layHad_64 rfl rfl (Nat.le_of_ble_eq_true rfl) rfl ?_
              refine r_goto (pc := 67) (tgt := 2) dX12_layHad_67 (by decide) ?_
              rw [nI_1]
              refine r_sub [0, 1, 2, 3] rfl ?_
              exact ih ν κ hS (fun i hi => hT i (by omega))
            · exact absurd (show (9 : Int32) ≤ nI 9 by decide) c_15
        exact inner 0 (by omega) ν κ hS (fun i hi => hT i (by omega))
    · intro ν κ hS hT
      refine r_iload_n (pc := 2) 3 dX12_layHad_2 rfl ?_
      refine r_bipush (pc := 3) (9) dX12_layHad_3 rfl ?_
      refine r_icmp_ge (pc := 5) (tgt := 70) dX12_layHad_5 (by decide) (fun c_5 => ?_) (fun c_5 => ?_)
      · refine had_years hm hn9 (nI k) (fun g => ?_)
        refine r_vret (pc := 271) rfl ?_ (Nat.le_of_ble_eq_true rfl) (Nat.le_of_ble_eq_true rfl) dX12_layHad_271
        refine ⟨ν, _, ⟨hS.1, hS.2.1, fun o ho => ?_, fun j a b => ?_⟩, rfl, rfl, fun i hi => ?_⟩
        · rw [setL_ne (fun z => ho (by unfold isScL; omega)), setL_ne (fun z => ho (by unfold isScL; omega))]; exact hS.2.2.1 o ho
        · rw [setL_ne (by decide), setL_ne (by decide)]; exact hS.2.2.2 j a b
        · rw [setL_at]
          exact hadN_cong (fun i hi => (hT i (by omega)).1) (fun i hi => (hT i (by omega)).2) (fun i hi => by unfold z4608; rw [if_pos (by omega)]) n i hi
      · exact absurd (show (9 : Int32) ≤ nI 9 by decide) c_5
  exact outer 0 (by omega) μ l Sx.rf (fun i hi => absurd hi (by omega))
/-- an answer; nothing told later written -/
def pY (h : Hp) (m : Nat) (μ : Mu) (l : La) (v : Value) : Option Value → Hp → Prop := fun r h' => ∃ ν κ, Sx μ l ν κ ∧ h' = mH h m ν κ ∧ r = some v
def hadF1 (r : Nat → Int32) (fo : Option (List Cl)) (nc : Nat) (c n : Int32) : Int64 := if inN c nc = true ∧ inN n 10 = true ∧ aliveF r c.toNatClampNeg = true then HN (eT r fo c.toNatClampNeg) (dT r fo c.toNatClampNeg) n.toNatClampNeg (9 * (r (14 + c.toNatClampNeg)).toNatClampNeg + (r (8 + c.toNatClampNeg)).toNatClampNeg) else -1
/-- a cat's cells are within bounds: its life, and what it has yet -/
def CatOK (r : Nat → Int32) (k : Nat) : Prop := (r (8 + k) = -1 ∨ ∃ li, li < 9 ∧ r (8 + k) = nI li) ∧ ∃ y, y < 512 ∧ r (14 + k) = nI y ∧ ∀ li, li < 9 → r (8 + k) = nI li → y.testBit li = false
theorem yet511 {r : Nat → Int32} {k y li : Nat} (hy : y < 512) (hli : li < 9) (hb : y.testBit li = false) : y < 511 := by
  rcases Nat.lt_or_ge y 511 with q | q
  · exact q
  · have : y = 511 := by omega
    subst this
    exfalso
    have : ∀ j, j < 9 → (511 : Nat).testBit j = true := by decide
    rw [this li hli] at hb; cases hb
theorem ct_mhad (hm : Md E h m) {fo : Option (List Cl)} {nc ns : Nat} (hx : Mx μ fo nc ns) (hcat : ∀ k, k < nc → CatOK (μ 2) k) (c n : Int32) : Ct E 7 0 0 mX12_had [.ref m, .int c, .int n] (mH h m μ l) (pY h m (up2 μ 0 0 0) l (.long (hadF1 (μ 2) fo nc c n))) := by
  have h6 := hx.2.2.2.1
  refine Ct.of (by decide +kernel) (Nat.le_of_ble_eq_true rfl) ?_
  have no : ¬ (inN c nc = true ∧ inN n 10 = true ∧ aliveF (μ 2) c.toNatClampNeg = true) → Wp E mX12_had (Rm 7 0 0) (Qm E (pY h m (up2 μ 0 0 0) l (.long (hadF1 (μ 2) fo nc c n))) 0 0) 33 [(0, .ref m), (1, .int c), (2, .int n)] [] (mH h m (up2 μ 0 0 0) l) 0 0 := by
    intro hno
    refine r_ldc2_w (pc := 33) cs_X12_287 dX12_had_33 ?_
    refine r_lret (pc := 36) rfl ?_ (Nat.le_of_ble_eq_true rfl) (Nat.le_of_ble_eq_true rfl) dX12_had_36
    exact ⟨_, _, Sx.rf, rfl, by rw [hadF1, if_neg hno]⟩
  refine r_aload_n (pc := 0) 0 dX12_had_0 rfl ?_
  refine r_iconst (pc := 1) (0) dX12_had_1 rfl ?_
  refine q_putI (pc := 2) fp_X12_161 hm dX12_had_2 ?_
  refine r_aload_n (pc := 5) 0 dX12_had_5 rfl ?_
  refine r_iload_n (pc := 6) 1 dX12_had_6 rfl ?_
  refine r_dV (pc := 7) (As := [_]) mv_X12_isCat ml_X12_210 (ct_isCat hm c (by rw [th_2]; exact hx.2.2.1) (by omega)) (q_is hm) rfl rfl (Nat.le_of_ble_eq_true rfl) (Nat.le_of_ble_eq_true rfl) (Nat.le_of_ble_eq_true rfl) (Nat.le_of_ble_eq_true rfl) (Nat.le_of_ble_eq_true rfl) dX12_had_7 ?_
  refine r_if_eq (pc := 10) (tgt := 33) dX12_had_10 (by decide) (fun c_10 => ?_) (fun c_10 => ?_)
  · exact no (fun z => by rw [bI_0.mp c_10] at z; exact absurd z.1 (by decide))
  · refine r_iload_n (pc := 13) 2 dX12_had_13 rfl ?_
    refine r_i2l (pc := 14) dX12_had_14 ?_
    refine r_lconst (pc := 15) (0) dX12_had_15 rfl ?_
    refine r_ldc2_w (pc := 16) cs_X12_204 dX12_had_16 ?_
    refine r_dS (pc := 19) (As := [_, _, _]) ms_X12_in ml_X12_181 (ct_in _ _ _) rfl rfl (Nat.le_of_ble_eq_true rfl) (Nat.le_of_ble_eq_true rfl) (Nat.le_of_ble_eq_true rfl) (Nat.le_of_ble_eq_true rfl) (Nat.le_of_ble_eq_true rfl) dX12_had_19 ?_
    refine r_if_eq (pc := 22) (tgt := 33) dX12_had_22 (by decide) (fun c_22 => ?_) (fun c_22 => ?_)
    · rw [show decide _ = inN n 10 from in_lit (b := 9) (n := 9) (by decide)] at c_22
      exact no (fun z => by rw [bI_0.mp c_22] at z; exact absurd z.2.1 (by decide))
    · rw [show decide _ = inN n 10 from in_lit (b := 9) (n := 9) (by decide)] at c_22
      have hc := bI_n0.mp c_10
      have hn := bI_n0.mp c_22
      obtain ⟨k, hk, rfl⟩ := inN_of (by omega) hc
      obtain ⟨w, hw, rfl⟩ := inN_of (by decide) hn
      refine r_aload_n (pc := 25) 0 dX12_had_25 rfl ?_
      refine r_iload_n (pc := 26) 1 dX12_had_26 rfl ?_
      refine r_dV (pc := 27) (As := [_]) mv_X12_isAlive ml_X12_193 (ct_isAlive hm k (by omega)) (q_is hm) rfl rfl (Nat.le_of_ble_eq_true rfl) (Nat.le_of_ble_eq_true rfl) (Nat.le_of_ble_eq_true rfl) (Nat.le_of_ble_eq_true rfl) (Nat.le_of_ble_eq_true rfl) dX12_had_27 ?_
      refine r_if_ne (pc := 30) (tgt := 37) dX12_had_30 (by decide) (fun c_30 => ?_) (fun c_30 => ?_)
      · rw [th_2] at c_30
        have hal := bI_n0.mp c_30
        rw [hadF1, if_pos ⟨hc, hn, by rw [nI_clamp (by omega)]; exact hal⟩, nI_clamp (by omega), nI_clamp (by omega)]
        obtain ⟨hlife, y, hy, ey, hyb⟩ := hcat k hk
        obtain ⟨li, hli, eli⟩ : ∃ li, li < 9 ∧ μ 2 (8 + k) = nI li := hlife.resolve_left (of_decide_eq_true hal)
        have hy1 := yet511 (r := μ 2) (k := k) hy hli (hyb li hli eli)
        rw [ey, eli, nI_clamp (by omega), nI_clamp (by omega)]
        have hlh := ct_layHad (μ := up2 μ 0 0 0) (l := l) (k := k) (n := w) hm (mx_th hx) (by omega) (by omega)
        rw [th_2] at hlh
        refine r_aload_n (pc := 37) 0 dX12_had_37 rfl ?_
        refine r_iload_n (pc := 38) 1 dX12_had_38 rfl ?_
        refine r_iload_n (pc := 39) 2 dX12_had_39 rfl ?_
        refine r_callV (pc := 40) (As := [_, _]) mv_X12_layHad ml_X12_475 (hlh) (q_is hm) rfl rfl (Nat.le_of_ble_eq_true rfl) (Nat.le_of_ble_eq_true rfl) (Nat.le_of_ble_eq_true rfl) (Nat.le_of_ble_eq_true rfl) (Nat.le_of_ble_eq_true rfl) dX12_had_40 (fun r h1 hp => ?_)
        obtain ⟨ν, κ, hS, rfl, rfl, hF⟩ := hp
        have e2 : ν 2 = μ 2 := hS.row.trans (th_2 μ)
        show Wp E mX12_had _ _ _ _ [] _ 0 0
        refine r_aload_n (pc := 43) 0 dX12_had_43 rfl ?_
        refine q_getR (pc := 44) fl_X12_117 hm (md_f44 hm) dX12_had_44 ?_
        refine r_bipush (pc := 47) (9) dX12_had_47 rfl ?_
        refine r_aload_n (pc := 49) 0 dX12_had_49 rfl ?_
        refine q_getR (pc := 50) fl_X12_13 hm (md_f3 hm) dX12_had_50 ?_
        refine r_bipush (pc := 53) (14) dX12_had_53 rfl ?_
        refine r_iload_n (pc := 55) 1 dX12_had_55 rfl ?_
        refine r_iadd (pc := 56) dX12_had_56 ?_
        refine q_iald (pc := 57) (j := 14 + k) (md_r3 hm) (by decide) (by simp only [fa_lit, nI_add, nI_mul]) (by omega) (by decide) dX12_had_57 ?_
        refine r_imul (pc := 58) dX12_had_58 ?_
        refine r_aload_n (pc := 59) 0 dX12_had_59 rfl ?_
        refine q_getR (pc := 60) fl_X12_13 hm (md_f3 hm) dX12_had_60 ?_
        refine r_bipush (pc := 63) (8) dX12_had_63 rfl ?_
        refine r_iload_n (pc := 65) 1 dX12_had_65 rfl ?_
        refine r_iadd (pc := 66) dX12_had_66 ?_
        refine q_iald (pc := 67) (j := 8 + k) (md_r3 hm) (by decide) (by simp only [fa_lit, nI_add, nI_mul]) (by omega) (by decide) dX12_had_67 ?_
        refine r_iadd (pc := 68) dX12_had_68 ?_
        refine q_lald (pc := 69) (j := 9 * y + li) (md_r44 hm) (by decide) (by rw [e2, ey, eli]; simp only [fa_lit, nI_add, nI_mul]) (by omega) (by decide) dX12_had_69 ?_
        refine r_lret (pc := 70) rfl ?_ (Nat.le_of_ble_eq_true rfl) (Nat.le_of_ble_eq_true rfl) dX12_had_70
        exact ⟨ν, κ, hS, rfl, by rw [hF _ (by omega)]⟩
      · rw [th_2] at c_30
        exact no (fun z => by rw [nI_clamp (by omega), bI_0.mp c_30] at z; exact absurd z.2.2 (by decide))
end MODELD
