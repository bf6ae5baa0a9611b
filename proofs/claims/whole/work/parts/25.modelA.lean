/-! the reference: which lives it can be; safe, frauds, unused; who passes for whom -/
section MODELA
variable {E : En} {h : Hp} {m : Nat} {μ : Mu} {l : La}
def soN (r : Nat → Int32) (fo : Option (List Cl)) (k li : Nat) : Nat → Bool
  | 0 => true
  | j + 1 => soN r fo k li j && decide (showF r fo k (nI li) (spentF r k) (nI j) = r (41 + j))
theorem soN_no {r : Nat → Int32} {fo : Option (List Cl)} {k li j : Nat} (hf : soN r fo k li j = false) : ∀ i, soN r fo k li (j + i) = false
  | 0 => hf
  | i + 1 => by show (soN r fo k li (j + i) && _) = false; rw [soN_no hf i]; rfl
def canN (r : Nat → Int32) (fo : Option (List Cl)) (k sg : Nat) : Nat → Int32
  | 0 => 0
  | li + 1 => canN r fo k sg li ||| (if soN r fo k li sg = true then 1 <<< (nI li &&& 31) else 0)
theorem ct_livesThatCan (hm : Md E h m) {fo : Option (List Cl)} {nc ns sg : Nat} (hx : Mx μ fo nc ns) (hsg : μ 2 2 = nI sg) (h8 : sg ≤ 8) {k : Nat} (hk : k < 6) : Ct E 6 0 0 mX12_livesThatCan [.ref m, .int (nI k)] (mH h m μ l) (pS h m μ l (.int (canN (μ 2) fo k sg 9))) := by
  refine Ct.of (by decide +kernel) (Nat.le_of_ble_eq_true rfl) ?_
  refine r_iconst (pc := 0) (0) dX12_livesThatCan_0 rfl ?_
  refine r_istore_n (pc := 1) (lv' := [(0, _), (1, _), (2, _)]) dX12_livesThatCan_1 (Nat.le_of_ble_eq_true rfl) rfl ?_
  refine r_iconst (pc := 2) (0) dX12_livesThatCan_2 rfl ?_
  refine r_istore_n (pc := 3) (lv' := [(0, _), (1, _), (2, _), (3, _)]) dX12_livesThatCan_3 (Nat.le_of_ble_eq_true rfl) rfl ?_
  have outer : ∀ li, li ≤ 9 → ∀ ν κ, S2 μ l ν κ → Wp E mX12_livesThatCan (Rm 6 0 0) (Qm E (pS h m μ l (.int (canN (μ 2) fo k sg 9))) 0 0) 4 [(0, .ref m), (1, .int (nI k)), (2, .int (canN (μ 2) fo k sg li)), (3, .int (nI li))] [] (mH h m ν κ) 0 0 := by
    refine upTo (fun li hli ih => ?_) ?_
    · intro ν κ hS
      refine r_iload_n (pc := 4) 3 dX12_livesThatCan_4 rfl ?_
      refine r_bipush (pc := 5) (9) dX12_livesThatCan_5 rfl ?_
      refine r_icmp_ge (pc := 7) (tgt := 92) dX12_livesThatCan_7 (by decide) (fun c_7 => ?_) (fun c_7 => ?_)
      · exact absurd c_7 (nI_ge (b := 9) hli (by decide))
      · refine r_iconst (pc := 10) (1) dX12_livesThatCan_10 rfl ?_
        refine r_istore (pc := 11) (lv' := [(0, _), (1, _), (2, _), (3, _), (4, _)]) dX12_livesThatCan_11 (Nat.le_of_ble_eq_true rfl) rfl ?_
        refine r_iconst (pc := 13) (0) dX12_livesThatCan_13 rfl ?_
        refine r_istore (pc := 14) (lv' := [(0, _), (1, _), (2, _), (3, _), (4, _), (5, _)]) dX12_livesThatCan_14 (Nat.le_of_ble_eq_true rfl) rfl ?_
        have fin : ∀ (j : Nat) ν κ, S2 μ l ν κ → soN (μ 2) fo k li j = soN (μ 2) fo k li sg → Wp E mX12_livesThatCan (Rm 6 0 0) (Qm E (pS h m μ l (.int (canN (μ 2) fo k sg 9))) 0 0) 71 [(0, .ref m), (1, .int (nI k)), (2, .int (canN (μ 2) fo k sg li)), (3, .int (nI li)), (4, .int (bI (soN (μ 2) fo k li j))), (5, .int (nI j))] [] (mH h m ν κ) 0 0 := by
          intro j ν κ hS e
          refine r_iload_n (pc := 71) 2 dX12_livesThatCan_71 rfl ?_
          refine r_iload (pc := 72) 4 dX12_livesThatCan_72 rfl ?_
          refine r_if_eq (pc := 74) (tgt := 83) dX12_livesThatCan_74 (by decide) (fun c_74 => ?_) (fun c_74 => ?_)
          · refine r_iconst (pc := 83) (0) dX12_livesThatCan_83 rfl ?_
            refine r_ior (pc := 84) dX12_livesThatCan_84 ?_
            refine r_istore_n (pc := 85) (lv' := [(0, _), (1, _), (2, _), (3, _), (4, _), (5, _)]) dX12_livesThatCan_85 (Nat.le_of_ble_eq_true rfl) rfl ?_
            refine r_iinc (pc := 86) (v := _ + (1)) (lv' := [(0, _), (1, _), (2, _), (3, _), (4, _), (5, _)]) 3 dX12_livesThatCan_86 rfl rfl (Nat.le_of_ble_eq_true rfl) rfl ?_
            refine r_goto (pc := 89) (tgt := 4) dX12_livesThatCan_89 (by decide) ?_
            refine r_sub [0, 1, 2, 3] rfl ?_
            rw [nI_1]
            have e9 : canN (μ 2) fo k sg (li + 1) = canN (μ 2) fo k sg li ||| 0 := by rw [canN, if_neg (by rw [← e, bI_0.mp c_74]; decide)]
            rw [e9] at ih
            exact ih ν κ hS
          · refine r_iconst (pc := 77) (1) dX12_livesThatCan_77 rfl ?_
            refine r_iload_n (pc := 78) 3 dX12_livesThatCan_78 rfl ?_
            refine r_ishl (pc := 79) dX12_livesThatCan_79 ?_
            refine r_goto (pc := 80) (tgt := 84) dX12_livesThatCan_80 (by decide) ?_
            refine r_ior (pc := 84) dX12_livesThatCan_84 ?_
            refine r_istore_n (pc := 85) (lv' := [(0, _), (1, _), (2, _), (3, _), (4, _), (5, _)]) dX12_livesThatCan_85 (Nat.le_of_ble_eq_true rfl) rfl ?_
            refine r_iinc (pc := 86) (v := _ + (1)) (lv' := [(0, _), (1, _), (2, _), (3, _), (4, _), (5, _)]) 3 dX12_livesThatCan_86 rfl rfl (Nat.le_of_ble_eq_true rfl) rfl ?_
            refine r_goto (pc := 89) (tgt := 4) dX12_livesThatCan_89 (by decide) ?_
            refine r_sub [0, 1, 2, 3] rfl ?_
            rw [nI_1]
            have e9 : canN (μ 2) fo k sg (li + 1) = canN (μ 2) fo k sg li ||| 1 <<< (nI li &&& 31) := by rw [canN, if_pos (by rw [← e, bI_n0.mp c_74])]
            rw [e9] at ih
            exact ih ν κ hS
        have inner : ∀ j, j ≤ sg → ∀ ν κ, S2 μ l ν κ → Wp E mX12_livesThatCan (Rm 6 0 0) (Qm E (pS h m μ l (.int (canN (μ 2) fo k sg 9))) 0 0) 16 [(0, .ref m), (1, .int (nI k)), (2, .int (canN (μ 2) fo k sg li)), (3, .int (nI li)), (4, .int (bI (soN (μ 2) fo k li j))), (5, .int (nI j))] [] (mH h m ν κ) 0 0 := by
          refine upTo (fun j hj ih2 => ?_) ?_
          · intro ν κ hS
            have e2 : ν 2 = μ 2 := hS.1 2 (by decide)
            refine r_iload (pc := 16) 5 dX12_livesThatCan_16 rfl ?_
            refine r_aload_n (pc := 18) 0 dX12_livesThatCan_18 rfl ?_
            refine q_getR (pc := 19) fl_X12_13 hm (md_f3 hm) dX12_livesThatCan_19 ?_
            refine r_iconst (pc := 22) (2) dX12_livesThatCan_22 rfl ?_
            refine q_iald (pc := 23) (j := 2) (md_r3 hm) (by decide) rfl (by decide) (by decide) dX12_livesThatCan_23 ?_
            refine r_icmp_ge (pc := 24) (tgt := 71) dX12_livesThatCan_24 (by decide) (fun c_24 => ?_) (fun c_24 => ?_)
            · rw [e2, hsg] at c_24
              exact absurd c_24 (nI_ge hj (by omega))
            · refine r_iload (pc := 27) 4 dX12_livesThatCan_27 rfl ?_
              refine r_if_eq (pc := 29) (tgt := 71) dX12_livesThatCan_29 (by decide) (fun c_29 => ?_) (fun c_29 => ?_)
              · have hf := bI_0.mp c_29
                refine fin j ν κ hS ?_
                have := soN_no hf (sg - j)
                rw [show j + (sg - j) = sg by omega] at this
                rw [hf, this]
              · have ht := bI_n0.mp c_29
                refine r_aload_n (pc := 32) 0 dX12_livesThatCan_32 rfl ?_
                refine r_iload_n (pc := 33) 1 dX12_livesThatCan_33 rfl ?_
                refine r_iload_n (pc := 34) 3 dX12_livesThatCan_34 rfl ?_
                refine r_aload_n (pc := 35) 0 dX12_livesThatCan_35 rfl ?_
                refine r_iload_n (pc := 36) 1 dX12_livesThatCan_36 rfl ?_
                refine r_dV (pc := 37) (As := [_]) mv_X12_spentOf ml_X12_213 (ct_spentOf hm k hk) (q_is hm) rfl rfl (Nat.le_of_ble_eq_true rfl) (Nat.le_of_ble_eq_true rfl) (Nat.le_of_ble_eq_true rfl) (Nat.le_of_ble_eq_true rfl) (Nat.le_of_ble_eq_true rfl) dX12_livesThatCan_37 ?_
                refine r_iload (pc := 40) 5 dX12_livesThatCan_40 rfl ?_
                refine r_callV (pc := 42) (As := [_, _, _, _]) mv_X12_showsOf ml_X12_222 (ct_showsOf hm (hx.s2 hS) hk _ _ _) (q_is hm) rfl rfl (Nat.le_of_ble_eq_true rfl) (Nat.le_of_ble_eq_true rfl) (Nat.le_of_ble_eq_true rfl) (Nat.le_of_ble_eq_true rfl) (Nat.le_of_ble_eq_true rfl) dX12_livesThatCan_42 (fun r h1 hp => ?_)
                obtain ⟨ν2, κ2, rfl, hS2, rfl⟩ := hp
                have e3 : ν2 2 = μ 2 := (hS2.1 2 (by decide)).trans e2
                rw [e2]
                show Wp E mX12_livesThatCan _ _ _ _ [.int _] _ 0 0
                refine r_aload_n (pc := 45) 0 dX12_livesThatCan_45 rfl ?_
                refine q_getR (pc := 46) fl_X12_13 hm (md_f3 hm) dX12_livesThatCan_46 ?_
                refine r_bipush (pc := 49) (41) dX12_livesThatCan_49 rfl ?_
                refine r_iload (pc := 51) 5 dX12_livesThatCan_51 rfl ?_
                refine r_iadd (pc := 53) dX12_livesThatCan_53 ?_
                refine q_iald (pc := 54) (j := 41 + j) (md_r3 hm) (by decide) (by simp only [fa_lit, nI_add, nI_mul]) (by omega) (by decide) dX12_livesThatCan_54 ?_
                refine r_icmp_ne (pc := 55) (tgt := 62) dX12_livesThatCan_55 (by decide) (fun c_55 => ?_) (fun c_55 => ?_)
                · rw [e3] at c_55
                  refine r_iconst (pc := 62) (0) dX12_livesThatCan_62 rfl ?_
                  refine r_istore (pc := 63) (lv' := [(0, _), (1, _), (2, _), (3, _), (4, _), (5, _)]) dX12_livesThatCan_63 (Nat.le_of_ble_eq_true rfl) rfl ?_
                  refine r_iinc (pc := 65) (v := _ + (1)) (lv' := [(0, _), (1, _), (2, _), (3, _), (4, _), (5, _)]) 5 dX12_livesThatCan_65 rfl rfl (Nat.le_of_ble_eq_true rfl) rfl ?_
                  refine r_goto (pc := 68) (tgt := 16) dX12_livesThatCan_68 (by decide) ?_
                  rw [nI_1]
                  rw [show soN (μ 2) fo k li (j + 1) = false by rw [soN, decide_eq_false c_55, Bool.and_false]] at ih2
                  exact ih2 ν2 κ2 (hS.tr hS2)
                · rw [e3] at c_55
                  refine r_iconst (pc := 58) (1) dX12_livesThatCan_58 rfl ?_
                  refine r_goto (pc := 59) (tgt := 63) dX12_livesThatCan_59 (by decide) ?_
                  refine r_istore (pc := 63) (lv' := [(0, _), (1, _), (2, _), (3, _), (4, _), (5, _)]) dX12_livesThatCan_63 (Nat.le_of_ble_eq_true rfl) rfl ?_
                  refine r_iinc (pc := 65) (v := _ + (1)) (lv' := [(0, _), (1, _), (2, _), (3, _), (4, _), (5, _)]) 5 dX12_livesThatCan_65 rfl rfl (Nat.le_of_ble_eq_true rfl) rfl ?_
                  refine r_goto (pc := 68) (tgt := 16) dX12_livesThatCan_68 (by decide) ?_
                  rw [nI_1]
                  rw [show soN (μ 2) fo k li (j + 1) = true by rw [soN, decide_eq_true c_55, ht]; rfl] at ih2
                  exact ih2 ν2 κ2 (hS.tr hS2)
          · intro ν κ hS
            refine r_iload (pc := 16) 5 dX12_livesThatCan_16 rfl ?_
            refine r_aload_n (pc := 18) 0 dX12_livesThatCan_18 rfl ?_
            refine q_getR (pc := 19) fl_X12_13 hm (md_f3 hm) dX12_livesThatCan_19 ?_
            refine r_iconst (pc := 22) (2) dX12_livesThatCan_22 rfl ?_
            refine q_iald (pc := 23) (j := 2) (md_r3 hm) (by decide) rfl (by decide) (by decide) dX12_livesThatCan_23 ?_
            refine r_icmp_ge (pc := 24) (tgt := 71) dX12_livesThatCan_24 (by decide) (fun c_24 => ?_) (fun c_24 => ?_)
            · exact fin sg ν κ hS rfl
            · exact absurd (by rw [hS.1 2 (by decide), hsg]; exact Int32.le_refl _) c_24
        exact inner 0 (by omega) ν κ hS
    · intro ν κ hS
      refine r_iload_n (pc := 4) 3 dX12_livesThatCan_4 rfl ?_
      refine r_bipush (pc := 5) (9) dX12_livesThatCan_5 rfl ?_
      refine r_icmp_ge (pc := 7) (tgt := 92) dX12_livesThatCan_7 (by decide) (fun c_7 => ?_) (fun c_7 => ?_)
      · refine r_iload_n (pc := 92) 2 dX12_livesThatCan_92 rfl ?_
        refine r_iret (pc := 93) rfl ?_ (Nat.le_of_ble_eq_true rfl) (Nat.le_of_ble_eq_true rfl) dX12_livesThatCan_93
        exact ⟨ν, κ, rfl, hS, rfl⟩
      · exact absurd (show (9 : Int32) ≤ nI 9 by decide) c_7
  exact outer 0 (by omega) μ l S2.rf
def canF (r : Nat → Int32) (fo : Option (List Cl)) (nc sg : Nat) (c : Int32) : Int32 := if inN c nc = true then canN r fo c.toNatClampNeg sg 9 else -1
theorem ct_mcanBe (hm : Md E h m) {fo : Option (List Cl)} {nc ns sg : Nat} (hx : Mx μ fo nc ns) (hsg : μ 2 2 = nI sg) (h8 : sg ≤ 8) (c : Int32) : Ct E 7 0 0 mX12_canBe [.ref m, .int c] (mH h m μ l) (pS h m (up2 μ 0 0 0) l (.int (canF (μ 2) fo nc sg c))) := by
  have h6 := hx.2.2.2.1
  refine Ct.of (by decide +kernel) (Nat.le_of_ble_eq_true rfl) ?_
  refine r_aload_n (pc := 0) 0 dX12_canBe_0 rfl ?_
  refine r_iconst (pc := 1) (0) dX12_canBe_1 rfl ?_
  refine q_putI (pc := 2) fp_X12_161 hm dX12_canBe_2 ?_
  refine r_aload_n (pc := 5) 0 dX12_canBe_5 rfl ?_
  refine r_iload_n (pc := 6) 1 dX12_canBe_6 rfl ?_
  refine r_dV (pc := 7) (As := [_]) mv_X12_isCat ml_X12_210 (ct_isCat hm c (by rw [th_2]; exact hx.2.2.1) (by omega)) (q_is hm) rfl rfl (Nat.le_of_ble_eq_true rfl) (Nat.le_of_ble_eq_true rfl) (Nat.le_of_ble_eq_true rfl) (Nat.le_of_ble_eq_true rfl) (Nat.le_of_ble_eq_true rfl) dX12_canBe_7 ?_
  refine r_if_eq (pc := 10) (tgt := 21) dX12_canBe_10 (by decide) (fun c_10 => ?_) (fun c_10 => ?_)
  · refine r_iconst (pc := 21) (-1) dX12_canBe_21 rfl ?_
    refine r_iret (pc := 22) rfl ?_ (Nat.le_of_ble_eq_true rfl) (Nat.le_of_ble_eq_true rfl) dX12_canBe_22
    exact ⟨_, _, rfl, S2.rf, by rw [canF, if_neg (by rw [bI_0.mp c_10]; decide)]⟩
  · have hc := bI_n0.mp c_10
    obtain ⟨k, hk, rfl⟩ := inN_of (by omega) hc
    refine r_aload_n (pc := 13) 0 dX12_canBe_13 rfl ?_
    refine r_iload_n (pc := 14) 1 dX12_canBe_14 rfl ?_
    refine r_callV (pc := 15) (As := [_]) mv_X12_livesThatCan ml_X12_482 (ct_livesThatCan hm (mx_th hx) (by rw [th_2]; exact hsg) h8 (by omega)) (q_is hm) rfl rfl (Nat.le_of_ble_eq_true rfl) (Nat.le_of_ble_eq_true rfl) (Nat.le_of_ble_eq_true rfl) (Nat.le_of_ble_eq_true rfl) (Nat.le_of_ble_eq_true rfl) dX12_canBe_15 (fun r h1 hp => ?_)
    obtain ⟨ν, κ, rfl, hS, rfl⟩ := hp
    show Wp E mX12_canBe _ _ _ _ [.int _] _ 0 0
    refine r_goto (pc := 18) (tgt := 22) dX12_canBe_18 (by decide) ?_
    refine r_iret (pc := 22) rfl ?_ (Nat.le_of_ble_eq_true rfl) (Nat.le_of_ble_eq_true rfl) dX12_canBe_22
    exact ⟨ν, κ, rfl, hS, by rw [canF, if_pos hc, nI_clamp (by omega), th_2]⟩
def safeN (r : Nat → Int32) (fo : Option (List Cl)) (s : Int32) : Nat → Int64
  | 0 => 1000000000000
  | k + 1 => if r (32 + k) = s then safeN r fo s k * (10 - dareF r fo k (r (8 + k)) (spentF r k)).toInt64 / 10 else safeN r fo s k
def safeF (r : Nat → Int32) (fo : Option (List Cl)) (nc ns : Nat) (s : Int32) : Int64 := if inN s ns = true then safeN r fo s nc else -1
theorem ct_msafe (hm : Md E h m) {fo : Option (List Cl)} {nc ns : Nat} (hx : Mx μ fo nc ns) (s : Int32) : Ct E 6 0 0 mX12_safe [.ref m, .int s] (mH h m μ l) (pS h m (up2 μ 0 0 0) l (.long (safeF (μ 2) fo nc ns s))) := by
  have h6 := hx.2.2.2.1
  have h3 := hx.2.2.2.2.2
  refine Ct.of (by decide +kernel) (Nat.le_of_ble_eq_true rfl) ?_
  refine r_aload_n (pc := 0) 0 dX12_safe_0 rfl ?_
  refine r_iconst (pc := 1) (0) dX12_safe_1 rfl ?_
  refine q_putI (pc := 2) fp_X12_161 hm dX12_safe_2 ?_
  refine r_aload_n (pc := 5) 0 dX12_safe_5 rfl ?_
  refine r_iload_n (pc := 6) 1 dX12_safe_6 rfl ?_
  refine r_dV (pc := 7) (As := [_]) mv_X12_isShip ml_X12_228 (ct_isShip hm s (by rw [th_2]; exact hx.2.2.2.2.1) (by omega)) (q_is hm) rfl rfl (Nat.le_of_ble_eq_true rfl) (Nat.le_of_ble_eq_true rfl) (Nat.le_of_ble_eq_true rfl) (Nat.le_of_ble_eq_true rfl) (Nat.le_of_ble_eq_true rfl) dX12_safe_7 ?_
  refine r_if_ne (pc := 10) (tgt := 17) dX12_safe_10 (by decide) (fun c_10 => ?_) (fun c_10 => ?_)
  · rw [safeF, if_pos (bI_n0.mp c_10)]
    refine r_ldc2_w (pc := 17) cs_X12_480 dX12_safe_17 ?_
    refine r_lstore_n (pc := 20) (lv' := [(0, _), (1, _), (2, _)]) dX12_safe_20 (Nat.le_of_ble_eq_true rfl) rfl ?_
    refine r_iconst (pc := 21) (0) dX12_safe_21 rfl ?_
    refine r_istore (pc := 22) (lv' := [(0, _), (1, _), (2, _), (4, _)]) dX12_safe_22 (Nat.le_of_ble_eq_true rfl) rfl ?_
    have loop : ∀ k, k ≤ nc → ∀ ν κ, S2 (up2 μ 0 0 0) l ν κ → Wp E mX12_safe (Rm 6 0 0) (Qm E (pS h m (up2 μ 0 0 0) l (.long (safeN (μ 2) fo s nc))) 0 0) 24 [(0, .ref m), (1, .int s), (2, .long (safeN (μ 2) fo s k)), (4, .int (nI k))] [] (mH h m ν κ) 0 0 := by
      refine upTo (fun k hk ih => ?_) ?_
      · intro ν κ hS
        have e2 : ν 2 = μ 2 := (hS.1 2 (by decide)).trans (th_2 μ)
        refine r_iload (pc := 24) 3 dX12_safe_24 rfl ?_
        refine r_aload_n (pc := 26) 0 dX12_safe_26 rfl ?_
        refine q_getR (pc := 27) fl_X12_13 hm (md_f3 hm) dX12_safe_27 ?_
        refine r_iconst (pc := 30) (0) dX12_safe_30 rfl ?_
        refine q_iald (pc := 31) (j := 0) (md_r3 hm) (by decide) rfl (by decide) (by decide) dX12_safe_31 ?_
        refine r_icmp_ge (pc := 32) (tgt := 88) dX12_safe_32 (by decide) (fun c_32 => ?_) (fun c_32 => ?_)
        · rw [e2, hx.2.2.1] at c_32
          exact absurd c_32 (nI_ge hk (by omega))
        · refine r_aload_n (pc := 35) 0 dX12_safe_35 rfl ?_
          refine q_getR (pc := 36) fl_X12_13 hm (md_f3 hm) dX12_safe_36 ?_
          refine r_bipush (pc := 39) (32) dX12_safe_39 rfl ?_
          refine r_iload (pc := 41) 3 dX12_safe_41 rfl ?_
          refine r_iadd (pc := 43) dX12_safe_43 ?_
          refine q_iald (pc := 44) (j := 32 + k) (md_r3 hm) (by decide) (by simp only [fa_lit, nI_add, nI_mul]) (by omega) (by decide) dX12_safe_44 ?_
          refine r_iload_n (pc := 45) 1 dX12_safe_45 rfl ?_
          refine r_icmp_ne (pc := 46) (tgt := 82) dX12_safe_46 (by decide) (fun c_46 => ?_) (fun c_46 => ?_)
          · rw [e2] at c_46
            refine r_iinc (pc := 82) (v := _ + (1)) (lv' := [(0, _), (1, _), (2, _), (4, _)]) 3 dX12_safe_82 rfl rfl (Nat.le_of_ble_eq_true rfl) rfl ?_
            refine r_goto (pc := 85) (tgt := 24) dX12_safe_85 (by decide) ?_
            rw [nI_1]
            rw [safeN, if_neg c_46] at ih
            exact ih ν κ hS
          · rw [e2] at c_46
            refine r_lload_n (pc := 49) 2 dX12_safe_49 rfl ?_
            refine r_bipush (pc := 50) (10) dX12_safe_50 rfl ?_
            refine r_aload_n (pc := 52) 0 dX12_safe_52 rfl ?_
            refine r_iload (pc := 53) 3 dX12_safe_53 rfl ?_
            refine r_aload_n (pc := 55) 0 dX12_safe_55 rfl ?_
            refine q_getR (pc := 56) fl_X12_13 hm (md_f3 hm) dX12_safe_56 ?_
            refine r_bipush (pc := 59) (8) dX12_safe_59 rfl ?_
            refine r_iload (pc := 61) 3 dX12_safe_61 rfl ?_
            refine r_iadd (pc := 63) dX12_safe_63 ?_
            refine q_iald (pc := 64) (j := 8 + k) (md_r3 hm) (by decide) (by simp only [fa_lit, nI_add, nI_mul]) (by omega) (by decide) dX12_safe_64 ?_
            refine r_aload_n (pc := 65) 0 dX12_safe_65 rfl ?_
            refine r_iload (pc := 66) 3 dX12_safe_66 rfl ?_
            refine r_dV (pc := 68) (As := [_]) mv_X12_spentOf ml_X12_213 (ct_spentOf hm k (by omega)) (q_is hm) rfl rfl (Nat.le_of_ble_eq_true rfl) (Nat.le_of_ble_eq_true rfl) (Nat.le_of_ble_eq_true rfl) (Nat.le_of_ble_eq_true rfl) (Nat.le_of_ble_eq_true rfl) dX12_safe_68 ?_
            refine r_callV (pc := 71) (As := [_, _, _]) mv_X12_daresOf ml_X12_219 (ct_daresOf hm ((mx_th hx).s2 hS) (by omega) _ _) (q_is hm) rfl rfl (Nat.le_of_ble_eq_true rfl) (Nat.le_of_ble_eq_true rfl) (Nat.le_of_ble_eq_true rfl) (Nat.le_of_ble_eq_true rfl) (Nat.le_of_ble_eq_true rfl) dX12_safe_71 (fun r h1 hp => ?_)
            obtain ⟨ν2, κ2, rfl, hS2, rfl⟩ := hp
            rw [e2]
            show Wp E mX12_safe _ _ _ _ [.int _, .int _, .long _] _ 0 0
            refine r_isub (pc := 74) dX12_safe_74 ?_
            refine r_i2l (pc := 75) dX12_safe_75 ?_
            refine r_lmul (pc := 76) dX12_safe_76 ?_
            refine r_ldc2_w (pc := 77) cs_X12_242 dX12_safe_77 ?_
            refine r_ldiv (pc := 80) dX12_safe_80 (by decide) ?_
            refine r_lstore_n (pc := 81) (lv' := [(0, _), (1, _), (2, _), (4, _)]) dX12_safe_81 (Nat.le_of_ble_eq_true rfl) rfl ?_
            refine r_iinc (pc := 82) (v := _ + (1)) (lv' := [(0, _), (1, _), (2, _), (4, _)]) 3 dX12_safe_82 rfl rfl (Nat.le_of_ble_eq_true rfl) rfl ?_
            refine r_goto (pc := 85) (tgt := 24) dX12_safe_85 (by decide) ?_
            rw [nI_1]
            rw [safeN, if_pos c_46] at ih
            exact ih ν2 κ2 (hS.tr hS2)
      · intro ν κ hS
        have e2 : ν 2 = μ 2 := (hS.1 2 (by decide)).trans (th_2 μ)
        refine r_iload (pc := 24) 3 dX12_safe_24 rfl ?_
        refine r_aload_n (pc := 26) 0 dX12_safe_26 rfl ?_
        refine q_getR (pc := 27) fl_X12_13 hm (md_f3 hm) dX12_safe_27 ?_
        refine r_iconst (pc := 30) (0) dX12_safe_30 rfl ?_
        refine q_iald (pc := 31) (j := 0) (md_r3 hm) (by decide) rfl (by decide) (by decide) dX12_safe_31 ?_
        refine r_icmp_ge (pc := 32) (tgt := 88) dX12_safe_32 (by decide) (fun c_32 => ?_) (fun c_32 => ?_)
        · refine r_lload_n (pc := 88) 2 dX12_safe_88 rfl ?_
          refine r_lret (pc := 89) rfl ?_ (Nat.le_of_ble_eq_true rfl) (Nat.le_of_ble_eq_true rfl) dX12_safe_89
          exact ⟨ν, κ, rfl, hS, rfl⟩
        · exact absurd (by rw [e2, hx.2.2.1]; exact Int32.le_refl _) c_32
    exact loop 0 (by omega) _ _ S2.rf
  · rw [safeF, if_neg (by rw [bI_0.mp c_10]; decide)]
    refine r_ldc2_w (pc := 13) cs_X12_287 dX12_safe_13 ?_
    refine r_lret (pc := 16) rfl ?_ (Nat.le_of_ble_eq_true rfl) (Nat.le_of_ble_eq_true rfl) dX12_safe_16
    exact ⟨_, _, rfl, S2.rf, rfl⟩
def frauN (r : Nat → Int32) : Nat → Int32
  | 0 => 0
  | k + 1 => frauN r k ||| (if aliveF r k = true ∧ ¬ r (20 + k) = 9 ∧ ¬ r (20 + k) = r (8 + k) then 1 <<< (nI k &&& 31) else 0)
theorem ct_mfrauds (hm : Md E h m) {nc : Nat} (hnc : μ 2 0 = nI nc) (h6 : nc ≤ 6) : Ct E 1 0 0 mX12_frauds [.ref m] (mH h m μ l) (po (some (.int (frauN (μ 2) nc))) (mH h m (up2 μ 0 0 0) l)) := by
  refine Ct.of (by decide +kernel) (Nat.le_of_ble_eq_true rfl) ?_
  have er := th_2 μ
  refine r_aload_n (pc := 0) 0 dX12_frauds_0 rfl ?_
  refine r_iconst (pc := 1) (0) dX12_frauds_1 rfl ?_
  refine q_putI (pc := 2) fp_X12_161 hm dX12_frauds_2 ?_
  refine r_iconst (pc := 5) (0) dX12_frauds_5 rfl ?_
  refine r_istore_n (pc := 6) (lv' := [(0, _), (1, _)]) dX12_frauds_6 (Nat.le_of_ble_eq_true rfl) rfl ?_
  refine r_iconst (pc := 7) (0) dX12_frauds_7 rfl ?_
  refine r_istore_n (pc := 8) (lv' := [(0, _), (1, _), (2, _)]) dX12_frauds_8 (Nat.le_of_ble_eq_true rfl) rfl ?_
  have loop : ∀ k, k ≤ nc → Wp E mX12_frauds (Rm 1 0 0) (Qm E (po (some (.int (frauN (μ 2) nc))) (mH h m (up2 μ 0 0 0) l)) 0 0) 9 [(0, .ref m), (1, .int (frauN (μ 2) k)), (2, .int (nI k))] [] (mH h m (up2 μ 0 0 0) l) 0 0 := by
    refine upTo (fun k hk ih => ?_) ?_
    · have no : ¬ (aliveF (μ 2) k = true ∧ ¬ μ 2 (20 + k) = 9 ∧ ¬ μ 2 (20 + k) = μ 2 (8 + k)) → Wp E mX12_frauds (Rm 1 0 0) (Qm E (po (some (.int (frauN (μ 2) nc))) (mH h m (up2 μ 0 0 0) l)) 0 0) 69 [(0, .ref m), (1, .int (frauN (μ 2) k)), (2, .int (nI k))] [.int (frauN (μ 2) k)] (mH h m (up2 μ 0 0 0) l) 0 0 := by
        intro hno
        rw [frauN, if_neg hno] at ih
        refine r_iconst (pc := 69) (0) dX12_frauds_69 rfl ?_
        refine r_ior (pc := 70) dX12_frauds_70 ?_
        refine r_istore_n (pc := 71) (lv' := [(0, _), (1, _), (2, _)]) dX12_frauds_71 (Nat.le_of_ble_eq_true rfl) rfl ?_
        refine r_iinc (pc := 72) (v := _ + (1)) (lv' := [(0, _), (1, _), (2, _)]) 2 dX12_frauds_72 rfl rfl (Nat.le_of_ble_eq_true rfl) rfl ?_
        refine r_goto (pc := 75) (tgt := 9) dX12_frauds_75 (by decide) ?_
        rw [nI_1]; exact ih
      refine r_iload_n (pc := 9) 2 dX12_frauds_9 rfl ?_
      refine r_aload_n (pc := 10) 0 dX12_frauds_10 rfl ?_
      refine q_getR (pc := 11) fl_X12_13 hm (md_f3 hm) dX12_frauds_11 ?_
      refine r_iconst (pc := 14) (0) dX12_frauds_14 rfl ?_
      refine q_iald (pc := 15) (j := 0) (md_r3 hm) (by decide) rfl (by decide) (by decide) dX12_frauds_15 ?_
      refine r_icmp_ge (pc := 16) (tgt := 78) dX12_frauds_16 (by decide) (fun c_16 => ?_) (fun c_16 => ?_)
      · rw [er, hnc] at c_16
        exact absurd c_16 (nI_ge hk (by omega))
      · refine r_iload_n (pc := 19) 1 dX12_frauds_19 rfl ?_
        refine r_aload_n (pc := 20) 0 dX12_frauds_20 rfl ?_
        refine r_iload_n (pc := 21) 2 dX12_frauds_21 rfl ?_
        refine r_dV (pc := 22) (As := [_]) mv_X12_isAlive ml_X12_193 (ct_isAlive hm k (by omega)) (q_is hm) rfl rfl (Nat.le_of_ble_eq_true rfl) (Nat.le_of_ble_eq_true rfl) (Nat.le_of_ble_eq_true rfl) (Nat.le_of_ble_eq_true rfl) (Nat.le_of_ble_eq_true rfl) dX12_frauds_22 ?_
        refine r_if_eq (pc := 25) (tgt := 69) dX12_frauds_25 (by decide) (fun c_25 => ?_) (fun c_25 => ?_)
        · rw [er] at c_25
          exact no (fun z => by rw [bI_0.mp c_25] at z; exact absurd z.1 (by decide))
        · rw [er] at c_25
          refine r_aload_n (pc := 28) 0 dX12_frauds_28 rfl ?_
          refine q_getR (pc := 29) fl_X12_13 hm (md_f3 hm) dX12_frauds_29 ?_
          refine r_bipush (pc := 32) (20) dX12_frauds_32 rfl ?_
          refine r_iload_n (pc := 34) 2 dX12_frauds_34 rfl ?_
          refine r_iadd (pc := 35) dX12_frauds_35 ?_
          refine q_iald (pc := 36) (j := 20 + k) (md_r3 hm) (by decide) (by simp only [fa_lit, nI_add, nI_mul]) (by omega) (by decide) dX12_frauds_36 ?_
          refine r_bipush (pc := 37) (9) dX12_frauds_37 rfl ?_
          refine r_icmp_eq (pc := 39) (tgt := 69) dX12_frauds_39 (by decide) (fun c_39 => ?_) (fun c_39 => ?_)
          · rw [er] at c_39
            exact no (fun z => z.2.1 c_39)
          · rw [er] at c_39
            refine r_aload_n (pc := 42) 0 dX12_frauds_42 rfl ?_
            refine q_getR (pc := 43) fl_X12_13 hm (md_f3 hm) dX12_frauds_43 ?_
            refine r_bipush (pc := 46) (20) dX12_frauds_46 rfl ?_
            refine r_iload_n (pc := 48) 2 dX12_frauds_48 rfl ?_
            refine r_iadd (pc := 49) dX12_frauds_49 ?_
            refine q_iald (pc := 50) (j := 20 + k) (md_r3 hm) (by decide) (by simp only [fa_lit, nI_add, nI_mul]) (by omega) (by decide) dX12_frauds_50 ?_
            refine r_aload_n (pc := 51) 0 dX12_frauds_51 rfl ?_
            refine q_getR (pc := 52) fl_X12_13 hm (md_f3 hm) dX12_frauds_52 ?_
            refine r_bipush (pc := 55) (8) dX12_frauds_55 rfl ?_
            refine r_iload_n (pc := 57) 2 dX12_frauds_57 rfl ?_
            refine r_iadd (pc := 58) dX12_frauds_58 ?_
            refine q_iald (pc := 59) (j := 8 + k) (md_r3 hm) (by decide) (by simp only [fa_lit, nI_add, nI_mul]) (by omega) (by decide) dX12_frauds_59 ?_
            refine r_icmp_eq (pc := 60) (tgt := 69) dX12_frauds_60 (by decide) (fun c_60 => ?_) (fun c_60 => ?_)
            · rw [er] at c_60
              exact no (fun z => z.2.2 c_60)
            · rw [er] at c_60
              rw [frauN, if_pos ⟨bI_n0.mp c_25, c_39, c_60⟩] at ih
              refine r_iconst (pc := 63) (1) dX12_frauds_63 rfl ?_
              refine r_iload_n (pc := 64) 2 dX12_frauds_64 rfl ?_
              refine r_ishl (pc := 65) dX12_frauds_65 ?_
              refine r_goto (pc := 66) (tgt := 70) dX12_frauds_66 (by decide) ?_
              refine r_ior (pc := 70) dX12_frauds_70 ?_
              refine r_istore_n (pc := 71) (lv' := [(0, _), (1, _), (2, _)]) dX12_frauds_71 (Nat.le_of_ble_eq_true rfl) rfl ?_
              refine r_iinc (pc := 72) (v := _ + (1)) (lv' := [(0, _), (1, _), (2, _)]) 2 dX12_frauds_72 rfl rfl (Nat.le_of_ble_eq_true rfl) rfl ?_
              refine r_goto (pc := 75) (tgt := 9) dX12_frauds_75 (by decide) ?_
              rw [nI_1]; exact ih
    · refine r_iload_n (pc := 9) 2 dX12_frauds_9 rfl ?_
      refine r_aload_n (pc := 10) 0 dX12_frauds_10 rfl ?_
      refine q_getR (pc := 11) fl_X12_13 hm (md_f3 hm) dX12_frauds_11 ?_
      refine r_iconst (pc := 14) (0) dX12_frauds_14 rfl ?_
      refine q_iald (pc := 15) (j := 0) (md_r3 hm) (by decide) rfl (by decide) (by decide) dX12_frauds_15 ?_
      refine r_icmp_ge (pc := 16) (tgt := 78) dX12_frauds_16 (by decide) (fun c_16 => ?_) (fun c_16 => ?_)
      · refine r_iload_n (pc := 78) 1 dX12_frauds_78 rfl ?_
        refine r_iret (pc := 79) rfl ?_ (Nat.le_of_ble_eq_true rfl) (Nat.le_of_ble_eq_true rfl) dX12_frauds_79
        exact ⟨rfl, rfl⟩
      · exact absurd (by rw [er, hnc]; exact Int32.le_refl _) c_16
  exact loop 0 (by omega)
theorem ct_munused (hm : Md E h m) {nc : Nat} (hnc : μ 2 0 = nI nc) (h6 : nc ≤ 6) : Ct E 2 0 0 mX12_unused [.ref m] (mH h m μ l) (po (some (.int (511 &&& (livesN (μ 2) (aliveN (μ 2) nc) nc ^^^ -1)))) (mH h m (up2 μ 0 0 0) l)) := by
  refine Ct.of (by decide +kernel) (Nat.le_of_ble_eq_true rfl) ?_
  refine r_aload_n (pc := 0) 0 dX12_unused_0 rfl ?_
  refine r_iconst (pc := 1) (0) dX12_unused_1 rfl ?_
  refine q_putI (pc := 2) fp_X12_161 hm dX12_unused_2 ?_
  refine r_sipush (pc := 5) (511) dX12_unused_5 rfl ?_
  refine r_aload_n (pc := 8) 0 dX12_unused_8 rfl ?_
  refine r_aload_n (pc := 9) 0 dX12_unused_9 rfl ?_
  refine r_dV (pc := 10) (As := []) mv_X12_aliveOnes ml_X12_489 (ct_aliveOnes hm (by rw [th_2]; exact hnc) h6) (q_is hm) rfl rfl (Nat.le_of_ble_eq_true rfl) (Nat.le_of_ble_eq_true rfl) (Nat.le_of_ble_eq_true rfl) (Nat.le_of_ble_eq_true rfl) (Nat.le_of_ble_eq_true rfl) dX12_unused_10 ?_
  refine r_dV (pc := 13) (As := [_]) mv_X12_livesOf ml_X12_234 (ct_livesOf hm _ (by rw [th_2]; exact hnc) h6) (q_is hm) rfl rfl (Nat.le_of_ble_eq_true rfl) (Nat.le_of_ble_eq_true rfl) (Nat.le_of_ble_eq_true rfl) (Nat.le_of_ble_eq_true rfl) (Nat.le_of_ble_eq_true rfl) dX12_unused_13 ?_
  refine r_iconst (pc := 16) (-1) dX12_unused_16 rfl ?_
  refine r_ixor (pc := 17) dX12_unused_17 ?_
  refine r_iand (pc := 18) dX12_unused_18 ?_
  refine r_iret (pc := 19) rfl ?_ (Nat.le_of_ble_eq_true rfl) (Nat.le_of_ble_eq_true rfl) dX12_unused_19
  rw [th_2]
  exact ⟨rfl, rfl⟩
end MODELA
