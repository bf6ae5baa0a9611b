/-! the reference: complete; all brought back -/
section MODELG
variable {E : En} {h : Hp} {m : Nat} {μ : Mu} {l : La}
def frN (r : Nat → Int32) (f0 : Int32) : Nat → Int32
  | 0 => f0
  | k + 1 => frN r f0 k &&& (if r (32 + k) = -1 then (-1 : Int32) else (1 : Int32) <<< (nI k &&& 31) ^^^ -1)
def cpOK (r : Nat → Int32) (nc s : Nat) (free : Int32) (t : Nat) (least : Int32) : Prop := nI t &&& (free ^^^ -1) = 0 ∧ onesN (nI t) 9 < least ∧ r (38 + s) &&& (livesN r (crewN r (nI s) nc ||| nI t) nc ^^^ -1) = 0
def cpN (r : Nat → Int32) (nc s : Nat) (free : Int32) : Nat → Int32 × Int32
  | 0 => (-1, 100000000)
  | t + 1 => if nI t &&& (free ^^^ -1) = 0 ∧ onesN (nI t) 9 < (cpN r nc s free t).2 ∧ r (38 + s) &&& (livesN r (crewN r (nI s) nc ||| nI t) nc ^^^ -1) = 0 then (nI t, onesN (nI t) 9) else cpN r nc s free t
def compF (r : Nat → Int32) (fo : Option (List Cl)) (nc ns : Nat) (s w : Int32) : Int32 :=
  if inN s ns = true ∧ inN w 2 = true then (if (cpN r nc s.toNatClampNeg (frN r (aliveN r nc &&& (barN r fo s nc ^^^ -1)) nc) (2 ^ nc)).1 = -1 ∨ w = 1 then (cpN r nc s.toNatClampNeg (frN r (aliveN r nc &&& (barN r fo s nc ^^^ -1)) nc) (2 ^ nc)).1 else (cpN r nc s.toNatClampNeg (frN r (aliveN r nc &&& (barN r fo s nc ^^^ -1)) nc) (2 ^ nc)).2) else -1
theorem ct_mcomplete (hm : Md E h m) {fo : Option (List Cl)} {nc ns : Nat} (hx : Mx μ fo nc ns) (s w : Int32) : Ct E 7 0 0 mX12_complete [.ref m, .int s, .int w] (mH h m μ l) (pS h m (up2 μ 0 0 0) l (.int (compF (μ 2) fo nc ns s w))) := by
  have h6 := hx.2.2.2.1
  have h3 := hx.2.2.2.2.2
  have hnc := hx.2.2.1
  refine Ct.of (by decide +kernel) (Nat.le_of_ble_eq_true rfl) ?_
  have no : ¬ (inN s ns = true ∧ inN w 2 = true) → Wp E mX12_complete (Rm 7 0 0) (Qm E (pS h m (up2 μ 0 0 0) l (.int (compF (μ 2) fo nc ns s w))) 0 0) 23 [(0, .ref m), (1, .int s), (2, .int w)] [] (mH h m (up2 μ 0 0 0) l) 0 0 := by
    intro hno
    refine r_iconst (pc := 23) (-1) dX12_complete_23 rfl ?_
    refine r_iret (pc := 24) rfl ?_ (Nat.le_of_ble_eq_true rfl) (Nat.le_of_ble_eq_true rfl) dX12_complete_24
    exact ⟨_, _, rfl, S2.rf, by rw [compF, if_neg hno]⟩
  refine r_aload_n (pc := 0) 0 dX12_complete_0 rfl ?_
  refine r_iconst (pc := 1) (0) dX12_complete_1 rfl ?_
  refine q_putI (pc := 2) fp_X12_161 hm dX12_complete_2 ?_
  refine r_aload_n (pc := 5) 0 dX12_complete_5 rfl ?_
  refine r_iload_n (pc := 6) 1 dX12_complete_6 rfl ?_
  refine r_dV (pc := 7) (As := [_]) mv_X12_isShip ml_X12_228 (ct_isShip hm s (by rw [th_2]; exact hx.2.2.2.2.1) (by omega)) (q_is hm) rfl rfl (Nat.le_of_ble_eq_true rfl) (Nat.le_of_ble_eq_true rfl) (Nat.le_of_ble_eq_true rfl) (Nat.le_of_ble_eq_true rfl) (Nat.le_of_ble_eq_true rfl) dX12_complete_7 ?_
  refine r_if_eq (pc := 10) (tgt := 23) dX12_complete_10 (by decide) (fun c_10 => ?_) (fun c_10 => ?_)
  · exact no (fun z => by rw [bI_0.mp c_10] at z; exact absurd z.1 (by decide))
  · refine r_iload_n (pc := 13) 2 dX12_complete_13 rfl ?_
    refine r_i2l (pc := 14) dX12_complete_14 ?_
    refine r_lconst (pc := 15) (0) dX12_complete_15 rfl ?_
    refine r_lconst (pc := 16) (1) dX12_complete_16 rfl ?_
    refine r_dS (pc := 17) (As := [_, _, _]) ms_X12_in ml_X12_181 (ct_in _ _ _) rfl rfl (Nat.le_of_ble_eq_true rfl) (Nat.le_of_ble_eq_true rfl) (Nat.le_of_ble_eq_true rfl) (Nat.le_of_ble_eq_true rfl) (Nat.le_of_ble_eq_true rfl) dX12_complete_17 ?_
    refine r_if_ne (pc := 20) (tgt := 25) dX12_complete_20 (by decide) (fun c_20 => ?_) (fun c_20 => ?_)
    · rw [show decide _ = inN w 2 from in_lit (b := 1) (n := 1) (by decide)] at c_20
      have hs := bI_n0.mp c_10
      rw [compF, if_pos ⟨hs, bI_n0.mp c_20⟩]
      obtain ⟨k, hk, rfl⟩ := inN_of (by omega) hs
      rw [nI_clamp (by omega)]
      refine r_aload_n (pc := 25) 0 dX12_complete_25 rfl ?_
      refine r_dV (pc := 26) (As := []) mv_X12_aliveOnes ml_X12_489 (ct_aliveOnes hm (by rw [th_2]; exact hnc) h6) (q_is hm) rfl rfl (Nat.le_of_ble_eq_true rfl) (Nat.le_of_ble_eq_true rfl) (Nat.le_of_ble_eq_true rfl) (Nat.le_of_ble_eq_true rfl) (Nat.le_of_ble_eq_true rfl) dX12_complete_26 ?_
      refine r_aload_n (pc := 29) 0 dX12_complete_29 rfl ?_
      refine r_iload_n (pc := 30) 1 dX12_complete_30 rfl ?_
      refine r_callV (pc := 31) (As := [_]) mv_X12_barredFrom ml_X12_237 (ct_barredFrom hm (mx_th hx) _) (q_is hm) rfl rfl (Nat.le_of_ble_eq_true rfl) (Nat.le_of_ble_eq_true rfl) (Nat.le_of_ble_eq_true rfl) (Nat.le_of_ble_eq_true rfl) (Nat.le_of_ble_eq_true rfl) dX12_complete_31 (fun r h1 hp => ?_)
      obtain ⟨ν, κ, rfl, hS, rfl⟩ := hp
      have e2 : ν 2 = μ 2 := (hS.1 2 (by decide)).trans (th_2 μ)
      rw [th_2]
      show Wp E mX12_complete _ _ _ _ [.int _, .int _] _ 0 0
      refine r_iconst (pc := 34) (-1) dX12_complete_34 rfl ?_
      refine r_ixor (pc := 35) dX12_complete_35 ?_
      refine r_iand (pc := 36) dX12_complete_36 ?_
      refine r_istore_n (pc := 37) (lv' := [(0, _), (1, _), (2, _), (3, _)]) dX12_complete_37 (Nat.le_of_ble_eq_true rfl) rfl ?_
      refine r_iconst (pc := 38) (0) dX12_complete_38 rfl ?_
      refine r_istore (pc := 39) (lv' := [(0, _), (1, _), (2, _), (3, _), (4, _)]) dX12_complete_39 (Nat.le_of_ble_eq_true rfl) rfl ?_
      generalize aliveN (μ 2) nc &&& (barN (μ 2) fo (nI k) nc ^^^ -1) = f0
      have free : ∀ a, a ≤ nc → Wp E mX12_complete (Rm 7 0 0) (Qm E (pS h m (up2 μ 0 0 0) l (.int (if (cpN (μ 2) nc k (frN (μ 2) f0 nc) (2 ^ nc)).1 = -1 ∨ w = 1 then (cpN (μ 2) nc k (frN (μ 2) f0 nc) (2 ^ nc)).1 else (cpN (μ 2) nc k (frN (μ 2) f0 nc) (2 ^ nc)).2))) 0 0) 41 [(0, .ref m), (1, .int (nI k)), (2, .int w), (3, .int (frN (μ 2) f0 a)), (4, .int (nI a))] [] (mH h m ν κ) 0 0 := by
        refine upTo (fun a ha ih => ?_) ?_
        · refine r_iload (pc := 41) 4 dX12_complete_41 rfl ?_
          refine r_aload_n (pc := 43) 0 dX12_complete_43 rfl ?_
          refine q_getR (pc := 44) fl_X12_13 hm (md_f3 hm) dX12_complete_44 ?_
          refine r_iconst (pc := 47) (0) dX12_complete_47 rfl ?_
          refine q_iald (pc := 48) (j := 0) (md_r3 hm) (by decide) rfl (by decide) (by decide) dX12_complete_48 ?_
          refine r_icmp_ge (pc := 49) (tgt := 85) dX12_complete_49 (by decide) (fun c_49 => ?_) (fun c_49 => ?_)
          · rw [e2, hnc] at c_49
            exact absurd c_49 (nI_ge ha (by omega))
          · refine r_iload_n (pc := 52) 3 dX12_complete_52 rfl ?_
            refine r_aload_n (pc := 53) 0 dX12_complete_53 rfl ?_
            refine q_getR (pc := 54) fl_X12_13 hm (md_f3 hm) dX12_complete_54 ?_
            refine r_bipush (pc := 57) (32) dX12_complete_57 rfl ?_
            refine r_iload (pc := 59) 4 dX12_complete_59 rfl ?_
            refine r_iadd (pc := 61) dX12_complete_61 ?_
            refine q_iald (pc := 62) (j := 32 + a) (md_r3 hm) (by decide) (by simp only [fa_lit, nI_add, nI_mul]) (by omega) (by decide) dX12_complete_62 ?_
            refine r_iconst (pc := 63) (-1) dX12_complete_63 rfl ?_
            refine r_icmp_ne (pc := 64) (tgt := 71) dX12_complete_64 (by decide) (fun c_64 => ?_) (fun c_64 => ?_)
            · rw [e2] at c_64
              refine r_iconst (pc := 71) (1) dX12_complete_71 rfl ?_
              refine r_iload (pc := 72) 4 dX12_complete_72 rfl ?_
              refine r_ishl (pc := 74) dX12_complete_74 ?_
              refine r_iconst (pc := 75) (-1) dX12_complete_75 rfl ?_
              refine r_ixor (pc := 76) dX12_complete_76 ?_
              refine r_iand (pc := 77) dX12_complete_77 ?_
              refine r_istore_n (pc := 78) (lv' := [(0, _), (1, _), (2, _), (3, _), (4, _)]) dX12_complete_78 (Nat.le_of_ble_eq_true rfl) rfl ?_
              refine r_iinc (pc := 79) (v := _ + (1)) (lv' := [(0, _), (1, _), (2, _), (3, _), (4, _)]) 4 dX12_complete_79 rfl rfl (Nat.le_of_ble_eq_true rfl) rfl ?_
              refine r_goto (pc := 82) (tgt := 41) dX12_complete_82 (by decide) ?_
              rw [nI_1]
              have e9 : frN (μ 2) f0 (a + 1) = frN (μ 2) f0 a &&& (1 <<< (nI a &&& 31) ^^^ -1) := by rw [frN, if_neg c_64]
              rw [e9] at ih
              exact ih
            · rw [e2] at c_64
              refine r_iconst (pc := 67) (-1) dX12_complete_67 rfl ?_
              refine r_goto (pc := 68) (tgt := 77) dX12_complete_68 (by decide) ?_
              refine r_iand (pc := 77) dX12_complete_77 ?_
              refine r_istore_n (pc := 78) (lv' := [(0, _), (1, _), (2, _), (3, _), (4, _)]) dX12_complete_78 (Nat.le_of_ble_eq_true rfl) rfl ?_
              refine r_iinc (pc := 79) (v := _ + (1)) (lv' := [(0, _), (1, _), (2, _), (3, _), (4, _)]) 4 dX12_complete_79 rfl rfl (Nat.le_of_ble_eq_true rfl) rfl ?_
              refine r_goto (pc := 82) (tgt := 41) dX12_complete_82 (by decide) ?_
              rw [nI_1]
              have e9 : frN (μ 2) f0 (a + 1) = frN (μ 2) f0 a &&& -1 := by rw [frN, if_pos c_64]
              rw [e9] at ih
              exact ih
        · refine r_iload (pc := 41) 4 dX12_complete_41 rfl ?_
          refine r_aload_n (pc := 43) 0 dX12_complete_43 rfl ?_
          refine q_getR (pc := 44) fl_X12_13 hm (md_f3 hm) dX12_complete_44 ?_
          refine r_iconst (pc := 47) (0) dX12_complete_47 rfl ?_
          refine q_iald (pc := 48) (j := 0) (md_r3 hm) (by decide) rfl (by decide) (by decide) dX12_complete_48 ?_
          refine r_icmp_ge (pc := 49) (tgt := 85) dX12_complete_49 (by decide) (fun c_49 => ?_) (fun c_49 => ?_)
          · refine r_ldc_w (pc := 85) cs_X12_485 dX12_complete_85 ?_
            refine r_istore (pc := 88) (lv' := [(0, _), (1, _), (2, _), (3, _), (4, _)]) dX12_complete_88 (Nat.le_of_ble_eq_true rfl) rfl ?_
            refine r_iconst (pc := 90) (-1) dX12_complete_90 rfl ?_
            refine r_istore (pc := 91) (lv' := [(0, _), (1, _), (2, _), (3, _), (4, _), (5, _)]) dX12_complete_91 (Nat.le_of_ble_eq_true rfl) rfl ?_
            refine r_iconst (pc := 93) (0) dX12_complete_93 rfl ?_
            refine r_istore (pc := 94) (lv' := [(0, _), (1, _), (2, _), (3, _), (4, _), (5, _), (6, _)]) dX12_complete_94 (Nat.le_of_ble_eq_true rfl) rfl ?_
            generalize frN (μ 2) f0 nc = fr
            have hp64 : 2 ^ nc ≤ 64 := by
              have : 2 ^ nc ≤ 2 ^ 6 := Nat.pow_le_pow_right (by decide) h6
              omega
            have e1n : (1 : Int32) <<< (ν 2 0 &&& 31) = nI (2 ^ nc) := by rw [e2, hnc]; exact sh9 nc (by omega)
            have sets : ∀ t, t ≤ 2 ^ nc → Wp E mX12_complete (Rm 7 0 0) (Qm E (pS h m (up2 μ 0 0 0) l (.int (if (cpN (μ 2) nc k fr (2 ^ nc)).1 = -1 ∨ w = 1 then (cpN (μ 2) nc k fr (2 ^ nc)).1 else (cpN (μ 2) nc k fr (2 ^ nc)).2))) 0 0) 96 [(0, .ref m), (1, .int (nI k)), (2, .int w), (3, .int fr), (4, .int (cpN (μ 2) nc k fr t).2), (5, .int (cpN (μ 2) nc k fr t).1), (6, .int (nI t))] [] (mH h m ν κ) 0 0 := by
              refine upTo (fun t ht ih => ?_) ?_
              · have keep : ¬ (nI t &&& (fr ^^^ -1) = 0 ∧ onesN (nI t) 9 < (cpN (μ 2) nc k fr t).2 ∧ μ 2 (38 + k) &&& (livesN (μ 2) (crewN (μ 2) (nI k) nc ||| nI t) nc ^^^ -1) = 0) → Wp E mX12_complete (Rm 7 0 0) (Qm E (pS h m (up2 μ 0 0 0) l (.int (if (cpN (μ 2) nc k fr (2 ^ nc)).1 = -1 ∨ w = 1 then (cpN (μ 2) nc k fr (2 ^ nc)).1 else (cpN (μ 2) nc k fr (2 ^ nc)).2))) 0 0) 159 [(0, .ref m), (1, .int (nI k)), (2, .int w), (3, .int fr), (4, .int (cpN (μ 2) nc k fr t).2), (5, .int (cpN (μ 2) nc k fr t).1), (6, .int (nI t))] [] (mH h m ν κ) 0 0 := by
                  intro hno
                  have e9 : cpN (μ 2) nc k fr (t + 1) = cpN (μ 2) nc k fr t := by rw [cpN, if_neg hno]
                  rw [e9] at ih
                  refine r_iconst (pc := 159) (0) dX12_complete_159 rfl ?_
                  refine r_istore (pc := 160) (lv' := [(0, _), (1, _), (2, _), (3, _), (4, _), (5, _), (6, _), (7, _)]) dX12_complete_160 (Nat.le_of_ble_eq_true rfl) rfl ?_
                  refine r_iload (pc := 162) 7 dX12_complete_162 rfl ?_
                  refine r_if_eq (pc := 164) (tgt := 172) dX12_complete_164 (by decide) (fun c_164 => ?_) (fun c_164 => ?_)
                  · refine r_iload (pc := 172) 5 dX12_complete_172 rfl ?_
                    refine r_istore (pc := 174) (lv' := [(0, _), (1, _), (2, _), (3, _), (4, _), (5, _), (6, _), (7, _)]) dX12_complete_174 (Nat.le_of_ble_eq_true rfl) rfl ?_
                    refine r_iload (pc := 176) 7 dX12_complete_176 rfl ?_
                    refine r_if_eq (pc := 178) (tgt := 189) dX12_complete_178 (by decide) (fun c_178 => ?_) (fun c_178 => ?_)
                    · refine r_iload (pc := 189) 4 dX12_complete_189 rfl ?_
                      refine r_istore (pc := 191) (lv' := [(0, _), (1, _), (2, _), (3, _), (4, _), (5, _), (6, _), (7, _)]) dX12_complete_191 (Nat.le_of_ble_eq_true rfl) rfl ?_
                      refine r_iinc (pc := 193) (v := _ + (1)) (lv' := [(0, _), (1, _), (2, _), (3, _), (4, _), (5, _), (6, _), (7, _)]) 6 dX12_complete_193 rfl rfl (Nat.le_of_ble_eq_true rfl) rfl ?_
                      refine r_goto (pc := 196) (tgt := 96) dX12_complete_196 (by decide) ?_
                      rw [nI_1]
                      refine r_sub [0, 1, 2, 3, 4, 5, 6] rfl ?_
                      exact ih
                    · exact absurd rfl c_178
                  · exact absurd rfl c_164
                refine r_iload (pc := 96) 6 dX12_complete_96 rfl ?_
                refine r_iconst (pc := 98) (1) dX12_complete_98 rfl ?_
                refine r_aload_n (pc := 99) 0 dX12_complete_99 rfl ?_
                refine q_getR (pc := 100) fl_X12_13 hm (md_f3 hm) dX12_complete_100 ?_
                refine r_iconst (pc := 103) (0) dX12_complete_103 rfl ?_
                refine q_iald (pc := 104) (j := 0) (md_r3 hm) (by decide) rfl (by decide) (by decide) dX12_complete_104 ?_
                refine r_ishl (pc := 105) dX12_complete_105 ?_
                refine r_icmp_ge (pc := 106) (tgt := 199) dX12_complete_106 (by decide) (fun c_106 => ?_) (fun c_106 => ?_)
                · rw [e1n] at c_106
                  exact absurd c_106 (nI_ge ht (by omega))
                · refine r_iload (pc := 109) 6 dX12_complete_109 rfl ?_
                  refine r_iload_n (pc := 111) 3 dX12_complete_111 rfl ?_
                  refine r_iconst (pc := 112) (-1) dX12_complete_112 rfl ?_
                  refine r_ixor (pc := 113) dX12_complete_113 ?_
                  refine r_iand (pc := 114) dX12_complete_114 ?_
                  refine r_if_ne (pc := 115) (tgt := 159) dX12_complete_115 (by decide) (fun c_115 => ?_) (fun c_115 => ?_)
                  · exact keep (fun z => c_115 z.1)
                  · refine r_iload (pc := 118) 6 dX12_complete_118 rfl ?_
                    refine r_dS (pc := 120) (As := [_]) ms_X12_ones ml_X12_190 (ct_ones _) rfl rfl (Nat.le_of_ble_eq_true rfl) (Nat.le_of_ble_eq_true rfl) (Nat.le_of_ble_eq_true rfl) (Nat.le_of_ble_eq_true rfl) (Nat.le_of_ble_eq_true rfl) dX12_complete_120 ?_
                    refine r_iload (pc := 123) 4 dX12_complete_123 rfl ?_
                    refine r_icmp_ge (pc := 125) (tgt := 159) dX12_complete_125 (by decide) (fun c_125 => ?_) (fun c_125 => ?_)
                    · exact keep (fun z => Int32.not_le.mpr z.2.1 c_125)
                    · refine r_aload_n (pc := 128) 0 dX12_complete_128 rfl ?_
                      refine q_getR (pc := 129) fl_X12_13 hm (md_f3 hm) dX12_complete_129 ?_
                      refine r_bipush (pc := 132) (38) dX12_complete_132 rfl ?_
                      refine r_iload_n (pc := 134) 1 dX12_complete_134 rfl ?_
                      refine r_iadd (pc := 135) dX12_complete_135 ?_
                      refine q_iald (pc := 136) (j := 38 + k) (md_r3 hm) (by decide) (by simp only [fa_lit, nI_add, nI_mul]) (by omega) (by decide) dX12_complete_136 ?_
                      refine r_aload_n (pc := 137) 0 dX12_complete_137 rfl ?_
                      refine r_aload_n (pc := 138) 0 dX12_complete_138 rfl ?_
                      refine r_iload_n (pc := 139) 1 dX12_complete_139 rfl ?_
                      refine r_dV (pc := 140) (As := [_]) mv_X12_crewOf ml_X12_231 (ct_crewOf hm _ (by rw [e2]; exact hnc) h6) (q_is hm) rfl rfl (Nat.le_of_ble_eq_true rfl) (Nat.le_of_ble_eq_true rfl) (Nat.le_of_ble_eq_true rfl) (Nat.le_of_ble_eq_true rfl) (Nat.le_of_ble_eq_true rfl) dX12_complete_140 ?_
                      refine r_iload (pc := 143) 6 dX12_complete_143 rfl ?_
                      refine r_ior (pc := 145) dX12_complete_145 ?_
                      refine r_dV (pc := 146) (As := [_]) mv_X12_livesOf ml_X12_234 (ct_livesOf hm _ (by rw [e2]; exact hnc) h6) (q_is hm) rfl rfl (Nat.le_of_ble_eq_true rfl) (Nat.le_of_ble_eq_true rfl) (Nat.le_of_ble_eq_true rfl) (Nat.le_of_ble_eq_true rfl) (Nat.le_of_ble_eq_true rfl) dX12_complete_146 ?_
                      refine r_iconst (pc := 149) (-1) dX12_complete_149 rfl ?_
                      refine r_ixor (pc := 150) dX12_complete_150 ?_
                      refine r_iand (pc := 151) dX12_complete_151 ?_
                      refine r_if_ne (pc := 152) (tgt := 159) dX12_complete_152 (by decide) (fun c_152 => ?_) (fun c_152 => ?_)
                      · rw [e2] at c_152
                        exact keep (fun z => c_152 z.2.2)
                      · rw [e2] at c_152
                        have e9 : cpN (μ 2) nc k fr (t + 1) = (nI t, onesN (nI t) 9) := by rw [cpN, if_pos ⟨c_115, Int32.not_le.mp c_125, c_152⟩]
                        rw [e9] at ih
                        refine r_iconst (pc := 155) (1) dX12_complete_155 rfl ?_
                        refine r_goto (pc := 156) (tgt := 160) dX12_complete_156 (by decide) ?_
                        refine r_istore (pc := 160) (lv' := [(0, _), (1, _), (2, _), (3, _), (4, _), (5, _), (6, _), (7, _)]) dX12_complete_160 (Nat.le_of_ble_eq_true rfl) rfl ?_
                        refine r_iload (pc := 162) 7 dX12_complete_162 rfl ?_
                        refine r_if_eq (pc := 164) (tgt := 172) dX12_complete_164 (by decide) (fun c_164 => ?_) (fun c_164 => ?_)
                        · exact absurd c_164 (by decide)
                        · refine r_iload (pc := 167) 6 dX12_complete_167 rfl ?_
                          refine r_goto (pc := 169) (tgt := 174) dX12_complete_169 (by decide) ?_
                          refine r_istore (pc := 174) (lv' := [(0, _), (1, _), (2, _), (3, _), (4, _), (5, _), (6, _), (7, _)]) dX12_complete_174 (Nat.le_of_ble_eq_true rfl) rfl ?_
                          refine r_iload (pc := 176) 7 dX12_complete_176 rfl ?_
                          refine r_if_eq (pc := 178) (tgt := 189) dX12_complete_178 (by decide) (fun c_178 => ?_) (fun c_178 => ?_)
                          · exact absurd c_178 (by decide)
                          · refine r_iload (pc := 181) 6 dX12_complete_181 rfl ?_
                            refine r_dS (pc := 183) (As := [_]) ms_X12_ones ml_X12_190 (ct_ones _) rfl rfl (Nat.le_of_ble_eq_true rfl) (Nat.le_of_ble_eq_true rfl) (Nat.le_of_ble_eq_true rfl) (Nat.le_of_ble_eq_true rfl) (Nat.le_of_ble_eq_true rfl) dX12_complete_183 ?_
                            refine r_goto (pc := 186) (tgt := 191) dX12_complete_186 (by decide) ?_
                            refine r_istore (pc := 191) (lv' := [(0, _), (1, _), (2, _), (3, _), (4, _), (5, _), (6, _), (7, _)]) dX12_complete_191 (Nat.le_of_ble_eq_true rfl) rfl ?_
                            refine r_iinc (pc := 193) (v := _ + (1)) (lv' := [(0, _), (1, _), (2, _), (3, _), (4, _), (5, _), (6, _), (7, _)]) 6 dX12_complete_193 rfl rfl (Nat.le_of_ble_eq_true rfl) rfl ?_
                            refine r_goto (pc := 196) (tgt := 96) dX12_complete_196 (by decide) ?_
                            rw [nI_1]
                            refine r_sub [0, 1, 2, 3, 4, 5, 6] rfl ?_
                            exact ih
              · refine r_iload (pc := 96) 6 dX12_complete_96 rfl ?_
                refine r_iconst (pc := 98) (1) dX12_complete_98 rfl ?_
                refine r_aload_n (pc := 99) 0 dX12_complete_99 rfl ?_
                refine q_getR (pc := 100) fl_X12_13 hm (md_f3 hm) dX12_complete_100 ?_
                refine r_iconst (pc := 103) (0) dX12_complete_103 rfl ?_
                refine q_iald (pc := 104) (j := 0) (md_r3 hm) (by decide) rfl (by decide) (by decide) dX12_complete_104 ?_
                refine r_ishl (pc := 105) dX12_complete_105 ?_
                refine r_icmp_ge (pc := 106) (tgt := 199) dX12_complete_106 (by decide) (fun c_106 => ?_) (fun c_106 => ?_)
                · refine r_iload (pc := 199) 5 dX12_complete_199 rfl ?_
                  refine r_iconst (pc := 201) (-1) dX12_complete_201 rfl ?_
                  refine r_icmp_eq (pc := 202) (tgt := 210) dX12_complete_202 (by decide) (fun c_202 => ?_) (fun c_202 => ?_)
                  · refine r_iload (pc := 210) 5 dX12_complete_210 rfl ?_
                    refine r_goto (pc := 212) (tgt := 217) dX12_complete_212 (by decide) ?_
                    refine r_iret (pc := 217) rfl ?_ (Nat.le_of_ble_eq_true rfl) (Nat.le_of_ble_eq_true rfl) dX12_complete_217
                    exact ⟨ν, κ, rfl, hS, by rw [if_pos (Or.inl c_202)]⟩
                  · refine r_iload_n (pc := 205) 2 dX12_complete_205 rfl ?_
                    refine r_iconst (pc := 206) (1) dX12_complete_206 rfl ?_
                    refine r_icmp_ne (pc := 207) (tgt := 215) dX12_complete_207 (by decide) (fun c_207 => ?_) (fun c_207 => ?_)
                    · refine r_iload (pc := 215) 4 dX12_complete_215 rfl ?_
                      refine r_iret (pc := 217) rfl ?_ (Nat.le_of_ble_eq_true rfl) (Nat.le_of_ble_eq_true rfl) dX12_complete_217
                      exact ⟨ν, κ, rfl, hS, by rw [if_neg (fun z => z.elim c_202 c_207)]⟩
                    · refine r_iload (pc := 210) 5 dX12_complete_210 rfl ?_
                      refine r_goto (pc := 212) (tgt := 217) dX12_complete_212 (by decide) ?_
                      refine r_iret (pc := 217) rfl ?_ (Nat.le_of_ble_eq_true rfl) (Nat.le_of_ble_eq_true rfl) dX12_complete_217
                      exact ⟨ν, κ, rfl, hS, by rw [if_pos (Or.inr c_207)]⟩
                · exact absurd (by rw [e1n]; exact Int32.le_refl _) c_106
            exact sets 0 (Nat.zero_le _)
          · exact absurd (by rw [e2, hnc]; exact Int32.le_refl _) c_49
      exact free 0 (by omega)
    · rw [show decide _ = inN w 2 from in_lit (b := 1) (n := 1) (by decide)] at c_20
      exact no (fun z => by rw [bI_0.mp c_20] at z; exact absurd z.2 (by decide))
/-- what giveBack lays: the terms and cats out of row 17, what can be undone out of its copy -/
def gbU (μ : Mu) (i : Nat) : Mu := fun o j => if o = 5 ∧ j < i then μ 7 j else μ o j
def gbS (μ : Mu) (i : Nat) : Mu := fun o j => if o = 6 ∧ j < i then μ 8 j else μ o j
theorem gbU_s (μ : Mu) (i : Nat) : up2 (gbU μ i) 5 i (gbU μ i 7 i) = gbU μ (i + 1) := by
  have e : gbU μ i 7 i = μ 7 i := by unfold gbU; rw [if_neg (by omega)]
  rw [e]; funext o j; unfold up2 gbU
  by_cases h1 : o = 5 ∧ j = i
  · obtain ⟨rfl, rfl⟩ := h1; rw [if_pos ⟨rfl, rfl⟩, if_pos ⟨rfl, by omega⟩]
  · rw [if_neg h1]
    by_cases h2 : o = 5 ∧ j < i
    · rw [if_pos h2, if_pos ⟨h2.1, by omega⟩]
    · rw [if_neg h2, if_neg (by omega)]
theorem gbS_s (μ : Mu) (i : Nat) : up2 (gbS μ i) 6 i (gbS μ i 8 i) = gbS μ (i + 1) := by
  have e : gbS μ i 8 i = μ 8 i := by unfold gbS; rw [if_neg (by omega)]
  rw [e]; funext o j; unfold up2 gbS
  by_cases h1 : o = 6 ∧ j = i
  · obtain ⟨rfl, rfl⟩ := h1; rw [if_pos ⟨rfl, rfl⟩, if_pos ⟨rfl, by omega⟩]
  · rw [if_neg h1]
    by_cases h2 : o = 6 ∧ j < i
    · rw [if_pos h2, if_pos ⟨h2.1, by omega⟩]
    · rw [if_neg h2, if_neg (by omega)]
def giveM (μ : Mu) (before : Int32) : Mu := up2 (gbS (gbU (backN μ 17 33) 528) 16) 0 8 before
theorem ct_giveBack (hm : Md E h m) (before : Int32) : Ct E 1 0 0 mX12_giveBack [.ref m, .int before] (mH h m μ l) (po none (mH h m (giveM μ before) l)) := by
  refine Ct.of (by decide +kernel) (Nat.le_of_ble_eq_true rfl) ?_
  refine r_aload_n (pc := 0) 0 dX12_giveBack_0 rfl ?_
  refine r_bipush (pc := 1) (17) dX12_giveBack_1 rfl ?_
  refine r_dV0 (pc := 3) (As := [_]) mv_X12_putBack ml_X12_178 (ct_putBack hm 17 (by decide)) (q_is hm) rfl rfl (Nat.le_of_ble_eq_true rfl) (Nat.le_of_ble_eq_true rfl) (Nat.le_of_ble_eq_true rfl) (Nat.le_of_ble_eq_true rfl) (Nat.le_of_ble_eq_true rfl) dX12_giveBack_3 ?_
  refine r_iconst (pc := 6) (0) dX12_giveBack_6 rfl ?_
  refine r_istore_n (pc := 7) (lv' := [(0, _), (1, _), (2, _)]) dX12_giveBack_7 (Nat.le_of_ble_eq_true rfl) rfl ?_
  unfold giveM
  generalize backN μ 17 33 = ν
  have second : ∀ a, a ≤ 16 → Wp E mX12_giveBack (Rm 1 0 0) (Qm E (po none (mH h m (up2 (gbS (gbU ν 528) 16) 0 8 before) l)) 0 0) 35 [(0, .ref m), (1, .int before), (2, .int (nI a))] [] (mH h m (gbS (gbU ν 528) a) l) 0 0 := by
    refine upTo (fun a ha ih => ?_) ?_
    · refine r_iload_n (pc := 35) 2 dX12_giveBack_35 rfl ?_
      refine r_bipush (pc := 36) (16) dX12_giveBack_36 rfl ?_
      refine r_icmp_ge (pc := 38) (tgt := 59) dX12_giveBack_38 (by decide) (fun c_38 => ?_) (fun c_38 => ?_)
      · exact absurd c_38 (nI_ge (b := 16) ha (by decide))
      · refine r_aload_n (pc := 41) 0 dX12_giveBack_41 rfl ?_
        refine q_getR (pc := 42) fl_X12_26 hm (md_f7 hm) dX12_giveBack_42 ?_
        refine r_iload_n (pc := 45) 2 dX12_giveBack_45 rfl ?_
        refine r_aload_n (pc := 46) 0 dX12_giveBack_46 rfl ?_
        refine q_getR (pc := 47) fl_X12_32 hm (md_f10 hm) dX12_giveBack_47 ?_
        refine r_iload_n (pc := 50) 2 dX12_giveBack_50 rfl ?_
        refine q_iald (pc := 51) (j := a) (md_r10 hm) (by decide) rfl (by omega) (by decide) dX12_giveBack_51 ?_
        refine q_iast (pc := 52) (j := a) (md_r7 hm) (by decide) rfl (by omega) (by decide) dX12_giveBack_52 ?_
        refine r_iinc (pc := 53) (v := _ + (1)) (lv' := [(0, _), (1, _), (2, _)]) 2 dX12_giveBack_53 rfl rfl (Nat.le_of_ble_eq_true rfl) rfl ?_
        refine r_goto (pc := 56) (tgt := 35) dX12_giveBack_56 (by decide) ?_
        rw [nI_1, gbS_s]; exact ih
    · refine r_iload_n (pc := 35) 2 dX12_giveBack_35 rfl ?_
      refine r_bipush (pc := 36) (16) dX12_giveBack_36 rfl ?_
      refine r_icmp_ge (pc := 38) (tgt := 59) dX12_giveBack_38 (by decide) (fun c_38 => ?_) (fun c_38 => ?_)
      · refine r_aload_n (pc := 59) 0 dX12_giveBack_59 rfl ?_
        refine r_iload_n (pc := 60) 1 dX12_giveBack_60 rfl ?_
        refine q_putI (pc := 61) fp_X12_167 hm dX12_giveBack_61 ?_
        refine r_vret (pc := 64) rfl ?_ (Nat.le_of_ble_eq_true rfl) (Nat.le_of_ble_eq_true rfl) dX12_giveBack_64
        exact ⟨rfl, rfl⟩
      · exact absurd (show (16 : Int32) ≤ nI 16 by decide) c_38
  have first : ∀ a, a ≤ 528 → Wp E mX12_giveBack (Rm 1 0 0) (Qm E (po none (mH h m (up2 (gbS (gbU ν 528) 16) 0 8 before) l)) 0 0) 8 [(0, .ref m), (1, .int before), (2, .int (nI a))] [] (mH h m (gbU ν a) l) 0 0 := by
    refine upTo (fun a ha ih => ?_) ?_
    · refine r_iload_n (pc := 8) 2 dX12_giveBack_8 rfl ?_
      refine r_sipush (pc := 9) (528) dX12_giveBack_9 rfl ?_
      refine r_icmp_ge (pc := 12) (tgt := 33) dX12_giveBack_12 (by decide) (fun c_12 => ?_) (fun c_12 => ?_)
      · exact absurd c_12 (nI_ge (b := 528) ha (by decide))
      · refine r_aload_n (pc := 15) 0 dX12_giveBack_15 rfl ?_
        refine q_getR (pc := 16) fl_X12_23 hm (md_f6 hm) dX12_giveBack_16 ?_
        refine r_iload_n (pc := 19) 2 dX12_giveBack_19 rfl ?_
        refine r_aload_n (pc := 20) 0 dX12_giveBack_20 rfl ?_
        refine q_getR (pc := 21) fl_X12_29 hm (md_f9 hm) dX12_giveBack_21 ?_
        refine r_iload_n (pc := 24) 2 dX12_giveBack_24 rfl ?_
        refine q_iald (pc := 25) (j := a) (md_r9 hm) (by decide) rfl (by omega) (by decide) dX12_giveBack_25 ?_
        refine q_iast (pc := 26) (j := a) (md_r6 hm) (by decide) rfl (by omega) (by decide) dX12_giveBack_26 ?_
        refine r_iinc (pc := 27) (v := _ + (1)) (lv' := [(0, _), (1, _), (2, _)]) 2 dX12_giveBack_27 rfl rfl (Nat.le_of_ble_eq_true rfl) rfl ?_
        refine r_goto (pc := 30) (tgt := 8) dX12_giveBack_30 (by decide) ?_
        rw [nI_1, gbU_s]; exact ih
    · refine r_iload_n (pc := 8) 2 dX12_giveBack_8 rfl ?_
      refine r_sipush (pc := 9) (528) dX12_giveBack_9 rfl ?_
      refine r_icmp_ge (pc := 12) (tgt := 33) dX12_giveBack_12 (by decide) (fun c_12 => ?_) (fun c_12 => ?_)
      · refine r_iconst (pc := 33) (0) dX12_giveBack_33 rfl ?_
        refine r_istore_n (pc := 34) (lv' := [(0, _), (1, _), (2, _)]) dX12_giveBack_34 (Nat.le_of_ble_eq_true rfl) rfl ?_
        have h0 := second 0 (by omega)
        rw [show gbS (gbU ν 528) 0 = gbU ν 528 by funext o j; unfold gbS; rw [if_neg (by omega)]] at h0
        exact h0
      · exact absurd (show (528 : Int32) ≤ nI 528 by decide) c_12
  have h0 := first 0 (by omega)
  rw [show gbU ν 0 = ν by funext o j; unfold gbU; rw [if_neg (by omega)]] at h0
  exact h0
end MODELG
