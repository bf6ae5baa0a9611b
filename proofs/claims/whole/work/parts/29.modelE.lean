/-! the reference: next, likely -/
section MODELE
variable {E : En} {h : Hp} {m : Nat} {μ : Mu} {l : La}
def nxN (f : Nat → Int64) (y : Nat) : Nat → Int32 × Int64
  | 0 => (-1, -1)
  | k + 1 => if y.testBit k = true ∧ (nxN f y k).2 < f (9 * (y - 2 ^ k) + k) then (nI k, f (9 * (y - 2 ^ k) + k)) else nxN f y k
theorem nxN_cong {f g : Nat → Int64} {y : Nat} (hy : y < 511) (hfg : ∀ i, i < 4599 → f i = g i) : ∀ k, k ≤ 9 → nxN f y k = nxN g y k
  | 0, _ => rfl
  | k + 1, hk => by
    rw [nxN, nxN, nxN_cong hy hfg k (by omega)]
    by_cases hb : y.testBit k = true
    · have h2 := bit_le hb
      have hp : 1 ≤ 2 ^ k := Nat.one_le_two_pow
      rw [hfg (9 * (y - 2 ^ k) + k) (by omega)]
    · rw [if_neg (fun z => hb z.1), if_neg (fun z => hb z.1)]
def nextF (r : Nat → Int32) (fo : Option (List Cl)) (nc : Nat) (c n : Int32) : Int32 := if inN c nc = true ∧ inN n 10 = true ∧ aliveF r c.toNatClampNeg = true then (nxN (HN (eT r fo c.toNatClampNeg) (dT r fo c.toNatClampNeg) n.toNatClampNeg) (r (14 + c.toNatClampNeg)).toNatClampNeg 9).1 else -1
theorem ct_mnext (hm : Md E h m) {fo : Option (List Cl)} {nc ns : Nat} (hx : Mx μ fo nc ns) (hcat : ∀ k, k < nc → CatOK (μ 2) k) (c n : Int32) : Ct E 7 0 0 mX12_next [.ref m, .int c, .int n] (mH h m μ l) (pY h m (up2 μ 0 0 0) l (.int (nextF (μ 2) fo nc c n))) := by
  have h6 := hx.2.2.2.1
  refine Ct.of (by decide +kernel) (Nat.le_of_ble_eq_true rfl) ?_
  have no : ¬ (inN c nc = true ∧ inN n 10 = true ∧ aliveF (μ 2) c.toNatClampNeg = true) → Wp E mX12_next (Rm 7 0 0) (Qm E (pY h m (up2 μ 0 0 0) l (.int (nextF (μ 2) fo nc c n))) 0 0) 33 [(0, .ref m), (1, .int c), (2, .int n)] [] (mH h m (up2 μ 0 0 0) l) 0 0 := by
    intro hno
    refine r_iconst (pc := 33) (-1) dX12_next_33 rfl ?_
    refine r_iret (pc := 34) rfl ?_ (Nat.le_of_ble_eq_true rfl) (Nat.le_of_ble_eq_true rfl) dX12_next_34
    exact ⟨_, _, Sx.rf, rfl, by rw [nextF, if_neg hno]⟩
  refine r_aload_n (pc := 0) 0 dX12_next_0 rfl ?_
  refine r_iconst (pc := 1) (0) dX12_next_1 rfl ?_
  refine q_putI (pc := 2) fp_X12_161 hm dX12_next_2 ?_
  refine r_aload_n (pc := 5) 0 dX12_next_5 rfl ?_
  refine r_iload_n (pc := 6) 1 dX12_next_6 rfl ?_
  refine r_dV (pc := 7) (As := [_]) mv_X12_isCat ml_X12_210 (ct_isCat hm c (by rw [th_2]; exact hx.2.2.1) (by omega)) (q_is hm) rfl rfl (Nat.le_of_ble_eq_true rfl) (Nat.le_of_ble_eq_true rfl) (Nat.le_of_ble_eq_true rfl) (Nat.le_of_ble_eq_true rfl) (Nat.le_of_ble_eq_true rfl) dX12_next_7 ?_
  refine r_if_eq (pc := 10) (tgt := 33) dX12_next_10 (by decide) (fun c_10 => ?_) (fun c_10 => ?_)
  · exact no (fun z => by rw [bI_0.mp c_10] at z; exact absurd z.1 (by decide))
  · refine r_iload_n (pc := 13) 2 dX12_next_13 rfl ?_
    refine r_i2l (pc := 14) dX12_next_14 ?_
    refine r_lconst (pc := 15) (0) dX12_next_15 rfl ?_
    refine r_ldc2_w (pc := 16) cs_X12_204 dX12_next_16 ?_
    refine r_dS (pc := 19) (As := [_, _, _]) ms_X12_in ml_X12_181 (ct_in _ _ _) rfl rfl (Nat.le_of_ble_eq_true rfl) (Nat.le_of_ble_eq_true rfl) (Nat.le_of_ble_eq_true rfl) (Nat.le_of_ble_eq_true rfl) (Nat.le_of_ble_eq_true rfl) dX12_next_19 ?_
    refine r_if_eq (pc := 22) (tgt := 33) dX12_next_22 (by decide) (fun c_22 => ?_) (fun c_22 => ?_)
    · rw [show decide _ = inN n 10 from in_lit (b := 9) (n := 9) (by decide)] at c_22
      exact no (fun z => by rw [bI_0.mp c_22] at z; exact absurd z.2.1 (by decide))
    · rw [show decide _ = inN n 10 from in_lit (b := 9) (n := 9) (by decide)] at c_22
      have hc := bI_n0.mp c_10
      have hn := bI_n0.mp c_22
      obtain ⟨k, hk, rfl⟩ := inN_of (by omega) hc
      obtain ⟨w, hw, rfl⟩ := inN_of (by decide) hn
      refine r_aload_n (pc := 25) 0 dX12_next_25 rfl ?_
      refine r_iload_n (pc := 26) 1 dX12_next_26 rfl ?_
      refine r_dV (pc := 27) (As := [_]) mv_X12_isAlive ml_X12_193 (ct_isAlive hm k (by omega)) (q_is hm) rfl rfl (Nat.le_of_ble_eq_true rfl) (Nat.le_of_ble_eq_true rfl) (Nat.le_of_ble_eq_true rfl) (Nat.le_of_ble_eq_true rfl) (Nat.le_of_ble_eq_true rfl) dX12_next_27 ?_
      refine r_if_ne (pc := 30) (tgt := 35) dX12_next_30 (by decide) (fun c_30 => ?_) (fun c_30 => ?_)
      · rw [th_2] at c_30
        have hal := bI_n0.mp c_30
        rw [nextF, if_pos ⟨hc, hn, by rw [nI_clamp (by omega)]; exact hal⟩, nI_clamp (by omega), nI_clamp (by omega)]
        obtain ⟨hlife, y, hy, ey, hyb⟩ := hcat k hk
        obtain ⟨li, hli, eli⟩ : ∃ li, li < 9 ∧ μ 2 (8 + k) = nI li := hlife.resolve_left (of_decide_eq_true hal)
        have hy1 := yet511 (r := μ 2) (k := k) hy hli (hyb li hli eli)
        rw [ey, nI_clamp (by omega)]
        have hlh := ct_layHad (μ := up2 μ 0 0 0) (l := l) (k := k) (n := w) hm (mx_th hx) (by omega) (by omega)
        rw [th_2] at hlh
        refine r_aload_n (pc := 35) 0 dX12_next_35 rfl ?_
        refine r_iload_n (pc := 36) 1 dX12_next_36 rfl ?_
        refine r_iload_n (pc := 37) 2 dX12_next_37 rfl ?_
        refine r_callV (pc := 38) (As := [_, _]) mv_X12_layHad ml_X12_475 (hlh) (q_is hm) rfl rfl (Nat.le_of_ble_eq_true rfl) (Nat.le_of_ble_eq_true rfl) (Nat.le_of_ble_eq_true rfl) (Nat.le_of_ble_eq_true rfl) (Nat.le_of_ble_eq_true rfl) dX12_next_38 (fun r h1 hp => ?_)
        obtain ⟨ν, κ, hS, rfl, rfl, hF⟩ := hp
        have e2 : ν 2 = μ 2 := hS.row.trans (th_2 μ)
        show Wp E mX12_next _ _ _ _ [] _ 0 0
        refine r_aload_n (pc := 41) 0 dX12_next_41 rfl ?_
        refine q_getR (pc := 42) fl_X12_13 hm (md_f3 hm) dX12_next_42 ?_
        refine r_bipush (pc := 45) (14) dX12_next_45 rfl ?_
        refine r_iload_n (pc := 47) 1 dX12_next_47 rfl ?_
        refine r_iadd (pc := 48) dX12_next_48 ?_
        refine q_iald (pc := 49) (j := 14 + k) (md_r3 hm) (by decide) (by simp only [fa_lit, nI_add, nI_mul]) (by omega) (by decide) dX12_next_49 ?_
        refine r_istore_n (pc := 50) (lv' := [(0, _), (1, _), (2, _), (3, _)]) dX12_next_50 (Nat.le_of_ble_eq_true rfl) rfl ?_
        refine r_iconst (pc := 51) (-1) dX12_next_51 rfl ?_
        refine r_istore (pc := 52) (lv' := [(0, _), (1, _), (2, _), (3, _), (4, _)]) dX12_next_52 (Nat.le_of_ble_eq_true rfl) rfl ?_
        refine r_ldc2_w (pc := 54) cs_X12_287 dX12_next_54 ?_
        refine r_lstore (pc := 57) (lv' := [(0, _), (1, _), (2, _), (3, _), (4, _), (5, _)]) dX12_next_57 (Nat.le_of_ble_eq_true rfl) rfl ?_
        refine r_iconst (pc := 59) (0) dX12_next_59 rfl ?_
        refine r_istore (pc := 60) (lv' := [(0, _), (1, _), (2, _), (3, _), (4, _), (5, _), (7, _)]) dX12_next_60 (Nat.le_of_ble_eq_true rfl) rfl ?_
        rw [e2, ey, ← nxN_cong hy1 hF 9 (by omega)]
        have loop : ∀ a, a ≤ 9 → Wp E mX12_next (Rm 7 0 0) (Qm E (pY h m (up2 μ 0 0 0) l (.int (nxN (κ 24) y 9).1)) 0 0) 62 [(0, .ref m), (1, .int (nI k)), (2, .int (nI w)), (3, .int (nI y)), (4, .int (nxN (κ 24) y a).1), (5, .long (nxN (κ 24) y a).2), (7, .int (nI a))] [] (mH h m ν κ) 0 0 := by
          refine upTo (fun a ha ih => ?_) ?_
          · refine r_iload (pc := 62) 6 dX12_next_62 rfl ?_
            refine r_bipush (pc := 64) (9) dX12_next_64 rfl ?_
            refine r_icmp_ge (pc := 66) (tgt := 130) dX12_next_66 (by decide) (fun c_66 => ?_) (fun c_66 => ?_)
            · exact absurd c_66 (nI_ge (b := 9) ha (by decide))
            · refine r_iload_n (pc := 69) 3 dX12_next_69 rfl ?_
              refine r_iload (pc := 70) 6 dX12_next_70 rfl ?_
              refine r_dS (pc := 72) (As := [_, _]) ms_X12_is ml_X12_197 (ct_is _ _) rfl rfl (Nat.le_of_ble_eq_true rfl) (Nat.le_of_ble_eq_true rfl) (Nat.le_of_ble_eq_true rfl) (Nat.le_of_ble_eq_true rfl) (Nat.le_of_ble_eq_true rfl) dX12_next_72 ?_
              refine r_if_eq (pc := 75) (tgt := 124) dX12_next_75 (by decide) (fun c_75 => ?_) (fun c_75 => ?_)
              · rw [isB9 y hy a ha] at c_75
                have e9 : nxN (κ 24) y (a + 1) = nxN (κ 24) y a := by rw [nxN, if_neg (fun z => by rw [bI_0.mp c_75] at z; exact absurd z.1 (by decide))]
                rw [e9] at ih
                refine r_iinc (pc := 124) (v := _ + (1)) (lv' := [(0, _), (1, _), (2, _), (3, _), (4, _), (5, _), (7, _)]) 6 dX12_next_124 rfl rfl (Nat.le_of_ble_eq_true rfl) rfl ?_
                refine r_goto (pc := 127) (tgt := 62) dX12_next_127 (by decide) ?_
                rw [nI_1]; exact ih
              · rw [isB9 y hy a ha] at c_75
                have hb := bI_n0.mp c_75
                have h2 := bit_le hb
                have hp1 : 1 ≤ 2 ^ a := Nat.one_le_two_pow
                refine r_aload_n (pc := 78) 0 dX12_next_78 rfl ?_
                refine q_getR (pc := 79) fl_X12_117 hm (md_f44 hm) dX12_next_79 ?_
                refine r_bipush (pc := 82) (9) dX12_next_82 rfl ?_
                refine r_iload_n (pc := 84) 3 dX12_next_84 rfl ?_
                refine r_iconst (pc := 85) (1) dX12_next_85 rfl ?_
                refine r_iload (pc := 86) 6 dX12_next_86 rfl ?_
                refine r_ishl (pc := 88) dX12_next_88 ?_
                refine r_isub (pc := 89) dX12_next_89 ?_
                refine r_imul (pc := 90) dX12_next_90 ?_
                refine r_iload (pc := 91) 6 dX12_next_91 rfl ?_
                refine r_iadd (pc := 93) dX12_next_93 ?_
                refine q_lald (pc := 94) (j := 9 * (y - 2 ^ a) + a) (md_r44 hm) (by decide) (by rw [sh9 a ha, nI_sub h2]; simp only [fa_lit, nI_add, nI_mul]) (by omega) (by decide) dX12_next_94 ?_
                refine r_lload (pc := 95) 5 dX12_next_95 rfl ?_
                refine r_lcmp_le (pc := 97) (tgt := 124) dX12_next_97 dX12_next_98 (by decide) (fun c_97 => ?_) (fun c_97 => ?_)
                · have e9 : nxN (κ 24) y (a + 1) = nxN (κ 24) y a := by rw [nxN, if_neg (fun z => Int64.not_lt.mpr c_97 z.2)]
                  rw [e9] at ih
                  refine r_iinc (pc := 124) (v := _ + (1)) (lv' := [(0, _), (1, _), (2, _), (3, _), (4, _), (5, _), (7, _)]) 6 dX12_next_124 rfl rfl (Nat.le_of_ble_eq_true rfl) rfl ?_
                  refine r_goto (pc := 127) (tgt := 62) dX12_next_127 (by decide) ?_
                  rw [nI_1]; exact ih
                · have e9 : nxN (κ 24) y (a + 1) = (nI a, κ 24 (9 * (y - 2 ^ a) + a)) := by rw [nxN, if_pos ⟨hb, Int64.not_le.mp c_97⟩]
                  rw [e9] at ih
                  refine r_aload_n (pc := 101) 0 dX12_next_101 rfl ?_
                  refine q_getR (pc := 102) fl_X12_117 hm (md_f44 hm) dX12_next_102 ?_
                  refine r_bipush (pc := 105) (9) dX12_next_105 rfl ?_
                  refine r_iload_n (pc := 107) 3 dX12_next_107 rfl ?_
                  refine r_iconst (pc := 108) (1) dX12_next_108 rfl ?_
                  refine r_iload (pc := 109) 6 dX12_next_109 rfl ?_
                  refine r_ishl (pc := 111) dX12_next_111 ?_
                  refine r_isub (pc := 112) dX12_next_112 ?_
                  refine r_imul (pc := 113) dX12_next_113 ?_
                  refine r_iload (pc := 114) 6 dX12_next_114 rfl ?_
                  refine r_iadd (pc := 116) dX12_next_116 ?_
                  refine q_lald (pc := 117) (j := 9 * (y - 2 ^ a) + a) (md_r44 hm) (by decide) (by rw [sh9 a ha, nI_sub h2]; simp only [fa_lit, nI_add, nI_mul]) (by omega) (by decide) dX12_next_117 ?_
                  refine r_lstore (pc := 118) (lv' := [(0, _), (1, _), (2, _), (3, _), (4, _), (5, _), (7, _)]) dX12_next_118 (Nat.le_of_ble_eq_true rfl) rfl ?_
                  refine r_iload (pc := 120) 6 dX12_next_120 rfl ?_
                  refine r_istore (pc := 122) (lv' := [(0, _), (1, _), (2, _), (3, _), (4, _), (5, _), (7, _)]) dX12_next_122 (Nat.le_of_ble_eq_true rfl) rfl ?_
                  refine r_iinc (pc := 124) (v := _ + (1)) (lv' := [(0, _), (1, _), (2, _), (3, _), (4, _), (5, _), (7, _)]) 6 dX12_next_124 rfl rfl (Nat.le_of_ble_eq_true rfl) rfl ?_
                  refine r_goto (pc := 127) (tgt := 62) dX12_next_127 (by decide) ?_
                  rw [nI_1]; exact ih
          · refine r_iload (pc := 62) 6 dX12_next_62 rfl ?_
            refine r_bipush (pc := 64) (9) dX12_next_64 rfl ?_
            refine r_icmp_ge (pc := 66) (tgt := 130) dX12_next_66 (by decide) (fun c_66 => ?_) (fun c_66 => ?_)
            · refine r_iload (pc := 130) 4 dX12_next_130 rfl ?_
              refine r_iret (pc := 132) rfl ?_ (Nat.le_of_ble_eq_true rfl) (Nat.le_of_ble_eq_true rfl) dX12_next_132
              exact ⟨ν, κ, hS, rfl, rfl⟩
            · exact absurd (show (9 : Int32) ≤ nI 9 by decide) c_66
        exact loop 0 (by omega)
      · rw [th_2] at c_30
        exact no (fun z => by rw [nI_clamp (by omega), bI_0.mp c_30] at z; exact absurd z.2.2 (by decide))
/-- what is dared at each life in turn, and how many there are, among the lowest k lives -/
def dgN (r : Nat → Int32) (fo : Option (List Cl)) (c y : Nat) : Nat → Nat × (Nat → Int32)
  | 0 => (1, va_up (fun _ => 0) 0 (dareF r fo c (r (8 + c)) (spentF r c)))
  | k + 1 => if y.testBit k = true then ((dgN r fo c y k).1 + 1, va_up (dgN r fo c y k).2 (dgN r fo c y k).1 (dareF r fo c (nI k) (spentF r c + nI (dgN r fo c y k).1))) else dgN r fo c y k
theorem dgN_pc {r : Nat → Int32} {fo : Option (List Cl)} {c y : Nat} : ∀ k, (dgN r fo c y k).1 = 1 + pcN y k
  | 0 => rfl
  | k + 1 => by
    rw [dgN, pcN]
    split
    · show (dgN r fo c y k).1 + 1 = _; rw [dgN_pc k]; omega
    · rw [dgN_pc k]; omega
/-- one year: from the last life down -/
def lkS (dg : Nat → Int32) (p : Nat → Int64) : Nat → Nat → Int64
  | 0 => p
  | t + 1 => lkS dg (va_up (va_up p t (p t * (10 - dg t).toInt64 / 10)) (t + 1) (p (t + 1) + p t * (dg t).toInt64 / 10)) t
def lkN (dg : Nat → Int32) (t : Nat) : Nat → Nat → Int64
  | 0 => fun i => if i = 0 then 1000000000000 else 0
  | n + 1 => lkS dg (lkN dg t n) t
def sumN (p : Nat → Int64) : Nat → Int64
  | 0 => 0
  | t + 1 => sumN p t + p t
theorem isub_m1 (x : Int32) : x + -1 = x - 1 := (Int32.sub_eq_add_neg x 1).symm
def likF (r : Nat → Int32) (fo : Option (List Cl)) (nc : Nat) (c n : Int32) : Int64 :=
  if inN c nc = true ∧ inN n 61 = true then (if aliveF r c.toNatClampNeg = true then sumN (lkN (dgN r fo c.toNatClampNeg (r (14 + c.toNatClampNeg)).toNatClampNeg 9).2 (dgN r fo c.toNatClampNeg (r (14 + c.toNatClampNeg)).toNatClampNeg 9).1 n.toNatClampNeg) (dgN r fo c.toNatClampNeg (r (14 + c.toNatClampNeg)).toNatClampNeg 9).1 else 0) else -1
theorem ct_mlikely (hm : Md E h m) {fo : Option (List Cl)} {nc ns : Nat} (hx : Mx μ fo nc ns) (hcat : ∀ k, k < nc → CatOK (μ 2) k) (c n : Int32) : Ct E 6 0 0 mX12_likely [.ref m, .int c, .int n] (mH h m μ l) (pY h m (up2 μ 0 0 0) l (.long (likF (μ 2) fo nc c n))) := by
  have h6 := hx.2.2.2.1
  refine Ct.of (by decide +kernel) (Nat.le_of_ble_eq_true rfl) ?_
  have no : ¬ (inN c nc = true ∧ inN n 61 = true) → Wp E mX12_likely (Rm 6 0 0) (Qm E (pY h m (up2 μ 0 0 0) l (.long (likF (μ 2) fo nc c n))) 0 0) 25 [(0, .ref m), (1, .int c), (2, .int n)] [] (mH h m (up2 μ 0 0 0) l) 0 0 := by
    intro hno
    refine r_ldc2_w (pc := 25) cs_X12_287 dX12_likely_25 ?_
    refine r_lret (pc := 28) rfl ?_ (Nat.le_of_ble_eq_true rfl) (Nat.le_of_ble_eq_true rfl) dX12_likely_28
    exact ⟨_, _, Sx.rf, rfl, by rw [likF, if_neg hno]⟩
  refine r_aload_n (pc := 0) 0 dX12_likely_0 rfl ?_
  refine r_iconst (pc := 1) (0) dX12_likely_1 rfl ?_
  refine q_putI (pc := 2) fp_X12_161 hm dX12_likely_2 ?_
  refine r_aload_n (pc := 5) 0 dX12_likely_5 rfl ?_
  refine r_iload_n (pc := 6) 1 dX12_likely_6 rfl ?_
  refine r_dV (pc := 7) (As := [_]) mv_X12_isCat ml_X12_210 (ct_isCat hm c (by rw [th_2]; exact hx.2.2.1) (by omega)) (q_is hm) rfl rfl (Nat.le_of_ble_eq_true rfl) (Nat.le_of_ble_eq_true rfl) (Nat.le_of_ble_eq_true rfl) (Nat.le_of_ble_eq_true rfl) (Nat.le_of_ble_eq_true rfl) dX12_likely_7 ?_
  refine r_if_eq (pc := 10) (tgt := 25) dX12_likely_10 (by decide) (fun c_10 => ?_) (fun c_10 => ?_)
  · exact no (fun z => by rw [bI_0.mp c_10] at z; exact absurd z.1 (by decide))
  · refine r_iload_n (pc := 13) 2 dX12_likely_13 rfl ?_
    refine r_i2l (pc := 14) dX12_likely_14 ?_
    refine r_lconst (pc := 15) (0) dX12_likely_15 rfl ?_
    refine r_ldc2_w (pc := 16) cs_X12_478 dX12_likely_16 ?_
    refine r_dS (pc := 19) (As := [_, _, _]) ms_X12_in ml_X12_181 (ct_in _ _ _) rfl rfl (Nat.le_of_ble_eq_true rfl) (Nat.le_of_ble_eq_true rfl) (Nat.le_of_ble_eq_true rfl) (Nat.le_of_ble_eq_true rfl) (Nat.le_of_ble_eq_true rfl) dX12_likely_19 ?_
    refine r_if_ne (pc := 22) (tgt := 29) dX12_likely_22 (by decide) (fun c_22 => ?_) (fun c_22 => ?_)
    · rw [show decide _ = inN n 61 from in_lit (b := 60) (n := 60) (by decide)] at c_22
      have hc := bI_n0.mp c_10
      have hn := bI_n0.mp c_22
      obtain ⟨k, hk, rfl⟩ := inN_of (by omega) hc
      obtain ⟨w, hw, rfl⟩ := inN_of (by decide) hn
      rw [likF, if_pos ⟨hc, hn⟩, nI_clamp (by omega), nI_clamp (by omega)]
      refine r_aload_n (pc := 29) 0 dX12_likely_29 rfl ?_
      refine r_iload_n (pc := 30) 1 dX12_likely_30 rfl ?_
      refine r_dV (pc := 31) (As := [_]) mv_X12_isAlive ml_X12_193 (ct_isAlive hm k (by omega)) (q_is hm) rfl rfl (Nat.le_of_ble_eq_true rfl) (Nat.le_of_ble_eq_true rfl) (Nat.le_of_ble_eq_true rfl) (Nat.le_of_ble_eq_true rfl) (Nat.le_of_ble_eq_true rfl) dX12_likely_31 ?_
      refine r_if_ne (pc := 34) (tgt := 39) dX12_likely_34 (by decide) (fun c_34 => ?_) (fun c_34 => ?_)
      · rw [th_2] at c_34
        have hal := bI_n0.mp c_34
        rw [if_pos hal]
        obtain ⟨hlife, y, hy, ey, hyb⟩ := hcat k hk
        obtain ⟨li, hli, eli⟩ : ∃ li, li < 9 ∧ μ 2 (8 + k) = nI li := hlife.resolve_left (of_decide_eq_true hal)
        have hy1 := yet511 (r := μ 2) (k := k) hy hli (hyb li hli eli)
        rw [ey, nI_clamp (by omega)]
        have hT : ∀ a, a ≤ 9 → (dgN (μ 2) fo k y a).1 ≤ 9 := by
          intro a ha
          rw [dgN_pc]
          have h8 := pc_le8 y hy1
          have mono : ∀ d, pcN y a ≤ pcN y (a + d) := by
            intro d
            induction d with
            | zero => exact Nat.le_refl _
            | succ d ihd => exact Nat.le_trans ihd (by show _ ≤ pcN y (a + d) + _; omega)
          have := mono (9 - a)
          rw [show a + (9 - a) = 9 by omega] at this
          omega
        refine r_iconst (pc := 39) (1) dX12_likely_39 rfl ?_
        refine r_istore_n (pc := 40) (lv' := [(0, _), (1, _), (2, _), (3, _)]) dX12_likely_40 (Nat.le_of_ble_eq_true rfl) rfl ?_
        refine r_aload_n (pc := 41) 0 dX12_likely_41 rfl ?_
        refine r_iload_n (pc := 42) 1 dX12_likely_42 rfl ?_
        refine r_dV (pc := 43) (As := [_]) mv_X12_spentOf ml_X12_213 (ct_spentOf hm k (by omega)) (q_is hm) rfl rfl (Nat.le_of_ble_eq_true rfl) (Nat.le_of_ble_eq_true rfl) (Nat.le_of_ble_eq_true rfl) (Nat.le_of_ble_eq_true rfl) (Nat.le_of_ble_eq_true rfl) dX12_likely_43 ?_
        refine r_istore (pc := 46) (lv' := [(0, _), (1, _), (2, _), (3, _), (4, _)]) dX12_likely_46 (Nat.le_of_ble_eq_true rfl) rfl ?_
        refine r_aload_n (pc := 48) 0 dX12_likely_48 rfl ?_
        refine q_getR (pc := 49) fl_X12_126 hm (md_f47 hm) dX12_likely_49 ?_
        refine r_iconst (pc := 52) (0) dX12_likely_52 rfl ?_
        refine r_aload_n (pc := 53) 0 dX12_likely_53 rfl ?_
        refine r_iload_n (pc := 54) 1 dX12_likely_54 rfl ?_
        refine r_aload_n (pc := 55) 0 dX12_likely_55 rfl ?_
        refine q_getR (pc := 56) fl_X12_13 hm (md_f3 hm) dX12_likely_56 ?_
        refine r_bipush (pc := 59) (8) dX12_likely_59 rfl ?_
        refine r_iload_n (pc := 61) 1 dX12_likely_61 rfl ?_
        refine r_iadd (pc := 62) dX12_likely_62 ?_
        refine q_iald (pc := 63) (j := 8 + k) (md_r3 hm) (by decide) (by simp only [fa_lit, nI_add, nI_mul]) (by omega) (by decide) dX12_likely_63 ?_
        refine r_iload (pc := 64) 4 dX12_likely_64 rfl ?_
        rw [th_2]
        refine r_callV (pc := 66) (As := [_, _, _]) mv_X12_daresOf ml_X12_219 (ct_daresOf hm (mx_th hx) (by omega) _ _) (q_is hm) rfl rfl (Nat.le_of_ble_eq_true rfl) (Nat.le_of_ble_eq_true rfl) (Nat.le_of_ble_eq_true rfl) (Nat.le_of_ble_eq_true rfl) (Nat.le_of_ble_eq_true rfl) dX12_likely_66 (fun r h1 hp => ?_)
        obtain ⟨ν0, κ0, rfl, hS0, rfl⟩ := hp
        rw [th_2]
        show Wp E mX12_likely _ _ _ _ [.int _, .int _, .ref _] _ 0 0
        refine q_iast (pc := 69) (j := 0) (md_r47 hm) (by decide) rfl (by decide) (by decide) dX12_likely_69 ?_
        refine r_iconst (pc := 70) (0) dX12_likely_70 rfl ?_
        refine r_istore (pc := 71) (lv' := [(0, _), (1, _), (2, _), (3, _), (4, _), (5, _)]) dX12_likely_71 (Nat.le_of_ble_eq_true rfl) rfl ?_
        have sums : ∀ ν κ (P : Nat → Int64), Sx (up2 μ 0 0 0) l ν κ → (∀ i, i < 10 → κ 26 i = P i) → P = lkN (dgN (μ 2) fo k y 9).2 (dgN (μ 2) fo k y 9).1 w → Wp E mX12_likely (Rm 6 0 0) (Qm E (pY h m (up2 μ 0 0 0) l (.long (sumN (lkN (dgN (μ 2) fo k y 9).2 (dgN (μ 2) fo k y 9).1 w) (dgN (μ 2) fo k y 9).1))) 0 0) 250 [(0, .ref m), (1, .int (nI k)), (2, .int (nI w)), (3, .int (nI (dgN (μ 2) fo k y 9).1)), (4, .int (spentF (μ 2) k)), (5, .int (nI w))] [] (mH h m ν κ) 0 0 := by
          intro ν κ P hS hP eP
          have h9 := hT 9 (by omega)
          rw [← eP]
          generalize (dgN (μ 2) fo k y 9).1 = T at h9 ⊢
          refine r_lconst (pc := 250) (0) dX12_likely_250 rfl ?_
          refine r_lstore (pc := 251) (lv' := [(0, _), (1, _), (2, _), (3, _), (4, _), (5, _)]) dX12_likely_251 (Nat.le_of_ble_eq_true rfl) rfl ?_
          refine r_iconst (pc := 253) (0) dX12_likely_253 rfl ?_
          refine r_istore (pc := 254) (lv' := [(0, _), (1, _), (2, _), (3, _), (4, _), (5, _), (7, _)]) dX12_likely_254 (Nat.le_of_ble_eq_true rfl) rfl ?_
          have loop : ∀ t, t ≤ T → Wp E mX12_likely (Rm 6 0 0) (Qm E (pY h m (up2 μ 0 0 0) l (.long (sumN P T))) 0 0) 256 [(0, .ref m), (1, .int (nI k)), (2, .int (nI w)), (3, .int (nI T)), (4, .int (spentF (μ 2) k)), (5, .long (sumN P t)), (7, .int (nI t))] [] (mH h m ν κ) 0 0 := by
            refine upTo (fun t ht ih => ?_) ?_
            · refine r_iload (pc := 256) 6 dX12_likely_256 rfl ?_
              refine r_iload_n (pc := 258) 3 dX12_likely_258 rfl ?_
              refine r_icmp_ge (pc := 259) (tgt := 280) dX12_likely_259 (by decide) (fun c_259 => ?_) (fun c_259 => ?_)
              · exact absurd c_259 (nI_ge ht (by omega))
              · refine r_lload (pc := 262) 5 dX12_likely_262 rfl ?_
                refine r_aload_n (pc := 264) 0 dX12_likely_264 rfl ?_
                refine q_getR (pc := 265) fl_X12_123 hm (md_f46 hm) dX12_likely_265 ?_
                refine r_iload (pc := 268) 6 dX12_likely_268 rfl ?_
                refine q_lald (pc := 270) (j := t) (md_r46 hm) (by decide) rfl (by omega) (by decide) dX12_likely_270 ?_
                refine r_ladd (pc := 271) dX12_likely_271 ?_
                refine r_lstore (pc := 272) (lv' := [(0, _), (1, _), (2, _), (3, _), (4, _), (5, _), (7, _)]) dX12_likely_272 (Nat.le_of_ble_eq_true rfl) rfl ?_
                refine r_iinc (pc := 274) (v := _ + (1)) (lv' := [(0, _), (1, _), (2, _), (3, _), (4, _), (5, _), (7, _)]) 6 dX12_likely_274 rfl rfl (Nat.le_of_ble_eq_true rfl) rfl ?_
                refine r_goto (pc := 277) (tgt := 256) dX12_likely_277 (by decide) ?_
                rw [hP t (by omega), nI_1]
                exact ih
            · refine r_iload (pc := 256) 6 dX12_likely_256 rfl ?_
              refine r_iload_n (pc := 258) 3 dX12_likely_258 rfl ?_
              refine r_icmp_ge (pc := 259) (tgt := 280) dX12_likely_259 (by decide) (fun c_259 => ?_) (fun c_259 => ?_)
              · refine r_lload (pc := 280) 5 dX12_likely_280 rfl ?_
                refine r_lret (pc := 282) rfl ?_ (Nat.le_of_ble_eq_true rfl) (Nat.le_of_ble_eq_true rfl) dX12_likely_282
                exact ⟨ν, κ, hS, rfl, rfl⟩
              · exact absurd (Int32.le_refl _) c_259
          exact loop 0 (by omega)
        have years : ∀ a, a ≤ w → ∀ ν κ, Sx (up2 μ 0 0 0) l ν κ → (∀ i, i < (dgN (μ 2) fo k y 9).1 → ν 27 i = (dgN (μ 2) fo k y 9).2 i) → (∀ i, i < 10 → κ 26 i = lkN (dgN (μ 2) fo k y 9).2 (dgN (μ 2) fo k y 9).1 a i) → Wp E mX12_likely (Rm 6 0 0) (Qm E (pY h m (up2 μ 0 0 0) l (.long (sumN (lkN (dgN (μ 2) fo k y 9).2 (dgN (μ 2) fo k y 9).1 w) (dgN (μ 2) fo k y 9).1))) 0 0) 161 [(0, .ref m), (1, .int (nI k)), (2, .int (nI w)), (3, .int (nI (dgN (μ 2) fo k y 9).1)), (4, .int (spentF (μ 2) k)), (5, .int (nI a))] [] (mH h m ν κ) 0 0 := by
          have h9 := hT 9 (by omega)
          refine upTo (fun a ha ih => ?_) ?_
          · intro ν κ hS hdg hP
            refine r_iload (pc := 161) 5 dX12_likely_161 rfl ?_
            refine r_iload_n (pc := 163) 2 dX12_likely_163 rfl ?_
            refine r_icmp_ge (pc := 164) (tgt := 250) dX12_likely_164 (by decide) (fun c_164 => ?_) (fun c_164 => ?_)
            · exact absurd c_164 (nI_ge ha (by omega))
            · refine r_iload_n (pc := 167) 3 dX12_likely_167 rfl ?_
              refine r_iconst (pc := 168) (1) dX12_likely_168 rfl ?_
              refine r_isub (pc := 169) dX12_likely_169 ?_
              refine r_istore (pc := 170) (lv' := [(0, _), (1, _), (2, _), (3, _), (4, _), (5, _), (6, _)]) dX12_likely_170 (Nat.le_of_ble_eq_true rfl) rfl ?_
              have e9 : lkN (dgN (μ 2) fo k y 9).2 (dgN (μ 2) fo k y 9).1 (a + 1) = lkS (dgN (μ 2) fo k y 9).2 (lkN (dgN (μ 2) fo k y 9).2 (dgN (μ 2) fo k y 9).1 a) (dgN (μ 2) fo k y 9).1 := rfl
              rw [e9] at ih
              have down : ∀ (t : Nat) (p : Nat → Int64) κ, t ≤ (dgN (μ 2) fo k y 9).1 → Sx (up2 μ 0 0 0) l ν κ → (∀ i, i < 10 → κ 26 i = p i) → (∀ i, i < 10 → lkS (dgN (μ 2) fo k y 9).2 p t i = lkS (dgN (μ 2) fo k y 9).2 (lkN (dgN (μ 2) fo k y 9).2 (dgN (μ 2) fo k y 9).1 a) (dgN (μ 2) fo k y 9).1 i) → Wp E mX12_likely (Rm 6 0 0) (Qm E (pY h m (up2 μ 0 0 0) l (.long (sumN (lkN (dgN (μ 2) fo k y 9).2 (dgN (μ 2) fo k y 9).1 w) (dgN (μ 2) fo k y 9).1))) 0 0) 172 [(0, .ref m), (1, .int (nI k)), (2, .int (nI w)), (3, .int (nI (dgN (μ 2) fo k y 9).1)), (4, .int (spentF (μ 2) k)), (5, .int (nI a)), (6, .int (nI t - 1))] [] (mH h m ν κ) 0 0 := by
                intro t
                induction t with
                | zero =>
                  intro p κ ht hS hp he
                  refine r_iload (pc := 172) 6 dX12_likely_172 rfl ?_
                  refine r_if_lt (pc := 174) (tgt := 244) dX12_likely_174 (by decide) (fun c_174 => ?_) (fun c_174 => ?_)
                  · refine r_iinc (pc := 244) (v := _ + (1)) (lv' := [(0, _), (1, _), (2, _), (3, _), (4, _), (5, _), (6, _)]) 5 dX12_likely_244 rfl rfl (Nat.le_of_ble_eq_true rfl) rfl ?_
                    refine r_goto (pc := 247) (tgt := 161) dX12_likely_247 (by decide) ?_
                    rw [nI_1]
                    refine r_sub [0, 1, 2, 3, 4, 5] rfl ?_
                    exact ih ν κ hS hdg (fun i hi => (hp i hi).trans (he i hi))
                  · exact absurd (show nI 0 - 1 < (0 : Int32) by decide) c_174
                | succ t iht =>
                  intro p κ ht hS hp he
                  have et : nI (t + 1) - 1 = nI t := nI_pred t
                  rw [et]
                  refine r_iload (pc := 172) 6 dX12_likely_172 rfl ?_
                  refine r_if_lt (pc := 174) (tgt := 244) dX12_likely_174 (by decide) (fun c_174 => ?_) (fun c_174 => ?_)
                  · exact absurd c_174 (nI_pos (by omega))
                  · refine r_aload_n (pc := 177) 0 dX12_likely_177 rfl ?_
                    refine q_getR (pc := 178) fl_X12_123 hm (md_f46 hm) dX12_likely_178 ?_
                    refine r_iload (pc := 181) 6 dX12_likely_181 rfl ?_
                    refine q_lald (pc := 183) (j := t) (md_r46 hm) (by decide) rfl (by omega) (by decide) dX12_likely_183 ?_
                    refine r_lstore (pc := 184) (lv' := [(0, _), (1, _), (2, _), (3, _), (4, _), (5, _), (6, _), (7, _)]) dX12_likely_184 (Nat.le_of_ble_eq_true rfl) rfl ?_
                    refine r_aload_n (pc := 186) 0 dX12_likely_186 rfl ?_
                    refine q_getR (pc := 187) fl_X12_123 hm (md_f46 hm) dX12_likely_187 ?_
                    refine r_iload (pc := 190) 6 dX12_likely_190 rfl ?_
                    refine r_lload (pc := 192) 7 dX12_likely_192 rfl ?_
                    refine r_bipush (pc := 194) (10) dX12_likely_194 rfl ?_
                    refine r_aload_n (pc := 196) 0 dX12_likely_196 rfl ?_
                    refine q_getR (pc := 197) fl_X12_126 hm (md_f47 hm) dX12_likely_197 ?_
                    refine r_iload (pc := 200) 6 dX12_likely_200 rfl ?_
                    refine q_iald (pc := 202) (j := t) (md_r47 hm) (by decide) rfl (by omega) (by decide) dX12_likely_202 ?_
                    refine r_isub (pc := 203) dX12_likely_203 ?_
                    refine r_i2l (pc := 204) dX12_likely_204 ?_
                    refine r_lmul (pc := 205) dX12_likely_205 ?_
                    refine r_ldc2_w (pc := 206) cs_X12_242 dX12_likely_206 ?_
                    refine r_ldiv (pc := 209) dX12_likely_209 (by decide) ?_
                    refine q_last (pc := 210) (j := t) (md_r46 hm) (by decide) rfl (by omega) (by decide) dX12_likely_210 ?_
                    refine r_aload_n (pc := 211) 0 dX12_likely_211 rfl ?_
                    refine q_getR (pc := 212) fl_X12_123 hm (md_f46 hm) dX12_likely_212 ?_
                    refine r_iload (pc := 215) 6 dX12_likely_215 rfl ?_
                    refine r_iconst (pc := 217) (1) dX12_likely_217 rfl ?_
                    refine r_iadd (pc := 218) dX12_likely_218 ?_
                    refine r_dup2_11 (pc := 219) dX12_likely_219 rfl rfl ?_
                    refine q_lald (pc := 220) (j := t + 1) (md_r46 hm) (by decide) (by simp only [fa_lit, nI_add, nI_mul]) (by omega) (by decide) dX12_likely_220 ?_
                    refine r_lload (pc := 221) 7 dX12_likely_221 rfl ?_
                    refine r_aload_n (pc := 223) 0 dX12_likely_223 rfl ?_
                    refine q_getR (pc := 224) fl_X12_126 hm (md_f47 hm) dX12_likely_224 ?_
                    refine r_iload (pc := 227) 6 dX12_likely_227 rfl ?_
                    refine q_iald (pc := 229) (j := t) (md_r47 hm) (by decide) rfl (by omega) (by decide) dX12_likely_229 ?_
                    refine r_i2l (pc := 230) dX12_likely_230 ?_
                    refine r_lmul (pc := 231) dX12_likely_231 ?_
                    refine r_ldc2_w (pc := 232) cs_X12_242 dX12_likely_232 ?_
                    refine r_ldiv (pc := 235) dX12_likely_235 (by decide) ?_
                    refine r_ladd (pc := 236) dX12_likely_236 ?_
                    refine q_last (pc := 237) (j := t + 1) (md_r46 hm) (by decide) (by simp only [fa_lit, nI_add, nI_mul]) (by omega) (by decide) dX12_likely_237 ?_
                    refine r_iinc (pc := 238) (v := _ + (-1)) (lv' := [(0, _), (1, _), (2, _), (3, _), (4, _), (5, _), (6, _), (7, _)]) 6 dX12_likely_238 rfl rfl (Nat.le_of_ble_eq_true rfl) rfl ?_
                    refine r_goto (pc := 241) (tgt := 172) dX12_likely_241 (by decide) ?_
                    refine r_sub [0, 1, 2, 3, 4, 5, 6] rfl ?_
                    rw [isub_m1]
                    refine iht _ _ (by omega) ((hS.tr (Sx.J (by unfold isScL; omega) (by decide))).tr (Sx.J (by unfold isScL; omega) (by decide))) (fun i hi => ?_) he
                    rw [hdg t (by omega)]
                    unfold va_up
                    by_cases h1 : i = t + 1
                    · rw [if_pos h1, h1, up2_at, up2_ne (by omega), hp t (by omega), hp (t + 1) (by omega)]
                    · rw [if_neg h1, up2_ne (by omega)]
                      by_cases h2 : i = t
                      · rw [if_pos h2, h2, up2_at, hp t (by omega)]
                      · rw [if_neg h2, up2_ne (by omega)]; exact hp i hi
              exact down _ _ κ (Nat.le_refl _) hS hP (fun _ _ => rfl)
          · intro ν κ hS hdg hP
            refine r_iload (pc := 161) 5 dX12_likely_161 rfl ?_
            refine r_iload_n (pc := 163) 2 dX12_likely_163 rfl ?_
            refine r_icmp_ge (pc := 164) (tgt := 250) dX12_likely_164 (by decide) (fun c_164 => ?_) (fun c_164 => ?_)
            · exact sums ν κ _ hS hP rfl
            · exact absurd (Int32.le_refl _) c_164
        have init : ∀ a, a ≤ 10 → ∀ ν κ, Sx (up2 μ 0 0 0) l ν κ → (∀ i, i < (dgN (μ 2) fo k y 9).1 → ν 27 i = (dgN (μ 2) fo k y 9).2 i) → (∀ i, i < a → κ 26 i = if i = 0 then 1000000000000 else 0) → Wp E mX12_likely (Rm 6 0 0) (Qm E (pY h m (up2 μ 0 0 0) l (.long (sumN (lkN (dgN (μ 2) fo k y 9).2 (dgN (μ 2) fo k y 9).1 w) (dgN (μ 2) fo k y 9).1))) 0 0) 126 [(0, .ref m), (1, .int (nI k)), (2, .int (nI w)), (3, .int (nI (dgN (μ 2) fo k y 9).1)), (4, .int (spentF (μ 2) k)), (5, .int (nI a))] [] (mH h m ν κ) 0 0 := by
          refine upTo (fun a ha ih => ?_) ?_
          · intro ν κ hS hdg hP
            refine r_iload (pc := 126) 5 dX12_likely_126 rfl ?_
            refine r_bipush (pc := 128) (10) dX12_likely_128 rfl ?_
            refine r_icmp_ge (pc := 130) (tgt := 158) dX12_likely_130 (by decide) (fun c_130 => ?_) (fun c_130 => ?_)
            · exact absurd c_130 (nI_ge (b := 10) ha (by decide))
            · refine r_aload_n (pc := 133) 0 dX12_likely_133 rfl ?_
              refine q_getR (pc := 134) fl_X12_123 hm (md_f46 hm) dX12_likely_134 ?_
              refine r_iload (pc := 137) 5 dX12_likely_137 rfl ?_
              refine r_iload (pc := 139) 5 dX12_likely_139 rfl ?_
              refine r_if_ne (pc := 141) (tgt := 150) dX12_likely_141 (by decide) (fun c_141 => ?_) (fun c_141 => ?_)
              · refine r_lconst (pc := 150) (0) dX12_likely_150 rfl ?_
                refine q_last (pc := 151) (j := a) (md_r46 hm) (by decide) rfl (by omega) (by decide) dX12_likely_151 ?_
                refine r_iinc (pc := 152) (v := _ + (1)) (lv' := [(0, _), (1, _), (2, _), (3, _), (4, _), (5, _)]) 5 dX12_likely_152 rfl rfl (Nat.le_of_ble_eq_true rfl) rfl ?_
                refine r_goto (pc := 155) (tgt := 126) dX12_likely_155 (by decide) ?_
                rw [nI_1]
                refine ih _ _ (hS.tr (Sx.J (by unfold isScL; omega) (by decide))) hdg (fun i hi => ?_)
                by_cases h1 : i = a
                · rw [h1, up2_at, if_neg (fun z => c_141 (by rw [z]; rfl))]
                · rw [up2_ne (by omega)]; exact hP i (by omega)
              · have ha0 : a = 0 := (nI_eq (by omega) (by decide)).mp (c_141.trans nI_0.symm)
                refine r_ldc2_w (pc := 144) cs_X12_480 dX12_likely_144 ?_
                refine r_goto (pc := 147) (tgt := 151) dX12_likely_147 (by decide) ?_
                refine q_last (pc := 151) (j := a) (md_r46 hm) (by decide) rfl (by omega) (by decide) dX12_likely_151 ?_
                refine r_iinc (pc := 152) (v := _ + (1)) (lv' := [(0, _), (1, _), (2, _), (3, _), (4, _), (5, _)]) 5 dX12_likely_152 rfl rfl (Nat.le_of_ble_eq_true rfl) rfl ?_
                refine r_goto (pc := 155) (tgt := 126) dX12_likely_155 (by decide) ?_
                rw [nI_1]
                refine ih _ _ (hS.tr (Sx.J (by unfold isScL; omega) (by decide))) hdg (fun i hi => ?_)
                have : i = a := by omega
                rw [this, up2_at, if_pos ha0]
          · intro ν κ hS hdg hP
            refine r_iload (pc := 126) 5 dX12_likely_126 rfl ?_
            refine r_bipush (pc := 128) (10) dX12_likely_128 rfl ?_
            refine r_icmp_ge (pc := 130) (tgt := 158) dX12_likely_130 (by decide) (fun c_130 => ?_) (fun c_130 => ?_)
            · refine r_iconst (pc := 158) (0) dX12_likely_158 rfl ?_
              refine r_istore (pc := 159) (lv' := [(0, _), (1, _), (2, _), (3, _), (4, _), (5, _)]) dX12_likely_159 (Nat.le_of_ble_eq_true rfl) rfl ?_
              exact years 0 (by omega) ν κ hS hdg (fun i hi => hP i hi)
            · exact absurd (show (10 : Int32) ≤ nI 10 by decide) c_130
        have lives : ∀ a, a ≤ 9 → ∀ ν κ, Sx (up2 μ 0 0 0) l ν κ → (∀ i, i < (dgN (μ 2) fo k y a).1 → ν 27 i = (dgN (μ 2) fo k y a).2 i) → Wp E mX12_likely (Rm 6 0 0) (Qm E (pY h m (up2 μ 0 0 0) l (.long (sumN (lkN (dgN (μ 2) fo k y 9).2 (dgN (μ 2) fo k y 9).1 w) (dgN (μ 2) fo k y 9).1))) 0 0) 73 [(0, .ref m), (1, .int (nI k)), (2, .int (nI w)), (3, .int (nI (dgN (μ 2) fo k y a).1)), (4, .int (spentF (μ 2) k)), (5, .int (nI a))] [] (mH h m ν κ) 0 0 := by
          refine upTo (fun a ha ih => ?_) ?_
          · intro ν κ hS hdg
            have e2 : ν 2 = μ 2 := hS.row.trans (th_2 μ)
            have h9 := hT (a + 1) (by omega)
            refine r_iload (pc := 73) 5 dX12_likely_73 rfl ?_
            refine r_bipush (pc := 75) (9) dX12_likely_75 rfl ?_
            refine r_icmp_ge (pc := 77) (tgt := 123) dX12_likely_77 (by decide) (fun c_77 => ?_) (fun c_77 => ?_)
            · exact absurd c_77 (nI_ge (b := 9) ha (by decide))
            · refine r_aload_n (pc := 80) 0 dX12_likely_80 rfl ?_
              refine q_getR (pc := 81) fl_X12_13 hm (md_f3 hm) dX12_likely_81 ?_
              refine r_bipush (pc := 84) (14) dX12_likely_84 rfl ?_
              refine r_iload_n (pc := 86) 1 dX12_likely_86 rfl ?_
              refine r_iadd (pc := 87) dX12_likely_87 ?_
              refine q_iald (pc := 88) (j := 14 + k) (md_r3 hm) (by decide) (by simp only [fa_lit, nI_add, nI_mul]) (by omega) (by decide) dX12_likely_88 ?_
              refine r_iload (pc := 89) 5 dX12_likely_89 rfl ?_
              rw [e2, ey]
              refine r_dS (pc := 91) (As := [_, _]) ms_X12_is ml_X12_197 (ct_is _ _) rfl rfl (Nat.le_of_ble_eq_true rfl) (Nat.le_of_ble_eq_true rfl) (Nat.le_of_ble_eq_true rfl) (Nat.le_of_ble_eq_true rfl) (Nat.le_of_ble_eq_true rfl) dX12_likely_91 ?_
              refine r_if_eq (pc := 94) (tgt := 117) dX12_likely_94 (by decide) (fun c_94 => ?_) (fun c_94 => ?_)
              · rw [isB9 y hy a ha] at c_94
                have e9 : dgN (μ 2) fo k y (a + 1) = dgN (μ 2) fo k y a := by rw [dgN, if_neg (by rw [bI_0.mp c_94]; decide)]
                rw [e9] at ih
                refine r_iinc (pc := 117) (v := _ + (1)) (lv' := [(0, _), (1, _), (2, _), (3, _), (4, _), (5, _)]) 5 dX12_likely_117 rfl rfl (Nat.le_of_ble_eq_true rfl) rfl ?_
                refine r_goto (pc := 120) (tgt := 73) dX12_likely_120 (by decide) ?_
                rw [nI_1]
                exact ih ν κ hS hdg
              · rw [isB9 y hy a ha] at c_94
                have hb := bI_n0.mp c_94
                have e9 : dgN (μ 2) fo k y (a + 1) = ((dgN (μ 2) fo k y a).1 + 1, va_up (dgN (μ 2) fo k y a).2 (dgN (μ 2) fo k y a).1 (dareF (μ 2) fo k (nI a) (spentF (μ 2) k + nI (dgN (μ 2) fo k y a).1))) := by rw [dgN, if_pos hb]
                rw [e9] at ih h9
                have h9 : (dgN (μ 2) fo k y a).1 + 1 ≤ 9 := h9
                refine r_aload_n (pc := 97) 0 dX12_likely_97 rfl ?_
                refine q_getR (pc := 98) fl_X12_126 hm (md_f47 hm) dX12_likely_98 ?_
                refine r_iload_n (pc := 101) 3 dX12_likely_101 rfl ?_
                refine r_aload_n (pc := 102) 0 dX12_likely_102 rfl ?_
                refine r_iload_n (pc := 103) 1 dX12_likely_103 rfl ?_
                refine r_iload (pc := 104) 5 dX12_likely_104 rfl ?_
                refine r_iload (pc := 106) 4 dX12_likely_106 rfl ?_
                refine r_iload_n (pc := 108) 3 dX12_likely_108 rfl ?_
                refine r_iadd (pc := 109) dX12_likely_109 ?_
                refine r_callV (pc := 110) (As := [_, _, _]) mv_X12_daresOf ml_X12_219 (ct_daresOf hm ((mx_th hx).x hS) (by omega) _ _) (q_is hm) rfl rfl (Nat.le_of_ble_eq_true rfl) (Nat.le_of_ble_eq_true rfl) (Nat.le_of_ble_eq_true rfl) (Nat.le_of_ble_eq_true rfl) (Nat.le_of_ble_eq_true rfl) dX12_likely_110 (fun r h1 hp => ?_)
                obtain ⟨ν2, κ2, rfl, hS2, rfl⟩ := hp
                rw [e2]
                show Wp E mX12_likely _ _ _ _ [.int _, .int _, .ref _] _ 0 0
                refine q_iast (pc := 113) (j := (dgN (μ 2) fo k y a).1) (md_r47 hm) (by decide) rfl (by omega) (by decide) dX12_likely_113 ?_
                refine r_iinc (pc := 114) (v := _ + (1)) (lv' := [(0, _), (1, _), (2, _), (3, _), (4, _), (5, _)]) 3 dX12_likely_114 rfl rfl (Nat.le_of_ble_eq_true rfl) rfl ?_
                refine r_iinc (pc := 117) (v := _ + (1)) (lv' := [(0, _), (1, _), (2, _), (3, _), (4, _), (5, _)]) 5 dX12_likely_117 rfl rfl (Nat.le_of_ble_eq_true rfl) rfl ?_
                refine r_goto (pc := 120) (tgt := 73) dX12_likely_120 (by decide) ?_
                rw [nI_1, nI_1]
                refine ih _ _ ((hS.tr hS2.x).tr (Sx.I (by unfold isScr; omega) (by decide))) (fun i hi => ?_)
                have hi : i < (dgN (μ 2) fo k y a).1 + 1 := hi
                show _ = va_up _ _ _ i
                by_cases h1 : i = (dgN (μ 2) fo k y a).1
                · rw [h1, up2_at, va_up_self]
                · rw [up2_ne (by omega), va_up_ne _ _ h1, hS2.1 27 (by decide)]; exact hdg i (by omega)
          · intro ν κ hS hdg
            refine r_iload (pc := 73) 5 dX12_likely_73 rfl ?_
            refine r_bipush (pc := 75) (9) dX12_likely_75 rfl ?_
            refine r_icmp_ge (pc := 77) (tgt := 123) dX12_likely_77 (by decide) (fun c_77 => ?_) (fun c_77 => ?_)
            · refine r_iconst (pc := 123) (0) dX12_likely_123 rfl ?_
              refine r_istore (pc := 124) (lv' := [(0, _), (1, _), (2, _), (3, _), (4, _), (5, _)]) dX12_likely_124 (Nat.le_of_ble_eq_true rfl) rfl ?_
              exact init 0 (by omega) ν κ hS hdg (fun i hi => absurd hi (by omega))
            · exact absurd (show (9 : Int32) ≤ nI 9 by decide) c_77
        refine lives 0 (by omega) _ _ (hS0.x.tr (Sx.I (by unfold isScr; omega) (by decide))) (fun i hi => ?_)
        have : i = 0 := by have hi : i < 1 := hi; omega
        rw [this, up2_at, dgN]
        simp [va_up]
      · rw [th_2] at c_34
        rw [if_neg (by rw [bI_0.mp c_34]; decide)]
        refine r_lconst (pc := 37) (0) dX12_likely_37 rfl ?_
        refine r_lret (pc := 38) rfl ?_ (Nat.le_of_ble_eq_true rfl) (Nat.le_of_ble_eq_true rfl) dX12_likely_38
        exact ⟨_, _, Sx.rf, rfl, rfl⟩
    · rw [show decide _ = inN n 61 from in_lit (b := 60) (n := 60) (by decide)] at c_22
      exact no (fun z => by rw [bI_0.mp c_22] at z; exact absurd z.2 (by decide))
end MODELE
