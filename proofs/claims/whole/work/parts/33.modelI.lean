/-! the reference: explained -/
section MODELI
variable {E : En} {h : Hp} {m : Nat} {μ : Mu} {l : La}
def LN (r : Nat → Int32) (fo : Option (List Cl)) (k i0 : Nat) : Nat → Nat → Prop
  | 0 => fun q => q = i0
  | j + 1 => LayP r fo k j (LN r fo k i0 j)
noncomputable def exN (P : Nat → Prop) (b : Int32) : Nat → Int32
  | 0 => 100000000
  | i + 1 => @ite _ (P i ∧ b - onesN (nI (i / 9)) 9 < exN P b i) (Classical.propDecidable _) (b - onesN (nI (i / 9)) 9) (exN P b i)
theorem exN_y {P : Nat → Prop} {b : Int32} {i : Nat} (hy : P i ∧ b - onesN (nI (i / 9)) 9 < exN P b i) : exN P b (i + 1) = b - onesN (nI (i / 9)) 9 := by rw [exN, if_pos hy]
theorem exN_n {P : Nat → Prop} {b : Int32} {i : Nat} (hy : ¬ (P i ∧ b - onesN (nI (i / 9)) 9 < exN P b i)) : exN P b (i + 1) = exN P b i := by rw [exN, if_neg hy]
noncomputable def exV (r : Nat → Int32) (fo : Option (List Cl)) (k sg : Nat) : Int32 := exN (LN r fo k (9 * (r (14 + k)).toNatClampNeg + (r (8 + k)).toNatClampNeg) sg) (1 + onesN (r (14 + k)) 9) 4608
noncomputable def explF (r : Nat → Int32) (fo : Option (List Cl)) (nc sg : Nat) (c : Int32) : Int32 := if inN c nc = true ∧ aliveF r c.toNatClampNeg = true then (if sg = 0 then 0 else if exV r fo c.toNatClampNeg sg = 100000000 then -1 else exV r fo c.toNatClampNeg sg) else -1
theorem ct_mexplained (hm : Md E h m) {fo : Option (List Cl)} {nc ns sg : Nat} (hx : Mx μ fo nc ns) (hsg : μ 2 2 = nI sg) (h8 : sg ≤ 8) (hcat : ∀ k, k < nc → CatOK (μ 2) k) (c : Int32) : Ct E 7 0 0 mX12_explained [.ref m, .int c] (mH h m μ l) (pY h m (up2 μ 0 0 0) l (.int (explF (μ 2) fo nc sg c))) := by
  have h6 := hx.2.2.2.1
  refine Ct.of (by decide +kernel) (Nat.le_of_ble_eq_true rfl) ?_
  have no : ¬ (inN c nc = true ∧ aliveF (μ 2) c.toNatClampNeg = true) → Wp E mX12_explained (Rm 7 0 0) (Qm E (pY h m (up2 μ 0 0 0) l (.int (explF (μ 2) fo nc sg c))) 0 0) 21 [(0, .ref m), (1, .int c)] [] (mH h m (up2 μ 0 0 0) l) 0 0 := by
    intro hno
    refine r_iconst (pc := 21) (-1) dX12_explained_21 rfl ?_
    refine r_iret (pc := 22) rfl ?_ (Nat.le_of_ble_eq_true rfl) (Nat.le_of_ble_eq_true rfl) dX12_explained_22
    exact ⟨_, _, Sx.rf, rfl, by rw [explF, if_neg hno]⟩
  refine r_aload_n (pc := 0) 0 dX12_explained_0 rfl ?_
  refine r_iconst (pc := 1) (0) dX12_explained_1 rfl ?_
  refine q_putI (pc := 2) fp_X12_161 hm dX12_explained_2 ?_
  refine r_aload_n (pc := 5) 0 dX12_explained_5 rfl ?_
  refine r_iload_n (pc := 6) 1 dX12_explained_6 rfl ?_
  refine r_dV (pc := 7) (As := [_]) mv_X12_isCat ml_X12_210 (ct_isCat hm c (by rw [th_2]; exact hx.2.2.1) (by omega)) (q_is hm) rfl rfl (Nat.le_of_ble_eq_true rfl) (Nat.le_of_ble_eq_true rfl) (Nat.le_of_ble_eq_true rfl) (Nat.le_of_ble_eq_true rfl) (Nat.le_of_ble_eq_true rfl) dX12_explained_7 ?_
  refine r_if_eq (pc := 10) (tgt := 21) dX12_explained_10 (by decide) (fun c_10 => ?_) (fun c_10 => ?_)
  · exact no (fun z => by rw [bI_0.mp c_10] at z; exact absurd z.1 (by decide))
  · have hc := bI_n0.mp c_10
    obtain ⟨k, hk, rfl⟩ := inN_of (by omega) hc
    refine r_aload_n (pc := 13) 0 dX12_explained_13 rfl ?_
    refine r_iload_n (pc := 14) 1 dX12_explained_14 rfl ?_
    refine r_dV (pc := 15) (As := [_]) mv_X12_isAlive ml_X12_193 (ct_isAlive hm k (by omega)) (q_is hm) rfl rfl (Nat.le_of_ble_eq_true rfl) (Nat.le_of_ble_eq_true rfl) (Nat.le_of_ble_eq_true rfl) (Nat.le_of_ble_eq_true rfl) (Nat.le_of_ble_eq_true rfl) dX12_explained_15 ?_
    refine r_if_ne (pc := 18) (tgt := 23) dX12_explained_18 (by decide) (fun c_18 => ?_) (fun c_18 => ?_)
    · rw [th_2] at c_18
      have hal := bI_n0.mp c_18
      rw [explF, if_pos ⟨hc, by rw [nI_clamp (by omega)]; exact hal⟩, nI_clamp (by omega)]
      obtain ⟨hlife, y, hy, ey, hyb⟩ := hcat k hk
      obtain ⟨li, hli, eli⟩ : ∃ li, li < 9 ∧ μ 2 (8 + k) = nI li := hlife.resolve_left (of_decide_eq_true hal)
      have eV : exV (μ 2) fo k sg = exN (LN (μ 2) fo k (9 * y + li) sg) (1 + onesN (nI y) 9) 4608 := by rw [exV, ey, eli, nI_clamp (by omega), nI_clamp (by omega)]
      rw [eV]
      have least : ∀ a, a ≤ 4608 → ∀ ν κ, Sx (up2 μ 0 0 0) l ν κ → Rep (ν 29) (LN (μ 2) fo k (9 * y + li) sg) → Wp E mX12_explained (Rm 7 0 0) (Qm E (pY h m (up2 μ 0 0 0) l (.int (if sg = 0 then 0 else if exN (LN (μ 2) fo k (9 * y + li) sg) (1 + onesN (nI y) 9) 4608 = 100000000 then -1 else exN (LN (μ 2) fo k (9 * y + li) sg) (1 + onesN (nI y) 9) 4608))) 0 0) 105 [(0, .ref m), (1, .int (nI k)), (2, .int (exN (LN (μ 2) fo k (9 * y + li) sg) (1 + onesN (nI y) 9) a)), (3, .int (nI a))] [] (mH h m ν κ) 0 0 := by
        generalize LN (μ 2) fo k (9 * y + li) sg = P
        refine upTo (fun a ha ih => ?_) ?_
        · intro ν κ hS hR
          have e2 : ν 2 = μ 2 := hS.row.trans (th_2 μ)
          have edv : nI a / 9 = nI (a / 9) := nI_div (a := a) (b := 9) (by omega) (by decide)
          refine r_iload_n (pc := 105) 3 dX12_explained_105 rfl ?_
          refine r_sipush (pc := 106) (4608) dX12_explained_106 rfl ?_
          refine r_icmp_ge (pc := 109) (tgt := 164) dX12_explained_109 (by decide) (fun c_109 => ?_) (fun c_109 => ?_)
          · exact absurd c_109 (nI_ge (b := 4608) ha (by decide))
          · have same : ¬ (P a ∧ 1 + onesN (nI y) 9 - onesN (nI (a / 9)) 9 < exN P (1 + onesN (nI y) 9) a) → Wp E mX12_explained (Rm 7 0 0) (Qm E (pY h m (up2 μ 0 0 0) l (.int (if sg = 0 then 0 else if exN P (1 + onesN (nI y) 9) 4608 = 100000000 then -1 else exN P (1 + onesN (nI y) 9) 4608))) 0 0) 156 [(0, .ref m), (1, .int (nI k)), (2, .int (exN P (1 + onesN (nI y) 9) a)), (3, .int (nI a)), (4, .int (1 + onesN (nI y) 9 - onesN (nI (a / 9)) 9))] [] (mH h m ν κ) 0 0 := by
              intro hno
              rw [exN_n hno] at ih
              refine r_iload_n (pc := 156) 2 dX12_explained_156 rfl ?_
              refine r_istore_n (pc := 157) (lv' := [(0, _), (1, _), (2, _), (3, _), (4, _)]) dX12_explained_157 (Nat.le_of_ble_eq_true rfl) rfl ?_
              refine r_iinc (pc := 158) (v := _ + (1)) (lv' := [(0, _), (1, _), (2, _), (3, _), (4, _)]) 3 dX12_explained_158 rfl rfl (Nat.le_of_ble_eq_true rfl) rfl ?_
              refine r_goto (pc := 161) (tgt := 105) dX12_explained_161 (by decide) ?_
              rw [nI_1]
              refine r_sub [0, 1, 2, 3] rfl ?_
              exact ih ν κ hS hR
            refine r_iconst (pc := 112) (1) dX12_explained_112 rfl ?_
            refine r_aload_n (pc := 113) 0 dX12_explained_113 rfl ?_
            refine q_getR (pc := 114) fl_X12_13 hm (md_f3 hm) dX12_explained_114 ?_
            refine r_bipush (pc := 117) (14) dX12_explained_117 rfl ?_
            refine r_iload_n (pc := 119) 1 dX12_explained_119 rfl ?_
            refine r_iadd (pc := 120) dX12_explained_120 ?_
            refine q_iald (pc := 121) (j := 14 + k) (md_r3 hm) (by decide) (by simp only [fa_lit, nI_add, nI_mul]) (by omega) (by decide) dX12_explained_121 ?_
            rw [e2, ey]
            refine r_dS (pc := 122) (As := [_]) ms_X12_ones ml_X12_190 (ct_ones _) rfl rfl (Nat.le_of_ble_eq_true rfl) (Nat.le_of_ble_eq_true rfl) (Nat.le_of_ble_eq_true rfl) (Nat.le_of_ble_eq_true rfl) (Nat.le_of_ble_eq_true rfl) dX12_explained_122 ?_
            refine r_iadd (pc := 125) dX12_explained_125 ?_
            refine r_iload_n (pc := 126) 3 dX12_explained_126 rfl ?_
            refine r_bipush (pc := 127) (9) dX12_explained_127 rfl ?_
            refine r_idiv (pc := 129) dX12_explained_129 (by decide) ?_
            rw [edv]
            refine r_dS (pc := 130) (As := [_]) ms_X12_ones ml_X12_190 (ct_ones _) rfl rfl (Nat.le_of_ble_eq_true rfl) (Nat.le_of_ble_eq_true rfl) (Nat.le_of_ble_eq_true rfl) (Nat.le_of_ble_eq_true rfl) (Nat.le_of_ble_eq_true rfl) dX12_explained_130 ?_
            refine r_isub (pc := 133) dX12_explained_133 ?_
            refine r_istore (pc := 134) (lv' := [(0, _), (1, _), (2, _), (3, _), (4, _)]) dX12_explained_134 (Nat.le_of_ble_eq_true rfl) rfl ?_
            refine r_aload_n (pc := 136) 0 dX12_explained_136 rfl ?_
            refine q_getR (pc := 137) fl_X12_132 hm (md_f49 hm) dX12_explained_137 ?_
            refine r_iload_n (pc := 140) 3 dX12_explained_140 rfl ?_
            refine q_zald (pc := 141) (j := a) (md_r49 hm) (by decide) rfl (by omega) (by decide) dX12_explained_141 ?_
            refine r_if_eq (pc := 142) (tgt := 156) dX12_explained_142 (by decide) (fun c_142 => ?_) (fun c_142 => ?_)
            · exact same (fun z => by rw [(hR a ha).2.mpr z.1] at c_142; exact absurd c_142 (by decide))
            · have hPa := (hR a ha).2.mp ((hR a ha).1.resolve_left c_142)
              refine r_iload (pc := 145) 4 dX12_explained_145 rfl ?_
              refine r_iload_n (pc := 147) 2 dX12_explained_147 rfl ?_
              refine r_icmp_ge (pc := 148) (tgt := 156) dX12_explained_148 (by decide) (fun c_148 => ?_) (fun c_148 => ?_)
              · exact same (fun z => Int32.not_le.mpr z.2 c_148)
              · rw [exN_y ⟨hPa, Int32.not_le.mp c_148⟩] at ih
                refine r_iload (pc := 151) 4 dX12_explained_151 rfl ?_
                refine r_goto (pc := 153) (tgt := 157) dX12_explained_153 (by decide) ?_
                refine r_istore_n (pc := 157) (lv' := [(0, _), (1, _), (2, _), (3, _), (4, _)]) dX12_explained_157 (Nat.le_of_ble_eq_true rfl) rfl ?_
                refine r_iinc (pc := 158) (v := _ + (1)) (lv' := [(0, _), (1, _), (2, _), (3, _), (4, _)]) 3 dX12_explained_158 rfl rfl (Nat.le_of_ble_eq_true rfl) rfl ?_
                refine r_goto (pc := 161) (tgt := 105) dX12_explained_161 (by decide) ?_
                rw [nI_1]
                refine r_sub [0, 1, 2, 3] rfl ?_
                exact ih ν κ hS hR
        · intro ν κ hS hR
          have e2 : ν 2 = μ 2 := hS.row.trans (th_2 μ)
          refine r_iload_n (pc := 105) 3 dX12_explained_105 rfl ?_
          refine r_sipush (pc := 106) (4608) dX12_explained_106 rfl ?_
          refine r_icmp_ge (pc := 109) (tgt := 164) dX12_explained_109 (by decide) (fun c_109 => ?_) (fun c_109 => ?_)
          · refine r_aload_n (pc := 164) 0 dX12_explained_164 rfl ?_
            refine q_getR (pc := 165) fl_X12_13 hm (md_f3 hm) dX12_explained_165 ?_
            refine r_iconst (pc := 168) (2) dX12_explained_168 rfl ?_
            refine q_iald (pc := 169) (j := 2) (md_r3 hm) (by decide) rfl (by decide) (by decide) dX12_explained_169 ?_
            refine r_if_ne (pc := 170) (tgt := 177) dX12_explained_170 (by decide) (fun c_170 => ?_) (fun c_170 => ?_)
            · rw [e2, hsg] at c_170
              have h0 : ¬ sg = 0 := fun z => c_170 (by rw [z]; rfl)
              rw [if_neg h0]
              refine r_iload_n (pc := 177) 2 dX12_explained_177 rfl ?_
              refine r_ldc_w (pc := 178) cs_X12_485 dX12_explained_178 ?_
              refine r_icmp_ne (pc := 181) (tgt := 188) dX12_explained_181 (by decide) (fun c_181 => ?_) (fun c_181 => ?_)
              · refine r_iload_n (pc := 188) 2 dX12_explained_188 rfl ?_
                refine r_iret (pc := 189) rfl ?_ (Nat.le_of_ble_eq_true rfl) (Nat.le_of_ble_eq_true rfl) dX12_explained_189
                exact ⟨ν, κ, hS, rfl, by rw [if_neg c_181]⟩
              · refine r_iconst (pc := 184) (-1) dX12_explained_184 rfl ?_
                refine r_goto (pc := 185) (tgt := 189) dX12_explained_185 (by decide) ?_
                refine r_iret (pc := 189) rfl ?_ (Nat.le_of_ble_eq_true rfl) (Nat.le_of_ble_eq_true rfl) dX12_explained_189
                exact ⟨ν, κ, hS, rfl, by rw [if_pos c_181]⟩
            · rw [e2, hsg] at c_170
              have h0 : sg = 0 := (nI_eq (by omega) (by decide)).mp (c_170.trans nI_0.symm)
              refine r_iconst (pc := 173) (0) dX12_explained_173 rfl ?_
              refine r_goto (pc := 174) (tgt := 189) dX12_explained_174 (by decide) ?_
              refine r_iret (pc := 189) rfl ?_ (Nat.le_of_ble_eq_true rfl) (Nat.le_of_ble_eq_true rfl) dX12_explained_189
              exact ⟨ν, κ, hS, rfl, by rw [if_pos h0]⟩
          · exact absurd (show (4608 : Int32) ≤ nI 4608 by decide) c_109
      have doings : ∀ a, a ≤ sg → ∀ ν κ, Sx (up2 μ 0 0 0) l ν κ → Rep (ν 29) (LN (μ 2) fo k (9 * y + li) a) → Wp E mX12_explained (Rm 7 0 0) (Qm E (pY h m (up2 μ 0 0 0) l (.int (if sg = 0 then 0 else if exN (LN (μ 2) fo k (9 * y + li) sg) (1 + onesN (nI y) 9) 4608 = 100000000 then -1 else exN (LN (μ 2) fo k (9 * y + li) sg) (1 + onesN (nI y) 9) 4608))) 0 0) 77 [(0, .ref m), (1, .int (nI k)), (2, .int (nI a))] [] (mH h m ν κ) 0 0 := by
        refine upTo (fun a ha ih => ?_) ?_
        · intro ν κ hS hR
          have e2 : ν 2 = μ 2 := hS.row.trans (th_2 μ)
          refine r_iload_n (pc := 77) 2 dX12_explained_77 rfl ?_
          refine r_aload_n (pc := 78) 0 dX12_explained_78 rfl ?_
          refine q_getR (pc := 79) fl_X12_13 hm (md_f3 hm) dX12_explained_79 ?_
          refine r_iconst (pc := 82) (2) dX12_explained_82 rfl ?_
          refine q_iald (pc := 83) (j := 2) (md_r3 hm) (by decide) rfl (by decide) (by decide) dX12_explained_83 ?_
          refine r_icmp_ge (pc := 84) (tgt := 99) dX12_explained_84 (by decide) (fun c_84 => ?_) (fun c_84 => ?_)
          · rw [e2, hsg] at c_84
            exact absurd c_84 (nI_ge ha (by omega))
          · refine r_aload_n (pc := 87) 0 dX12_explained_87 rfl ?_
            refine r_iload_n (pc := 88) 1 dX12_explained_88 rfl ?_
            refine r_iload_n (pc := 89) 2 dX12_explained_89 rfl ?_
            refine r_callV (pc := 90) (As := [_, _]) mv_X12_layDoing ml_X12_486 (ct_layDoing hm ((mx_th hx).x hS) (by omega) (by omega) hR) (q_is hm) rfl rfl (Nat.le_of_ble_eq_true rfl) (Nat.le_of_ble_eq_true rfl) (Nat.le_of_ble_eq_true rfl) (Nat.le_of_ble_eq_true rfl) (Nat.le_of_ble_eq_true rfl) dX12_explained_90 (fun r h1 hp => ?_)
            obtain ⟨ν2, κ2, hS2, rfl, rfl, hR2⟩ := hp
            show Wp E mX12_explained _ _ _ _ [] _ 0 0
            refine r_iinc (pc := 93) (v := _ + (1)) (lv' := [(0, _), (1, _), (2, _)]) 2 dX12_explained_93 rfl rfl (Nat.le_of_ble_eq_true rfl) rfl ?_
            refine r_goto (pc := 96) (tgt := 77) dX12_explained_96 (by decide) ?_
            rw [nI_1]
            refine ih ν2 κ2 (hS.tr hS2) ?_
            rw [e2] at hR2
            exact hR2
        · intro ν κ hS hR
          have e2 : ν 2 = μ 2 := hS.row.trans (th_2 μ)
          refine r_iload_n (pc := 77) 2 dX12_explained_77 rfl ?_
          refine r_aload_n (pc := 78) 0 dX12_explained_78 rfl ?_
          refine q_getR (pc := 79) fl_X12_13 hm (md_f3 hm) dX12_explained_79 ?_
          refine r_iconst (pc := 82) (2) dX12_explained_82 rfl ?_
          refine q_iald (pc := 83) (j := 2) (md_r3 hm) (by decide) rfl (by decide) (by decide) dX12_explained_83 ?_
          refine r_icmp_ge (pc := 84) (tgt := 99) dX12_explained_84 (by decide) (fun c_84 => ?_) (fun c_84 => ?_)
          · refine r_ldc_w (pc := 99) cs_X12_485 dX12_explained_99 ?_
            refine r_istore_n (pc := 102) (lv' := [(0, _), (1, _), (2, _)]) dX12_explained_102 (Nat.le_of_ble_eq_true rfl) rfl ?_
            refine r_iconst (pc := 103) (0) dX12_explained_103 rfl ?_
            refine r_istore_n (pc := 104) (lv' := [(0, _), (1, _), (2, _), (3, _)]) dX12_explained_104 (Nat.le_of_ble_eq_true rfl) rfl ?_
            exact least 0 (by omega) ν κ hS hR
          · exact absurd (by rw [e2, hsg]; exact Int32.le_refl _) c_84
      have start : ∀ a, a ≤ 4608 → ∀ ν κ, Sx (up2 μ 0 0 0) l ν κ → (∀ q, q < a → (ν 29 q = 0 ∨ ν 29 q = 1) ∧ (ν 29 q = 1 ↔ q = 9 * y + li)) → Wp E mX12_explained (Rm 7 0 0) (Qm E (pY h m (up2 μ 0 0 0) l (.int (if sg = 0 then 0 else if exN (LN (μ 2) fo k (9 * y + li) sg) (1 + onesN (nI y) 9) 4608 = 100000000 then -1 else exN (LN (μ 2) fo k (9 * y + li) sg) (1 + onesN (nI y) 9) 4608))) 0 0) 25 [(0, .ref m), (1, .int (nI k)), (2, .int (nI a))] [] (mH h m ν κ) 0 0 := by
        refine upTo (fun a ha ih => ?_) ?_
        · intro ν κ hS hR
          have e2 : ν 2 = μ 2 := hS.row.trans (th_2 μ)
          have store : ∀ v : Int32, (v = 0 ∨ v = 1) → (v = 1 ↔ a = 9 * y + li) → Wp E mX12_explained (Rm 7 0 0) (Qm E (pY h m (up2 μ 0 0 0) l (.int (if sg = 0 then 0 else if exN (LN (μ 2) fo k (9 * y + li) sg) (1 + onesN (nI y) 9) 4608 = 100000000 then -1 else exN (LN (μ 2) fo k (9 * y + li) sg) (1 + onesN (nI y) 9) 4608))) 0 0) 68 [(0, .ref m), (1, .int (nI k)), (2, .int (nI a))] [.int v, .int (nI a), .ref (m + 29)] (mH h m ν κ) 0 0 := by
            intro v hv hv1
            refine q_zast (pc := 68) (j := a) (md_r49 hm) (by decide) rfl (by omega) (by decide) (hv) dX12_explained_68 ?_
            refine r_iinc (pc := 69) (v := _ + (1)) (lv' := [(0, _), (1, _), (2, _)]) 2 dX12_explained_69 rfl rfl (Nat.le_of_ble_eq_true rfl) rfl ?_
            refine r_goto (pc := 72) (tgt := 25) dX12_explained_72 (by decide) ?_
            rw [nI_1]
            refine ih _ _ (hS.tr (Sx.I (by unfold isScr; omega) (by decide))) (fun q hq => ?_)
            by_cases h1 : q = a
            · rw [h1, up2_at]; exact ⟨hv, hv1⟩
            · rw [up2_ne (by omega)]; exact hR q (by omega)
          have ei : (9 : Int32) * nI y + nI li = nI (9 * y + li) := by simp only [fa_lit, nI_add, nI_mul]
          refine r_iload_n (pc := 25) 2 dX12_explained_25 rfl ?_
          refine r_sipush (pc := 26) (4608) dX12_explained_26 rfl ?_
          refine r_icmp_ge (pc := 29) (tgt := 75) dX12_explained_29 (by decide) (fun c_29 => ?_) (fun c_29 => ?_)
          · exact absurd c_29 (nI_ge (b := 4608) ha (by decide))
          · refine r_aload_n (pc := 32) 0 dX12_explained_32 rfl ?_
            refine q_getR (pc := 33) fl_X12_132 hm (md_f49 hm) dX12_explained_33 ?_
            refine r_iload_n (pc := 36) 2 dX12_explained_36 rfl ?_
            refine r_iload_n (pc := 37) 2 dX12_explained_37 rfl ?_
            refine r_bipush (pc := 38) (9) dX12_explained_38 rfl ?_
            refine r_aload_n (pc := 40) 0 dX12_explained_40 rfl ?_
            refine q_getR (pc := 41) fl_X12_13 hm (md_f3 hm) dX12_explained_41 ?_
            refine r_bipush (pc := 44) (14) dX12_explained_44 rfl ?_
            refine r_iload_n (pc := 46) 1 dX12_explained_46 rfl ?_
            refine r_iadd (pc := 47) dX12_explained_47 ?_
            refine q_iald (pc := 48) (j := 14 + k) (md_r3 hm) (by decide) (by simp only [fa_lit, nI_add, nI_mul]) (by omega) (by decide) dX12_explained_48 ?_
            refine r_imul (pc := 49) dX12_explained_49 ?_
            refine r_aload_n (pc := 50) 0 dX12_explained_50 rfl ?_
            refine q_getR (pc := 51) fl_X12_13 hm (md_f3 hm) dX12_explained_51 ?_
            refine r_bipush (pc := 54) (8) dX12_explained_54 rfl ?_
            refine r_iload_n (pc := 56) 1 dX12_explained_56 rfl ?_
            refine r_iadd (pc := 57) dX12_explained_57 ?_
            refine q_iald (pc := 58) (j := 8 + k) (md_r3 hm) (by decide) (by simp only [fa_lit, nI_add, nI_mul]) (by omega) (by decide) dX12_explained_58 ?_
            refine r_iadd (pc := 59) dX12_explained_59 ?_
            refine r_icmp_ne (pc := 60) (tgt := 67) dX12_explained_60 (by decide) (fun c_60 => ?_) (fun c_60 => ?_)
            · rw [e2, ey, eli, ei] at c_60
              refine r_iconst (pc := 67) (0) dX12_explained_67 rfl ?_
              exact store 0 (Or.inl rfl) ⟨fun z => absurd z (by decide), fun z => absurd (by rw [z]) c_60⟩
            · rw [e2, ey, eli, ei] at c_60
              refine r_iconst (pc := 63) (1) dX12_explained_63 rfl ?_
              refine r_goto (pc := 64) (tgt := 68) dX12_explained_64 (by decide) ?_
              exact store 1 (Or.inr rfl) ⟨fun _ => (nI_eq (by omega) (by omega)).mp c_60, fun _ => rfl⟩
        · intro ν κ hS hR
          refine r_iload_n (pc := 25) 2 dX12_explained_25 rfl ?_
          refine r_sipush (pc := 26) (4608) dX12_explained_26 rfl ?_
          refine r_icmp_ge (pc := 29) (tgt := 75) dX12_explained_29 (by decide) (fun c_29 => ?_) (fun c_29 => ?_)
          · refine r_iconst (pc := 75) (0) dX12_explained_75 rfl ?_
            refine r_istore_n (pc := 76) (lv' := [(0, _), (1, _), (2, _)]) dX12_explained_76 (Nat.le_of_ble_eq_true rfl) rfl ?_
            exact doings 0 (by omega) ν κ hS hR
          · exact absurd (show (4608 : Int32) ≤ nI 4608 by decide) c_29
      refine r_iconst (pc := 23) (0) dX12_explained_23 rfl ?_
      refine r_istore_n (pc := 24) (lv' := [(0, _), (1, _), (2, _)]) dX12_explained_24 (Nat.le_of_ble_eq_true rfl) rfl ?_
      exact start 0 (by omega) _ _ Sx.rf (fun q hq => absurd hq (by omega))
    · rw [th_2] at c_18
      exact no (fun z => by rw [nI_clamp (by omega), bI_0.mp c_18] at z; exact absurd z.2 (by decide))
end MODELI
