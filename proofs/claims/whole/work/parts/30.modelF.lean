/-! the reference: look, complete -/
section MODELF
variable {E : En} {h : Hp} {m : Nat} {μ : Mu} {l : La}
theorem withinF_nI (v : Int64) {b : Nat} (hb : b < 2 ^ 31) : ∃ j, j ≤ b ∧ withinF v 0 (nI b) = nI j := by
  unfold withinF
  split
  · exact ⟨0, Nat.zero_le _, rfl⟩
  · next h1 =>
    split
    · exact ⟨b, Nat.le_refl _, rfl⟩
    · next h2 =>
      rw [fa_lt64, Int32.toInt_toInt64] at h1 h2
      rw [nI_toInt hb] at h2
      have h1 : ¬ v.toInt < 0 := h1
      refine ⟨v.toInt.toNat, by omega, ?_⟩
      apply Int32.toInt_inj.mp
      rw [Int64.toInt_toInt32, nI_toInt (by omega)]
      have : v.toInt.bmod (2 ^ 32) = v.toInt := by apply Int.bmod_eq_of_le <;> omega
      rw [this]; omega
theorem showF_nI (r : Nat → Int32) (fo : Option (List Cl)) (k : Nat) (life spent on : Int32) : ∃ j, j ≤ 9 ∧ showF r fo k life spent on = nI j := withinF_nI _ (b := 9) (by decide)
def alN (r : Nat → Int32) (fo : Option (List Cl)) (k : Nat) (all : Int32) (yr : Nat) : Nat → (Nat → Int32) × Int32
  | 0 => (fun _ => 0, 0)
  | li + 1 => if isB all (nI li) = true then (va_up (alN r fo k all yr li).1 (showF r fo k (nI li) (spentF r k) (nI yr)).toNatClampNeg ((alN r fo k all yr li).1 (showF r fo k (nI li) (spentF r k) (nI yr)).toNatClampNeg + 1),
      if (alN r fo k all yr li).2 < (alN r fo k all yr li).1 (showF r fo k (nI li) (spentF r k) (nI yr)).toNatClampNeg + 1 then (alN r fo k all yr li).1 (showF r fo k (nI li) (spentF r k) (nI yr)).toNatClampNeg + 1 else (alN r fo k all yr li).2) else alN r fo k all yr li
theorem alN_yes {r : Nat → Int32} {fo : Option (List Cl)} {k : Nat} {all : Int32} {yr li j : Nat} (hb : isB all (nI li) = true) (hj : j ≤ 9) (ej : showF r fo k (nI li) (spentF r k) (nI yr) = nI j) : alN r fo k all yr (li + 1) = (va_up (alN r fo k all yr li).1 j ((alN r fo k all yr li).1 j + 1), if (alN r fo k all yr li).2 < (alN r fo k all yr li).1 j + 1 then (alN r fo k all yr li).1 j + 1 else (alN r fo k all yr li).2) := by
  rw [alN, if_pos hb, ej, nI_clamp (by omega)]
def lkY (r : Nat → Int32) (fo : Option (List Cl)) (k : Nat) (all : Int32) : Nat → Int32 × Int32
  | 0 => (-1, 100000000)
  | y + 1 => if 0 < (alN r fo k all y 9).2 ∧ (alN r fo k all y 9).2 < (lkY r fo k all y).2 then (nI y, (alN r fo k all y 9).2) else lkY r fo k all y
def lookF (r : Nat → Int32) (fo : Option (List Cl)) (nc sg : Nat) (c w : Int32) : Int32 := if inN c nc = true ∧ inN w 2 = true then (if (lkY r fo c.toNatClampNeg (canN r fo c.toNatClampNeg sg 9) 10).1 = -1 ∨ w = 0 then (lkY r fo c.toNatClampNeg (canN r fo c.toNatClampNeg sg 9) 10).1 else (lkY r fo c.toNatClampNeg (canN r fo c.toNatClampNeg sg 9) 10).2) else -1
theorem ct_mlook (hm : Md E h m) {fo : Option (List Cl)} {nc ns sg : Nat} (hx : Mx μ fo nc ns) (hsg : μ 2 2 = nI sg) (h8 : sg ≤ 8) (c w : Int32) : Ct E 7 0 0 mX12_look [.ref m, .int c, .int w] (mH h m μ l) (pY h m (up2 μ 0 0 0) l (.int (lookF (μ 2) fo nc sg c w))) := by
  have h6 := hx.2.2.2.1
  refine Ct.of (by decide +kernel) (Nat.le_of_ble_eq_true rfl) ?_
  have no : ¬ (inN c nc = true ∧ inN w 2 = true) → Wp E mX12_look (Rm 7 0 0) (Qm E (pY h m (up2 μ 0 0 0) l (.int (lookF (μ 2) fo nc sg c w))) 0 0) 23 [(0, .ref m), (1, .int c), (2, .int w)] [] (mH h m (up2 μ 0 0 0) l) 0 0 := by
    intro hno
    refine r_iconst (pc := 23) (-1) dX12_look_23 rfl ?_
    refine r_iret (pc := 24) rfl ?_ (Nat.le_of_ble_eq_true rfl) (Nat.le_of_ble_eq_true rfl) dX12_look_24
    exact ⟨_, _, Sx.rf, rfl, by rw [lookF, if_neg hno]⟩
  refine r_aload_n (pc := 0) 0 dX12_look_0 rfl ?_
  refine r_iconst (pc := 1) (0) dX12_look_1 rfl ?_
  refine q_putI (pc := 2) fp_X12_161 hm dX12_look_2 ?_
  refine r_aload_n (pc := 5) 0 dX12_look_5 rfl ?_
  refine r_iload_n (pc := 6) 1 dX12_look_6 rfl ?_
  refine r_dV (pc := 7) (As := [_]) mv_X12_isCat ml_X12_210 (ct_isCat hm c (by rw [th_2]; exact hx.2.2.1) (by omega)) (q_is hm) rfl rfl (Nat.le_of_ble_eq_true rfl) (Nat.le_of_ble_eq_true rfl) (Nat.le_of_ble_eq_true rfl) (Nat.le_of_ble_eq_true rfl) (Nat.le_of_ble_eq_true rfl) dX12_look_7 ?_
  refine r_if_eq (pc := 10) (tgt := 23) dX12_look_10 (by decide) (fun c_10 => ?_) (fun c_10 => ?_)
  · exact no (fun z => by rw [bI_0.mp c_10] at z; exact absurd z.1 (by decide))
  · refine r_iload_n (pc := 13) 2 dX12_look_13 rfl ?_
    refine r_i2l (pc := 14) dX12_look_14 ?_
    refine r_lconst (pc := 15) (0) dX12_look_15 rfl ?_
    refine r_lconst (pc := 16) (1) dX12_look_16 rfl ?_
    refine r_dS (pc := 17) (As := [_, _, _]) ms_X12_in ml_X12_181 (ct_in _ _ _) rfl rfl (Nat.le_of_ble_eq_true rfl) (Nat.le_of_ble_eq_true rfl) (Nat.le_of_ble_eq_true rfl) (Nat.le_of_ble_eq_true rfl) (Nat.le_of_ble_eq_true rfl) dX12_look_17 ?_
    refine r_if_ne (pc := 20) (tgt := 25) dX12_look_20 (by decide) (fun c_20 => ?_) (fun c_20 => ?_)
    · rw [show decide _ = inN w 2 from in_lit (b := 1) (n := 1) (by decide)] at c_20
      have hc := bI_n0.mp c_10
      rw [lookF, if_pos ⟨hc, bI_n0.mp c_20⟩]
      obtain ⟨k, hk, rfl⟩ := inN_of (by omega) hc
      rw [nI_clamp (by omega)]
      refine r_aload_n (pc := 25) 0 dX12_look_25 rfl ?_
      refine r_iload_n (pc := 26) 1 dX12_look_26 rfl ?_
      refine r_callV (pc := 27) (As := [_]) mv_X12_livesThatCan ml_X12_482 (ct_livesThatCan hm (mx_th hx) (by rw [th_2]; exact hsg) h8 (by omega)) (q_is hm) rfl rfl (Nat.le_of_ble_eq_true rfl) (Nat.le_of_ble_eq_true rfl) (Nat.le_of_ble_eq_true rfl) (Nat.le_of_ble_eq_true rfl) (Nat.le_of_ble_eq_true rfl) dX12_look_27 (fun r h1 hp => ?_)
      obtain ⟨ν0, κ0, rfl, hS0, rfl⟩ := hp
      rw [th_2]
      show Wp E mX12_look _ _ _ _ [.int _] _ 0 0
      refine r_istore_n (pc := 30) (lv' := [(0, _), (1, _), (2, _), (3, _)]) dX12_look_30 (Nat.le_of_ble_eq_true rfl) rfl ?_
      refine r_ldc_w (pc := 31) cs_X12_485 dX12_look_31 ?_
      refine r_istore (pc := 34) (lv' := [(0, _), (1, _), (2, _), (3, _), (4, _)]) dX12_look_34 (Nat.le_of_ble_eq_true rfl) rfl ?_
      refine r_iconst (pc := 36) (-1) dX12_look_36 rfl ?_
      refine r_istore (pc := 37) (lv' := [(0, _), (1, _), (2, _), (3, _), (4, _), (5, _)]) dX12_look_37 (Nat.le_of_ble_eq_true rfl) rfl ?_
      refine r_iconst (pc := 39) (0) dX12_look_39 rfl ?_
      refine r_istore (pc := 40) (lv' := [(0, _), (1, _), (2, _), (3, _), (4, _), (5, _), (6, _)]) dX12_look_40 (Nat.le_of_ble_eq_true rfl) rfl ?_
      generalize canN (μ 2) fo k sg 9 = all
      have years : ∀ y, y ≤ 10 → ∀ ν κ, Sx (up2 μ 0 0 0) l ν κ → Wp E mX12_look (Rm 7 0 0) (Qm E (pY h m (up2 μ 0 0 0) l (.int (if (lkY (μ 2) fo k all 10).1 = -1 ∨ w = 0 then (lkY (μ 2) fo k all 10).1 else (lkY (μ 2) fo k all 10).2))) 0 0) 42 [(0, .ref m), (1, .int (nI k)), (2, .int w), (3, .int all), (4, .int (lkY (μ 2) fo k all y).2), (5, .int (lkY (μ 2) fo k all y).1), (6, .int (nI y))] [] (mH h m ν κ) 0 0 := by
        refine upTo (fun y hy ih => ?_) ?_
        · intro ν κ hS
          refine r_iload (pc := 42) 6 dX12_look_42 rfl ?_
          refine r_bipush (pc := 44) (10) dX12_look_44 rfl ?_
          refine r_icmp_ge (pc := 46) (tgt := 202) dX12_look_46 (by decide) (fun c_46 => ?_) (fun c_46 => ?_)
          · exact absurd c_46 (nI_ge (b := 10) hy (by decide))
          · refine r_iconst (pc := 49) (0) dX12_look_49 rfl ?_
            refine r_istore (pc := 50) (lv' := [(0, _), (1, _), (2, _), (3, _), (4, _), (5, _), (6, _), (7, _)]) dX12_look_50 (Nat.le_of_ble_eq_true rfl) rfl ?_
            refine r_iconst (pc := 52) (0) dX12_look_52 rfl ?_
            refine r_istore (pc := 53) (lv' := [(0, _), (1, _), (2, _), (3, _), (4, _), (5, _), (6, _), (7, _), (8, _)]) dX12_look_53 (Nat.le_of_ble_eq_true rfl) rfl ?_
            have fin : ∀ ν κ (x : Int32), Sx (up2 μ 0 0 0) l ν κ → Wp E mX12_look (Rm 7 0 0) (Qm E (pY h m (up2 μ 0 0 0) l (.int (if (lkY (μ 2) fo k all 10).1 = -1 ∨ w = 0 then (lkY (μ 2) fo k all 10).1 else (lkY (μ 2) fo k all 10).2))) 0 0) 154 [(0, .ref m), (1, .int (nI k)), (2, .int w), (3, .int all), (4, .int (lkY (μ 2) fo k all y).2), (5, .int (lkY (μ 2) fo k all y).1), (6, .int (nI y)), (7, .int (alN (μ 2) fo k all y 9).2), (8, .int x)] [] (mH h m ν κ) 0 0 := by
              intro ν κ x hS
              have keep : ¬ (0 < (alN (μ 2) fo k all y 9).2 ∧ (alN (μ 2) fo k all y 9).2 < (lkY (μ 2) fo k all y).2) → lkY (μ 2) fo k all (y + 1) = lkY (μ 2) fo k all y := fun z => by rw [lkY, if_neg z]
              refine r_iload (pc := 154) 7 dX12_look_154 rfl ?_
              refine r_if_le (pc := 156) (tgt := 171) dX12_look_156 (by decide) (fun c_156 => ?_) (fun c_156 => ?_)
              · have e9 := keep (fun z => Int32.not_lt.mpr c_156 z.1)
                rw [e9] at ih
                refine r_iload (pc := 171) 5 dX12_look_171 rfl ?_
                refine r_istore (pc := 173) (lv' := [(0, _), (1, _), (2, _), (3, _), (4, _), (5, _), (6, _), (7, _), (8, _)]) dX12_look_173 (Nat.le_of_ble_eq_true rfl) rfl ?_
                refine r_iload (pc := 175) 7 dX12_look_175 rfl ?_
                refine r_if_le (pc := 177) (tgt := 192) dX12_look_177 (by decide) (fun c_177 => ?_) (fun c_177 => ?_)
                · refine r_iload (pc := 192) 4 dX12_look_192 rfl ?_
                  refine r_istore (pc := 194) (lv' := [(0, _), (1, _), (2, _), (3, _), (4, _), (5, _), (6, _), (7, _), (8, _)]) dX12_look_194 (Nat.le_of_ble_eq_true rfl) rfl ?_
                  refine r_iinc (pc := 196) (v := _ + (1)) (lv' := [(0, _), (1, _), (2, _), (3, _), (4, _), (5, _), (6, _), (7, _), (8, _)]) 6 dX12_look_196 rfl rfl (Nat.le_of_ble_eq_true rfl) rfl ?_
                  refine r_goto (pc := 199) (tgt := 42) dX12_look_199 (by decide) ?_
                  rw [nI_1]
                  refine r_sub [0, 1, 2, 3, 4, 5, 6] rfl ?_
                  exact ih ν κ hS
                · exact absurd c_156 c_177
              · refine r_iload (pc := 159) 7 dX12_look_159 rfl ?_
                refine r_iload (pc := 161) 4 dX12_look_161 rfl ?_
                refine r_icmp_ge (pc := 163) (tgt := 171) dX12_look_163 (by decide) (fun c_163 => ?_) (fun c_163 => ?_)
                · have e9 := keep (fun z => Int32.not_lt.mpr c_163 z.2)
                  rw [e9] at ih
                  refine r_iload (pc := 171) 5 dX12_look_171 rfl ?_
                  refine r_istore (pc := 173) (lv' := [(0, _), (1, _), (2, _), (3, _), (4, _), (5, _), (6, _), (7, _), (8, _)]) dX12_look_173 (Nat.le_of_ble_eq_true rfl) rfl ?_
                  refine r_iload (pc := 175) 7 dX12_look_175 rfl ?_
                  refine r_if_le (pc := 177) (tgt := 192) dX12_look_177 (by decide) (fun c_177 => ?_) (fun c_177 => ?_)
                  · exact absurd c_177 c_156
                  · refine r_iload (pc := 180) 7 dX12_look_180 rfl ?_
                    refine r_iload (pc := 182) 4 dX12_look_182 rfl ?_
                    refine r_icmp_ge (pc := 184) (tgt := 192) dX12_look_184 (by decide) (fun c_184 => ?_) (fun c_184 => ?_)
                    · refine r_iload (pc := 192) 4 dX12_look_192 rfl ?_
                      refine r_istore (pc := 194) (lv' := [(0, _), (1, _), (2, _), (3, _), (4, _), (5, _), (6, _), (7, _), (8, _)]) dX12_look_194 (Nat.le_of_ble_eq_true rfl) rfl ?_
                      refine r_iinc (pc := 196) (v := _ + (1)) (lv' := [(0, _), (1, _), (2, _), (3, _), (4, _), (5, _), (6, _), (7, _), (8, _)]) 6 dX12_look_196 rfl rfl (Nat.le_of_ble_eq_true rfl) rfl ?_
                      refine r_goto (pc := 199) (tgt := 42) dX12_look_199 (by decide) ?_
                      rw [nI_1]
                      refine r_sub [0, 1, 2, 3, 4, 5, 6] rfl ?_
                      exact ih ν κ hS
                    · exact absurd c_163 c_184
                · have e9 : lkY (μ 2) fo k all (y + 1) = (nI y, (alN (μ 2) fo k all y 9).2) := by rw [lkY, if_pos ⟨Int32.not_le.mp c_156, Int32.not_le.mp c_163⟩]
                  rw [e9] at ih
                  refine r_iload (pc := 166) 6 dX12_look_166 rfl ?_
                  refine r_goto (pc := 168) (tgt := 173) dX12_look_168 (by decide) ?_
                  refine r_istore (pc := 173) (lv' := [(0, _), (1, _), (2, _), (3, _), (4, _), (5, _), (6, _), (7, _), (8, _)]) dX12_look_173 (Nat.le_of_ble_eq_true rfl) rfl ?_
                  refine r_iload (pc := 175) 7 dX12_look_175 rfl ?_
                  refine r_if_le (pc := 177) (tgt := 192) dX12_look_177 (by decide) (fun c_177 => ?_) (fun c_177 => ?_)
                  · exact absurd c_177 c_156
                  · refine r_iload (pc := 180) 7 dX12_look_180 rfl ?_
                    refine r_iload (pc := 182) 4 dX12_look_182 rfl ?_
                    refine r_icmp_ge (pc := 184) (tgt := 192) dX12_look_184 (by decide) (fun c_184 => ?_) (fun c_184 => ?_)
                    · exact absurd c_184 c_163
                    · refine r_iload (pc := 187) 7 dX12_look_187 rfl ?_
                      refine r_goto (pc := 189) (tgt := 194) dX12_look_189 (by decide) ?_
                      refine r_istore (pc := 194) (lv' := [(0, _), (1, _), (2, _), (3, _), (4, _), (5, _), (6, _), (7, _), (8, _)]) dX12_look_194 (Nat.le_of_ble_eq_true rfl) rfl ?_
                      refine r_iinc (pc := 196) (v := _ + (1)) (lv' := [(0, _), (1, _), (2, _), (3, _), (4, _), (5, _), (6, _), (7, _), (8, _)]) 6 dX12_look_196 rfl rfl (Nat.le_of_ble_eq_true rfl) rfl ?_
                      refine r_goto (pc := 199) (tgt := 42) dX12_look_199 (by decide) ?_
                      rw [nI_1]
                      refine r_sub [0, 1, 2, 3, 4, 5, 6] rfl ?_
                      exact ih ν κ hS
            have lives : ∀ a, a ≤ 9 → ∀ ν κ, Sx (up2 μ 0 0 0) l ν κ → (∀ i, i < 10 → ν 28 i = (alN (μ 2) fo k all y a).1 i) → Wp E mX12_look (Rm 7 0 0) (Qm E (pY h m (up2 μ 0 0 0) l (.int (if (lkY (μ 2) fo k all 10).1 = -1 ∨ w = 0 then (lkY (μ 2) fo k all 10).1 else (lkY (μ 2) fo k all 10).2))) 0 0) 79 [(0, .ref m), (1, .int (nI k)), (2, .int w), (3, .int all), (4, .int (lkY (μ 2) fo k all y).2), (5, .int (lkY (μ 2) fo k all y).1), (6, .int (nI y)), (7, .int (alN (μ 2) fo k all y a).2), (8, .int (nI a))] [] (mH h m ν κ) 0 0 := by
              refine upTo (fun a ha ih2 => ?_) ?_
              · intro ν κ hS hal
                have e2 : ν 2 = μ 2 := hS.row.trans (th_2 μ)
                refine r_iload (pc := 79) 8 dX12_look_79 rfl ?_
                refine r_bipush (pc := 81) (9) dX12_look_81 rfl ?_
                refine r_icmp_ge (pc := 83) (tgt := 154) dX12_look_83 (by decide) (fun c_83 => ?_) (fun c_83 => ?_)
                · exact absurd c_83 (nI_ge (b := 9) ha (by decide))
                · refine r_iload_n (pc := 86) 3 dX12_look_86 rfl ?_
                  refine r_iload (pc := 87) 8 dX12_look_87 rfl ?_
                  refine r_dS (pc := 89) (As := [_, _]) ms_X12_is ml_X12_197 (ct_is _ _) rfl rfl (Nat.le_of_ble_eq_true rfl) (Nat.le_of_ble_eq_true rfl) (Nat.le_of_ble_eq_true rfl) (Nat.le_of_ble_eq_true rfl) (Nat.le_of_ble_eq_true rfl) dX12_look_89 ?_
                  refine r_if_eq (pc := 92) (tgt := 148) dX12_look_92 (by decide) (fun c_92 => ?_) (fun c_92 => ?_)
                  · have e9 : alN (μ 2) fo k all y (a + 1) = alN (μ 2) fo k all y a := by rw [alN, if_neg (by rw [bI_0.mp c_92]; decide)]
                    rw [e9] at ih2
                    refine r_iinc (pc := 148) (v := _ + (1)) (lv' := [(0, _), (1, _), (2, _), (3, _), (4, _), (5, _), (6, _), (7, _), (8, _)]) 8 dX12_look_148 rfl rfl (Nat.le_of_ble_eq_true rfl) rfl ?_
                    refine r_goto (pc := 151) (tgt := 79) dX12_look_151 (by decide) ?_
                    rw [nI_1]
                    exact ih2 ν κ hS hal
                  · refine r_aload_n (pc := 95) 0 dX12_look_95 rfl ?_
                    refine r_iload_n (pc := 96) 1 dX12_look_96 rfl ?_
                    refine r_iload (pc := 97) 8 dX12_look_97 rfl ?_
                    refine r_aload_n (pc := 99) 0 dX12_look_99 rfl ?_
                    refine r_iload_n (pc := 100) 1 dX12_look_100 rfl ?_
                    refine r_dV (pc := 101) (As := [_]) mv_X12_spentOf ml_X12_213 (ct_spentOf hm k (by omega)) (q_is hm) rfl rfl (Nat.le_of_ble_eq_true rfl) (Nat.le_of_ble_eq_true rfl) (Nat.le_of_ble_eq_true rfl) (Nat.le_of_ble_eq_true rfl) (Nat.le_of_ble_eq_true rfl) dX12_look_101 ?_
                    refine r_iload (pc := 104) 6 dX12_look_104 rfl ?_
                    refine r_callV (pc := 106) (As := [_, _, _, _]) mv_X12_showsOf ml_X12_222 (ct_showsOf hm ((mx_th hx).x hS) (by omega) _ _ _) (q_is hm) rfl rfl (Nat.le_of_ble_eq_true rfl) (Nat.le_of_ble_eq_true rfl) (Nat.le_of_ble_eq_true rfl) (Nat.le_of_ble_eq_true rfl) (Nat.le_of_ble_eq_true rfl) dX12_look_106 (fun r h1 hp => ?_)
                    obtain ⟨ν2, κ2, rfl, hS2, rfl⟩ := hp
                    rw [e2]
                    have n28 : ν2 28 = ν 28 := hS2.1 28 (by decide)
                    obtain ⟨j, hj, ej⟩ := showF_nI (μ 2) fo k (nI a) (spentF (μ 2) k) (nI y)
                    rw [alN_yes (bI_n0.mp c_92) hj ej] at ih2
                    rw [ej]
                    show Wp E mX12_look _ _ _ _ [.int _] _ 0 0
                    refine r_istore (pc := 109) (lv' := [(0, _), (1, _), (2, _), (3, _), (4, _), (5, _), (6, _), (7, _), (8, _), (9, _)]) dX12_look_109 (Nat.le_of_ble_eq_true rfl) rfl ?_
                    refine r_aload_n (pc := 111) 0 dX12_look_111 rfl ?_
                    refine q_getR (pc := 112) fl_X12_129 hm (md_f48 hm) dX12_look_112 ?_
                    refine r_iload (pc := 115) 9 dX12_look_115 rfl ?_
                    refine r_dup2_11 (pc := 117) dX12_look_117 rfl rfl ?_
                    refine q_iald (pc := 118) (j := j) (md_r48 hm) (by decide) rfl (by omega) (by decide) dX12_look_118 ?_
                    refine r_iconst (pc := 119) (1) dX12_look_119 rfl ?_
                    refine r_iadd (pc := 120) dX12_look_120 ?_
                    rw [n28, hal j (by omega)]
                    refine q_iast (pc := 121) (j := j) (md_r48 hm) (by decide) rfl (by omega) (by decide) dX12_look_121 ?_
                    refine r_aload_n (pc := 122) 0 dX12_look_122 rfl ?_
                    refine q_getR (pc := 123) fl_X12_129 hm (md_f48 hm) dX12_look_123 ?_
                    refine r_iload (pc := 126) 9 dX12_look_126 rfl ?_
                    refine q_iald (pc := 128) (j := j) (md_r48 hm) (by decide) rfl (by omega) (by decide) dX12_look_128 ?_
                    rw [up2_at]
                    have hS3 : Sx (up2 μ 0 0 0) l (up2 ν2 28 j ((alN (μ 2) fo k all y a).1 j + 1)) κ2 := (hS.tr hS2.x).tr (Sx.I (by unfold isScr; omega) (by decide))
                    have hal3 : ∀ i, i < 10 → up2 ν2 28 j ((alN (μ 2) fo k all y a).1 j + 1) 28 i = va_up (alN (μ 2) fo k all y a).1 j ((alN (μ 2) fo k all y a).1 j + 1) i := by
                      intro i hi
                      by_cases h1 : i = j
                      · rw [h1, up2_at, va_up_self]
                      · rw [up2_ne (by omega), va_up_ne _ _ h1, n28]; exact hal i hi
                    refine r_iload (pc := 129) 7 dX12_look_129 rfl ?_
                    refine r_icmp_le (pc := 131) (tgt := 144) dX12_look_131 (by decide) (fun c_131 => ?_) (fun c_131 => ?_)
                    · rw [if_neg (Int32.not_lt.mpr c_131)] at ih2
                      refine r_iload (pc := 144) 7 dX12_look_144 rfl ?_
                      refine r_istore (pc := 146) (lv' := [(0, _), (1, _), (2, _), (3, _), (4, _), (5, _), (6, _), (7, _), (8, _), (9, _)]) dX12_look_146 (Nat.le_of_ble_eq_true rfl) rfl ?_
                      refine r_iinc (pc := 148) (v := _ + (1)) (lv' := [(0, _), (1, _), (2, _), (3, _), (4, _), (5, _), (6, _), (7, _), (8, _), (9, _)]) 8 dX12_look_148 rfl rfl (Nat.le_of_ble_eq_true rfl) rfl ?_
                      refine r_goto (pc := 151) (tgt := 79) dX12_look_151 (by decide) ?_
                      rw [nI_1]
                      refine r_sub [0, 1, 2, 3, 4, 5, 6, 7, 8] rfl ?_
                      exact ih2 _ _ hS3 hal3
                    · rw [if_pos (Int32.not_le.mp c_131)] at ih2
                      refine r_aload_n (pc := 134) 0 dX12_look_134 rfl ?_
                      refine q_getR (pc := 135) fl_X12_129 hm (md_f48 hm) dX12_look_135 ?_
                      refine r_iload (pc := 138) 9 dX12_look_138 rfl ?_
                      refine q_iald (pc := 140) (j := j) (md_r48 hm) (by decide) rfl (by omega) (by decide) dX12_look_140 ?_
                      refine r_goto (pc := 141) (tgt := 146) dX12_look_141 (by decide) ?_
                      refine r_istore (pc := 146) (lv' := [(0, _), (1, _), (2, _), (3, _), (4, _), (5, _), (6, _), (7, _), (8, _), (9, _)]) dX12_look_146 (Nat.le_of_ble_eq_true rfl) rfl ?_
                      refine r_iinc (pc := 148) (v := _ + (1)) (lv' := [(0, _), (1, _), (2, _), (3, _), (4, _), (5, _), (6, _), (7, _), (8, _), (9, _)]) 8 dX12_look_148 rfl rfl (Nat.le_of_ble_eq_true rfl) rfl ?_
                      refine r_goto (pc := 151) (tgt := 79) dX12_look_151 (by decide) ?_
                      rw [nI_1, up2_at]
                      refine r_sub [0, 1, 2, 3, 4, 5, 6, 7, 8] rfl ?_
                      exact ih2 _ _ hS3 hal3
              · intro ν κ hS hal
                refine r_iload (pc := 79) 8 dX12_look_79 rfl ?_
                refine r_bipush (pc := 81) (9) dX12_look_81 rfl ?_
                refine r_icmp_ge (pc := 83) (tgt := 154) dX12_look_83 (by decide) (fun c_83 => ?_) (fun c_83 => ?_)
                · exact fin ν κ _ hS
                · exact absurd (show (9 : Int32) ≤ nI 9 by decide) c_83
            have zero : ∀ a, a ≤ 10 → ∀ ν κ, Sx (up2 μ 0 0 0) l ν κ → (∀ i, i < a → ν 28 i = 0) → Wp E mX12_look (Rm 7 0 0) (Qm E (pY h m (up2 μ 0 0 0) l (.int (if (lkY (μ 2) fo k all 10).1 = -1 ∨ w = 0 then (lkY (μ 2) fo k all 10).1 else (lkY (μ 2) fo k all 10).2))) 0 0) 55 [(0, .ref m), (1, .int (nI k)), (2, .int w), (3, .int all), (4, .int (lkY (μ 2) fo k all y).2), (5, .int (lkY (μ 2) fo k all y).1), (6, .int (nI y)), (7, .int 0), (8, .int (nI a))] [] (mH h m ν κ) 0 0 := by
              refine upTo (fun a ha ih2 => ?_) ?_
              · intro ν κ hS hz
                refine r_iload (pc := 55) 8 dX12_look_55 rfl ?_
                refine r_bipush (pc := 57) (10) dX12_look_57 rfl ?_
                refine r_icmp_ge (pc := 59) (tgt := 76) dX12_look_59 (by decide) (fun c_59 => ?_) (fun c_59 => ?_)
                · exact absurd c_59 (nI_ge (b := 10) ha (by decide))
                · refine r_aload_n (pc := 62) 0 dX12_look_62 rfl ?_
                  refine q_getR (pc := 63) fl_X12_129 hm (md_f48 hm) dX12_look_63 ?_
                  refine r_iload (pc := 66) 8 dX12_look_66 rfl ?_
                  refine r_iconst (pc := 68) (0) dX12_look_68 rfl ?_
                  refine q_iast (pc := 69) (j := a) (md_r48 hm) (by decide) rfl (by omega) (by decide) dX12_look_69 ?_
                  refine r_iinc (pc := 70) (v := _ + (1)) (lv' := [(0, _), (1, _), (2, _), (3, _), (4, _), (5, _), (6, _), (7, _), (8, _)]) 8 dX12_look_70 rfl rfl (Nat.le_of_ble_eq_true rfl) rfl ?_
                  refine r_goto (pc := 73) (tgt := 55) dX12_look_73 (by decide) ?_
                  rw [nI_1]
                  refine ih2 _ _ (hS.tr (Sx.I (by unfold isScr; omega) (by decide))) (fun i hi => ?_)
                  by_cases h1 : i = a
                  · rw [h1, up2_at]
                  · rw [up2_ne (by omega)]; exact hz i (by omega)
              · intro ν κ hS hz
                refine r_iload (pc := 55) 8 dX12_look_55 rfl ?_
                refine r_bipush (pc := 57) (10) dX12_look_57 rfl ?_
                refine r_icmp_ge (pc := 59) (tgt := 76) dX12_look_59 (by decide) (fun c_59 => ?_) (fun c_59 => ?_)
                · refine r_iconst (pc := 76) (0) dX12_look_76 rfl ?_
                  refine r_istore (pc := 77) (lv' := [(0, _), (1, _), (2, _), (3, _), (4, _), (5, _), (6, _), (7, _), (8, _)]) dX12_look_77 (Nat.le_of_ble_eq_true rfl) rfl ?_
                  exact lives 0 (by omega) ν κ hS (fun i hi => hz i hi)
                · exact absurd (show (10 : Int32) ≤ nI 10 by decide) c_59
            exact zero 0 (by omega) ν κ hS (fun i hi => absurd hi (by omega))
        · intro ν κ hS
          refine r_iload (pc := 42) 6 dX12_look_42 rfl ?_
          refine r_bipush (pc := 44) (10) dX12_look_44 rfl ?_
          refine r_icmp_ge (pc := 46) (tgt := 202) dX12_look_46 (by decide) (fun c_46 => ?_) (fun c_46 => ?_)
          · refine r_iload (pc := 202) 5 dX12_look_202 rfl ?_
            refine r_iconst (pc := 204) (-1) dX12_look_204 rfl ?_
            refine r_icmp_eq (pc := 205) (tgt := 212) dX12_look_205 (by decide) (fun c_205 => ?_) (fun c_205 => ?_)
            · refine r_iload (pc := 212) 5 dX12_look_212 rfl ?_
              refine r_goto (pc := 214) (tgt := 219) dX12_look_214 (by decide) ?_
              refine r_iret (pc := 219) rfl ?_ (Nat.le_of_ble_eq_true rfl) (Nat.le_of_ble_eq_true rfl) dX12_look_219
              exact ⟨ν, κ, hS, rfl, by rw [if_pos (Or.inl c_205)]⟩
            · refine r_iload_n (pc := 208) 2 dX12_look_208 rfl ?_
              refine r_if_ne (pc := 209) (tgt := 217) dX12_look_209 (by decide) (fun c_209 => ?_) (fun c_209 => ?_)
              · refine r_iload (pc := 217) 4 dX12_look_217 rfl ?_
                refine r_iret (pc := 219) rfl ?_ (Nat.le_of_ble_eq_true rfl) (Nat.le_of_ble_eq_true rfl) dX12_look_219
                exact ⟨ν, κ, hS, rfl, by rw [if_neg (fun z => z.elim c_205 c_209)]⟩
              · refine r_iload (pc := 212) 5 dX12_look_212 rfl ?_
                refine r_goto (pc := 214) (tgt := 219) dX12_look_214 (by decide) ?_
                refine r_iret (pc := 219) rfl ?_ (Nat.le_of_ble_eq_true rfl) (Nat.le_of_ble_eq_true rfl) dX12_look_219
                exact ⟨ν, κ, hS, rfl, by rw [if_pos (Or.inr c_209)]⟩
          · exact absurd (show (10 : Int32) ≤ nI 10 by decide) c_46
      exact years 0 (by omega) ν0 κ0 hS0.x
    · rw [show decide _ = inN w 2 from in_lit (b := 1) (n := 1) (by decide)] at c_20
      exact no (fun z => by rw [bI_0.mp c_20] at z; exact absurd z.2 (by decide))
end MODELF
