/-! the reference: what explains a row of doings -/
section MODELH
variable {E : En} {h : Hp} {m : Nat} {μ : Mu} {l : La}
theorem nI_div {a b : Nat} (ha : a < 2 ^ 31) (hb : b < 2 ^ 31) : nI a / nI b = nI (a / b) := by
  apply Int32.toInt_inj.mp
  have hd : a / b ≤ a := Nat.div_le_self a b
  have e1 : ((a : Int).tdiv (b : Int)) = ((a / b : Nat) : Int) := by rw [Int.tdiv_eq_ediv_of_nonneg (by omega)]; rfl
  rw [Int32.toInt_div, nI_toInt ha, nI_toInt hb, nI_toInt (by omega), e1]
  generalize a / b = q at hd ⊢
  have h1 : -((2 ^ 32 : Nat) / 2 : Int) ≤ (q : Int) := by omega
  exact Int.bmod_eq_of_le (by omega) (by omega)
/-- does a life with so many spent show what was seen j-th -/
def shP (r : Nat → Int32) (fo : Option (List Cl)) (k j li : Nat) (s : Int32) : Prop := showF r fo k (nI li) s (nI j) = r (41 + j)
/-- place q comes out of place i, by the same life or by one of the lowest T lives next -/
def Cb (r : Nat → Int32) (fo : Option (List Cl)) (k j : Nat) (P : Nat → Prop) (i T q : Nat) : Prop := P i ∧ ((q = i ∧ shP r fo k j (i % 9) (8 - onesN (nI (i / 9)) 9)) ∨ (0 < j ∧ ∃ t, t < T ∧ (i / 9).testBit t = true ∧ shP r fo k j t (8 - onesN (nI (i / 9)) 9 + 1) ∧ q = 9 * (i / 9 - 2 ^ t) + t))
def LayP (r : Nat → Int32) (fo : Option (List Cl)) (k j : Nat) (P : Nat → Prop) (q : Nat) : Prop := ∃ i, i < 4608 ∧ Cb r fo k j P i 9 q
def Rep (f : Nat → Int32) (P : Nat → Prop) : Prop := ∀ q, q < 4608 → (f q = 0 ∨ f q = 1) ∧ (f q = 1 ↔ P q)
theorem ct_layDoing (hm : Md E h m) {fo : Option (List Cl)} {nc ns k j : Nat} (hx : Mx μ fo nc ns) (hk : k < 6) (hj : j < 8) {P : Nat → Prop} (hP : Rep (μ 29) P) : Ct E 6 0 0 mX12_layDoing [.ref m, .int (nI k), .int (nI j)] (mH h m μ l) (fun r h' => ∃ ν κ, Sx μ l ν κ ∧ h' = mH h m ν κ ∧ r = none ∧ Rep (ν 29) (LayP (μ 2) fo k j P)) := by
  refine Ct.of (by decide +kernel) (Nat.le_of_ble_eq_true rfl) ?_
  have copy : ∀ a, a ≤ 4608 → ∀ ν κ, Sx μ l ν κ → Rep (ν 30) (LayP (μ 2) fo k j P) → (∀ i, i < a → ν 29 i = ν 30 i) → Wp E mX12_layDoing (Rm 6 0 0) (Qm E (fun r h' => ∃ ν κ, Sx μ l ν κ ∧ h' = mH h m ν κ ∧ r = none ∧ Rep (ν 29) (LayP (μ 2) fo k j P)) 0 0) 204 [(0, .ref m), (1, .int (nI k)), (2, .int (nI j)), (3, .int (nI a))] [] (mH h m ν κ) 0 0 := by
    refine upTo (fun a ha ih => ?_) ?_
    · intro ν κ hS hR hc
      refine r_iload_n (pc := 204) 3 dX12_layDoing_204 rfl ?_
      refine r_sipush (pc := 205) (4608) dX12_layDoing_205 rfl ?_
      refine r_icmp_ge (pc := 208) (tgt := 229) dX12_layDoing_208 (by decide) (fun c_208 => ?_) (fun c_208 => ?_)
      · exact absurd c_208 (nI_ge (b := 4608) ha (by decide))
      · refine r_aload_n (pc := 211) 0 dX12_layDoing_211 rfl ?_
        refine q_getR (pc := 212) fl_X12_132 hm (md_f49 hm) dX12_layDoing_212 ?_
        refine r_iload_n (pc := 215) 3 dX12_layDoing_215 rfl ?_
        refine r_aload_n (pc := 216) 0 dX12_layDoing_216 rfl ?_
        refine q_getR (pc := 217) fl_X12_135 hm (md_f50 hm) dX12_layDoing_217 ?_
        refine r_iload_n (pc := 220) 3 dX12_layDoing_220 rfl ?_
        refine q_zald (pc := 221) (j := a) (md_r50 hm) (by decide) rfl (by omega) (by decide) dX12_layDoing_221 ?_
        refine q_zast (pc := 222) (j := a) (md_r49 hm) (by decide) rfl (by omega) (by decide) ((hR a ha).1) dX12_layDoing_222 ?_
        refine r_iinc (pc := 223) (v := _ + (1)) (lv' := [(0, _), (1, _), (2, _), (3, _)]) 3 dX12_layDoing_223 rfl rfl (Nat.le_of_ble_eq_true rfl) rfl ?_
        refine r_goto (pc := 226) (tgt := 204) dX12_layDoing_226 (by decide) ?_
        rw [nI_1]
        refine ih _ _ (hS.tr (Sx.I (by unfold isScr; omega) (by decide))) (by rw [up2_other (by decide)]; exact hR) (fun i hi => ?_)
        by_cases h1 : i = a
        · rw [h1, up2_at, up2_ne (by omega)]
        · rw [up2_ne (by omega), up2_ne (by omega)]; exact hc i (by omega)
    · intro ν κ hS hR hc
      refine r_iload_n (pc := 204) 3 dX12_layDoing_204 rfl ?_
      refine r_sipush (pc := 205) (4608) dX12_layDoing_205 rfl ?_
      refine r_icmp_ge (pc := 208) (tgt := 229) dX12_layDoing_208 (by decide) (fun c_208 => ?_) (fun c_208 => ?_)
      · refine r_vret (pc := 229) rfl ?_ (Nat.le_of_ble_eq_true rfl) (Nat.le_of_ble_eq_true rfl) dX12_layDoing_229
        exact ⟨ν, κ, hS, rfl, rfl, fun q hq => by rw [hc q hq]; exact hR q hq⟩
      · exact absurd (show (4608 : Int32) ≤ nI 4608 by decide) c_208
  have sets : ∀ y, y ≤ 512 → ∀ ν κ, Sx μ l ν κ → ν 29 = μ 29 → Rep (ν 30) (fun q => ∃ i, i < 9 * y ∧ Cb (μ 2) fo k j P i 9 q) → Wp E mX12_layDoing (Rm 6 0 0) (Qm E (fun r h' => ∃ ν κ, Sx μ l ν κ ∧ h' = mH h m ν κ ∧ r = none ∧ Rep (ν 29) (LayP (μ 2) fo k j P)) 0 0) 24 [(0, .ref m), (1, .int (nI k)), (2, .int (nI j)), (3, .int (nI y))] [] (mH h m ν κ) 0 0 := by
    refine upTo (fun y hy ih => ?_) ?_
    · intro ν κ hS h29 hR
      refine r_iload_n (pc := 24) 3 dX12_layDoing_24 rfl ?_
      refine r_sipush (pc := 25) (512) dX12_layDoing_25 rfl ?_
      refine r_icmp_ge (pc := 28) (tgt := 202) dX12_layDoing_28 (by decide) (fun c_28 => ?_) (fun c_28 => ?_)
      · exact absurd c_28 (nI_ge (b := 512) hy (by decide))
      · refine r_bipush (pc := 31) (8) dX12_layDoing_31 rfl ?_
        refine r_iload_n (pc := 33) 3 dX12_layDoing_33 rfl ?_
        refine r_dS (pc := 34) (As := [_]) ms_X12_ones ml_X12_190 (ct_ones _) rfl rfl (Nat.le_of_ble_eq_true rfl) (Nat.le_of_ble_eq_true rfl) (Nat.le_of_ble_eq_true rfl) (Nat.le_of_ble_eq_true rfl) (Nat.le_of_ble_eq_true rfl) dX12_layDoing_34 ?_
        refine r_isub (pc := 37) dX12_layDoing_37 ?_
        refine r_istore (pc := 38) (lv' := [(0, _), (1, _), (2, _), (3, _), (4, _)]) dX12_layDoing_38 (Nat.le_of_ble_eq_true rfl) rfl ?_
        refine r_iconst (pc := 40) (0) dX12_layDoing_40 rfl ?_
        refine r_istore (pc := 41) (lv' := [(0, _), (1, _), (2, _), (3, _), (4, _), (5, _)]) dX12_layDoing_41 (Nat.le_of_ble_eq_true rfl) rfl ?_
        have lives : ∀ a, a ≤ 9 → ∀ ν κ, Sx μ l ν κ → ν 29 = μ 29 → Rep (ν 30) (fun q => ∃ i, i < 9 * y + a ∧ Cb (μ 2) fo k j P i 9 q) → Wp E mX12_layDoing (Rm 6 0 0) (Qm E (fun r h' => ∃ ν κ, Sx μ l ν κ ∧ h' = mH h m ν κ ∧ r = none ∧ Rep (ν 29) (LayP (μ 2) fo k j P)) 0 0) 43 [(0, .ref m), (1, .int (nI k)), (2, .int (nI j)), (3, .int (nI y)), (4, .int (8 - onesN (nI y) 9)), (5, .int (nI a))] [] (mH h m ν κ) 0 0 := by
          refine upTo (fun a ha ih2 => ?_) ?_
          · intro ν κ hS h29 hR
            have em : (9 * y + a) % 9 = a := by omega
            have ed : (9 * y + a) / 9 = y := by omega
            have e2 := hS.row
            have ei : (9 : Int32) * nI y + nI a = nI (9 * y + a) := by simp only [fa_lit, nI_add, nI_mul]
            refine r_iload (pc := 43) 5 dX12_layDoing_43 rfl ?_
            refine r_bipush (pc := 45) (9) dX12_layDoing_45 rfl ?_
            refine r_icmp_ge (pc := 47) (tgt := 196) dX12_layDoing_47 (by decide) (fun c_47 => ?_) (fun c_47 => ?_)
            · exact absurd c_47 (nI_ge (b := 9) ha (by decide))
            · have toEnd : ∀ ν κ, Sx μ l ν κ → ν 29 = μ 29 → Rep (ν 30) (fun q => (∃ i, i < 9 * y + a ∧ Cb (μ 2) fo k j P i 9 q) ∨ Cb (μ 2) fo k j P (9 * y + a) 9 q) → Wp E mX12_layDoing (Rm 6 0 0) (Qm E (fun r h' => ∃ ν κ, Sx μ l ν κ ∧ h' = mH h m ν κ ∧ r = none ∧ Rep (ν 29) (LayP (μ 2) fo k j P)) 0 0) 190 [(0, .ref m), (1, .int (nI k)), (2, .int (nI j)), (3, .int (nI y)), (4, .int (8 - onesN (nI y) 9)), (5, .int (nI a))] [] (mH h m ν κ) 0 0 := by
                intro ν κ hS h29 hR
                refine r_iinc (pc := 190) (v := _ + (1)) (lv' := [(0, _), (1, _), (2, _), (3, _), (4, _), (5, _)]) 5 dX12_layDoing_190 rfl rfl (Nat.le_of_ble_eq_true rfl) rfl ?_
                refine r_goto (pc := 193) (tgt := 43) dX12_layDoing_193 (by decide) ?_
                rw [nI_1]
                refine ih2 ν κ hS h29 (fun q hq => ⟨(hR q hq).1, (hR q hq).2.trans ⟨?_, ?_⟩⟩)
                · rintro (⟨i, hi, hc⟩ | hc)
                  · exact ⟨i, by omega, hc⟩
                  · exact ⟨9 * y + a, by omega, hc⟩
                · rintro ⟨i, hi, hc⟩
                  by_cases h1 : i = 9 * y + a
                  · rw [h1] at hc; exact Or.inr hc
                  · exact Or.inl ⟨i, by omega, hc⟩
              refine r_aload_n (pc := 50) 0 dX12_layDoing_50 rfl ?_
              refine q_getR (pc := 51) fl_X12_132 hm (md_f49 hm) dX12_layDoing_51 ?_
              refine r_bipush (pc := 54) (9) dX12_layDoing_54 rfl ?_
              refine r_iload_n (pc := 56) 3 dX12_layDoing_56 rfl ?_
              refine r_imul (pc := 57) dX12_layDoing_57 ?_
              refine r_iload (pc := 58) 5 dX12_layDoing_58 rfl ?_
              refine r_iadd (pc := 60) dX12_layDoing_60 ?_
              refine q_zald (pc := 61) (j := 9 * y + a) (md_r49 hm) (by decide) ei (by omega) (by decide) dX12_layDoing_61 ?_
              refine r_if_eq (pc := 62) (tgt := 190) dX12_layDoing_62 (by decide) (fun c_62 => ?_) (fun c_62 => ?_)
              · rw [h29] at c_62
                have hnP : ¬ P (9 * y + a) := fun z => by rw [(hP (9 * y + a) (by omega)).2.mpr z] at c_62; exact absurd c_62 (by decide)
                refine toEnd ν κ hS h29 (fun q hq => ⟨(hR q hq).1, (hR q hq).2.trans ⟨Or.inl, ?_⟩⟩)
                rintro (z | z)
                · exact z
                · exact absurd z.1 hnP
              · rw [h29] at c_62
                have hPi : P (9 * y + a) := (hP (9 * y + a) (by omega)).2.mp ((hP (9 * y + a) (by omega)).1.resolve_left c_62)
                have nexts : ∀ t, t ≤ 9 → ∀ ν κ, Sx μ l ν κ → ν 29 = μ 29 → Rep (ν 30) (fun q => (∃ i, i < 9 * y + a ∧ Cb (μ 2) fo k j P i 9 q) ∨ Cb (μ 2) fo k j P (9 * y + a) t q) → Wp E mX12_layDoing (Rm 6 0 0) (Qm E (fun r h' => ∃ ν κ, Sx μ l ν κ ∧ h' = mH h m ν κ ∧ r = none ∧ Rep (ν 29) (LayP (μ 2) fo k j P)) 0 0) 122 [(0, .ref m), (1, .int (nI k)), (2, .int (nI j)), (3, .int (nI y)), (4, .int (8 - onesN (nI y) 9)), (5, .int (nI a)), (6, .int (nI t))] [] (mH h m ν κ) 0 0 := by
                  refine upTo (fun t ht ih3 => ?_) ?_
                  · intro ν κ hS h29 hR
                    have e2 := hS.row
                    refine r_iload (pc := 122) 6 dX12_layDoing_122 rfl ?_
                    refine r_bipush (pc := 124) (9) dX12_layDoing_124 rfl ?_
                    refine r_icmp_ge (pc := 126) (tgt := 190) dX12_layDoing_126 (by decide) (fun c_126 => ?_) (fun c_126 => ?_)
                    · exact absurd c_126 (nI_ge (b := 9) ht (by decide))
                    · refine r_iload_n (pc := 129) 2 dX12_layDoing_129 rfl ?_
                      refine r_if_le (pc := 130) (tgt := 190) dX12_layDoing_130 (by decide) (fun c_130 => ?_) (fun c_130 => ?_)
                      · have hj0 : j = 0 := by
                          rcases Nat.eq_zero_or_pos j with q | q
                          · exact q
                          · exact absurd c_130 (nI_nle q (by omega))
                        refine r_sub [0, 1, 2, 3, 4, 5] rfl ?_
                        refine toEnd ν κ hS h29 (fun q hq => ⟨(hR q hq).1, (hR q hq).2.trans ⟨?_, ?_⟩⟩)
                        · rintro (z | ⟨z1, z2 | z2⟩)
                          · exact Or.inl z
                          · exact Or.inr ⟨z1, Or.inl z2⟩
                          · omega
                        · rintro (z | ⟨z1, z2 | z2⟩)
                          · exact Or.inl z
                          · exact Or.inr ⟨z1, Or.inl z2⟩
                          · omega
                      · have hj0 : 0 < j := by
                          rcases Nat.eq_zero_or_pos j with q | q
                          · exact absurd (by rw [q]; decide) c_130
                          · exact q
                        have skip : ¬ (y.testBit t = true ∧ shP (μ 2) fo k j t (8 - onesN (nI y) 9 + 1)) → ∀ ν κ, Sx μ l ν κ → ν 29 = μ 29 → Rep (ν 30) (fun q => (∃ i, i < 9 * y + a ∧ Cb (μ 2) fo k j P i 9 q) ∨ Cb (μ 2) fo k j P (9 * y + a) t q) → Wp E mX12_layDoing (Rm 6 0 0) (Qm E (fun r h' => ∃ ν κ, Sx μ l ν κ ∧ h' = mH h m ν κ ∧ r = none ∧ Rep (ν 29) (LayP (μ 2) fo k j P)) 0 0) 184 [(0, .ref m), (1, .int (nI k)), (2, .int (nI j)), (3, .int (nI y)), (4, .int (8 - onesN (nI y) 9)), (5, .int (nI a)), (6, .int (nI t))] [] (mH h m ν κ) 0 0 := by
                          intro hno ν κ hS h29 hR
                          refine r_iinc (pc := 184) (v := _ + (1)) (lv' := [(0, _), (1, _), (2, _), (3, _), (4, _), (5, _), (6, _)]) 6 dX12_layDoing_184 rfl rfl (Nat.le_of_ble_eq_true rfl) rfl ?_
                          refine r_goto (pc := 187) (tgt := 122) dX12_layDoing_187 (by decide) ?_
                          rw [nI_1]
                          refine ih3 ν κ hS h29 (fun q hq => ⟨(hR q hq).1, (hR q hq).2.trans ⟨?_, ?_⟩⟩)
                          · rintro (z | ⟨z1, z2 | ⟨z2, t', z3, z4⟩⟩)
                            · exact Or.inl z
                            · exact Or.inr ⟨z1, Or.inl z2⟩
                            · exact Or.inr ⟨z1, Or.inr ⟨z2, t', by omega, z4⟩⟩
                          · rintro (z | ⟨z1, z2 | ⟨z2, t', z3, z4, z5, z6⟩⟩)
                            · exact Or.inl z
                            · exact Or.inr ⟨z1, Or.inl z2⟩
                            · by_cases h1 : t' = t
                              · subst h1
                                rw [ed] at z4 z5
                                exact absurd ⟨z4, z5⟩ hno
                              · exact Or.inr ⟨z1, Or.inr ⟨z2, t', by omega, z4, z5, z6⟩⟩
                        refine r_iload_n (pc := 133) 3 dX12_layDoing_133 rfl ?_
                        refine r_iload (pc := 134) 6 dX12_layDoing_134 rfl ?_
                        refine r_dS (pc := 136) (As := [_, _]) ms_X12_is ml_X12_197 (ct_is _ _) rfl rfl (Nat.le_of_ble_eq_true rfl) (Nat.le_of_ble_eq_true rfl) (Nat.le_of_ble_eq_true rfl) (Nat.le_of_ble_eq_true rfl) (Nat.le_of_ble_eq_true rfl) dX12_layDoing_136 ?_
                        refine r_if_eq (pc := 139) (tgt := 184) dX12_layDoing_139 (by decide) (fun c_139 => ?_) (fun c_139 => ?_)
                        · rw [isB9 y hy t ht] at c_139
                          exact skip (fun z => by rw [bI_0.mp c_139] at z; exact absurd z.1 (by decide)) ν κ hS h29 hR
                        · rw [isB9 y hy t ht] at c_139
                          have hb := bI_n0.mp c_139
                          refine r_aload_n (pc := 142) 0 dX12_layDoing_142 rfl ?_
                          refine r_iload_n (pc := 143) 1 dX12_layDoing_143 rfl ?_
                          refine r_iload (pc := 144) 6 dX12_layDoing_144 rfl ?_
                          refine r_iload (pc := 146) 4 dX12_layDoing_146 rfl ?_
                          refine r_iconst (pc := 148) (1) dX12_layDoing_148 rfl ?_
                          refine r_iadd (pc := 149) dX12_layDoing_149 ?_
                          refine r_iload_n (pc := 150) 2 dX12_layDoing_150 rfl ?_
                          refine r_callV (pc := 151) (As := [_, _, _, _]) mv_X12_showsOf ml_X12_222 (ct_showsOf hm (hx.x hS) hk _ _ _) (q_is hm) rfl rfl (Nat.le_of_ble_eq_true rfl) (Nat.le_of_ble_eq_true rfl) (Nat.le_of_ble_eq_true rfl) (Nat.le_of_ble_eq_true rfl) (Nat.le_of_ble_eq_true rfl) dX12_layDoing_151 (fun r h1 hp => ?_)
                          obtain ⟨ν2, κ2, rfl, hS2, rfl⟩ := hp
                          have e3 : ν2 2 = μ 2 := (hS2.1 2 (by decide)).trans e2
                          have n29 : ν2 29 = μ 29 := (hS2.1 29 (by decide)).trans h29
                          have n30 : ν2 30 = ν 30 := hS2.1 30 (by decide)
                          rw [e2]
                          show Wp E mX12_layDoing _ _ _ _ [.int _] _ 0 0
                          refine r_aload_n (pc := 154) 0 dX12_layDoing_154 rfl ?_
                          refine q_getR (pc := 155) fl_X12_13 hm (md_f3 hm) dX12_layDoing_155 ?_
                          refine r_bipush (pc := 158) (41) dX12_layDoing_158 rfl ?_
                          refine r_iload_n (pc := 160) 2 dX12_layDoing_160 rfl ?_
                          refine r_iadd (pc := 161) dX12_layDoing_161 ?_
                          refine q_iald (pc := 162) (j := 41 + j) (md_r3 hm) (by decide) (by simp only [fa_lit, nI_add, nI_mul]) (by omega) (by decide) dX12_layDoing_162 ?_
                          refine r_icmp_ne (pc := 163) (tgt := 184) dX12_layDoing_163 (by decide) (fun c_163 => ?_) (fun c_163 => ?_)
                          · rw [e3] at c_163
                            exact skip (fun z => c_163 z.2) ν2 κ2 (hS.tr hS2.x) n29 (by rw [n30]; exact hR)
                          · rw [e3] at c_163
                            have h2 := bit_le hb
                            have hp1 : 1 ≤ 2 ^ t := Nat.one_le_two_pow
                            refine r_aload_n (pc := 166) 0 dX12_layDoing_166 rfl ?_
                            refine q_getR (pc := 167) fl_X12_135 hm (md_f50 hm) dX12_layDoing_167 ?_
                            refine r_bipush (pc := 170) (9) dX12_layDoing_170 rfl ?_
                            refine r_iload_n (pc := 172) 3 dX12_layDoing_172 rfl ?_
                            refine r_iconst (pc := 173) (1) dX12_layDoing_173 rfl ?_
                            refine r_iload (pc := 174) 6 dX12_layDoing_174 rfl ?_
                            refine r_ishl (pc := 176) dX12_layDoing_176 ?_
                            refine r_isub (pc := 177) dX12_layDoing_177 ?_
                            refine r_imul (pc := 178) dX12_layDoing_178 ?_
                            refine r_iload (pc := 179) 6 dX12_layDoing_179 rfl ?_
                            refine r_iadd (pc := 181) dX12_layDoing_181 ?_
                            refine r_iconst (pc := 182) (1) dX12_layDoing_182 rfl ?_
                            refine q_zast (pc := 183) (j := 9 * (y - 2 ^ t) + t) (md_r50 hm) (by decide) (by rw [sh9 t ht, nI_sub h2]; simp only [fa_lit, nI_add, nI_mul]) (by omega) (by decide) (by decide) dX12_layDoing_183 ?_
                            refine r_iinc (pc := 184) (v := _ + (1)) (lv' := [(0, _), (1, _), (2, _), (3, _), (4, _), (5, _), (6, _)]) 6 dX12_layDoing_184 rfl rfl (Nat.le_of_ble_eq_true rfl) rfl ?_
                            refine r_goto (pc := 187) (tgt := 122) dX12_layDoing_187 (by decide) ?_
                            rw [nI_1]
                            refine ih3 _ _ ((hS.tr hS2.x).tr (Sx.I (by unfold isScr; omega) (by decide))) (by rw [up2_other (by decide)]; exact n29) (fun q hq => ?_)
                            by_cases h1 : q = 9 * (y - 2 ^ t) + t
                            · rw [h1, up2_at]
                              refine ⟨Or.inr rfl, fun _ => Or.inr ⟨hPi, Or.inr ⟨hj0, t, by omega, ?_, ?_, ?_⟩⟩, fun _ => rfl⟩
                              · rw [ed]; exact hb
                              · rw [ed]; exact c_163
                              · rw [ed]
                            · rw [up2_ne (by omega), n30]
                              refine ⟨(hR q hq).1, (hR q hq).2.trans ⟨?_, ?_⟩⟩
                              · rintro (z | ⟨z1, z2 | ⟨z2, t', z3, z4⟩⟩)
                                · exact Or.inl z
                                · exact Or.inr ⟨z1, Or.inl z2⟩
                                · exact Or.inr ⟨z1, Or.inr ⟨z2, t', by omega, z4⟩⟩
                              · rintro (z | ⟨z1, z2 | ⟨z2, t', z3, z4, z5, z6⟩⟩)
                                · exact Or.inl z
                                · exact Or.inr ⟨z1, Or.inl z2⟩
                                · by_cases h5 : t' = t
                                  · subst h5
                                    rw [ed] at z6
                                    exact absurd z6 h1
                                  · exact Or.inr ⟨z1, Or.inr ⟨z2, t', by omega, z4, z5, z6⟩⟩
                  · intro ν κ hS h29 hR
                    refine r_iload (pc := 122) 6 dX12_layDoing_122 rfl ?_
                    refine r_bipush (pc := 124) (9) dX12_layDoing_124 rfl ?_
                    refine r_icmp_ge (pc := 126) (tgt := 190) dX12_layDoing_126 (by decide) (fun c_126 => ?_) (fun c_126 => ?_)
                    · refine r_sub [0, 1, 2, 3, 4, 5] rfl ?_
                      exact toEnd ν κ hS h29 hR
                    · exact absurd (show (9 : Int32) ≤ nI 9 by decide) c_126
                have store : ∀ (v : Int32) ν κ, Sx μ l ν κ → ν 29 = μ 29 → Rep (ν 30) (fun q => ∃ i, i < 9 * y + a ∧ Cb (μ 2) fo k j P i 9 q) → (v = 0 ∨ v = 1) → (v = 1 ↔ (ν 30 (9 * y + a) = 1 ∨ shP (μ 2) fo k j a (8 - onesN (nI y) 9))) → Wp E mX12_layDoing (Rm 6 0 0) (Qm E (fun r h' => ∃ ν κ, Sx μ l ν κ ∧ h' = mH h m ν κ ∧ r = none ∧ Rep (ν 29) (LayP (μ 2) fo k j P)) 0 0) 118 [(0, .ref m), (1, .int (nI k)), (2, .int (nI j)), (3, .int (nI y)), (4, .int (8 - onesN (nI y) 9)), (5, .int (nI a))] [.int v, .int (9 * nI y + nI a), .ref (m + 30)] (mH h m ν κ) 0 0 := by
                  intro v ν κ hS h29 hR hv hv1
                  refine q_zast (pc := 118) (j := 9 * y + a) (md_r50 hm) (by decide) ei (by omega) (by decide) (hv) dX12_layDoing_118 ?_
                  refine r_iconst (pc := 119) (0) dX12_layDoing_119 rfl ?_
                  refine r_istore (pc := 120) (lv' := [(0, _), (1, _), (2, _), (3, _), (4, _), (5, _), (6, _)]) dX12_layDoing_120 (Nat.le_of_ble_eq_true rfl) rfl ?_
                  refine nexts 0 (by omega) _ _ (hS.tr (Sx.I (by unfold isScr; omega) (by decide))) (by rw [up2_other (by decide)]; exact h29) (fun q hq => ?_)
                  by_cases h1 : q = 9 * y + a
                  · rw [h1, up2_at]
                    refine ⟨hv, hv1.trans ⟨?_, ?_⟩⟩
                    · rintro (z | z)
                      · exact Or.inl ((hR _ (by omega)).2.mp z)
                      · exact Or.inr ⟨hPi, Or.inl ⟨rfl, by rw [em, ed]; exact z⟩⟩
                    · rintro (z | ⟨z1, z2 | ⟨z2, t', z3, z4⟩⟩)
                      · exact Or.inl ((hR _ (by omega)).2.mpr z)
                      · rw [em, ed] at z2; exact Or.inr z2.2
                      · omega
                  · rw [up2_ne (by omega)]
                    refine ⟨(hR q hq).1, (hR q hq).2.trans ⟨Or.inl, ?_⟩⟩
                    rintro (z | ⟨z1, z2 | ⟨z2, t', z3, z4⟩⟩)
                    · exact z
                    · exact absurd z2.1 h1
                    · omega
                refine r_aload_n (pc := 65) 0 dX12_layDoing_65 rfl ?_
                refine q_getR (pc := 66) fl_X12_135 hm (md_f50 hm) dX12_layDoing_66 ?_
                refine r_bipush (pc := 69) (9) dX12_layDoing_69 rfl ?_
                refine r_iload_n (pc := 71) 3 dX12_layDoing_71 rfl ?_
                refine r_imul (pc := 72) dX12_layDoing_72 ?_
                refine r_iload (pc := 73) 5 dX12_layDoing_73 rfl ?_
                refine r_iadd (pc := 75) dX12_layDoing_75 ?_
                refine r_aload_n (pc := 76) 0 dX12_layDoing_76 rfl ?_
                refine q_getR (pc := 77) fl_X12_135 hm (md_f50 hm) dX12_layDoing_77 ?_
                refine r_bipush (pc := 80) (9) dX12_layDoing_80 rfl ?_
                refine r_iload_n (pc := 82) 3 dX12_layDoing_82 rfl ?_
                refine r_imul (pc := 83) dX12_layDoing_83 ?_
                refine r_iload (pc := 84) 5 dX12_layDoing_84 rfl ?_
                refine r_iadd (pc := 86) dX12_layDoing_86 ?_
                refine q_zald (pc := 87) (j := 9 * y + a) (md_r50 hm) (by decide) ei (by omega) (by decide) dX12_layDoing_87 ?_
                refine r_if_ne (pc := 88) (tgt := 113) dX12_layDoing_88 (by decide) (fun c_88 => ?_) (fun c_88 => ?_)
                · refine r_iconst (pc := 113) (1) dX12_layDoing_113 rfl ?_
                  refine r_goto (pc := 114) (tgt := 118) dX12_layDoing_114 (by decide) ?_
                  exact store 1 ν κ hS h29 hR (Or.inr rfl) ⟨fun _ => Or.inl ((hR _ (by omega)).1.resolve_left c_88), fun _ => rfl⟩
                · refine r_aload_n (pc := 91) 0 dX12_layDoing_91 rfl ?_
                  refine r_iload_n (pc := 92) 1 dX12_layDoing_92 rfl ?_
                  refine r_iload (pc := 93) 5 dX12_layDoing_93 rfl ?_
                  refine r_iload (pc := 95) 4 dX12_layDoing_95 rfl ?_
                  refine r_iload_n (pc := 97) 2 dX12_layDoing_97 rfl ?_
                  refine r_callV (pc := 98) (As := [_, _, _, _]) mv_X12_showsOf ml_X12_222 (ct_showsOf hm (hx.x hS) hk _ _ _) (q_is hm) rfl rfl (Nat.le_of_ble_eq_true rfl) (Nat.le_of_ble_eq_true rfl) (Nat.le_of_ble_eq_true rfl) (Nat.le_of_ble_eq_true rfl) (Nat.le_of_ble_eq_true rfl) dX12_layDoing_98 (fun r h1 hp => ?_)
                  obtain ⟨ν2, κ2, rfl, hS2, rfl⟩ := hp
                  have e3 : ν2 2 = μ 2 := (hS2.1 2 (by decide)).trans e2
                  have n29 : ν2 29 = μ 29 := (hS2.1 29 (by decide)).trans h29
                  have n30 : ν2 30 = ν 30 := hS2.1 30 (by decide)
                  rw [e2]
                  show Wp E mX12_layDoing _ _ _ _ [.int _, .int _, .ref _] _ 0 0
                  refine r_aload_n (pc := 101) 0 dX12_layDoing_101 rfl ?_
                  refine q_getR (pc := 102) fl_X12_13 hm (md_f3 hm) dX12_layDoing_102 ?_
                  refine r_bipush (pc := 105) (41) dX12_layDoing_105 rfl ?_
                  refine r_iload_n (pc := 107) 2 dX12_layDoing_107 rfl ?_
                  refine r_iadd (pc := 108) dX12_layDoing_108 ?_
                  refine q_iald (pc := 109) (j := 41 + j) (md_r3 hm) (by decide) (by simp only [fa_lit, nI_add, nI_mul]) (by omega) (by decide) dX12_layDoing_109 ?_
                  refine r_icmp_ne (pc := 110) (tgt := 117) dX12_layDoing_110 (by decide) (fun c_110 => ?_) (fun c_110 => ?_)
                  · rw [e3] at c_110
                    refine r_iconst (pc := 117) (0) dX12_layDoing_117 rfl ?_
                    refine store 0 ν2 κ2 (hS.tr hS2.x) n29 (by rw [n30]; exact hR) (Or.inl rfl) ⟨fun z => absurd z (by decide), fun z => ?_⟩
                    rcases z with z | z
                    · rw [n30, c_88] at z; exact absurd z (by decide)
                    · exact absurd z c_110
                  · rw [e3] at c_110
                    refine r_iconst (pc := 113) (1) dX12_layDoing_113 rfl ?_
                    refine r_goto (pc := 114) (tgt := 118) dX12_layDoing_114 (by decide) ?_
                    exact store 1 ν2 κ2 (hS.tr hS2.x) n29 (by rw [n30]; exact hR) (Or.inr rfl) ⟨fun _ => Or.inr c_110, fun _ => rfl⟩
          · intro ν κ hS h29 hR
            refine r_iload (pc := 43) 5 dX12_layDoing_43 rfl ?_
            refine r_bipush (pc := 45) (9) dX12_layDoing_45 rfl ?_
            refine r_icmp_ge (pc := 47) (tgt := 196) dX12_layDoing_47 (by decide) (fun c_47 => ?_) (fun c_47 => ?_)
            · refine r_iinc (pc := 196) (v := _ + (1)) (lv' := [(0, _), (1, _), (2, _), (3, _), (4, _), (5, _)]) 3 dX12_layDoing_196 rfl rfl (Nat.le_of_ble_eq_true rfl) rfl ?_
              refine r_goto (pc := 199) (tgt := 24) dX12_layDoing_199 (by decide) ?_
              rw [nI_1]
              refine r_sub [0, 1, 2, 3] rfl ?_
              exact ih ν κ hS h29 (fun q hq => ⟨(hR q hq).1, (hR q hq).2.trans ⟨fun ⟨i, hi, z⟩ => ⟨i, by omega, z⟩, fun ⟨i, hi, z⟩ => ⟨i, by omega, z⟩⟩⟩)
            · exact absurd (show (9 : Int32) ≤ nI 9 by decide) c_47
        exact lives 0 (by omega) ν κ hS h29 hR
    · intro ν κ hS h29 hR
      refine r_iload_n (pc := 24) 3 dX12_layDoing_24 rfl ?_
      refine r_sipush (pc := 25) (512) dX12_layDoing_25 rfl ?_
      refine r_icmp_ge (pc := 28) (tgt := 202) dX12_layDoing_28 (by decide) (fun c_28 => ?_) (fun c_28 => ?_)
      · refine r_iconst (pc := 202) (0) dX12_layDoing_202 rfl ?_
        refine r_istore_n (pc := 203) (lv' := [(0, _), (1, _), (2, _), (3, _)]) dX12_layDoing_203 (Nat.le_of_ble_eq_true rfl) rfl ?_
        exact copy 0 (by omega) ν κ hS hR (fun i hi => absurd hi (by omega))
      · exact absurd (show (512 : Int32) ≤ nI 512 by decide) c_28
  refine r_iconst (pc := 0) (0) dX12_layDoing_0 rfl ?_
  refine r_istore_n (pc := 1) (lv' := [(0, _), (1, _), (2, _), (3, _)]) dX12_layDoing_1 (Nat.le_of_ble_eq_true rfl) rfl ?_
  have zero : ∀ a, a ≤ 4608 → ∀ ν κ, Sx μ l ν κ → ν 29 = μ 29 → (∀ i, i < a → ν 30 i = 0) → Wp E mX12_layDoing (Rm 6 0 0) (Qm E (fun r h' => ∃ ν κ, Sx μ l ν κ ∧ h' = mH h m ν κ ∧ r = none ∧ Rep (ν 29) (LayP (μ 2) fo k j P)) 0 0) 2 [(0, .ref m), (1, .int (nI k)), (2, .int (nI j)), (3, .int (nI a))] [] (mH h m ν κ) 0 0 := by
    refine upTo (fun a ha ih => ?_) ?_
    · intro ν κ hS h29 hz
      refine r_iload_n (pc := 2) 3 dX12_layDoing_2 rfl ?_
      refine r_sipush (pc := 3) (4608) dX12_layDoing_3 rfl ?_
      refine r_icmp_ge (pc := 6) (tgt := 22) dX12_layDoing_6 (by decide) (fun c_6 => ?_) (fun c_6 => ?_)
      · exact absurd c_6 (nI_ge (b := 4608) ha (by decide))
      · refine r_aload_n (pc := 9) 0 dX12_layDoing_9 rfl ?_
        refine q_getR (pc := 10) fl_X12_135 hm (md_f50 hm) dX12_layDoing_10 ?_
        refine r_iload_n (pc := 13) 3 dX12_layDoing_13 rfl ?_
        refine r_iconst (pc := 14) (0) dX12_layDoing_14 rfl ?_
        refine q_zast (pc := 15) (j := a) (md_r50 hm) (by decide) rfl (by omega) (by decide) (by decide) dX12_layDoing_15 ?_
        refine r_iinc (pc := 16) (v := _ + (1)) (lv' := [(0, _), (1, _), (2, _), (3, _)]) 3 dX12_layDoing_16 rfl rfl (Nat.le_of_ble_eq_true rfl) rfl ?_
        refine r_goto (pc := 19) (tgt := 2) dX12_layDoing_19 (by decide) ?_
        rw [nI_1]
        refine ih _ _ (hS.tr (Sx.I (by unfold isScr; omega) (by decide))) (by rw [up2_other (by decide)]; exact h29) (fun i hi => ?_)
        by_cases h1 : i = a
        · rw [h1, up2_at]
        · rw [up2_ne (by omega)]; exact hz i (by omega)
    · intro ν κ hS h29 hz
      refine r_iload_n (pc := 2) 3 dX12_layDoing_2 rfl ?_
      refine r_sipush (pc := 3) (4608) dX12_layDoing_3 rfl ?_
      refine r_icmp_ge (pc := 6) (tgt := 22) dX12_layDoing_6 (by decide) (fun c_6 => ?_) (fun c_6 => ?_)
      · refine r_iconst (pc := 22) (0) dX12_layDoing_22 rfl ?_
        refine r_istore_n (pc := 23) (lv' := [(0, _), (1, _), (2, _), (3, _)]) dX12_layDoing_23 (Nat.le_of_ble_eq_true rfl) rfl ?_
        refine sets 0 (by omega) ν κ hS h29 (fun q hq => ?_)
        rw [hz q hq]
        exact ⟨Or.inl rfl, fun z => absurd z (by decide), fun ⟨i, hi, _⟩ => absurd hi (by omega)⟩
      · exact absurd (show (4608 : Int32) ≤ nI 4608 by decide) c_6
  exact zero 0 (by omega) μ l Sx.rf rfl (fun i hi => absurd hi (by omega))
end MODELH
