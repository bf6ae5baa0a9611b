/-! the reference: of, at; to sign, die, clip, pass -/
section MODEL7
variable {E : En} {h : Hp} {m : Nat} {μ : Mu} {l : La}
theorem and1 (y : Int32) : y &&& 1 = 0 ∨ y &&& 1 = 1 := by
  have h2 : y.toBitVec &&& 1#32 = 0#32 ∨ y.toBitVec &&& 1#32 = 1#32 := by
    generalize y.toBitVec = b
    have e0 : (b &&& 1#32).toNat = b.toNat % 2 := by rw [BitVec.toNat_and]; exact Nat.and_one_is_mod _
    rcases Nat.mod_two_eq_zero_or_one b.toNat with e | e
    · left; apply BitVec.eq_of_toNat_eq; rw [e0, e]; rfl
    · right; apply BitVec.eq_of_toNat_eq; rw [e0, e]; rfl
  rcases h2 with e | e
  · left; exact Int32.toBitVec_inj.mp e
  · right; exact Int32.toBitVec_inj.mp e
theorem onesN_nI (x : Int32) : ∀ k, ∃ j, j ≤ k ∧ onesN x k = nI j
  | 0 => ⟨0, Nat.le_refl 0, rfl⟩
  | k + 1 => by
    obtain ⟨j, hj, e⟩ := onesN_nI x k
    rcases and1 (x >>> (nI k &&& 31)) with q | q
    · exact ⟨j, by omega, by rw [onesN, e, q, Int32.add_zero]⟩
    · exact ⟨j + 1, by omega, by rw [onesN, e, q, nI_1]⟩
theorem onesN_p (x : Int32) : 0 ≤ onesN x 9 := by
  obtain ⟨j, hj, e⟩ := onesN_nI x 9
  rw [e]; exact nI_pos' (by omega)
def ofT (r : Nat → Int32) (fo : Option (List Cl)) (k : Nat) : Nat → Int32
  | 0 => r (8 + k) | 1 => r (14 + k) | 2 => r (20 + k) | 3 => r (26 + k) | 4 => r (32 + k) | 5 => spentF r k
  | 6 => earnF r fo k (r (8 + k)) (spentF r k) | 7 => dareF r fo k (r (8 + k)) (spentF r k) | 8 => showF r fo k (r (8 + k)) (spentF r k) 0 | _ => -1
def ofF (r : Nat → Int32) (fo : Option (List Cl)) (nc : Nat) (c w : Int32) : Int32 := if inN c nc = true then (if (5 : Int32) < w ∧ aliveF r c.toNatClampNeg = false then -1 else if inN w 9 = true then ofT r fo c.toNatClampNeg w.toNatClampNeg else -1) else -1
theorem ct_mof (hm : Md E h m) {fo : Option (List Cl)} {nc ns : Nat} (hx : Mx μ fo nc ns) (c w : Int32) : Ct E 6 0 0 mX12_of [.ref m, .int c, .int w] (mH h m μ l) (pS h m (up2 μ 0 0 0) l (.int (ofF (μ 2) fo nc c w))) := by
  refine Ct.of (by decide +kernel) (Nat.le_of_ble_eq_true rfl) ?_
  have er : up2 μ 0 0 0 2 = μ 2 := by funext j; exact up2_ne (by omega)
  have hx1 : Mx (up2 μ 0 0 0) fo nc ns := ⟨(up2_ne (by omega)).trans hx.1, by rw [er]; exact hx.2.1, by rw [er]; exact hx.2.2.1, hx.2.2.2.1, by rw [er]; exact hx.2.2.2.2.1, hx.2.2.2.2.2⟩
  have h6 := hx.2.2.2.1
  have no : ofF (μ 2) fo nc c w = -1 → Wp E mX12_of (Rm 6 0 0) (Qm E (pS h m (up2 μ 0 0 0) l (.int (ofF (μ 2) fo nc c w))) 0 0) 26 [(0, .ref m), (1, .int c), (2, .int w)] [] (mH h m (up2 μ 0 0 0) l) 0 0 := by
    intro e
    refine r_iconst (pc := 26) (-1) dX12_of_26 rfl ?_
    refine r_iret (pc := 27) rfl ?_ (Nat.le_of_ble_eq_true rfl) (Nat.le_of_ble_eq_true rfl) dX12_of_27
    exact ⟨_, _, rfl, S2.rf, by rw [e]⟩
  have go : inN c nc = true → ¬ ((5 : Int32) < w ∧ aliveF (μ 2) c.toNatClampNeg = false) → Wp E mX12_of (Rm 6 0 0) (Qm E (pS h m (up2 μ 0 0 0) l (.int (ofF (μ 2) fo nc c w))) 0 0) 28 [(0, .ref m), (1, .int c), (2, .int w)] [] (mH h m (up2 μ 0 0 0) l) 0 0 := by
    intro hc hno
    rw [ofF, if_pos hc, if_neg hno]
    obtain ⟨k, hk, rfl⟩ := inN_of (by omega) hc
    rw [nI_clamp (by omega)]
    refine r_iload_n (pc := 28) 2 dX12_of_28 rfl ?_
    by_cases hw : inN w 9 = true
    · rw [if_pos hw]
      obtain ⟨j, hj, rfl⟩ := inN_of (by decide) hw
      rw [nI_clamp (by omega)]
      rcases (show j = 0 ∨ j = 1 ∨ j = 2 ∨ j = 3 ∨ j = 4 ∨ j = 5 ∨ j = 6 ∨ j = 7 ∨ j = 8 by omega) with rfl | rfl | rfl | rfl | rfl | rfl | rfl | rfl | rfl
      · refine r_tableIn (pc := 29) (off := 51) (tgt := 80) dX12_of_29 (by decide) (by decide) (by decide +kernel) (by decide) ?_
        refine r_aload_n (pc := 80) 0 dX12_of_80 rfl ?_
        refine q_getR (pc := 81) fl_X12_13 hm (md_f3 hm) dX12_of_81 ?_
        refine r_bipush (pc := 84) (8) dX12_of_84 rfl ?_
        refine r_iload_n (pc := 86) 1 dX12_of_86 rfl ?_
        refine r_iadd (pc := 87) dX12_of_87 ?_
        refine q_iald (pc := 88) (j := 8 + k) (md_r3 hm) (by decide) (by simp only [fa_lit, nI_add, nI_mul]) (by omega) (by decide) dX12_of_88 ?_
        refine r_iret (pc := 89) rfl ?_ (Nat.le_of_ble_eq_true rfl) (Nat.le_of_ble_eq_true rfl) dX12_of_89
        rw [er]; exact ⟨_, _, rfl, S2.rf, rfl⟩
      · refine r_tableIn (pc := 29) (off := 61) (tgt := 90) dX12_of_29 (by decide) (by decide) (by decide +kernel) (by decide) ?_
        refine r_aload_n (pc := 90) 0 dX12_of_90 rfl ?_
        refine q_getR (pc := 91) fl_X12_13 hm (md_f3 hm) dX12_of_91 ?_
        refine r_bipush (pc := 94) (14) dX12_of_94 rfl ?_
        refine r_iload_n (pc := 96) 1 dX12_of_96 rfl ?_
        refine r_iadd (pc := 97) dX12_of_97 ?_
        refine q_iald (pc := 98) (j := 14 + k) (md_r3 hm) (by decide) (by simp only [fa_lit, nI_add, nI_mul]) (by omega) (by decide) dX12_of_98 ?_
        refine r_iret (pc := 99) rfl ?_ (Nat.le_of_ble_eq_true rfl) (Nat.le_of_ble_eq_true rfl) dX12_of_99
        rw [er]; exact ⟨_, _, rfl, S2.rf, rfl⟩
      · refine r_tableIn (pc := 29) (off := 71) (tgt := 100) dX12_of_29 (by decide) (by decide) (by decide +kernel) (by decide) ?_
        refine r_aload_n (pc := 100) 0 dX12_of_100 rfl ?_
        refine q_getR (pc := 101) fl_X12_13 hm (md_f3 hm) dX12_of_101 ?_
        refine r_bipush (pc := 104) (20) dX12_of_104 rfl ?_
        refine r_iload_n (pc := 106) 1 dX12_of_106 rfl ?_
        refine r_iadd (pc := 107) dX12_of_107 ?_
        refine q_iald (pc := 108) (j := 20 + k) (md_r3 hm) (by decide) (by simp only [fa_lit, nI_add, nI_mul]) (by omega) (by decide) dX12_of_108 ?_
        refine r_iret (pc := 109) rfl ?_ (Nat.le_of_ble_eq_true rfl) (Nat.le_of_ble_eq_true rfl) dX12_of_109
        rw [er]; exact ⟨_, _, rfl, S2.rf, rfl⟩
      · refine r_tableIn (pc := 29) (off := 81) (tgt := 110) dX12_of_29 (by decide) (by decide) (by decide +kernel) (by decide) ?_
        refine r_aload_n (pc := 110) 0 dX12_of_110 rfl ?_
        refine q_getR (pc := 111) fl_X12_13 hm (md_f3 hm) dX12_of_111 ?_
        refine r_bipush (pc := 114) (26) dX12_of_114 rfl ?_
        refine r_iload_n (pc := 116) 1 dX12_of_116 rfl ?_
        refine r_iadd (pc := 117) dX12_of_117 ?_
        refine q_iald (pc := 118) (j := 26 + k) (md_r3 hm) (by decide) (by simp only [fa_lit, nI_add, nI_mul]) (by omega) (by decide) dX12_of_118 ?_
        refine r_iret (pc := 119) rfl ?_ (Nat.le_of_ble_eq_true rfl) (Nat.le_of_ble_eq_true rfl) dX12_of_119
        rw [er]; exact ⟨_, _, rfl, S2.rf, rfl⟩
      · refine r_tableIn (pc := 29) (off := 91) (tgt := 120) dX12_of_29 (by decide) (by decide) (by decide +kernel) (by decide) ?_
        refine r_aload_n (pc := 120) 0 dX12_of_120 rfl ?_
        refine q_getR (pc := 121) fl_X12_13 hm (md_f3 hm) dX12_of_121 ?_
        refine r_bipush (pc := 124) (32) dX12_of_124 rfl ?_
        refine r_iload_n (pc := 126) 1 dX12_of_126 rfl ?_
        refine r_iadd (pc := 127) dX12_of_127 ?_
        refine q_iald (pc := 128) (j := 32 + k) (md_r3 hm) (by decide) (by simp only [fa_lit, nI_add, nI_mul]) (by omega) (by decide) dX12_of_128 ?_
        refine r_iret (pc := 129) rfl ?_ (Nat.le_of_ble_eq_true rfl) (Nat.le_of_ble_eq_true rfl) dX12_of_129
        rw [er]; exact ⟨_, _, rfl, S2.rf, rfl⟩
      · refine r_tableIn (pc := 29) (off := 101) (tgt := 130) dX12_of_29 (by decide) (by decide) (by decide +kernel) (by decide) ?_
        refine r_aload_n (pc := 130) 0 dX12_of_130 rfl ?_
        refine r_iload_n (pc := 131) 1 dX12_of_131 rfl ?_
        refine r_dV (pc := 132) (As := [_]) mv_X12_spentOf ml_X12_213 (ct_spentOf hm k (by omega)) (q_is hm) rfl rfl (Nat.le_of_ble_eq_true rfl) (Nat.le_of_ble_eq_true rfl) (Nat.le_of_ble_eq_true rfl) (Nat.le_of_ble_eq_true rfl) (Nat.le_of_ble_eq_true rfl) dX12_of_132 ?_
        refine r_iret (pc := 135) rfl ?_ (Nat.le_of_ble_eq_true rfl) (Nat.le_of_ble_eq_true rfl) dX12_of_135
        rw [er]; exact ⟨_, _, rfl, S2.rf, rfl⟩
      · refine r_tableIn (pc := 29) (off := 107) (tgt := 136) dX12_of_29 (by decide) (by decide) (by decide +kernel) (by decide) ?_
        refine r_aload_n (pc := 136) 0 dX12_of_136 rfl ?_
        refine r_iload_n (pc := 137) 1 dX12_of_137 rfl ?_
        refine r_aload_n (pc := 138) 0 dX12_of_138 rfl ?_
        refine q_getR (pc := 139) fl_X12_13 hm (md_f3 hm) dX12_of_139 ?_
        refine r_bipush (pc := 142) (8) dX12_of_142 rfl ?_
        refine r_iload_n (pc := 144) 1 dX12_of_144 rfl ?_
        refine r_iadd (pc := 145) dX12_of_145 ?_
        refine q_iald (pc := 146) (j := 8 + k) (md_r3 hm) (by decide) (by simp only [fa_lit, nI_add, nI_mul]) (by omega) (by decide) dX12_of_146 ?_
        refine r_aload_n (pc := 147) 0 dX12_of_147 rfl ?_
        refine r_iload_n (pc := 148) 1 dX12_of_148 rfl ?_
        refine r_dV (pc := 149) (As := [_]) mv_X12_spentOf ml_X12_213 (ct_spentOf hm k (by omega)) (q_is hm) rfl rfl (Nat.le_of_ble_eq_true rfl) (Nat.le_of_ble_eq_true rfl) (Nat.le_of_ble_eq_true rfl) (Nat.le_of_ble_eq_true rfl) (Nat.le_of_ble_eq_true rfl) dX12_of_149 ?_
        refine r_callV (pc := 152) (As := [_, _, _]) mv_X12_earnsOf ml_X12_216 (ct_earnsOf hm hx1 (by omega) _ _) (q_is hm) rfl rfl (Nat.le_of_ble_eq_true rfl) (Nat.le_of_ble_eq_true rfl) (Nat.le_of_ble_eq_true rfl) (Nat.le_of_ble_eq_true rfl) (Nat.le_of_ble_eq_true rfl) dX12_of_152 (fun r h1 hp => ?_)
        obtain ⟨ν, κ, rfl, hS, rfl⟩ := hp
        show Wp E mX12_of _ _ _ _ [.int _] _ 0 0
        refine r_iret (pc := 155) rfl ?_ (Nat.le_of_ble_eq_true rfl) (Nat.le_of_ble_eq_true rfl) dX12_of_155
        rw [er]; exact ⟨ν, κ, rfl, hS, rfl⟩
      · refine r_tableIn (pc := 29) (off := 127) (tgt := 156) dX12_of_29 (by decide) (by decide) (by decide +kernel) (by decide) ?_
        refine r_aload_n (pc := 156) 0 dX12_of_156 rfl ?_
        refine r_iload_n (pc := 157) 1 dX12_of_157 rfl ?_
        refine r_aload_n (pc := 158) 0 dX12_of_158 rfl ?_
        refine q_getR (pc := 159) fl_X12_13 hm (md_f3 hm) dX12_of_159 ?_
        refine r_bipush (pc := 162) (8) dX12_of_162 rfl ?_
        refine r_iload_n (pc := 164) 1 dX12_of_164 rfl ?_
        refine r_iadd (pc := 165) dX12_of_165 ?_
        refine q_iald (pc := 166) (j := 8 + k) (md_r3 hm) (by decide) (by simp only [fa_lit, nI_add, nI_mul]) (by omega) (by decide) dX12_of_166 ?_
        refine r_aload_n (pc := 167) 0 dX12_of_167 rfl ?_
        refine r_iload_n (pc := 168) 1 dX12_of_168 rfl ?_
        refine r_dV (pc := 169) (As := [_]) mv_X12_spentOf ml_X12_213 (ct_spentOf hm k (by omega)) (q_is hm) rfl rfl (Nat.le_of_ble_eq_true rfl) (Nat.le_of_ble_eq_true rfl) (Nat.le_of_ble_eq_true rfl) (Nat.le_of_ble_eq_true rfl) (Nat.le_of_ble_eq_true rfl) dX12_of_169 ?_
        refine r_callV (pc := 172) (As := [_, _, _]) mv_X12_daresOf ml_X12_219 (ct_daresOf hm hx1 (by omega) _ _) (q_is hm) rfl rfl (Nat.le_of_ble_eq_true rfl) (Nat.le_of_ble_eq_true rfl) (Nat.le_of_ble_eq_true rfl) (Nat.le_of_ble_eq_true rfl) (Nat.le_of_ble_eq_true rfl) dX12_of_172 (fun r h1 hp => ?_)
        obtain ⟨ν, κ, rfl, hS, rfl⟩ := hp
        show Wp E mX12_of _ _ _ _ [.int _] _ 0 0
        refine r_iret (pc := 175) rfl ?_ (Nat.le_of_ble_eq_true rfl) (Nat.le_of_ble_eq_true rfl) dX12_of_175
        rw [er]; exact ⟨ν, κ, rfl, hS, rfl⟩
      · refine r_tableIn (pc := 29) (off := 147) (tgt := 176) dX12_of_29 (by decide) (by decide) (by decide +kernel) (by decide) ?_
        refine r_aload_n (pc := 176) 0 dX12_of_176 rfl ?_
        refine r_iload_n (pc := 177) 1 dX12_of_177 rfl ?_
        refine r_aload_n (pc := 178) 0 dX12_of_178 rfl ?_
        refine q_getR (pc := 179) fl_X12_13 hm (md_f3 hm) dX12_of_179 ?_
        refine r_bipush (pc := 182) (8) dX12_of_182 rfl ?_
        refine r_iload_n (pc := 184) 1 dX12_of_184 rfl ?_
        refine r_iadd (pc := 185) dX12_of_185 ?_
        refine q_iald (pc := 186) (j := 8 + k) (md_r3 hm) (by decide) (by simp only [fa_lit, nI_add, nI_mul]) (by omega) (by decide) dX12_of_186 ?_
        refine r_aload_n (pc := 187) 0 dX12_of_187 rfl ?_
        refine r_iload_n (pc := 188) 1 dX12_of_188 rfl ?_
        refine r_dV (pc := 189) (As := [_]) mv_X12_spentOf ml_X12_213 (ct_spentOf hm k (by omega)) (q_is hm) rfl rfl (Nat.le_of_ble_eq_true rfl) (Nat.le_of_ble_eq_true rfl) (Nat.le_of_ble_eq_true rfl) (Nat.le_of_ble_eq_true rfl) (Nat.le_of_ble_eq_true rfl) dX12_of_189 ?_
        refine r_iconst (pc := 192) (0) dX12_of_192 rfl ?_
        refine r_callV (pc := 193) (As := [_, _, _, _]) mv_X12_showsOf ml_X12_222 (ct_showsOf hm hx1 (by omega) _ _ _) (q_is hm) rfl rfl (Nat.le_of_ble_eq_true rfl) (Nat.le_of_ble_eq_true rfl) (Nat.le_of_ble_eq_true rfl) (Nat.le_of_ble_eq_true rfl) (Nat.le_of_ble_eq_true rfl) dX12_of_193 (fun r h1 hp => ?_)
        obtain ⟨ν, κ, rfl, hS, rfl⟩ := hp
        show Wp E mX12_of _ _ _ _ [.int _] _ 0 0
        refine r_iret (pc := 196) rfl ?_ (Nat.le_of_ble_eq_true rfl) (Nat.le_of_ble_eq_true rfl) dX12_of_196
        rw [er]; exact ⟨ν, κ, rfl, hS, rfl⟩
    · rw [if_neg hw]
      refine r_tableOut (pc := 29) (tgt := 197) dX12_of_29 (by have := inN_out hw; omega) (by decide) ?_
      refine r_iconst (pc := 197) (-1) dX12_of_197 rfl ?_
      refine r_iret (pc := 198) rfl ?_ (Nat.le_of_ble_eq_true rfl) (Nat.le_of_ble_eq_true rfl) dX12_of_198
      exact ⟨_, _, rfl, S2.rf, rfl⟩
  refine r_aload_n (pc := 0) 0 dX12_of_0 rfl ?_
  refine r_iconst (pc := 1) (0) dX12_of_1 rfl ?_
  refine q_putI (pc := 2) fp_X12_161 hm dX12_of_2 ?_
  refine r_aload_n (pc := 5) 0 dX12_of_5 rfl ?_
  refine r_iload_n (pc := 6) 1 dX12_of_6 rfl ?_
  refine r_dV (pc := 7) (As := [_]) mv_X12_isCat ml_X12_210 (ct_isCat hm c hx1.2.2.1 (by omega)) (q_is hm) rfl rfl (Nat.le_of_ble_eq_true rfl) (Nat.le_of_ble_eq_true rfl) (Nat.le_of_ble_eq_true rfl) (Nat.le_of_ble_eq_true rfl) (Nat.le_of_ble_eq_true rfl) dX12_of_7 ?_
  refine r_if_eq (pc := 10) (tgt := 26) dX12_of_10 (by decide) (fun c_10 => ?_) (fun c_10 => ?_)
  · exact no (by rw [ofF, if_neg (by rw [bI_0.mp c_10]; decide)])
  · have hc := bI_n0.mp c_10
    refine r_iload_n (pc := 13) 2 dX12_of_13 rfl ?_
    refine r_iconst (pc := 14) (5) dX12_of_14 rfl ?_
    refine r_icmp_le (pc := 15) (tgt := 28) dX12_of_15 (by decide) (fun c_15 => ?_) (fun c_15 => ?_)
    · exact go hc (fun z => Int32.not_lt.mpr c_15 z.1)
    · obtain ⟨k, hk, rfl⟩ := inN_of (by omega) hc
      refine r_aload_n (pc := 18) 0 dX12_of_18 rfl ?_
      refine r_iload_n (pc := 19) 1 dX12_of_19 rfl ?_
      refine r_dV (pc := 20) (As := [_]) mv_X12_isAlive ml_X12_193 (ct_isAlive hm k (by omega)) (q_is hm) rfl rfl (Nat.le_of_ble_eq_true rfl) (Nat.le_of_ble_eq_true rfl) (Nat.le_of_ble_eq_true rfl) (Nat.le_of_ble_eq_true rfl) (Nat.le_of_ble_eq_true rfl) dX12_of_20 ?_
      refine r_if_ne (pc := 23) (tgt := 28) dX12_of_23 (by decide) (fun c_23 => ?_) (fun c_23 => ?_)
      · rw [er] at c_23
        exact go hc (fun z => by rw [nI_clamp (by omega), bI_n0.mp c_23] at z; exact absurd z.2 (by decide))
      · rw [er] at c_23
        exact no (by rw [ofF, if_pos hc, if_pos ⟨Int32.not_le.mp c_15, by rw [nI_clamp (by omega)]; exact bI_0.mp c_23⟩])
def atT (r : Nat → Int32) (fo : Option (List Cl)) (nc s : Nat) : Nat → Int32
  | 0 => r (38 + s) | 1 => crewN r (nI s) nc | 2 => r (38 + s) &&& (livesN r (crewN r (nI s) nc) nc ^^^ -1) | 3 => barN r fo (nI s) nc | _ => -1
def atF (r : Nat → Int32) (fo : Option (List Cl)) (nc ns : Nat) (s w : Int32) : Int32 := if inN s ns = true then (if inN w 4 = true then atT r fo nc s.toNatClampNeg w.toNatClampNeg else -1) else -1
theorem ct_mat (hm : Md E h m) {fo : Option (List Cl)} {nc ns : Nat} (hx : Mx μ fo nc ns) (s w : Int32) : Ct E 7 0 0 mX12_at [.ref m, .int s, .int w] (mH h m μ l) (pS h m (up2 μ 0 0 0) l (.int (atF (μ 2) fo nc ns s w))) := by
  refine Ct.of (by decide +kernel) (Nat.le_of_ble_eq_true rfl) ?_
  have er : up2 μ 0 0 0 2 = μ 2 := by funext j; exact up2_ne (by omega)
  have hx1 : Mx (up2 μ 0 0 0) fo nc ns := ⟨(up2_ne (by omega)).trans hx.1, by rw [er]; exact hx.2.1, by rw [er]; exact hx.2.2.1, hx.2.2.2.1, by rw [er]; exact hx.2.2.2.2.1, hx.2.2.2.2.2⟩
  have h6 := hx.2.2.2.1
  have h3 := hx.2.2.2.2.2
  refine r_aload_n (pc := 0) 0 dX12_at_0 rfl ?_
  refine r_iconst (pc := 1) (0) dX12_at_1 rfl ?_
  refine q_putI (pc := 2) fp_X12_161 hm dX12_at_2 ?_
  refine r_aload_n (pc := 5) 0 dX12_at_5 rfl ?_
  refine r_iload_n (pc := 6) 1 dX12_at_6 rfl ?_
  refine r_dV (pc := 7) (As := [_]) mv_X12_isShip ml_X12_228 (ct_isShip hm s hx1.2.2.2.2.1 (by omega)) (q_is hm) rfl rfl (Nat.le_of_ble_eq_true rfl) (Nat.le_of_ble_eq_true rfl) (Nat.le_of_ble_eq_true rfl) (Nat.le_of_ble_eq_true rfl) (Nat.le_of_ble_eq_true rfl) dX12_at_7 ?_
  refine r_if_ne (pc := 10) (tgt := 15) dX12_at_10 (by decide) (fun c_10 => ?_) (fun c_10 => ?_)
  · have hs := bI_n0.mp c_10
    rw [atF, if_pos hs]
    obtain ⟨k, hk, rfl⟩ := inN_of (by omega) hs
    rw [nI_clamp (by omega)]
    refine r_iload_n (pc := 15) 2 dX12_at_15 rfl ?_
    by_cases hw : inN w 4 = true
    · rw [if_pos hw]
      obtain ⟨j, hj, rfl⟩ := inN_of (by decide) hw
      rw [nI_clamp (by omega)]
      rcases (show j = 0 ∨ j = 1 ∨ j = 2 ∨ j = 3 by omega) with rfl | rfl | rfl | rfl
      · refine r_tableIn (pc := 16) (off := 32) (tgt := 48) dX12_at_16 (by decide) (by decide) (by decide +kernel) (by decide) ?_
        refine r_aload_n (pc := 48) 0 dX12_at_48 rfl ?_
        refine q_getR (pc := 49) fl_X12_13 hm (md_f3 hm) dX12_at_49 ?_
        refine r_bipush (pc := 52) (38) dX12_at_52 rfl ?_
        refine r_iload_n (pc := 54) 1 dX12_at_54 rfl ?_
        refine r_iadd (pc := 55) dX12_at_55 ?_
        refine q_iald (pc := 56) (j := 38 + k) (md_r3 hm) (by decide) (by simp only [fa_lit, nI_add, nI_mul]) (by omega) (by decide) dX12_at_56 ?_
        refine r_iret (pc := 57) rfl ?_ (Nat.le_of_ble_eq_true rfl) (Nat.le_of_ble_eq_true rfl) dX12_at_57
        rw [er]; exact ⟨_, _, rfl, S2.rf, rfl⟩
      · refine r_tableIn (pc := 16) (off := 42) (tgt := 58) dX12_at_16 (by decide) (by decide) (by decide +kernel) (by decide) ?_
        refine r_aload_n (pc := 58) 0 dX12_at_58 rfl ?_
        refine r_iload_n (pc := 59) 1 dX12_at_59 rfl ?_
        refine r_dV (pc := 60) (As := [_]) mv_X12_crewOf ml_X12_231 (ct_crewOf hm _ hx1.2.2.1 h6) (q_is hm) rfl rfl (Nat.le_of_ble_eq_true rfl) (Nat.le_of_ble_eq_true rfl) (Nat.le_of_ble_eq_true rfl) (Nat.le_of_ble_eq_true rfl) (Nat.le_of_ble_eq_true rfl) dX12_at_60 ?_
        refine r_iret (pc := 63) rfl ?_ (Nat.le_of_ble_eq_true rfl) (Nat.le_of_ble_eq_true rfl) dX12_at_63
        rw [er]; exact ⟨_, _, rfl, S2.rf, rfl⟩
      · refine r_tableIn (pc := 16) (off := 48) (tgt := 64) dX12_at_16 (by decide) (by decide) (by decide +kernel) (by decide) ?_
        refine r_aload_n (pc := 64) 0 dX12_at_64 rfl ?_
        refine q_getR (pc := 65) fl_X12_13 hm (md_f3 hm) dX12_at_65 ?_
        refine r_bipush (pc := 68) (38) dX12_at_68 rfl ?_
        refine r_iload_n (pc := 70) 1 dX12_at_70 rfl ?_
        refine r_iadd (pc := 71) dX12_at_71 ?_
        refine q_iald (pc := 72) (j := 38 + k) (md_r3 hm) (by decide) (by simp only [fa_lit, nI_add, nI_mul]) (by omega) (by decide) dX12_at_72 ?_
        refine r_aload_n (pc := 73) 0 dX12_at_73 rfl ?_
        refine r_aload_n (pc := 74) 0 dX12_at_74 rfl ?_
        refine r_iload_n (pc := 75) 1 dX12_at_75 rfl ?_
        refine r_dV (pc := 76) (As := [_]) mv_X12_crewOf ml_X12_231 (ct_crewOf hm _ hx1.2.2.1 h6) (q_is hm) rfl rfl (Nat.le_of_ble_eq_true rfl) (Nat.le_of_ble_eq_true rfl) (Nat.le_of_ble_eq_true rfl) (Nat.le_of_ble_eq_true rfl) (Nat.le_of_ble_eq_true rfl) dX12_at_76 ?_
        refine r_dV (pc := 79) (As := [_]) mv_X12_livesOf ml_X12_234 (ct_livesOf hm _ hx1.2.2.1 h6) (q_is hm) rfl rfl (Nat.le_of_ble_eq_true rfl) (Nat.le_of_ble_eq_true rfl) (Nat.le_of_ble_eq_true rfl) (Nat.le_of_ble_eq_true rfl) (Nat.le_of_ble_eq_true rfl) dX12_at_79 ?_
        refine r_iconst (pc := 82) (-1) dX12_at_82 rfl ?_
        refine r_ixor (pc := 83) dX12_at_83 ?_
        refine r_iand (pc := 84) dX12_at_84 ?_
        refine r_iret (pc := 85) rfl ?_ (Nat.le_of_ble_eq_true rfl) (Nat.le_of_ble_eq_true rfl) dX12_at_85
        rw [er]; exact ⟨_, _, rfl, S2.rf, rfl⟩
      · refine r_tableIn (pc := 16) (off := 70) (tgt := 86) dX12_at_16 (by decide) (by decide) (by decide +kernel) (by decide) ?_
        refine r_aload_n (pc := 86) 0 dX12_at_86 rfl ?_
        refine r_iload_n (pc := 87) 1 dX12_at_87 rfl ?_
        refine r_callV (pc := 88) (As := [_]) mv_X12_barredFrom ml_X12_237 (ct_barredFrom hm hx1 _) (q_is hm) rfl rfl (Nat.le_of_ble_eq_true rfl) (Nat.le_of_ble_eq_true rfl) (Nat.le_of_ble_eq_true rfl) (Nat.le_of_ble_eq_true rfl) (Nat.le_of_ble_eq_true rfl) dX12_at_88 (fun r h1 hp => ?_)
        obtain ⟨ν, κ, rfl, hS, rfl⟩ := hp
        show Wp E mX12_at _ _ _ _ [.int _] _ 0 0
        refine r_iret (pc := 91) rfl ?_ (Nat.le_of_ble_eq_true rfl) (Nat.le_of_ble_eq_true rfl) dX12_at_91
        rw [er]; exact ⟨ν, κ, rfl, hS, rfl⟩
    · rw [if_neg hw]
      refine r_tableOut (pc := 16) (tgt := 92) dX12_at_16 (by have := inN_out hw; omega) (by decide) ?_
      refine r_iconst (pc := 92) (-1) dX12_at_92 rfl ?_
      refine r_iret (pc := 93) rfl ?_ (Nat.le_of_ble_eq_true rfl) (Nat.le_of_ble_eq_true rfl) dX12_at_93
      exact ⟨_, _, rfl, S2.rf, rfl⟩
  · rw [atF, if_neg (by rw [bI_0.mp c_10]; decide)]
    refine r_iconst (pc := 13) (-1) dX12_at_13 rfl ?_
    refine r_iret (pc := 14) rfl ?_ (Nat.le_of_ble_eq_true rfl) (Nat.le_of_ble_eq_true rfl) dX12_at_14
    exact ⟨_, _, rfl, S2.rf, rfl⟩
end MODEL7
