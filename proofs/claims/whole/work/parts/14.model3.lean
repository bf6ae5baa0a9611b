/-! the reference: cats, ships, terms, images, the tape -/
section MODEL3
variable {E : En} {h : Hp} {m : Nat} {μ : Mu} {l : La}
/-- the lowest so many lives that are not this one: those found, how many are left -/
def lowN (life others : Int32) : Nat → Int32 × Int32
  | 0 => (0, others)
  | k + 1 => if (lowN life others k).2 ≤ 0 then lowN life others k else if nI k = life then lowN life others k else ((lowN life others k).1 ||| 1 <<< (nI k &&& 31), (lowN life others k).2 + -1)
theorem lowN_stop {life others : Int32} {k : Nat} (hs : (lowN life others k).2 ≤ 0) : ∀ j, lowN life others (k + j) = lowN life others k
  | 0 => rfl
  | j + 1 => by
    show lowN life others (k + j + 1) = _
    rw [lowN, lowN_stop hs j, if_pos hs]
def comeB (n : Nat) (life others ear : Int32) : Int32 := if inN life 9 = true ∧ inN others 9 = true ∧ inN ear 10 = true then (if n = 6 then -5 else nI n) else -1
def comeM (μ : Mu) (n : Nat) (life others ear : Int32) : Mu := if 0 ≤ comeB n life others ear then up2 (up2 (up2 (up2 (up2 (up2 μ 2 (8 + n) life) 2 (14 + n) (lowN life others 9).1) 2 (20 + n) ear) 2 (26 + n) 0) 2 (32 + n) (-1)) 2 0 (nI (n + 1)) else μ
theorem ct_come (hm : Md E h m) (life others ear : Int32) {n : Nat} (hn : μ 2 0 = nI n) (h6 : n ≤ 6) : Ct E 2 0 0 mX12_come [.ref m, .int life, .int others, .int ear] (mH h m μ l) (po (some (.int (comeB n life others ear))) (mH h m (comeM μ n life others ear) l)) := by
  refine Ct.of (by decide +kernel) (Nat.le_of_ble_eq_true rfl) ?_
  have bad : ¬ (inN life 9 = true ∧ inN others 9 = true ∧ inN ear 10 = true) → Wp E mX12_come (Rm 2 0 0) (Qm E (po (some (.int (comeB n life others ear))) (mH h m (comeM μ n life others ear) l)) 0 0) 31 [(0, .ref m), (1, .int life), (2, .int others), (3, .int ear)] [] (mH h m μ l) 0 0 := by
    intro hb
    have e : comeB n life others ear = -1 := if_neg hb
    refine r_iconst (pc := 31) (-1) dX12_come_31 rfl ?_
    refine r_iret (pc := 32) rfl ?_ (Nat.le_of_ble_eq_true rfl) (Nat.le_of_ble_eq_true rfl) dX12_come_32
    rw [comeM, e]
    exact ⟨rfl, by rw [if_neg (by decide)]⟩
  refine r_iload_n (pc := 0) 1 dX12_come_0 rfl ?_
  refine r_dS (pc := 1) (As := [_]) ms_X12_isLife ml_X12_201 (ct_isLife _) rfl rfl (Nat.le_of_ble_eq_true rfl) (Nat.le_of_ble_eq_true rfl) (Nat.le_of_ble_eq_true rfl) (Nat.le_of_ble_eq_true rfl) (Nat.le_of_ble_eq_true rfl) dX12_come_1 ?_
  refine r_if_eq (pc := 4) (tgt := 31) dX12_come_4 (by decide) (fun c_4 => ?_) (fun c_4 => ?_)
  · exact bad (fun q => by rw [bI_0.mp c_4] at q; exact absurd q.1 (by decide))
  · refine r_iload_n (pc := 7) 2 dX12_come_7 rfl ?_
    refine r_i2l (pc := 8) dX12_come_8 ?_
    refine r_lconst (pc := 9) (0) dX12_come_9 rfl ?_
    refine r_ldc2_w (pc := 10) cs_X12_188 dX12_come_10 ?_
    refine r_dS (pc := 13) (As := [_, _, _]) ms_X12_in ml_X12_181 (ct_in _ _ _) rfl rfl (Nat.le_of_ble_eq_true rfl) (Nat.le_of_ble_eq_true rfl) (Nat.le_of_ble_eq_true rfl) (Nat.le_of_ble_eq_true rfl) (Nat.le_of_ble_eq_true rfl) dX12_come_13 ?_
    refine r_if_eq (pc := 16) (tgt := 31) dX12_come_16 (by decide) (fun c_16 => ?_) (fun c_16 => ?_)
    · exact bad (fun q => by rw [show decide _ = inN others 9 from in_lit (b := 8) (n := 8) (by decide)] at c_16; rw [bI_0.mp c_16] at q; exact absurd q.2.1 (by decide))
    · refine r_iload_n (pc := 19) 3 dX12_come_19 rfl ?_
      refine r_i2l (pc := 20) dX12_come_20 ?_
      refine r_lconst (pc := 21) (0) dX12_come_21 rfl ?_
      refine r_ldc2_w (pc := 22) cs_X12_204 dX12_come_22 ?_
      refine r_dS (pc := 25) (As := [_, _, _]) ms_X12_in ml_X12_181 (ct_in _ _ _) rfl rfl (Nat.le_of_ble_eq_true rfl) (Nat.le_of_ble_eq_true rfl) (Nat.le_of_ble_eq_true rfl) (Nat.le_of_ble_eq_true rfl) (Nat.le_of_ble_eq_true rfl) dX12_come_25 ?_
      refine r_if_ne (pc := 28) (tgt := 33) dX12_come_28 (by decide) (fun c_28 => ?_) (fun c_28 => ?_)
      · rw [show decide _ = inN others 9 from in_lit (b := 8) (n := 8) (by decide)] at c_16
        rw [show decide _ = inN ear 10 from in_lit (b := 9) (n := 9) (by decide)] at c_28
        have hg : inN life 9 = true ∧ inN others 9 = true ∧ inN ear 10 = true := ⟨bI_n0.mp c_4, bI_n0.mp c_16, bI_n0.mp c_28⟩
        refine r_aload_n (pc := 33) 0 dX12_come_33 rfl ?_
        refine q_getR (pc := 34) fl_X12_13 hm (md_f3 hm) dX12_come_34 ?_
        refine r_iconst (pc := 37) (0) dX12_come_37 rfl ?_
        refine q_iald (pc := 38) (j := 0) (md_r3 hm) (by decide) rfl (by decide) (by decide) dX12_come_38 ?_
        refine r_istore (pc := 39) (lv' := [(0, _), (1, _), (2, _), (3, _), (4, _)]) dX12_come_39 (Nat.le_of_ble_eq_true rfl) rfl ?_
        refine r_iload (pc := 41) 4 dX12_come_41 rfl ?_
        refine r_bipush (pc := 43) (6) dX12_come_43 rfl ?_
        refine r_icmp_ne (pc := 45) (tgt := 51) dX12_come_45 (by decide) (fun c_45 => ?_) (fun c_45 => ?_)
        · have hn6 : ¬ n = 6 := fun q => c_45 (by rw [hn, q]; rfl)
          have eB : comeB n life others ear = nI n := by rw [comeB, if_pos hg, if_neg hn6]
          have eM : comeM μ n life others ear = up2 (up2 (up2 (up2 (up2 (up2 μ 2 (8 + n) life) 2 (14 + n) (lowN life others 9).1) 2 (20 + n) ear) 2 (26 + n) 0) 2 (32 + n) (-1)) 2 0 (nI (n + 1)) := by rw [comeM, eB, if_pos (nI_pos' (by omega))]
          rw [eB, eM]
          have fin : ∀ (x y : Int32), Wp E mX12_come (Rm 2 0 0) (Qm E (po (some (.int (nI n))) (mH h m (up2 (up2 (up2 (up2 (up2 (up2 μ 2 (8 + n) life) 2 (14 + n) (lowN life others 9).1) 2 (20 + n) ear) 2 (26 + n) 0) 2 (32 + n) (-1)) 2 0 (nI (n + 1))) l)) 0 0) 123 [(0, .ref m), (1, .int life), (2, .int others), (3, .int ear), (4, .int (nI n)), (5, .int x), (6, .int y)] [] (mH h m (up2 (up2 μ 2 (8 + n) life) 2 (14 + n) (lowN life others 9).1) l) 0 0 := by
            intro x y
            refine r_aload_n (pc := 123) 0 dX12_come_123 rfl ?_
            refine q_getR (pc := 124) fl_X12_13 hm (md_f3 hm) dX12_come_124 ?_
            refine r_bipush (pc := 127) (20) dX12_come_127 rfl ?_
            refine r_iload (pc := 129) 4 dX12_come_129 rfl ?_
            refine r_iadd (pc := 131) dX12_come_131 ?_
            refine r_iload_n (pc := 132) 3 dX12_come_132 rfl ?_
            refine q_iast (pc := 133) (j := 20 + n) (md_r3 hm) (by decide) (by simp only [fa_lit, nI_add, nI_mul]) (by omega) (by decide) dX12_come_133 ?_
            refine r_aload_n (pc := 134) 0 dX12_come_134 rfl ?_
            refine q_getR (pc := 135) fl_X12_13 hm (md_f3 hm) dX12_come_135 ?_
            refine r_bipush (pc := 138) (26) dX12_come_138 rfl ?_
            refine r_iload (pc := 140) 4 dX12_come_140 rfl ?_
            refine r_iadd (pc := 142) dX12_come_142 ?_
            refine r_iconst (pc := 143) (0) dX12_come_143 rfl ?_
            refine q_iast (pc := 144) (j := 26 + n) (md_r3 hm) (by decide) (by simp only [fa_lit, nI_add, nI_mul]) (by omega) (by decide) dX12_come_144 ?_
            refine r_aload_n (pc := 145) 0 dX12_come_145 rfl ?_
            refine q_getR (pc := 146) fl_X12_13 hm (md_f3 hm) dX12_come_146 ?_
            refine r_bipush (pc := 149) (32) dX12_come_149 rfl ?_
            refine r_iload (pc := 151) 4 dX12_come_151 rfl ?_
            refine r_iadd (pc := 153) dX12_come_153 ?_
            refine r_iconst (pc := 154) (-1) dX12_come_154 rfl ?_
            refine q_iast (pc := 155) (j := 32 + n) (md_r3 hm) (by decide) (by simp only [fa_lit, nI_add, nI_mul]) (by omega) (by decide) dX12_come_155 ?_
            refine r_aload_n (pc := 156) 0 dX12_come_156 rfl ?_
            refine q_getR (pc := 157) fl_X12_13 hm (md_f3 hm) dX12_come_157 ?_
            refine r_iconst (pc := 160) (0) dX12_come_160 rfl ?_
            have e0 : up2 (up2 (up2 (up2 (up2 μ 2 (8 + n) life) 2 (14 + n) (lowN life others 9).1) 2 (20 + n) ear) 2 (26 + n) 0) 2 (32 + n) (-1) 2 0 = nI n := by
              rw [up2_ne (by omega), up2_ne (by omega), up2_ne (by omega), up2_ne (by omega), up2_ne (by omega)]; exact hn
            refine r_dup2_11 (pc := 161) dX12_come_161 rfl rfl ?_
            refine q_iald (pc := 162) (j := 0) (md_r3 hm) (by decide) rfl (by decide) (by decide) dX12_come_162 ?_
            refine r_iconst (pc := 163) (1) dX12_come_163 rfl ?_
            refine r_iadd (pc := 164) dX12_come_164 ?_
            refine q_iast (pc := 165) (j := 0) (md_r3 hm) (by decide) rfl (by decide) (by decide) dX12_come_165 ?_
            refine r_iload (pc := 166) 4 dX12_come_166 rfl ?_
            refine r_iret (pc := 168) rfl ?_ (Nat.le_of_ble_eq_true rfl) (Nat.le_of_ble_eq_true rfl) dX12_come_168
            rw [e0, nI_1]
            exact ⟨rfl, rfl⟩
          rw [hn]
          refine r_aload_n (pc := 51) 0 dX12_come_51 rfl ?_
          refine q_getR (pc := 52) fl_X12_13 hm (md_f3 hm) dX12_come_52 ?_
          refine r_bipush (pc := 55) (8) dX12_come_55 rfl ?_
          refine r_iload (pc := 57) 4 dX12_come_57 rfl ?_
          refine r_iadd (pc := 59) dX12_come_59 ?_
          refine r_iload_n (pc := 60) 1 dX12_come_60 rfl ?_
          refine q_iast (pc := 61) (j := 8 + n) (md_r3 hm) (by decide) (by simp only [fa_lit, nI_add, nI_mul]) (by omega) (by decide) dX12_come_61 ?_
          refine r_aload_n (pc := 62) 0 dX12_come_62 rfl ?_
          refine q_getR (pc := 63) fl_X12_13 hm (md_f3 hm) dX12_come_63 ?_
          refine r_bipush (pc := 66) (14) dX12_come_66 rfl ?_
          refine r_iload (pc := 68) 4 dX12_come_68 rfl ?_
          refine r_iadd (pc := 70) dX12_come_70 ?_
          refine r_iconst (pc := 71) (0) dX12_come_71 rfl ?_
          refine q_iast (pc := 72) (j := 14 + n) (md_r3 hm) (by decide) (by simp only [fa_lit, nI_add, nI_mul]) (by omega) (by decide) dX12_come_72 ?_
          refine r_iload_n (pc := 73) 2 dX12_come_73 rfl ?_
          refine r_istore (pc := 74) (lv' := [(0, _), (1, _), (2, _), (3, _), (4, _), (5, _)]) dX12_come_74 (Nat.le_of_ble_eq_true rfl) rfl ?_
          refine r_iconst (pc := 76) (0) dX12_come_76 rfl ?_
          refine r_istore (pc := 77) (lv' := [(0, _), (1, _), (2, _), (3, _), (4, _), (5, _), (6, _)]) dX12_come_77 (Nat.le_of_ble_eq_true rfl) rfl ?_
          have loop : ∀ k, k ≤ 9 → Wp E mX12_come (Rm 2 0 0) (Qm E (po (some (.int (nI n))) (mH h m (up2 (up2 (up2 (up2 (up2 (up2 μ 2 (8 + n) life) 2 (14 + n) (lowN life others 9).1) 2 (20 + n) ear) 2 (26 + n) 0) 2 (32 + n) (-1)) 2 0 (nI (n + 1))) l)) 0 0) 79 [(0, .ref m), (1, .int life), (2, .int others), (3, .int ear), (4, .int (nI n)), (5, .int (lowN life others k).2), (6, .int (nI k))] [] (mH h m (up2 (up2 μ 2 (8 + n) life) 2 (14 + n) (lowN life others k).1) l) 0 0 := by
            refine upTo (fun k hk ih => ?_) ?_
            · refine r_iload (pc := 79) 6 dX12_come_79 rfl ?_
              refine r_bipush (pc := 81) (9) dX12_come_81 rfl ?_
              refine r_icmp_ge (pc := 83) (tgt := 123) dX12_come_83 (by decide) (fun c_83 => ?_) (fun c_83 => ?_)
              · exact absurd c_83 (nI_ge (b := 9) hk (by decide))
              · refine r_iload (pc := 86) 5 dX12_come_86 rfl ?_
                refine r_if_le (pc := 88) (tgt := 123) dX12_come_88 (by decide) (fun c_88 => ?_) (fun c_88 => ?_)
                · have e9 : lowN life others 9 = lowN life others k := by rw [show 9 = k + (9 - k) by omega]; exact lowN_stop c_88 _
                  rw [← e9]
                  exact fin _ _
                · refine r_iload (pc := 91) 6 dX12_come_91 rfl ?_
                  refine r_iload_n (pc := 93) 1 dX12_come_93 rfl ?_
                  refine r_icmp_eq (pc := 94) (tgt := 117) dX12_come_94 (by decide) (fun c_94 => ?_) (fun c_94 => ?_)
                  · refine r_iinc (pc := 117) (v := _ + (1)) (lv' := [(0, _), (1, _), (2, _), (3, _), (4, _), (5, _), (6, _)]) 6 dX12_come_117 rfl rfl (Nat.le_of_ble_eq_true rfl) rfl ?_
                    refine r_goto (pc := 120) (tgt := 79) dX12_come_120 (by decide) ?_
                    have e : lowN life others (k + 1) = lowN life others k := by rw [lowN, if_neg c_88, if_pos c_94]
                    rw [e] at ih
                    rw [nI_1]; exact ih
                  · refine r_aload_n (pc := 97) 0 dX12_come_97 rfl ?_
                    refine q_getR (pc := 98) fl_X12_13 hm (md_f3 hm) dX12_come_98 ?_
                    refine r_bipush (pc := 101) (14) dX12_come_101 rfl ?_
                    refine r_iload (pc := 103) 4 dX12_come_103 rfl ?_
                    refine r_iadd (pc := 105) dX12_come_105 ?_
                    refine r_dup2_11 (pc := 106) dX12_come_106 rfl rfl ?_
                    refine q_iald (pc := 107) (j := 14 + n) (md_r3 hm) (by decide) (by simp only [fa_lit, nI_add, nI_mul]) (by omega) (by decide) dX12_come_107 ?_
                    refine r_iconst (pc := 108) (1) dX12_come_108 rfl ?_
                    refine r_iload (pc := 109) 6 dX12_come_109 rfl ?_
                    refine r_ishl (pc := 111) dX12_come_111 ?_
                    refine r_ior (pc := 112) dX12_come_112 ?_
                    refine q_iast (pc := 113) (j := 14 + n) (md_r3 hm) (by decide) (by simp only [fa_lit, nI_add, nI_mul]) (by omega) (by decide) dX12_come_113 ?_
                    refine r_iinc (pc := 114) (v := _ + (-1)) (lv' := [(0, _), (1, _), (2, _), (3, _), (4, _), (5, _), (6, _)]) 5 dX12_come_114 rfl rfl (Nat.le_of_ble_eq_true rfl) rfl ?_
                    refine r_iinc (pc := 117) (v := _ + (1)) (lv' := [(0, _), (1, _), (2, _), (3, _), (4, _), (5, _), (6, _)]) 6 dX12_come_117 rfl rfl (Nat.le_of_ble_eq_true rfl) rfl ?_
                    refine r_goto (pc := 120) (tgt := 79) dX12_come_120 (by decide) ?_
                    have e : lowN life others (k + 1) = ((lowN life others k).1 ||| 1 <<< (nI k &&& 31), (lowN life others k).2 + -1) := by rw [lowN, if_neg c_88, if_neg c_94]
                    rw [e] at ih
                    rw [nI_1, up2_at, up2_up2]; exact ih
            · refine r_iload (pc := 79) 6 dX12_come_79 rfl ?_
              refine r_bipush (pc := 81) (9) dX12_come_81 rfl ?_
              refine r_icmp_ge (pc := 83) (tgt := 123) dX12_come_83 (by decide) (fun c_83 => ?_) (fun c_83 => ?_)
              · exact fin _ _
              · exact absurd (show (9 : Int32) ≤ nI 9 by decide) c_83
          exact loop 0 (by omega)
        · have hn6 : n = 6 := (nI_eq (by omega) (by decide)).mp (hn.symm.trans c_45)
          have eB : comeB n life others ear = -5 := by rw [comeB, if_pos hg, if_pos hn6]
          refine r_bipush (pc := 48) (-5) dX12_come_48 rfl ?_
          refine r_iret (pc := 50) rfl ?_ (Nat.le_of_ble_eq_true rfl) (Nat.le_of_ble_eq_true rfl) dX12_come_50
          rw [comeM, eB]
          exact ⟨rfl, by rw [if_neg (by decide)]⟩
      · exact bad (fun q => by rw [show decide _ = inN ear 10 from in_lit (b := 9) (n := 9) (by decide)] at c_28; rw [bI_0.mp (Classical.not_not.mp (fun z => z c_28))] at q; exact absurd q.2.2 (by decide))
theorem comeB_t (n : Nat) (h6 : n ≤ 6) (life others ear : Int32) : comeB n life others ear < 0 → ∃ j, j < 7 ∧ -(comeB n life others ear) = nI j := by
  intro hq
  unfold comeB at hq ⊢
  split at hq
  · next h1 =>
    rw [if_pos h1]
    split at hq
    · next h2 => rw [if_pos h2]; exact ⟨5, by decide, by decide⟩
    · exact absurd hq (nI_pos (by omega))
  · next h1 => rw [if_neg h1]; exact ⟨1, by decide, by decide⟩
def catM (μ : Mu) (n : Nat) (life : Int32) : Mu := settledM (comeM (up2 μ 0 0 0) n life 8 9) (comeB n life 8 9)
theorem ct_mcat (hm : Md E h m) (life : Int32) {n : Nat} (hn : μ 2 0 = nI n) (h6 : n ≤ 6) : Ct E 3 0 0 mX12_cat [.ref m, .int life] (mH h m μ l) (po (some (.int (comeB n life 8 9))) (mH h m (catM μ n life) l)) := by
  refine Ct.of (by decide +kernel) (Nat.le_of_ble_eq_true rfl) ?_
  refine r_aload_n (pc := 0) 0 dX12_cat_0 rfl ?_
  refine r_iconst (pc := 1) (0) dX12_cat_1 rfl ?_
  refine q_putI (pc := 2) fp_X12_161 hm dX12_cat_2 ?_
  refine r_aload_n (pc := 5) 0 dX12_cat_5 rfl ?_
  refine r_aload_n (pc := 6) 0 dX12_cat_6 rfl ?_
  refine r_iload_n (pc := 7) 1 dX12_cat_7 rfl ?_
  refine r_bipush (pc := 8) (8) dX12_cat_8 rfl ?_
  refine r_bipush (pc := 10) (9) dX12_cat_10 rfl ?_
  refine r_dV (pc := 12) (As := [_, _, _]) mv_X12_come ml_X12_206 (ct_come hm life 8 9 (by rw [up2_ne (by omega)]; exact hn) h6) (q_is hm) rfl rfl (Nat.le_of_ble_eq_true rfl) (Nat.le_of_ble_eq_true rfl) (Nat.le_of_ble_eq_true rfl) (Nat.le_of_ble_eq_true rfl) (Nat.le_of_ble_eq_true rfl) dX12_cat_12 ?_
  refine r_dV (pc := 15) (As := [_]) mv_X12_settled ml_X12_185 (ct_settled hm _ (comeB_t n h6 _ _ _)) (q_is hm) rfl rfl (Nat.le_of_ble_eq_true rfl) (Nat.le_of_ble_eq_true rfl) (Nat.le_of_ble_eq_true rfl) (Nat.le_of_ble_eq_true rfl) (Nat.le_of_ble_eq_true rfl) dX12_cat_15 ?_
  refine r_iret (pc := 18) rfl ?_ (Nat.le_of_ble_eq_true rfl) (Nat.le_of_ble_eq_true rfl) dX12_cat_18
  exact ⟨rfl, rfl⟩
theorem ct_mmice (hm : Md E h m) : Ct E 0 0 0 mX12_mice [.ref m] (mH h m μ l) (po (some (.int (μ 0 11))) (mH h m (up2 μ 0 0 0) l)) := by
  refine Ct.of (by decide +kernel) (Nat.le_of_ble_eq_true rfl) ?_
  refine r_aload_n (pc := 0) 0 dX12_mice_0 rfl ?_
  refine r_iconst (pc := 1) (0) dX12_mice_1 rfl ?_
  refine q_putI (pc := 2) fp_X12_161 hm dX12_mice_2 ?_
  refine r_aload_n (pc := 5) 0 dX12_mice_5 rfl ?_
  refine q_getI (pc := 6) fl_X12_251 hm dX12_mice_6 ?_
  refine r_iret (pc := 9) rfl ?_ (Nat.le_of_ble_eq_true rfl) (Nat.le_of_ble_eq_true rfl) dX12_mice_9
  rw [up2_ne (by omega)]
  exact ⟨rfl, rfl⟩
theorem ct_mfault (hm : Md E h m) : Ct E 0 0 0 mX12_fault [.ref m] (mH h m μ l) (po (some (.int (μ 0 18))) (mH h m (up2 μ 0 0 0) l)) := by
  refine Ct.of (by decide +kernel) (Nat.le_of_ble_eq_true rfl) ?_
  refine r_aload_n (pc := 0) 0 dX12_fault_0 rfl ?_
  refine r_iconst (pc := 1) (0) dX12_fault_1 rfl ?_
  refine q_putI (pc := 2) fp_X12_161 hm dX12_fault_2 ?_
  refine r_aload_n (pc := 5) 0 dX12_fault_5 rfl ?_
  refine q_getI (pc := 6) fl_X12_38 hm dX12_fault_6 ?_
  refine r_iret (pc := 9) rfl ?_ (Nat.le_of_ble_eq_true rfl) (Nat.le_of_ble_eq_true rfl) dX12_fault_9
  rw [up2_ne (by omega)]
  exact ⟨rfl, rfl⟩
theorem ct_mstopped (hm : Md E h m) : Ct E 0 0 0 mX12_stopped [.ref m] (mH h m μ l) (po (some (.int (μ 0 55))) (mH h m (up2 μ 0 0 0) l)) := by
  refine Ct.of (by decide +kernel) (Nat.le_of_ble_eq_true rfl) ?_
  refine r_aload_n (pc := 0) 0 dX12_stopped_0 rfl ?_
  refine r_iconst (pc := 1) (0) dX12_stopped_1 rfl ?_
  refine q_putI (pc := 2) fp_X12_161 hm dX12_stopped_2 ?_
  refine r_aload_n (pc := 5) 0 dX12_stopped_5 rfl ?_
  refine q_getI (pc := 6) fl_X12_152 hm dX12_stopped_6 ?_
  refine r_iret (pc := 9) rfl ?_ (Nat.le_of_ble_eq_true rfl) (Nat.le_of_ble_eq_true rfl) dX12_stopped_9
  rw [up2_ne (by omega)]
  exact ⟨rfl, rfl⟩
theorem ct_mstatus (hm : Md E h m) : Ct E 0 0 0 mX12_status [.ref m] (mH h m μ l) (po (some (.int (μ 0 1))) (mH h m (up2 μ 0 0 0) l)) := by
  refine Ct.of (by decide +kernel) (Nat.le_of_ble_eq_true rfl) ?_
  refine r_aload_n (pc := 0) 0 dX12_status_0 rfl ?_
  refine r_iconst (pc := 1) (0) dX12_status_1 rfl ?_
  refine q_putI (pc := 2) fp_X12_161 hm dX12_status_2 ?_
  refine r_aload_n (pc := 5) 0 dX12_status_5 rfl ?_
  refine q_getI (pc := 6) fl_X12_164 hm dX12_status_6 ?_
  refine r_iret (pc := 9) rfl ?_ (Nat.le_of_ble_eq_true rfl) (Nat.le_of_ble_eq_true rfl) dX12_status_9
  rw [up2_ne (by omega)]
  exact ⟨rfl, rfl⟩
/-- ship: the answer, the memory -/
def shipM (μ : Mu) (n : Nat) (needs : Int32) : Int32 × Mu := if inN needs 512 = true then (if n = 3 then (-5, tellM (up2 μ 0 0 0) (-5)) else (nI n, tellM (up2 (up2 (up2 μ 0 0 0) 2 (38 + n) needs) 2 1 (nI (n + 1))) (nI n))) else (-1, tellM (up2 μ 0 0 0) (-1))
theorem ct_mship (hm : Md E h m) (needs : Int32) {n : Nat} (hn : μ 2 1 = nI n) (h3 : n ≤ 3) : Ct E 1 0 0 mX12_ship [.ref m, .int needs] (mH h m μ l) (po (some (.int (shipM μ n needs).1)) (mH h m (shipM μ n needs).2 l)) := by
  refine Ct.of (by decide +kernel) (Nat.le_of_ble_eq_true rfl) ?_
  refine r_aload_n (pc := 0) 0 dX12_ship_0 rfl ?_
  refine r_iconst (pc := 1) (0) dX12_ship_1 rfl ?_
  refine q_putI (pc := 2) fp_X12_161 hm dX12_ship_2 ?_
  refine r_iload_n (pc := 5) 1 dX12_ship_5 rfl ?_
  refine r_i2l (pc := 6) dX12_ship_6 ?_
  refine r_lconst (pc := 7) (0) dX12_ship_7 rfl ?_
  refine r_ldc2_w (pc := 8) cs_X12_226 dX12_ship_8 ?_
  refine r_dS (pc := 11) (As := [_, _, _]) ms_X12_in ml_X12_181 (ct_in _ _ _) rfl rfl (Nat.le_of_ble_eq_true rfl) (Nat.le_of_ble_eq_true rfl) (Nat.le_of_ble_eq_true rfl) (Nat.le_of_ble_eq_true rfl) (Nat.le_of_ble_eq_true rfl) dX12_ship_11 ?_
  refine r_if_ne (pc := 14) (tgt := 23) dX12_ship_14 (by decide) (fun c_14 => ?_) (fun c_14 => ?_)
  · rw [show decide _ = inN needs 512 from in_lit (b := 511) (n := 511) (by decide)] at c_14
    have e1 : up2 μ 0 0 0 2 1 = nI n := by rw [up2_ne (by omega)]; exact hn
    refine r_aload_n (pc := 23) 0 dX12_ship_23 rfl ?_
    refine q_getR (pc := 24) fl_X12_13 hm (md_f3 hm) dX12_ship_24 ?_
    refine r_iconst (pc := 27) (1) dX12_ship_27 rfl ?_
    refine q_iald (pc := 28) (j := 1) (md_r3 hm) (by decide) rfl (by decide) (by decide) dX12_ship_28 ?_
    refine r_istore_n (pc := 29) (lv' := [(0, _), (1, _), (2, _)]) dX12_ship_29 (Nat.le_of_ble_eq_true rfl) rfl ?_
    rw [e1]
    refine r_iload_n (pc := 30) 2 dX12_ship_30 rfl ?_
    refine r_iconst (pc := 31) (3) dX12_ship_31 rfl ?_
    refine r_icmp_ne (pc := 32) (tgt := 42) dX12_ship_32 (by decide) (fun c_32 => ?_) (fun c_32 => ?_)
    · have hn3 : ¬ n = 3 := fun q => c_32 (by rw [q]; rfl)
      have e2 : up2 (up2 μ 0 0 0) 2 (38 + n) needs 2 1 = nI n := by rw [up2_ne (by omega)]; exact e1
      refine r_aload_n (pc := 42) 0 dX12_ship_42 rfl ?_
      refine q_getR (pc := 43) fl_X12_13 hm (md_f3 hm) dX12_ship_43 ?_
      refine r_bipush (pc := 46) (38) dX12_ship_46 rfl ?_
      refine r_iload_n (pc := 48) 2 dX12_ship_48 rfl ?_
      refine r_iadd (pc := 49) dX12_ship_49 ?_
      refine r_iload_n (pc := 50) 1 dX12_ship_50 rfl ?_
      refine q_iast (pc := 51) (j := 38 + n) (md_r3 hm) (by decide) (by simp only [fa_lit, nI_add, nI_mul]) (by omega) (by decide) dX12_ship_51 ?_
      refine r_aload_n (pc := 52) 0 dX12_ship_52 rfl ?_
      refine q_getR (pc := 53) fl_X12_13 hm (md_f3 hm) dX12_ship_53 ?_
      refine r_iconst (pc := 56) (1) dX12_ship_56 rfl ?_
      refine r_dup2_11 (pc := 57) dX12_ship_57 rfl rfl ?_
      refine q_iald (pc := 58) (j := 1) (md_r3 hm) (by decide) rfl (by decide) (by decide) dX12_ship_58 ?_
      refine r_iconst (pc := 59) (1) dX12_ship_59 rfl ?_
      refine r_iadd (pc := 60) dX12_ship_60 ?_
      rw [e2, nI_1]
      refine q_iast (pc := 61) (j := 1) (md_r3 hm) (by decide) rfl (by decide) (by decide) dX12_ship_61 ?_
      refine r_aload_n (pc := 62) 0 dX12_ship_62 rfl ?_
      refine r_iload_n (pc := 63) 2 dX12_ship_63 rfl ?_
      refine r_dV (pc := 64) (As := [_]) mv_X12_tell ml_X12_170 (ct_tell hm _ (t_p (nI_pos' (by omega)))) (q_is hm) rfl rfl (Nat.le_of_ble_eq_true rfl) (Nat.le_of_ble_eq_true rfl) (Nat.le_of_ble_eq_true rfl) (Nat.le_of_ble_eq_true rfl) (Nat.le_of_ble_eq_true rfl) dX12_ship_64 ?_
      refine r_iret (pc := 67) rfl ?_ (Nat.le_of_ble_eq_true rfl) (Nat.le_of_ble_eq_true rfl) dX12_ship_67
      rw [shipM, if_pos (bI_n0.mp c_14), if_neg hn3]
      exact ⟨rfl, rfl⟩
    · have hn3 : n = 3 := (nI_eq (by omega) (by decide)).mp c_32
      refine r_aload_n (pc := 35) 0 dX12_ship_35 rfl ?_
      refine r_bipush (pc := 36) (-5) dX12_ship_36 rfl ?_
      refine r_dV (pc := 38) (As := [_]) mv_X12_tell ml_X12_170 (ct_tell hm _ t_5) (q_is hm) rfl rfl (Nat.le_of_ble_eq_true rfl) (Nat.le_of_ble_eq_true rfl) (Nat.le_of_ble_eq_true rfl) (Nat.le_of_ble_eq_true rfl) (Nat.le_of_ble_eq_true rfl) dX12_ship_38 ?_
      refine r_iret (pc := 41) rfl ?_ (Nat.le_of_ble_eq_true rfl) (Nat.le_of_ble_eq_true rfl) dX12_ship_41
      rw [shipM, if_pos (bI_n0.mp c_14), if_pos hn3]
      exact ⟨rfl, rfl⟩
  · rw [show decide _ = inN needs 512 from in_lit (b := 511) (n := 511) (by decide)] at c_14
    refine r_aload_n (pc := 17) 0 dX12_ship_17 rfl ?_
    refine r_iconst (pc := 18) (-1) dX12_ship_18 rfl ?_
    refine r_dV (pc := 19) (As := [_]) mv_X12_tell ml_X12_170 (ct_tell hm _ t_1) (q_is hm) rfl rfl (Nat.le_of_ble_eq_true rfl) (Nat.le_of_ble_eq_true rfl) (Nat.le_of_ble_eq_true rfl) (Nat.le_of_ble_eq_true rfl) (Nat.le_of_ble_eq_true rfl) dX12_ship_19 ?_
    refine r_iret (pc := 22) rfl ?_ (Nat.le_of_ble_eq_true rfl) (Nat.le_of_ble_eq_true rfl) dX12_ship_22
    rw [shipM, if_neg (by rw [bI_0.mp c_14]; decide)]
    exact ⟨rfl, rfl⟩
end MODEL3
