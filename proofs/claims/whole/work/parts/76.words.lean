/-! the class: the words of orders -/
section WORDS
variable {E : En} {h : Hp} {x : Nat} {r : Nat → Int32}
theorem al64 : ∀ k, k < 6 → ∀ y, y < 32 → y < 2 ^ k → (nI y ||| (1 <<< (nI k &&& 31)) = nI (y ||| 2 ^ k) ∧ y ||| 2 ^ k < 2 ^ (k + 1) ∧ pcN (y ||| 2 ^ k) 9 = pcN y 9 + 1) := by decide +kernel
theorem pw6 : ∀ k, k < 6 → 2 ^ k ≤ 32 ∧ 2 ^ (k + 1) ≤ 64 ∧ 2 ^ k ≤ 2 ^ (k + 1) := by decide +kernel
theorem alive_cnt (r : Nat → Int32) : ∀ n, n ≤ 6 → ∃ y, y < 2 ^ n ∧ aliveN r n = nI y ∧ pcN y 9 = cntA r n
  | 0, _ => ⟨0, by decide, rfl, show pcN 0 9 = 0 by decide⟩
  | n + 1, hn => by
    obtain ⟨y, hy, e, ep⟩ := alive_cnt r n (by omega)
    obtain ⟨w1, w2, w3⟩ := pw6 n (by omega)
    rw [aliveN, cntA, e]
    split
    · obtain ⟨g1, g2, g3⟩ := al64 n (by omega) y (by omega) hy
      exact ⟨_, g2, g1, by rw [g3, ep]⟩
    · exact ⟨y, by omega, Int32.or_zero, by rw [ep, Nat.add_zero]⟩
theorem alive_ones {n : Nat} (hn : n ≤ 6) : nI (cntA r n) = onesN (aliveN r n) 9 := by
  obtain ⟨y, hy, e, ep⟩ := alive_cnt r n hn
  have : 2 ^ n ≤ 64 := by
    rcases (by omega : n = 0 ∨ n = 1 ∨ n = 2 ∨ n = 3 ∨ n = 4 ∨ n = 5 ∨ n = 6) with z | z | z | z | z | z | z <;> rw [z] <;> decide
  rw [e, onesN_pc (by omega) 9 (Nat.le_refl _), ep]
def owF (r : Nat → Int32) (done latest : Int32) (nc ns : Nat) : Nat → Int32 := fun j => if j = 0 then r 5 else if j = 1 then done else if j = 2 then latest else if j = 3 then onesN (aliveN r nc) 9 else if j < 10 then (if j - 4 < nc then r (8 + (j - 4)) else -1) else if j < 16 then (if j - 10 < nc then r (26 + (j - 10)) else -1) else if j - 16 < ns then onesN (crewN r (nI (j - 16)) nc) 9 else -1
theorem owF_4 {done latest : Int32} {nc ns k : Nat} (hk : k < 6) : owF r done latest nc ns (4 + k) = if k < nc then r (8 + k) else -1 := by
  unfold owF
  rw [if_neg (by omega), if_neg (by omega), if_neg (by omega), if_neg (by omega), if_pos (by omega), show 4 + k - 4 = k by omega]
theorem owF_10 {done latest : Int32} {nc ns k : Nat} (hk : k < 6) : owF r done latest nc ns (10 + k) = if k < nc then r (26 + k) else -1 := by
  unfold owF
  rw [if_neg (by omega), if_neg (by omega), if_neg (by omega), if_neg (by omega), if_neg (by omega), if_pos (by omega), show 10 + k - 10 = k by omega]
theorem owF_16 {done latest : Int32} {nc ns k : Nat} : owF r done latest nc ns (16 + k) = if k < ns then onesN (crewN r (nI k) nc) 9 else -1 := by
  unfold owF
  rw [if_neg (by omega), if_neg (by omega), if_neg (by omega), if_neg (by omega), if_neg (by omega), if_neg (by omega), show 16 + k - 16 = k by omega]
theorem owF_E {done latest : Int32} {nc ns : Nat} (j : Nat) : ordE r done latest nc ns j = (owF r done latest nc ns j).toInt64 := by
  unfold ordE owF
  have m1 : ((-1 : Int32)).toInt64 = -1 := by decide
  split
  · rfl
  · split
    · rfl
    · split
      · rfl
      · split
        · rfl
        · split
          · split
            · rfl
            · exact m1.symm
          · split
            · split
              · rfl
              · exact m1.symm
            · split
              · rfl
              · exact m1.symm
theorem c3_tellWords (hc : CS E h x) (hv : PtV h (x + 3) r) {nc ns : Nat} (hn : r 0 = nI nc) (h6 : nc ≤ 6) (hns : r 1 = nI ns) (h3 : ns ≤ 3) {done latest : Int32} (hd : hI h (x + 88) 3 = done) (hl : hI h (x + 88) 4 = latest) : Ct E 1 0 0 mX3_tellWords [.ref (x + 88), .ref (x + 3)] h (fun v h' => v = none ∧ ∃ f, h' = wRow h (x + 89) f ∧ ∀ j, j < 19 → f j = owF r done latest nc ns j) := by
  have fW : ∀ f : Nat → Int32, Fr (fun a _ => a = x + 89) h (wRow h (x + 89) f) := fun f => Fr.wRow (fun _ => rfl)
  have hvW : ∀ f : Nat → Int32, PtV (wRow h (x + 89) f) (x + 3) r := fun f => hv.fr (fW f) (fun i k hi => by omega)
  have hpW : ∀ f : Nat → Int32, ptS E (wRow h (x + 89) f) (x + 3) := fun f => cs_pt3 hc
  refine Ct.of (by decide +kernel) (Nat.le_of_ble_eq_true rfl) ?_
  have loop2 : ∀ k, k ≤ 3 → ∀ f : Nat → Int32, (∀ j, j < 16 + k → f j = owF r done latest nc ns j) → Wp E mX3_tellWords (Rm 1 0 0) (Qm E (fun v h' => v = none ∧ ∃ f, h' = wRow h (x + 89) f ∧ ∀ j, j < 19 → f j = owF r done latest nc ns j) 0 0) 111 [(0, .ref (x + 88)), (1, .ref (x + 3)), (2, .int (nI k))] [] (wRow h (x + 89) f) 0 0 := by
    refine upTo (fun k hk ih => ?_) ?_
    · intro f hf
      have at144 : ∀ v : Int32, v = owF r done latest nc ns (16 + k) → Wp E mX3_tellWords (Rm 1 0 0) (Qm E (fun v h' => v = none ∧ ∃ f, h' = wRow h (x + 89) f ∧ ∀ j, j < 19 → f j = owF r done latest nc ns j) 0 0) 144 [(0, .ref (x + 88)), (1, .ref (x + 3)), (2, .int (nI k))] [.int v, .int (16 + nI k), .ref (x + 89)] (wRow h (x + 89) f) 0 0 := by
        intro v hve
        have h9 := ih (va_up f (16 + k) v) (fun j hj => by
          by_cases hjk : j = 16 + k
          · rw [hjk, va_up_self]; exact hve
          · rw [va_up_ne _ _ hjk]; exact hf j (by omega))
        refine r_iast (pc := 144) (j := 16 + k) (cr_89 hc) (by simp only [fa_lit, nI_add, nI_mul]) (by omega) (by decide) dX3_tellWords_144 ?_
        refine r_iinc (pc := 145) (v := _ + (1)) (lv' := [(0, _), (1, _), (2, _)]) 2 dX3_tellWords_145 rfl rfl (Nat.le_of_ble_eq_true rfl) rfl ?_
        refine r_goto (pc := 148) (tgt := 111) dX3_tellWords_148 (by decide) ?_
        rw [wRow_w, nI_1]; exact h9
      refine r_iload_n (pc := 111) 2 dX3_tellWords_111 rfl ?_
      refine r_iconst (pc := 112) (3) dX3_tellWords_112 rfl ?_
      refine r_icmp_ge (pc := 113) (tgt := 151) dX3_tellWords_113 (by decide) (fun c_113 => ?_) (fun c_113 => ?_)
      · exact absurd c_113 (nI_ge (b := 3) hk (by decide))
      · refine r_aload_n (pc := 116) 0 dX3_tellWords_116 rfl ?_
        refine r_getR (pc := 117) fl_X3_19 (ca_88 hc) (cf_88_2 hc) dX3_tellWords_117 ?_
        refine r_bipush (pc := 120) (16) dX3_tellWords_120 rfl ?_
        refine r_iload_n (pc := 122) 2 dX3_tellWords_122 rfl ?_
        refine r_iadd (pc := 123) dX3_tellWords_123 ?_
        refine r_aload_n (pc := 124) 1 dX3_tellWords_124 rfl ?_
        refine r_iload_n (pc := 125) 2 dX3_tellWords_125 rfl ?_
        refine r_dV (pc := 126) (As := [_]) mv_X5_hasShip ml_X3_95 (c5_hasShip (hpW f) (hvW f) hns h3 _) (pt_is (cs_pt3 hc)) rfl rfl (Nat.le_of_ble_eq_true rfl) (Nat.le_of_ble_eq_true rfl) (Nat.le_of_ble_eq_true rfl) (Nat.le_of_ble_eq_true rfl) (Nat.le_of_ble_eq_true rfl) dX3_tellWords_126 ?_
        refine r_if_eq (pc := 129) (tgt := 143) dX3_tellWords_129 (by decide) (fun c_129 => ?_) (fun c_129 => ?_)
        · have hz := bI_0.mp c_129
          rw [inN_nI (by omega)] at hz
          refine r_iconst (pc := 143) (-1) dX3_tellWords_143 rfl ?_
          exact at144 (-1) (by rw [owF_16, if_neg (of_decide_eq_false hz)])
        · have hz := bI_n0.mp c_129
          rw [inN_nI (by omega)] at hz
          obtain ⟨y, hy, ey⟩ := crew_lt r (nI k) nc h6
          refine r_aload_n (pc := 132) 1 dX3_tellWords_132 rfl ?_
          refine r_iload_n (pc := 133) 2 dX3_tellWords_133 rfl ?_
          refine r_dV (pc := 134) (As := [_]) mv_X5_crewOf ml_X3_98 (c5_crewOf (hpW f) (hvW f) hn h6 _) (pt_is (cs_pt3 hc)) rfl rfl (Nat.le_of_ble_eq_true rfl) (Nat.le_of_ble_eq_true rfl) (Nat.le_of_ble_eq_true rfl) (Nat.le_of_ble_eq_true rfl) (Nat.le_of_ble_eq_true rfl) dX3_tellWords_134 ?_
          refine r_dS (pc := 137) (As := [_]) ms_J6_bitCount_0f7a4 ml_X3_102 (ct_bitCount _) rfl rfl (Nat.le_of_ble_eq_true rfl) (Nat.le_of_ble_eq_true rfl) (Nat.le_of_ble_eq_true rfl) (Nat.le_of_ble_eq_true rfl) (Nat.le_of_ble_eq_true rfl) dX3_tellWords_137 ?_
          refine r_goto (pc := 140) (tgt := 144) dX3_tellWords_140 (by decide) ?_
          exact at144 _ (by rw [owF_16, if_pos (of_decide_eq_true hz), ey, bcF_ones (by omega)])
    · intro f hf
      refine r_iload_n (pc := 111) 2 dX3_tellWords_111 rfl ?_
      refine r_iconst (pc := 112) (3) dX3_tellWords_112 rfl ?_
      refine r_icmp_ge (pc := 113) (tgt := 151) dX3_tellWords_113 (by decide) (fun c_113 => ?_) (fun c_113 => ?_)
      · refine r_vret (pc := 151) rfl ?_ (Nat.le_of_ble_eq_true rfl) (Nat.le_of_ble_eq_true rfl) dX3_tellWords_151
        exact ⟨rfl, f, rfl, hf⟩
      · exact absurd (show (3 : Int32) ≤ nI 3 by decide) c_113
  have loop1 : ∀ k, k ≤ 6 → ∀ f : Nat → Int32, (∀ j, (j < 4 + k ∨ (10 ≤ j ∧ j < 10 + k)) → f j = owF r done latest nc ns j) → Wp E mX3_tellWords (Rm 1 0 0) (Qm E (fun v h' => v = none ∧ ∃ f, h' = wRow h (x + 89) f ∧ ∀ j, j < 19 → f j = owF r done latest nc ns j) 0 0) 44 [(0, .ref (x + 88)), (1, .ref (x + 3)), (2, .int (nI k))] [] (wRow h (x + 89) f) 0 0 := by
    refine upTo (fun k hk ih => ?_) ?_
    · intro f hf
      have at102 : ∀ (g : Nat → Int32) (v : Int32), (∀ j, (j < 4 + (k + 1) ∨ (10 ≤ j ∧ j < 10 + k)) → g j = owF r done latest nc ns j) → v = owF r done latest nc ns (10 + k) → Wp E mX3_tellWords (Rm 1 0 0) (Qm E (fun v h' => v = none ∧ ∃ f, h' = wRow h (x + 89) f ∧ ∀ j, j < 19 → f j = owF r done latest nc ns j) 0 0) 102 [(0, .ref (x + 88)), (1, .ref (x + 3)), (2, .int (nI k))] [.int v, .int (10 + nI k), .ref (x + 89)] (wRow h (x + 89) g) 0 0 := by
        intro g v hg hve
        have h9 := ih (va_up g (10 + k) v) (fun j hj => by
          by_cases hjk : j = 10 + k
          · rw [hjk, va_up_self]; exact hve
          · rw [va_up_ne _ _ hjk]; exact hg j (by omega))
        refine r_iast (pc := 102) (j := 10 + k) (cr_89 hc) (by simp only [fa_lit, nI_add, nI_mul]) (by omega) (by decide) dX3_tellWords_102 ?_
        refine r_iinc (pc := 103) (v := _ + (1)) (lv' := [(0, _), (1, _), (2, _)]) 2 dX3_tellWords_103 rfl rfl (Nat.le_of_ble_eq_true rfl) rfl ?_
        refine r_goto (pc := 106) (tgt := 44) dX3_tellWords_106 (by decide) ?_
        rw [wRow_w, nI_1]; exact h9
      have at75 : ∀ v : Int32, v = owF r done latest nc ns (4 + k) → Wp E mX3_tellWords (Rm 1 0 0) (Qm E (fun v h' => v = none ∧ ∃ f, h' = wRow h (x + 89) f ∧ ∀ j, j < 19 → f j = owF r done latest nc ns j) 0 0) 75 [(0, .ref (x + 88)), (1, .ref (x + 3)), (2, .int (nI k))] [.int v, .int (4 + nI k), .ref (x + 89)] (wRow h (x + 89) f) 0 0 := by
        intro v hve
        have hg : ∀ j, (j < 4 + (k + 1) ∨ (10 ≤ j ∧ j < 10 + k)) → va_up f (4 + k) v j = owF r done latest nc ns j := fun j hj => by
          by_cases hjk : j = 4 + k
          · rw [hjk, va_up_self]; exact hve
          · rw [va_up_ne _ _ hjk]; exact hf j (by omega)
        refine r_iast (pc := 75) (j := 4 + k) (cr_89 hc) (by simp only [fa_lit, nI_add, nI_mul]) (by omega) (by decide) dX3_tellWords_75 ?_
        rw [wRow_w]
        refine r_aload_n (pc := 76) 0 dX3_tellWords_76 rfl ?_
        refine r_getR (pc := 77) fl_X3_19 (ca_88 hc) (cf_88_2 hc) dX3_tellWords_77 ?_
        refine r_bipush (pc := 80) (10) dX3_tellWords_80 rfl ?_
        refine r_iload_n (pc := 82) 2 dX3_tellWords_82 rfl ?_
        refine r_iadd (pc := 83) dX3_tellWords_83 ?_
        refine r_aload_n (pc := 84) 1 dX3_tellWords_84 rfl ?_
        refine r_iload_n (pc := 85) 2 dX3_tellWords_85 rfl ?_
        refine r_dV (pc := 86) (As := [_]) mv_X5_hasCat ml_X3_85 (c5_hasCat (hpW _) (hvW _) hn h6 _) (pt_is (cs_pt3 hc)) rfl rfl (Nat.le_of_ble_eq_true rfl) (Nat.le_of_ble_eq_true rfl) (Nat.le_of_ble_eq_true rfl) (Nat.le_of_ble_eq_true rfl) (Nat.le_of_ble_eq_true rfl) dX3_tellWords_86 ?_
        refine r_if_eq (pc := 89) (tgt := 101) dX3_tellWords_89 (by decide) (fun c_89 => ?_) (fun c_89 => ?_)
        · have hz := bI_0.mp c_89
          rw [inN_nI (by omega)] at hz
          refine r_iconst (pc := 101) (-1) dX3_tellWords_101 rfl ?_
          exact at102 _ (-1) hg (by rw [owF_10 hk, if_neg (of_decide_eq_false hz)])
        · have hz := bI_n0.mp c_89
          rw [inN_nI (by omega)] at hz
          refine r_aload_n (pc := 92) 1 dX3_tellWords_92 rfl ?_
          refine r_getR (pc := 93) fl_X3_92 (pt_is (cs_pt3 hc)) (pt_f4 (cs_pt3 hc)) dX3_tellWords_93 ?_
          refine r_iload_n (pc := 96) 2 dX3_tellWords_96 rfl ?_
          refine r_iald (pc := 97) (j := k) (pt_r4 (cs_pt3 hc)) rfl (by omega) (by decide) dX3_tellWords_97 ?_
          refine r_goto (pc := 98) (tgt := 102) dX3_tellWords_98 (by decide) ?_
          rw [pv_go (hvW _) hk]
          exact at102 _ _ hg (by rw [owF_10 hk, if_pos (of_decide_eq_true hz)])
      refine r_iload_n (pc := 44) 2 dX3_tellWords_44 rfl ?_
      refine r_bipush (pc := 45) (6) dX3_tellWords_45 rfl ?_
      refine r_icmp_ge (pc := 47) (tgt := 109) dX3_tellWords_47 (by decide) (fun c_47 => ?_) (fun c_47 => ?_)
      · exact absurd c_47 (nI_ge (b := 6) hk (by decide))
      · refine r_aload_n (pc := 50) 0 dX3_tellWords_50 rfl ?_
        refine r_getR (pc := 51) fl_X3_19 (ca_88 hc) (cf_88_2 hc) dX3_tellWords_51 ?_
        refine r_iconst (pc := 54) (4) dX3_tellWords_54 rfl ?_
        refine r_iload_n (pc := 55) 2 dX3_tellWords_55 rfl ?_
        refine r_iadd (pc := 56) dX3_tellWords_56 ?_
        refine r_aload_n (pc := 57) 1 dX3_tellWords_57 rfl ?_
        refine r_iload_n (pc := 58) 2 dX3_tellWords_58 rfl ?_
        refine r_dV (pc := 59) (As := [_]) mv_X5_hasCat ml_X3_85 (c5_hasCat (hpW f) (hvW f) hn h6 _) (pt_is (cs_pt3 hc)) rfl rfl (Nat.le_of_ble_eq_true rfl) (Nat.le_of_ble_eq_true rfl) (Nat.le_of_ble_eq_true rfl) (Nat.le_of_ble_eq_true rfl) (Nat.le_of_ble_eq_true rfl) dX3_tellWords_59 ?_
        refine r_if_eq (pc := 62) (tgt := 74) dX3_tellWords_62 (by decide) (fun c_62 => ?_) (fun c_62 => ?_)
        · have hz := bI_0.mp c_62
          rw [inN_nI (by omega)] at hz
          refine r_iconst (pc := 74) (-1) dX3_tellWords_74 rfl ?_
          exact at75 (-1) (by rw [owF_4 hk, if_neg (of_decide_eq_false hz)])
        · have hz := bI_n0.mp c_62
          rw [inN_nI (by omega)] at hz
          refine r_aload_n (pc := 65) 1 dX3_tellWords_65 rfl ?_
          refine r_getR (pc := 66) fl_X3_89 (pt_is (cs_pt3 hc)) (pt_f1 (cs_pt3 hc)) dX3_tellWords_66 ?_
          refine r_iload_n (pc := 69) 2 dX3_tellWords_69 rfl ?_
          refine r_iald (pc := 70) (j := k) (pt_r1 (cs_pt3 hc)) rfl (by omega) (by decide) dX3_tellWords_70 ?_
          refine r_goto (pc := 71) (tgt := 75) dX3_tellWords_71 (by decide) ?_
          rw [pv_li (hvW _) hk]
          exact at75 _ (by rw [owF_4 hk, if_pos (of_decide_eq_true hz)])
    · intro f hf
      refine r_iload_n (pc := 44) 2 dX3_tellWords_44 rfl ?_
      refine r_bipush (pc := 45) (6) dX3_tellWords_45 rfl ?_
      refine r_icmp_ge (pc := 47) (tgt := 109) dX3_tellWords_47 (by decide) (fun c_47 => ?_) (fun c_47 => ?_)
      · refine r_iconst (pc := 109) (0) dX3_tellWords_109 rfl ?_
        refine r_istore_n (pc := 110) (lv' := [(0, _), (1, _), (2, _)]) dX3_tellWords_110 (Nat.le_of_ble_eq_true rfl) rfl ?_
        exact loop2 0 (by omega) f (fun j hj => hf j (by omega))
      · exact absurd (show (6 : Int32) ≤ nI 6 by decide) c_47
  refine r_aload_n (pc := 0) 0 dX3_tellWords_0 rfl ?_
  refine r_getR (pc := 1) fl_X3_19 (ca_88 hc) (cf_88_2 hc) dX3_tellWords_1 ?_
  refine r_iconst (pc := 4) (0) dX3_tellWords_4 rfl ?_
  refine r_aload_n (pc := 5) 1 dX3_tellWords_5 rfl ?_
  refine r_getR (pc := 6) fl_X3_76 (pt_is (cs_pt3 hc)) (pt_f10 (cs_pt3 hc)) dX3_tellWords_6 ?_
  refine r_iconst (pc := 9) (0) dX3_tellWords_9 rfl ?_
  refine r_iald (pc := 10) (j := 0) (pt_r10 (cs_pt3 hc)) rfl (by decide) (by decide) dX3_tellWords_10 ?_
  rw [pv_te hv (show 0 < 3 by decide)]
  refine r_iast (pc := 11) (j := 0) (cr_89 hc) rfl (by decide) (by decide) dX3_tellWords_11 ?_
  rw [wI_row]
  have k88 : ∀ f : Nat → Int32, hI (wRow h (x + 89) f) (x + 88) = hI h (x + 88) := fun f => wRow_ne (by omega)
  refine r_aload_n (pc := 12) 0 dX3_tellWords_12 rfl ?_
  refine r_getR (pc := 13) fl_X3_19 (ca_88 hc) (cf_88_2 hc) dX3_tellWords_13 ?_
  refine r_iconst (pc := 16) (1) dX3_tellWords_16 rfl ?_
  refine r_aload_n (pc := 17) 0 dX3_tellWords_17 rfl ?_
  refine r_getI (pc := 18) fl_X3_32 (ca_88 hc) dX3_tellWords_18 ?_
  rw [k88, hd]
  refine r_iast (pc := 21) (j := 1) (cr_89 hc) rfl (by decide) (by decide) dX3_tellWords_21 ?_
  rw [wRow_w]
  refine r_aload_n (pc := 22) 0 dX3_tellWords_22 rfl ?_
  refine r_getR (pc := 23) fl_X3_19 (ca_88 hc) (cf_88_2 hc) dX3_tellWords_23 ?_
  refine r_iconst (pc := 26) (2) dX3_tellWords_26 rfl ?_
  refine r_aload_n (pc := 27) 0 dX3_tellWords_27 rfl ?_
  refine r_getI (pc := 28) fl_X3_35 (ca_88 hc) dX3_tellWords_28 ?_
  rw [k88, hl]
  refine r_iast (pc := 31) (j := 2) (cr_89 hc) rfl (by decide) (by decide) dX3_tellWords_31 ?_
  rw [wRow_w]
  refine r_aload_n (pc := 32) 0 dX3_tellWords_32 rfl ?_
  refine r_getR (pc := 33) fl_X3_19 (ca_88 hc) (cf_88_2 hc) dX3_tellWords_33 ?_
  refine r_iconst (pc := 36) (3) dX3_tellWords_36 rfl ?_
  refine r_aload_n (pc := 37) 1 dX3_tellWords_37 rfl ?_
  refine r_dV (pc := 38) (As := []) mv_X5_howManyAlive ml_X3_81 (c5_howManyAlive (hpW _) (hvW _) hn h6) (pt_is (cs_pt3 hc)) rfl rfl (Nat.le_of_ble_eq_true rfl) (Nat.le_of_ble_eq_true rfl) (Nat.le_of_ble_eq_true rfl) (Nat.le_of_ble_eq_true rfl) (Nat.le_of_ble_eq_true rfl) dX3_tellWords_38 ?_
  rw [alive_ones h6]
  refine r_iast (pc := 41) (j := 3) (cr_89 hc) rfl (by decide) (by decide) dX3_tellWords_41 ?_
  rw [wRow_w]
  refine r_iconst (pc := 42) (0) dX3_tellWords_42 rfl ?_
  refine r_istore_n (pc := 43) (lv' := [(0, _), (1, _), (2, _)]) dX3_tellWords_43 (Nat.le_of_ble_eq_true rfl) rfl ?_
  refine loop1 0 (by omega) _ (fun j hj => ?_)
  rcases (by omega : j = 0 ∨ j = 1 ∨ j = 2 ∨ j = 3) with rfl | rfl | rfl | rfl
  · rw [va_up_ne _ _ (by decide), va_up_ne _ _ (by decide), va_up_ne _ _ (by decide), va_up_self]; rfl
  · rw [va_up_ne _ _ (by decide), va_up_ne _ _ (by decide), va_up_self]; rfl
  · rw [va_up_ne _ _ (by decide), va_up_self]; rfl
  · rw [va_up_self]; rfl
end WORDS
