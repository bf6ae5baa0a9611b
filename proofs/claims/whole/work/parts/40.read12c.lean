/-! the reference's reader steps as the machine does -/
section READ12C
variable {E : En} {h : Hp} {m : Nat} {μ : Mu} {l : La} {n : Nat} {od : Bool} {c0 : Nat} {O0 A0 : Nat → Int32}
def BD (P T : Nat → Int32) (pp cc : Nat) : Prop := pp ≤ 400 ∧ cc + pndN P pp ≤ 400 ∧ ∀ x, x < pp → (P x = 29 ∨ P x = 30) → ∃ t, t < 400 ∧ T x = nI t
def MR (b : Nat → Int32) (n : Nat) (O0 A0 : Nat → Int32) (od : Bool) (c0 : Nat) (O A P T : Nat → Int32) (cc : Nat) (st : AS) : Prop :=
  st.2.2.1 ≤ 50 ∧ st.2.2.2.1 ≤ 8 ∧ st.2.1 ≤ (tk b n st.2.1).1 ∧ cc + pndN P st.2.2.2.2.1.length ≤ st.2.1 ∧ st.2.2.2.2.1.length ≤ st.2.1 ∧ (∀ k, k < c0 → O k = O0 k ∧ A k = A0 k) ∧ ∃ q, PL O A P T od c0 st.2.2.2.2.1 q ∧ ((st.1 = 0 ∨ st.1 = 1) → q = cc) ∧ (¬ (st.1 = 0 ∨ st.1 = 1) → Seg O A od q cc st.2.2.2.2.2)
def pR (h : Hp) (m : Nat) (μ : Mu) (l : La) (n : Nat) (O0 A0 : Nat → Int32) (od : Bool) (c0 : Nat) (r : Nat ⊕ AS) : Option Value → Hp → Prop := fun v h' => match r with
  | .inl j => ∃ x pp cc lv op O A P T, v = some (.int x) ∧ BD P T pp cc ∧ h' = mH h m (rM μ n j true (nI cc) lv (nI pp) op O A P T) (rL μ l n j)
  | .inr st => ∃ cc O A P T, v = some (.int st.1) ∧ MR (μ 9) n O0 A0 od c0 O A P T cc st ∧ h' = mH h m (rM μ n st.2.1 false (nI cc) (nI st.2.2.1) (nI st.2.2.2.2.1.length) (nI st.2.2.2.1) O A P T) (rL μ l n st.2.1)
theorem MR_BD {b O A P T : Nat → Int32} {cc : Nat} {st : AS} (h4 : n ≤ 400) (hM : MR b n O0 A0 od c0 O A P T cc st) : BD P T st.2.2.2.2.1.length cc := by
  obtain ⟨_, _, h3, h5, h6, _, q, hq, _⟩ := hM
  have := tk_from b n st.2.1
  exact ⟨by omega, by omega, PL_T _ _ hq⟩
theorem tn3 : ¬ ((3 : Int32) = 0 ∨ (3 : Int32) = 1) := by decide
theorem tn2 : ¬ ((2 : Int32) = 0 ∨ (2 : Int32) = 1) := by decide
theorem tn4 : ¬ ((4 : Int32) = 0 ∨ (4 : Int32) = 1) := by decide
theorem va_up_up {α : Type} (f : Nat → α) (a : Nat) (v w : α) : va_up (va_up f a v) a w = va_up f a w := by
  funext j
  by_cases hj : j = a
  · subst hj; rw [va_up_self, va_up_self]
  · rw [va_up_ne _ _ hj, va_up_ne _ _ hj, va_up_ne _ _ hj]
theorem tk_lt {b : Nat → Int32} {i : Nat} (h4 : n ≤ 400) (hi : i ≤ (tk b n i).1) (hs : ¬ (tk b n i).2.2.1 = 0) : i < 400 := by
  have h1 := tk_next hi hs
  have h2 := tk_from b n (i + 1)
  omega
theorem PL_push0 {O A P T : Nat → Int32} {pl : List PE} {q : Nat} {x y : Int32} {s : Sm} (hp : PL O A P T od c0 pl q) (h28 : (28 : Int32) ≤ x) (hx : ¬ (x = 29 ∨ x = 30)) : PL O A (va_up P pl.length x) (va_up T pl.length y) od c0 ((x, s) :: pl) q := by
  refine ⟨va_up_self _ _ _, q, PL_cg (fun _ _ _ => ⟨rfl, rfl⟩) (fun k hk => ⟨va_up_ne _ _ (by omega), va_up_ne _ _ (by omega)⟩) hp, ?_⟩
  rw [if_neg hx, if_pos h28]
theorem PL_pushB {O A P T : Nat → Int32} {pl : List PE} {q k : Nat} {x y : Int32} {s : Sm} (hp : PL O A P T od c0 pl q) (hs : Seg O A od q k s) (h20 : ¬ x < 20) (h28 : x < 28) : PL O A (va_up P pl.length x) (va_up T pl.length y) od c0 ((x, s) :: pl) k := by
  refine ⟨va_up_self _ _ _, q, PL_cg (fun _ _ _ => ⟨rfl, rfl⟩) (fun k hk => ⟨va_up_ne _ _ (by omega), va_up_ne _ _ (by omega)⟩) hp, ?_⟩
  rw [if_neg (fun z => by rcases z with z | z <;> exact absurd h28 (by show ¬ x < 28; rw [show x = _ from z]; decide)), if_neg (Int32.not_le.mpr h28)]
  exact ⟨h20, hs⟩
theorem PL_pushJ {O A P T : Nat → Int32} {pl : List PE} {q k : Nat} {x : Int32} {s : Sm} (hp : PL O A P T od c0 pl q) (hs : Seg O A od q k s) (hk : k < 400) (hx : x = 29 ∨ x = 30) : PL (va_up O k x) (va_up A k 0) (va_up P pl.length x) (va_up T pl.length (nI k)) od c0 ((x, s) :: pl) (k + 1) := by
  have hqk := hs.1
  refine ⟨va_up_self _ _ _, q, PL_cg (fun j g1 g2 => ⟨va_up_ne _ _ (by omega), va_up_ne _ _ (by omega)⟩) (fun k hk => ⟨va_up_ne _ _ (by omega), va_up_ne _ _ (by omega)⟩) hp, ?_⟩
  rw [if_pos hx]
  exact ⟨k, hk, va_up_self _ _ _, va_up_self _ _ _, Seg_cong (fun j g1 g2 => ⟨va_up_ne _ _ (by omega), va_up_ne _ _ (by omega)⟩) hs, rfl⟩
theorem ptN_k (w : Nat → Int64) (t : Tk) : ∀ K, ptN w t K = -1 ∨ ((∃ k, 1 ≤ k ∧ k ≤ K ∧ ptN w t K = nI k) ∧ t.2.2.1 = 1)
  | 0 => Or.inl rfl
  | K + 1 => by
    rw [ptN]
    split
    · next hw => exact Or.inr ⟨⟨K + 1, by omega, Nat.le_refl _, rfl⟩, (of_decide_eq_true hw).1⟩
    · rcases ptN_k w t K with e | ⟨⟨k, h1, h2, e⟩, h3⟩
      · exact Or.inl e
      · exact Or.inr ⟨⟨k, h1, by omega, e⟩, h3⟩
theorem prtA_k (wl wo : Nat → Int64) (od : Bool) (t : Tk) : prtA wl wo od t = -1 ∨ ((∃ k, 1 ≤ k ∧ k ≤ (if od = true then 7 else 8) ∧ prtA wl wo od t = nI k) ∧ t.2.2.1 = 1) := by
  unfold prtA
  cases od with
  | false => exact ptN_k wl t 8
  | true => exact ptN_k wo t 7
theorem l2i_small {w : Int64} {b : Nat} (hb : b < 2 ^ 31) (h0 : 0 ≤ w) (h1 : w.toInt ≤ (b : Int)) : ∃ a, a ≤ b ∧ w.toInt32 = nI a := by
  rw [fa_le64] at h0
  have h0' : (0 : Int) ≤ w.toInt := h0
  refine ⟨w.toInt.toNat, by omega, ?_⟩
  apply Int32.toInt_inj.mp
  rw [nI_toInt (by omega), Int64.toInt_toInt32]
  rw [Int.bmod_eq_of_le (by omega) (by omega)]; omega
theorem ct_readPart (hm : Md E h m) (hn : μ 0 13 = nI n) (h4 : n ≤ 400) (ho : μ 0 20 = bI od) {O A P T : Nat → Int32} {cc i lv op : Nat} {pl : List PE} {tn : Int32} {s : Sm} (htn : tn = 0 ∨ tn = 1) (hM : MR (μ 9) n O0 A0 od c0 O A P T cc (tn, i, lv, op, pl, s)) {r : Nat ⊕ AS} (hr : rpA (l 15) (l 16) od (tk (μ 9) n) i lv op pl = some r) :
    Ct E 4 0 0 mX12_readPart [.ref m] (mH h m (rM μ n i false (nI cc) (nI lv) (nI pl.length) (nI op) O A P T) (rL μ l n i)) (pR h m μ l n O0 A0 od c0 r) := by
  have hBD := MR_BD h4 hM
  obtain ⟨m1, m2, m3, m4, m5, m6, q, hPL, hq, -⟩ := id hM
  simp only at m1 m2 m3 m4 m5
  have hqc : q = cc := hq htn
  subst hqc
  have hc0 := PL_le _ _ hPL
  refine Ct.of (by decide +kernel) (Nat.le_of_ble_eq_true rfl) ?_
  unfold rpA at hr
  refine r_aload_n (pc := 0) 0 dX12_readPart_0 rfl ?_
  refine r_bipush (pc := 1) (91) dX12_readPart_1 rfl ?_
  refine r_dV (pc := 3) (As := [_]) mv_X12_isSign ml_X12_331 (ct_isS hm 91) (q_is hm) rfl rfl (Nat.le_of_ble_eq_true rfl) (Nat.le_of_ble_eq_true rfl) (Nat.le_of_ble_eq_true rfl) (Nat.le_of_ble_eq_true rfl) (Nat.le_of_ble_eq_true rfl) dX12_readPart_3 ?_
  refine r_if_eq (pc := 6) (tgt := 17) dX12_readPart_6 (by decide) (fun c_6 => ?_) (fun c_6 => ?_)
  · have h91 := bI_0.mp c_6
    rw [if_neg (by rw [h91]; decide)] at hr
    have hits := prtA_k (l 15) (l 16) od (tk (μ 9) n i)
    generalize hie : prtA (l 15) (l 16) od (tk (μ 9) n i) = its at hr hits
    have at99 : ∀ (g : Bool), g = decide (¬ its = -1 ∨ digB (tk (μ 9) n i) = true) → Wp E mX12_readPart (Rm 4 0 0) (Qm E (pR h m μ l n O0 A0 od c0 r) 0 0) 99 [(0, .ref m), (1, .int its), (2, .int (bI (digB (tk (μ 9) n i))))] [.int (if digB (tk (μ 9) n i) = true then (tk (μ 9) n i).2.2.2.toInt32 else 0), .int (if its = -1 then 0 else its), .int (bI g), .ref m] (mH h m (rM μ n i false (nI q) (nI lv) (nI pl.length) (nI op) O A P T) (rL μ l n i)) 0 0 := by
      intro g hg
      have hg0 : g = true → ¬ (tk (μ 9) n i).2.2.1 = 0 := by
        intro z
        rw [z] at hg
        rcases of_decide_eq_true hg.symm with z1 | z1
        · rw [(hits.resolve_left z1).2]; decide
        · rw [(of_decide_eq_true z1).1]; decide
      have hlf := ct_leaf (μ := μ) (l := l) (i := i) (p := nI pl.length) (op := nI op) (O := O) (A := A) (P := P) (T := T) hm hn h4 g (if its = -1 then 0 else its) (if digB (tk (μ 9) n i) = true then (tk (μ 9) n i).2.2.2.toInt32 else 0) (cc := q) (ll := lv) (fun z => by have := tk_lt h4 m3 (hg0 z); omega) m1
      by_cases hy : g = true ∧ lv < 50
      · rw [if_pos hy, if_pos hy] at hlf
        have hgt := hy.1
        subst hgt
        have hcond : (¬ its = -1 ∨ digB (tk (μ 9) n i) = true) ∧ lv < 50 := ⟨of_decide_eq_true hg.symm, hy.2⟩
        rw [if_pos hcond] at hr
        have hnx := tk_next m3 (hg0 rfl)
        have h400 := tk_lt h4 m3 (hg0 rfl)
        refine r_dV0 (pc := 99) (As := [_, _, _]) mv_X12_leaf ml_X12_349 (hlf) (q_is hm) rfl rfl (Nat.le_of_ble_eq_true rfl) (Nat.le_of_ble_eq_true rfl) (Nat.le_of_ble_eq_true rfl) (Nat.le_of_ble_eq_true rfl) (Nat.le_of_ble_eq_true rfl) dX12_readPart_99 ?_
        have base : ∀ (a' : Int32) (i' : Nat), i + 1 ≤ i' → i' ≤ (tk (μ 9) n i').1 → legit od (if its = -1 then 0 else its) a' → MR (μ 9) n O0 A0 od c0 (va_up O q (if its = -1 then 0 else its)) (va_up A q a') P T (q + 1) (3, i', lv + 1, op, pl, sLf od (if its = -1 then 0 else its) a') := by
          intro a' i' hi' hf hleg
          refine ⟨show lv + 1 ≤ 50 by omega, m2, hf, show q + 1 + pndN P pl.length ≤ i' by omega, show pl.length ≤ i' by omega, fun k hk => ?_, q, ?_, fun z => absurd z tn3, fun _ => ?_⟩
          · rw [va_up_ne _ _ (by omega), va_up_ne _ _ (by omega)]; exact m6 k hk
          · exact PL_cg (fun k g1 g2 => ⟨va_up_ne _ _ (by omega), va_up_ne _ _ (by omega)⟩) (fun _ _ => ⟨rfl, rfl⟩) hPL
          · have hsg := Seg_leaf (O := va_up O q (if its = -1 then 0 else its)) (A := va_up A q a') (od := od) (a := q) (by rw [va_up_self, va_up_self]; exact hleg)
            rw [va_up_self, va_up_self] at hsg
            exact hsg
        have plain : ¬ (od = true ∧ (5 : Int32) ≤ its) → Wp E mX12_readPart (Rm 4 0 0) (Qm E (pR h m μ l n O0 A0 od c0 r) 0 0) 154 [(0, .ref m), (1, .int its), (2, .int (bI (digB (tk (μ 9) n i))))] [] (mH h m (rM μ n (i + 1) false (nI (q + 1)) (nI (lv + 1)) (nI pl.length) (nI op) (va_up O q (if its = -1 then 0 else its)) (va_up A q (if digB (tk (μ 9) n i) = true then (tk (μ 9) n i).2.2.2.toInt32 else 0)) P T) (rL μ l n (i + 1))) 0 0 := by
          intro hno
          rw [if_neg hno] at hr
          cases hr
          refine r_iconst (pc := 154) (3) dX12_readPart_154 rfl ?_
          refine r_iret (pc := 155) rfl ?_ (Nat.le_of_ble_eq_true rfl) (Nat.le_of_ble_eq_true rfl) dX12_readPart_155
          refine ⟨q + 1, _, _, P, T, rfl, base _ (i + 1) (Nat.le_refl _) hnx ?_, rfl⟩
          by_cases hi1 : its = -1
          · rw [if_pos hi1]; exact Or.inl rfl
          · rw [if_neg hi1]
            obtain ⟨⟨k, hk1, hk2, ek⟩, -⟩ := hits.resolve_left hi1
            cases od with
            | false => exact Or.inr (Or.inl ⟨rfl, k, hk1, hk2, ek⟩)
            | true => exact Or.inr (Or.inr ⟨rfl, k, hk1, hk2, ek, fun z => absurd ⟨rfl, by rw [ek]; exact nI_le (a := 5) (b := k) z (by have : k ≤ 7 := hk2; omega)⟩ hno⟩)
        refine r_aload_n (pc := 102) 0 dX12_readPart_102 rfl ?_
        refine q_getI (pc := 103) fl_X12_337 hm dX12_readPart_103 ?_
        refine r_if_eq (pc := 106) (tgt := 154) dX12_readPart_106 (by decide) (fun c_106 => ?_) (fun c_106 => ?_)
        · rw [rM_od, ho] at c_106
          exact plain (fun z => by rw [bI_0.mp c_106] at z; exact absurd z.1 (by decide))
        · rw [rM_od, ho] at c_106
          have hod := bI_n0.mp c_106
          refine r_iload_n (pc := 109) 1 dX12_readPart_109 rfl ?_
          refine r_iconst (pc := 110) (5) dX12_readPart_110 rfl ?_
          refine r_icmp_lt (pc := 111) (tgt := 154) dX12_readPart_111 (by decide) (fun c_111 => ?_) (fun c_111 => ?_)
          · exact plain (fun z => absurd z.2 (Int32.not_le.mpr c_111))
          · have h5 : (5 : Int32) ≤ its := Int32.not_lt.mp c_111
            have hi1 : ¬ its = -1 := fun z => by rw [z] at h5; exact absurd h5 (by decide)
            obtain ⟨⟨k, hk1, hk2, ek⟩, -⟩ := hits.resolve_left hi1
            rw [if_pos hod] at hk2
            rw [if_pos ⟨hod, h5⟩] at hr
            rw [if_neg hi1] at base ⊢
            refine r_aload_n (pc := 114) 0 dX12_readPart_114 rfl ?_
            refine q_getI (pc := 115) fl_X12_260 hm dX12_readPart_115 ?_
            refine r_if_ne (pc := 118) (tgt := 154) dX12_readPart_118 (by decide) (fun c_118 => ?_) (fun c_118 => ?_)
            · exact absurd rfl c_118
            · refine r_aload_n (pc := 121) 0 dX12_readPart_121 rfl ?_
              refine q_getI (pc := 122) fl_X12_297 hm dX12_readPart_122 ?_
              refine r_iconst (pc := 125) (1) dX12_readPart_125 rfl ?_
              refine r_isub (pc := 126) dX12_readPart_126 ?_
              refine r_istore_n (pc := 127) (lv' := [(0, _), (1, _), (2, _), (3, _)]) dX12_readPart_127 (Nat.le_of_ble_eq_true rfl) rfl ?_
              rw [rM_23, show nI (q + 1) - 1 = nI q from nI_sub (a := q + 1) (b := 1) (by omega)]
              have at150 : ∀ b : Int64, b = (if its = 7 then 2 else 5) → Wp E mX12_readPart (Rm 4 0 0) (Qm E (pR h m μ l n O0 A0 od c0 r) 0 0) 150 [(0, .ref m), (1, .int its), (2, .int (bI (digB (tk (μ 9) n i)))), (3, .int (nI q))] [.long b, .long 0, .ref m, .int (nI q), .ref (m + 12)] (mH h m (rM μ n (i + 1) false (nI (q + 1)) (nI (lv + 1)) (nI pl.length) (nI op) (va_up O q its) (va_up A q (if digB (tk (μ 9) n i) = true then (tk (μ 9) n i).2.2.2.toInt32 else 0)) P T) (rL μ l n (i + 1))) 0 0 := by
                intro b hb
                rw [← hb] at hr
                refine r_dV (pc := 150) (As := [_, _]) mv_X12_number ml_X12_357 (ct_number hm 0 b hn h4) (q_is hm) rfl rfl (Nat.le_of_ble_eq_true rfl) (Nat.le_of_ble_eq_true rfl) (Nat.le_of_ble_eq_true rfl) (Nat.le_of_ble_eq_true rfl) (Nat.le_of_ble_eq_true rfl) dX12_readPart_150 ?_
                refine q_iast (pc := 153) (j := q) (md_r25 hm) (by decide) rfl (by omega) (by decide) dX12_readPart_153 ?_
                refine r_iconst (pc := 154) (3) dX12_readPart_154 rfl ?_
                refine r_iret (pc := 155) rfl ?_ (Nat.le_of_ble_eq_true rfl) (Nat.le_of_ble_eq_true rfl) dX12_readPart_155
                rw [rM_uA, va_up_up]
                by_cases hnb : numB (tk (μ 9) n (i + 1)) 0 b = true
                · rw [if_pos hnb] at hr
                  cases hr
                  have eS : mustS (i + 1) false (numB (tk (μ 9) n (i + 1)) 0 b) = (i + 2, false) := by rw [hnb]; rfl
                  rw [eS]
                  obtain ⟨g1, g2, g3⟩ := of_decide_eq_true hnb
                  have hleg : ∃ a, a < 6 ∧ (k = 7 → a < 3) ∧ (tk (μ 9) n (i + 1)).2.2.2.toInt32 = nI a := by
                    by_cases h7 : its = 7
                    · rw [hb, if_pos h7, fa_le64] at g3
                      obtain ⟨a, ha, ea⟩ := l2i_small (b := 2) (by decide) g2 g3
                      exact ⟨a, by omega, fun _ => by omega, ea⟩
                    · rw [hb, if_neg h7, fa_le64] at g3
                      obtain ⟨a, ha, ea⟩ := l2i_small (b := 5) (by decide) g2 g3
                      exact ⟨a, by omega, fun z => absurd (by rw [ek, z]; rfl) h7, ea⟩
                  obtain ⟨a, ha, ha7, ea⟩ := hleg
                  refine ⟨q + 1, _, _, P, T, rfl, base _ (i + 2) (by omega) (tk_next hnx (numB_n0 hnb)) (Or.inr (Or.inr ⟨hod, k, hk1, hk2, ek, fun _ => ⟨a, ea, ha, ha7⟩⟩)), rfl⟩
                · rw [if_neg hnb] at hr
                  cases hr
                  have eS : mustS (i + 1) false (numB (tk (μ 9) n (i + 1)) 0 b) = (i + 1, true) := by rw [Bool.eq_false_iff.mpr hnb]; rfl
                  rw [eS]
                  exact ⟨3, pl.length, q + 1, _, _, _, _, P, T, rfl, ⟨by omega, by omega, hBD.2.2⟩, rfl⟩
              refine r_aload_n (pc := 128) 0 dX12_readPart_128 rfl ?_
              refine q_getR (pc := 129) fl_X12_48 hm (md_f25 hm) dX12_readPart_129 ?_
              refine r_iload_n (pc := 132) 3 dX12_readPart_132 rfl ?_
              refine r_aload_n (pc := 133) 0 dX12_readPart_133 rfl ?_
              refine r_lconst (pc := 134) (0) dX12_readPart_134 rfl ?_
              refine r_iload_n (pc := 135) 1 dX12_readPart_135 rfl ?_
              refine r_bipush (pc := 136) (7) dX12_readPart_136 rfl ?_
              refine r_icmp_ne (pc := 138) (tgt := 147) dX12_readPart_138 (by decide) (fun c_138 => ?_) (fun c_138 => ?_)
              · refine r_ldc2_w (pc := 147) cs_X12_355 dX12_readPart_147 ?_
                exact at150 5 (by rw [if_neg c_138])
              · refine r_ldc2_w (pc := 141) cs_X12_353 dX12_readPart_141 ?_
                refine r_goto (pc := 144) (tgt := 150) dX12_readPart_144 (by decide) ?_
                exact at150 2 (by rw [if_pos c_138])
      · rw [if_neg hy, if_neg hy] at hlf
        have hcond : ¬ ((¬ its = -1 ∨ digB (tk (μ 9) n i) = true) ∧ lv < 50) := fun z => hy ⟨by rw [hg]; exact decide_eq_true z.1, z.2⟩
        rw [if_neg hcond] at hr
        refine r_dV0 (pc := 99) (As := [_, _, _]) mv_X12_leaf ml_X12_349 (hlf) (q_is hm) rfl rfl (Nat.le_of_ble_eq_true rfl) (Nat.le_of_ble_eq_true rfl) (Nat.le_of_ble_eq_true rfl) (Nat.le_of_ble_eq_true rfl) (Nat.le_of_ble_eq_true rfl) dX12_readPart_99 ?_
        have out : Wp E mX12_readPart (Rm 4 0 0) (Qm E (pR h m μ l n O0 A0 od c0 r) 0 0) 154 [(0, .ref m), (1, .int its), (2, .int (bI (digB (tk (μ 9) n i))))] [] (mH h m (rM μ n i true (nI q) (nI lv) (nI pl.length) (nI op) O A P T) (rL μ l n i)) 0 0 := by
          cases hr
          refine r_iconst (pc := 154) (3) dX12_readPart_154 rfl ?_
          refine r_iret (pc := 155) rfl ?_ (Nat.le_of_ble_eq_true rfl) (Nat.le_of_ble_eq_true rfl) dX12_readPart_155
          exact ⟨3, pl.length, q, _, _, O, A, P, T, rfl, hBD, rfl⟩
        refine r_aload_n (pc := 102) 0 dX12_readPart_102 rfl ?_
        refine q_getI (pc := 103) fl_X12_337 hm dX12_readPart_103 ?_
        refine r_if_eq (pc := 106) (tgt := 154) dX12_readPart_106 (by decide) (fun c_106 => ?_) (fun c_106 => ?_)
        · exact out
        · refine r_iload_n (pc := 109) 1 dX12_readPart_109 rfl ?_
          refine r_iconst (pc := 110) (5) dX12_readPart_110 rfl ?_
          refine r_icmp_lt (pc := 111) (tgt := 154) dX12_readPart_111 (by decide) (fun c_111 => ?_) (fun c_111 => ?_)
          · exact out
          · refine r_aload_n (pc := 114) 0 dX12_readPart_114 rfl ?_
            refine q_getI (pc := 115) fl_X12_260 hm dX12_readPart_115 ?_
            refine r_if_ne (pc := 118) (tgt := 154) dX12_readPart_118 (by decide) (fun c_118 => ?_) (fun c_118 => ?_)
            · exact out
            · exact absurd (show bI true = 0 from c_118) (by decide)
    have at86 : ∀ (g : Bool), g = decide (¬ its = -1 ∨ digB (tk (μ 9) n i) = true) → Wp E mX12_readPart (Rm 4 0 0) (Qm E (pR h m μ l n O0 A0 od c0 r) 0 0) 86 [(0, .ref m), (1, .int its), (2, .int (bI (digB (tk (μ 9) n i))))] [.int (if its = -1 then 0 else its), .int (bI g), .ref m] (mH h m (rM μ n i false (nI q) (nI lv) (nI pl.length) (nI op) O A P T) (rL μ l n i)) 0 0 := by
      intro g hg
      have h99 := at99 g hg
      refine r_iload_n (pc := 86) 2 dX12_readPart_86 rfl ?_
      refine r_if_eq (pc := 87) (tgt := 98) dX12_readPart_87 (by decide) (fun c_87 => ?_) (fun c_87 => ?_)
      · rw [if_neg (by rw [bI_0.mp c_87]; decide)] at h99
        refine r_iconst (pc := 98) (0) dX12_readPart_98 rfl ?_
        exact h99
      · rw [if_pos (bI_n0.mp c_87)] at h99
        refine r_aload_n (pc := 90) 0 dX12_readPart_90 rfl ?_
        refine q_getJ (pc := 91) fl_X12_270 hm dX12_readPart_91 ?_
        refine r_l2i (pc := 94) dX12_readPart_94 ?_
        refine r_goto (pc := 95) (tgt := 99) dX12_readPart_95 (by decide) ?_
        rw [rL_w]
        exact h99
    have at76 : ∀ (g : Bool), g = decide (¬ its = -1 ∨ digB (tk (μ 9) n i) = true) → Wp E mX12_readPart (Rm 4 0 0) (Qm E (pR h m μ l n O0 A0 od c0 r) 0 0) 76 [(0, .ref m), (1, .int its), (2, .int (bI (digB (tk (μ 9) n i))))] [.int (bI g), .ref m] (mH h m (rM μ n i false (nI q) (nI lv) (nI pl.length) (nI op) O A P T) (rL μ l n i)) 0 0 := by
      intro g hg
      have h86 := at86 g hg
      refine r_iload_n (pc := 76) 1 dX12_readPart_76 rfl ?_
      refine r_iconst (pc := 77) (-1) dX12_readPart_77 rfl ?_
      refine r_icmp_ne (pc := 78) (tgt := 85) dX12_readPart_78 (by decide) (fun c_78 => ?_) (fun c_78 => ?_)
      · rw [if_neg c_78] at h86
        refine r_iload_n (pc := 85) 1 dX12_readPart_85 rfl ?_
        exact h86
      · rw [if_pos c_78] at h86
        refine r_iconst (pc := 81) (0) dX12_readPart_81 rfl ?_
        refine r_goto (pc := 82) (tgt := 86) dX12_readPart_82 (by decide) ?_
        exact h86
    have at60 : ∀ g : Bool, g = digB (tk (μ 9) n i) → Wp E mX12_readPart (Rm 4 0 0) (Qm E (pR h m μ l n O0 A0 od c0 r) 0 0) 60 [(0, .ref m), (1, .int its)] [.int (bI g)] (mH h m (rM μ n i false (nI q) (nI lv) (nI pl.length) (nI op) O A P T) (rL μ l n i)) 0 0 := by
      rintro g rfl
      refine r_istore_n (pc := 60) (lv' := [(0, _), (1, _), (2, _)]) dX12_readPart_60 (Nat.le_of_ble_eq_true rfl) rfl ?_
      refine r_aload_n (pc := 61) 0 dX12_readPart_61 rfl ?_
      refine r_iload_n (pc := 62) 1 dX12_readPart_62 rfl ?_
      refine r_iconst (pc := 63) (-1) dX12_readPart_63 rfl ?_
      refine r_icmp_ne (pc := 64) (tgt := 71) dX12_readPart_64 (by decide) (fun c_64 => ?_) (fun c_64 => ?_)
      · refine r_iconst (pc := 71) (1) dX12_readPart_71 rfl ?_
        refine r_goto (pc := 72) (tgt := 76) dX12_readPart_72 (by decide) ?_
        exact at76 true (decide_eq_true (Or.inl c_64)).symm
      · refine r_iload_n (pc := 67) 2 dX12_readPart_67 rfl ?_
        refine r_if_eq (pc := 68) (tgt := 75) dX12_readPart_68 (by decide) (fun c_68 => ?_) (fun c_68 => ?_)
        · refine r_iconst (pc := 75) (0) dX12_readPart_75 rfl ?_
          exact at76 false (decide_eq_false (fun z => z.elim (fun y => y c_64) (fun y => by rw [bI_0.mp c_68] at y; exact absurd y (by decide)))).symm
        · refine r_iconst (pc := 71) (1) dX12_readPart_71 rfl ?_
          refine r_goto (pc := 72) (tgt := 76) dX12_readPart_72 (by decide) ?_
          exact at76 true (decide_eq_true (Or.inr (bI_n0.mp c_68))).symm
    have at35 : Wp E mX12_readPart (Rm 4 0 0) (Qm E (pR h m μ l n O0 A0 od c0 r) 0 0) 35 [(0, .ref m)] [.int its] (mH h m (rM μ n i false (nI q) (nI lv) (nI pl.length) (nI op) O A P T) (rL μ l n i)) 0 0 := by
      refine r_istore_n (pc := 35) (lv' := [(0, _), (1, _)]) dX12_readPart_35 (Nat.le_of_ble_eq_true rfl) rfl ?_
      refine r_aload_n (pc := 36) 0 dX12_readPart_36 rfl ?_
      refine q_getI (pc := 37) fl_X12_280 hm dX12_readPart_37 ?_
      refine r_iconst (pc := 40) (2) dX12_readPart_40 rfl ?_
      refine r_icmp_ne (pc := 41) (tgt := 59) dX12_readPart_41 (by decide) (fun c_41 => ?_) (fun c_41 => ?_)
      · refine r_iconst (pc := 59) (0) dX12_readPart_59 rfl ?_
        exact at60 false (decide_eq_false (fun z => c_41 z.1)).symm
      · refine r_aload_n (pc := 44) 0 dX12_readPart_44 rfl ?_
        refine q_getJ (pc := 45) fl_X12_270 hm dX12_readPart_45 ?_
        refine r_ldc2_w (pc := 48) cs_X12_347 dX12_readPart_48 ?_
        refine r_lcmp_gt (pc := 51) (tgt := 59) dX12_readPart_51 dX12_readPart_52 (by decide) (fun c_51 => ?_) (fun c_51 => ?_)
        · rw [rL_w] at c_51
          refine r_iconst (pc := 59) (0) dX12_readPart_59 rfl ?_
          exact at60 false (decide_eq_false (fun z => Int64.not_le.mpr c_51 z.2)).symm
        · rw [rL_w] at c_51
          refine r_iconst (pc := 55) (1) dX12_readPart_55 rfl ?_
          refine r_goto (pc := 56) (tgt := 60) dX12_readPart_56 (by decide) ?_
          exact at60 true (decide_eq_true ⟨c_41, Int64.not_lt.mp c_51⟩).symm
    refine r_aload_n (pc := 17) 0 dX12_readPart_17 rfl ?_
    refine q_getI (pc := 18) fl_X12_337 hm dX12_readPart_18 ?_
    refine r_if_eq (pc := 21) (tgt := 31) dX12_readPart_21 (by decide) (fun c_21 => ?_) (fun c_21 => ?_)
    · rw [rM_od, ho] at c_21
      have hod := bI_0.mp c_21
      refine r_aload_n (pc := 31) 0 dX12_readPart_31 rfl ?_
      refine r_dV (pc := 32) (As := []) mv_X12_partAt ml_X12_344 (ct_partAt hm) (q_is hm) rfl rfl (Nat.le_of_ble_eq_true rfl) (Nat.le_of_ble_eq_true rfl) (Nat.le_of_ble_eq_true rfl) (Nat.le_of_ble_eq_true rfl) (Nat.le_of_ble_eq_true rfl) dX12_readPart_32 ?_
      rw [show ptN (l 15) (tk (μ 9) n i) 8 = its from by rw [← hie, prtA, if_neg (by rw [hod]; decide)]]
      exact at35
    · rw [rM_od, ho] at c_21
      have hod := bI_n0.mp c_21
      refine r_aload_n (pc := 24) 0 dX12_readPart_24 rfl ?_
      refine r_dV (pc := 25) (As := []) mv_X12_orderPartAt ml_X12_340 (ct_orderPartAt hm) (q_is hm) rfl rfl (Nat.le_of_ble_eq_true rfl) (Nat.le_of_ble_eq_true rfl) (Nat.le_of_ble_eq_true rfl) (Nat.le_of_ble_eq_true rfl) (Nat.le_of_ble_eq_true rfl) dX12_readPart_25 ?_
      refine r_goto (pc := 28) (tgt := 35) dX12_readPart_28 (by decide) ?_
      rw [show ptN (l 16) (tk (μ 9) n i) 7 = its from by rw [← hie, prtA, if_pos hod]]
      exact at35
  · have h91 := bI_n0.mp c_6
    rw [if_pos h91] at hr
    have h400 := tk_lt h4 m3 (tS_n0 h91)
    have hob := ct_openBracket (μ := μ) (l := l) (i := i) (c := nI q) (lv := nI lv) (O := O) (A := A) (P := P) (T := T) hm hn h4 32 (pp := pl.length) (oo := op) (by omega) m2
    unfold opnA at hr
    by_cases h8 : op < 8
    · rw [if_pos h8, if_pos h8] at hob
      rw [if_pos h8] at hr
      cases hr
      refine r_aload_n (pc := 9) 0 dX12_readPart_9 rfl ?_
      refine r_bipush (pc := 10) (32) dX12_readPart_10 rfl ?_
      refine r_dV0 (pc := 12) (As := [_]) mv_X12_openBracket ml_X12_334 (hob) (q_is hm) rfl rfl (Nat.le_of_ble_eq_true rfl) (Nat.le_of_ble_eq_true rfl) (Nat.le_of_ble_eq_true rfl) (Nat.le_of_ble_eq_true rfl) (Nat.le_of_ble_eq_true rfl) dX12_readPart_12 ?_
      refine r_iconst (pc := 15) (1) dX12_readPart_15 rfl ?_
      refine r_iret (pc := 16) rfl ?_ (Nat.le_of_ble_eq_true rfl) (Nat.le_of_ble_eq_true rfl) dX12_readPart_16
      refine ⟨q, O, A, _, _, rfl, ⟨m1, show op + 1 ≤ 8 by omega, tk_next m3 (tS_n0 h91), ?_, show pl.length + 1 ≤ i + 1 by omega, m6, q, PL_push0 hPL (by decide) (by decide), fun _ => rfl, fun z => absurd (Or.inr rfl) z⟩, rfl⟩
      show q + pndN (va_up P pl.length 32) (pl.length + 1) ≤ i + 1
      rw [pndN_up, if_neg (by decide)]; omega
    · rw [if_neg h8, if_neg h8] at hob
      rw [if_neg h8] at hr
      cases hr
      refine r_aload_n (pc := 9) 0 dX12_readPart_9 rfl ?_
      refine r_bipush (pc := 10) (32) dX12_readPart_10 rfl ?_
      refine r_dV0 (pc := 12) (As := [_]) mv_X12_openBracket ml_X12_334 (hob) (q_is hm) rfl rfl (Nat.le_of_ble_eq_true rfl) (Nat.le_of_ble_eq_true rfl) (Nat.le_of_ble_eq_true rfl) (Nat.le_of_ble_eq_true rfl) (Nat.le_of_ble_eq_true rfl) dX12_readPart_12 ?_
      refine r_iconst (pc := 15) (1) dX12_readPart_15 rfl ?_
      refine r_iret (pc := 16) rfl ?_ (Nat.le_of_ble_eq_true rfl) (Nat.le_of_ble_eq_true rfl) dX12_readPart_16
      exact ⟨1, pl.length, q, _, _, O, A, P, T, rfl, hBD, rfl⟩
end READ12C
