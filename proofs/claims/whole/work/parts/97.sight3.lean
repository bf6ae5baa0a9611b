/-! the class: who passes for whom -/
section SIGHT3
variable {E : En} {h : Hp} {x p : Nat} {r : Nat → Int32}
/-- what was seen ahead, of the first k cats and of the years before j -/
def ShI (h : Hp) (x : Nat) (r : Nat → Int32) (fo : Option (List Cl)) (k j : Nat) : Prop := ∀ c y, c < 6 → y < 10 → (c < k ∨ (c = k ∧ y < j)) → aliveF r c = true → hI h (x + 97) (10 * c + y) = showF r fo c (r (8 + c)) (spentF r c) (nI y)
theorem ShI.fr {S : Nat → Nat → Prop} {h1 : Hp} {fo : Option (List Cl)} {k j : Nat} (hs : ShI h x r fo k j) (f : Fr S h h1) (q : ∀ i, ¬ S (x + 97) i) : ShI h1 x r fo k j := fun c y a1 a2 a3 a4 => (f.I (q _)).trans (hs c y a1 a2 a3 a4)
theorem c8_lookAhead (hc : CS E h x) (hpx : pOf x p) (hv : PtV h p r) {n ns nl : Nat} (hrw : RwOK r n ns) (h3 : r 3 = nI nl) (hl6 : nl ≤ 6) {lw : Option Nat} {fo : Option (List Cl)} (hlw : LwA h p r nl lw) (hfo : FoL E h x fo lw) : Ct E 3 0 0 mX8_lookAhead [.ref (x + 96), .ref p] h (fun v h' => v = none ∧ Fr (siS x) h h' ∧ ShI h' x r fo n 0) := by
  have hn := hrw.1
  have h6 := hrw.2.1
  obtain ⟨d, hd10, ed⟩ := hrw.2.2.2.2.2.2.2.2.2.1
  refine Ct.of (by decide +kernel) (Nat.le_of_ble_eq_true rfl) ?_
  refine r_iconst (pc := 0) (0) dX8_lookAhead_0 rfl ?_
  refine r_istore_n (pc := 1) (lv' := [(0, _), (1, _), (2, _)]) dX8_lookAhead_1 (Nat.le_of_ble_eq_true rfl) rfl ?_
  have loop : ∀ k, k ≤ n → ∀ hh : Hp, Fr (siS x) h hh → ShI hh x r fo k 0 → Wp E mX8_lookAhead (Rm 3 0 0) (Qm E (fun v h' => v = none ∧ Fr (siS x) h h' ∧ ShI h' x r fo n 0) 0 0) 2 [(0, .ref (x + 96)), (1, .ref p), (2, .int (nI k))] [] hh 0 0 := by
    refine upTo (fun k hk ih => ?_) ?_
    · intro hh fr hS
      have hch := hc.si fr
      have hph := pt_of hch hpx
      have hvh := hv.si hpx fr
      obtain ⟨hlk, y, hy, ey, -⟩ := hrw.2.2.2.2.1 k (by omega)
      have hin : inN (nI k) n = true := by rw [inN_nI (by omega)]; exact decide_eq_true hk
      refine r_iload_n (pc := 2) 2 dX8_lookAhead_2 rfl ?_
      refine r_aload_n (pc := 3) 1 dX8_lookAhead_3 rfl ?_
      refine r_getI (pc := 4) fl_X8_114 (pt_is hph) dX8_lookAhead_4 ?_
      rw [pv_0 hvh, hn]
      refine r_icmp_ge (pc := 7) (tgt := 83) dX8_lookAhead_7 (by decide) (fun c_7 => ?_) (fun c_7 => ?_)
      · exact absurd c_7 (nI_ge hk (by omega))
      · refine r_aload_n (pc := 10) 1 dX8_lookAhead_10 rfl ?_
        refine r_iload_n (pc := 11) 2 dX8_lookAhead_11 rfl ?_
        refine r_dV (pc := 12) (As := [_]) mv_X5_isHere ml_X8_117 (c5_isHere hph hvh hn h6 _) (pt_is hph) rfl rfl (Nat.le_of_ble_eq_true rfl) (Nat.le_of_ble_eq_true rfl) (Nat.le_of_ble_eq_true rfl) (Nat.le_of_ble_eq_true rfl) (Nat.le_of_ble_eq_true rfl) dX8_lookAhead_12 ?_
        refine r_if_eq (pc := 15) (tgt := 77) dX8_lookAhead_15 (by decide) (fun c_15 => ?_) (fun c_15 => ?_)
        · have hz := bI_0.mp c_15
          unfold hereB at hz
          rw [hin, nI_clamp (by omega), Bool.true_and] at hz
          refine r_iinc (pc := 77) (v := _ + (1)) (lv' := [(0, _), (1, _), (2, _)]) 2 dX8_lookAhead_77 rfl rfl (Nat.le_of_ble_eq_true rfl) rfl ?_
          refine r_goto (pc := 80) (tgt := 2) dX8_lookAhead_80 (by decide) ?_
          rw [nI_1]
          refine ih hh fr (fun c y a1 a2 a3 a4 => hS c y a1 a2 ?_ a4)
          by_cases hck : c = k
          · rw [hck, hz] at a4; cases a4
          · omega
        · have hz := bI_n0.mp c_15
          unfold hereB at hz
          rw [hin, nI_clamp (by omega), Bool.true_and] at hz
          obtain ⟨li, hli, eli⟩ := hlk.resolve_left (by unfold aliveF at hz; exact of_decide_eq_true hz)
          refine r_aload_n (pc := 18) 0 dX8_lookAhead_18 rfl ?_
          refine r_getR (pc := 19) fl_X8_9 (ca_96 hch) (cf_96_0 hch) dX8_lookAhead_19 ?_
          refine r_aload_n (pc := 22) 1 dX8_lookAhead_22 rfl ?_
          refine r_iload_n (pc := 23) 2 dX8_lookAhead_23 rfl ?_
          refine r_callV (pc := 24) (As := [_, _]) mv_X0_about ml_X8_34 (c0_about hch hpx hvh (by omega) hy ey h3 hl6 (hlw.si hpx fr)) (ca_37 hch) rfl rfl (Nat.le_of_ble_eq_true rfl) (Nat.le_of_ble_eq_true rfl) (Nat.le_of_ble_eq_true rfl) (Nat.le_of_ble_eq_true rfl) (Nat.le_of_ble_eq_true rfl) dX8_lookAhead_24 (fun r h2 hp => ?_)
          obtain ⟨rfl, f2, ha2⟩ := hp
          show Wp E mX8_lookAhead _ _ _ _ [] _ 0 0
          rw [eli] at ha2
          have fr2 := fr.tr (f2.mono (fun _ _ => ak_si))
          have hS2 : ShI h2 x r fo k 0 := hS.fr f2 (fun i => by unfold akS; omega)
          have inner : ∀ j, j ≤ 10 → ∀ (h2 : Hp) (yr : Int32), Fr (siS x) h h2 → Ask h2 x (wdF r k (nI li) (spentF r k) (r (32 + k)) yr) (r 6) lw → ShI h2 x r fo k j → Wp E mX8_lookAhead (Rm 3 0 0) (Qm E (fun v h' => v = none ∧ Fr (siS x) h h' ∧ ShI h' x r fo n 0) 0 0) 29 [(0, .ref (x + 96)), (1, .ref p), (2, .int (nI k)), (3, .int (nI j))] [] h2 0 0 := by
            refine upTo (fun j hj ih2 => ?_) ?_
            · intro h2 yr fr2 ha2 hS2
              have hc2 := hc.si fr2
              have hp2 := pt_of hc2 hpx
              have hv2 := hv.si hpx fr2
              refine r_iload_n (pc := 29) 3 dX8_lookAhead_29 rfl ?_
              refine r_bipush (pc := 30) (10) dX8_lookAhead_30 rfl ?_
              refine r_icmp_ge (pc := 32) (tgt := 77) dX8_lookAhead_32 (by decide) (fun c_32 => ?_) (fun c_32 => ?_)
              · exact absurd c_32 (nI_ge (b := 10) hj (by decide))
              · refine r_aload_n (pc := 35) 0 dX8_lookAhead_35 rfl ?_
                refine r_getR (pc := 36) fl_X8_9 (ca_96 hc2) (cf_96_0 hc2) dX8_lookAhead_36 ?_
                refine r_aload_n (pc := 39) 1 dX8_lookAhead_39 rfl ?_
                refine r_getR (pc := 40) fl_X8_48 (pt_is hp2) (pt_f10 hp2) dX8_lookAhead_40 ?_
                refine r_iconst (pc := 43) (0) dX8_lookAhead_43 rfl ?_
                refine r_iald (pc := 44) (j := 0) (pt_r10 hp2) rfl (by decide) (by decide) dX8_lookAhead_44 ?_
                rw [pv_te hv2 (show 0 < 3 by decide)]
                refine r_iload_n (pc := 45) 3 dX8_lookAhead_45 rfl ?_
                refine r_iadd (pc := 46) dX8_lookAhead_46 ?_
                refine r_dV0 (pc := 47) (As := [_]) mv_X0_inYear ml_X8_51 (c0_inYear hc2 _) (ca_37 hc2) rfl rfl (Nat.le_of_ble_eq_true rfl) (Nat.le_of_ble_eq_true rfl) (Nat.le_of_ble_eq_true rfl) (Nat.le_of_ble_eq_true rfl) (Nat.le_of_ble_eq_true rfl) dX8_lookAhead_47 ?_
                have ha3 := (ha2.w 6 (r (5 + 0) + nI j)).cg (wdF_year (y2 := r (5 + 0) + nI j))
                have g3 : Fr (fun a _ => a = x + 38) h2 (wI h2 (x + 38) 6 (r (5 + 0) + nI j)) := Fr.wI rfl
                generalize wI h2 (x + 38) 6 (r (5 + 0) + nI j) = h3 at ha3 g3 ⊢
                have fr3 := fr2.tr (g3.mono (fun a i z => (Or.inl (by unfold akS; omega) : siS x a i)))
                have hc3 := hc.si fr3
                refine r_aload_n (pc := 50) 0 dX8_lookAhead_50 rfl ?_
                refine r_getR (pc := 51) fl_X8_15 (ca_96 hc3) (cf_96_1 hc3) dX8_lookAhead_51 ?_
                refine r_iload_n (pc := 54) 2 dX8_lookAhead_54 rfl ?_
                refine r_bipush (pc := 55) (10) dX8_lookAhead_55 rfl ?_
                refine r_imul (pc := 57) dX8_lookAhead_57 ?_
                refine r_iload_n (pc := 58) 3 dX8_lookAhead_58 rfl ?_
                refine r_iadd (pc := 59) dX8_lookAhead_59 ?_
                refine r_aload_n (pc := 60) 0 dX8_lookAhead_60 rfl ?_
                refine r_getR (pc := 61) fl_X8_9 (ca_96 hc3) (cf_96_0 hc3) dX8_lookAhead_61 ?_
                refine r_sipush (pc := 64) (265) dX8_lookAhead_64 rfl ?_
                refine r_callV (pc := 67) (As := [_]) mv_X0_tells ml_X8_63 (ask_at (hd := 2) (on := nI j) hc3 ha3 rfl (hfo.si fr3) hli hd10 ed (by decide)) (ca_37 hc3) rfl rfl (Nat.le_of_ble_eq_true rfl) (Nat.le_of_ble_eq_true rfl) (Nat.le_of_ble_eq_true rfl) (Nat.le_of_ble_eq_true rfl) (Nat.le_of_ble_eq_true rfl) dX8_lookAhead_67 (fun r h4 hp => ?_)
                obtain ⟨rfl, hr4⟩ := hp
                show Wp E mX8_lookAhead _ _ _ _ [.int _, .int _, .ref _] _ 0 0
                rw [tell_show]
                have fr4 := fr3.tr (hr4.ak.mono (fun _ _ => ak_si))
                have hc4 := hc.si fr4
                have ha4 := ha3.rk hr4
                have hS4 : ShI h4 x r fo k j := (hS2.fr g3 (fun i => by omega)).fr hr4.fr (fun i => by unfold rkS; omega)
                refine r_iast (pc := 70) (j := k * 10 + j) (cr_97 hc4) (by simp only [fa_lit, nI_add, nI_mul]) (by omega) (by decide) dX8_lookAhead_70 ?_
                refine r_iinc (pc := 71) (v := _ + (1)) (lv' := [(0, _), (1, _), (2, _), (3, _)]) 3 dX8_lookAhead_71 rfl rfl (Nat.le_of_ble_eq_true rfl) rfl ?_
                refine r_goto (pc := 74) (tgt := 29) dX8_lookAhead_74 (by decide) ?_
                rw [nI_1]
                have f45 : Fr (fun a _ => a = x + 97) h4 (wI h4 (x + 97) (k * 10 + j) (showF r fo k (nI li) (spentF r k) (nI j))) := Fr.wI rfl
                refine ih2 _ _ (fr4.tr (f45.mono (fun a i z => (Or.inr (Or.inl (by omega)) : siS x a i)))) (ha4.fr f45 (fun i => by omega) (by omega) (by omega)) (fun c y a1 a2 a3 a4 => ?_)
                by_cases hcy : c = k ∧ y = j
                · rw [hcy.1, hcy.2, Nat.mul_comm 10 k, hI_at, eli]
                · rw [hI_ne (by omega)]; exact hS4 c y a1 a2 (by omega) a4
            · intro h2 yr fr2 ha2 hS2
              refine r_iload_n (pc := 29) 3 dX8_lookAhead_29 rfl ?_
              refine r_bipush (pc := 30) (10) dX8_lookAhead_30 rfl ?_
              refine r_icmp_ge (pc := 32) (tgt := 77) dX8_lookAhead_32 (by decide) (fun c_32 => ?_) (fun c_32 => ?_)
              · refine r_iinc (pc := 77) (v := _ + (1)) (lv' := [(0, _), (1, _), (2, _), (3, _)]) 2 dX8_lookAhead_77 rfl rfl (Nat.le_of_ble_eq_true rfl) rfl ?_
                refine r_goto (pc := 80) (tgt := 2) dX8_lookAhead_80 (by decide) ?_
                refine r_sub [0, 1, 2] rfl ?_
                rw [nI_1]
                exact ih h2 fr2 (fun c y a1 a2 a3 a4 => hS2 c y a1 a2 (by omega) a4)
              · exact absurd (show (10 : Int32) ≤ nI 10 by decide) c_32
          refine r_iconst (pc := 27) (0) dX8_lookAhead_27 rfl ?_
          refine r_istore_n (pc := 28) (lv' := [(0, _), (1, _), (2, _), (3, _)]) dX8_lookAhead_28 (Nat.le_of_ble_eq_true rfl) rfl ?_
          exact inner 0 (by omega) h2 _ fr2 ha2 hS2
    · intro hh fr hS
      have hch := hc.si fr
      have hph := pt_of hch hpx
      have hvh := hv.si hpx fr
      refine r_iload_n (pc := 2) 2 dX8_lookAhead_2 rfl ?_
      refine r_aload_n (pc := 3) 1 dX8_lookAhead_3 rfl ?_
      refine r_getI (pc := 4) fl_X8_114 (pt_is hph) dX8_lookAhead_4 ?_
      rw [pv_0 hvh, hn]
      refine r_icmp_ge (pc := 7) (tgt := 83) dX8_lookAhead_7 (by decide) (fun c_7 => ?_) (fun c_7 => ?_)
      · refine r_vret (pc := 83) rfl ?_ (Nat.le_of_ble_eq_true rfl) (Nat.le_of_ble_eq_true rfl) dX8_lookAhead_83
        exact ⟨rfl, fr, hS⟩
      · exact absurd (Int32.le_refl _) c_7
  exact loop 0 (by omega) h Fr.rf (fun c y a1 a2 a3 a4 => by omega)
theorem c8_passFor (hc : CS E h x) (hpx : pOf x p) (hv : PtV h p r) {n ns : Nat} (hrw : RwOK r n ns) {fo : Option (List Cl)} (hS : ShI h x r fo n 0) {a b : Nat} (ha : a < n) (hb : b < n) : Ct E 2 0 0 mX8_passForOneAnother [.ref (x + 96), .ref p, .int (nI a), .int (nI b)] h (po (some (.int (bI (pfN r fo a b 10)))) h) := by
  have hn := hrw.1
  have h6 := hrw.2.1
  have hp := pt_of hc hpx
  have hina : inN (nI a) n = true := by rw [inN_nI (by omega)]; exact decide_eq_true ha
  have hinb : inN (nI b) n = true := by rw [inN_nI (by omega)]; exact decide_eq_true hb
  refine Ct.of (by decide +kernel) (Nat.le_of_ble_eq_true rfl) ?_
  have no : ∀ j, j ≤ 10 → pfN r fo a b j = false → pfN r fo a b 10 = false := fun j hj hf => by
    have := pfN_no hf (10 - j)
    rw [show j + (10 - j) = 10 by omega] at this
    exact this
  have no31 : ¬ (aliveF r a = true ∧ aliveF r b = true ∧ ¬ r (8 + a) = r (8 + b)) → Wp E mX8_passForOneAnother (Rm 2 0 0) (Qm E (po (some (.int (bI (pfN r fo a b 10)))) h) 0 0) 31 [(0, .ref (x + 96)), (1, .ref p), (2, .int (nI a)), (3, .int (nI b))] [] h 0 0 := by
    intro hno
    refine r_iconst (pc := 31) (0) dX8_passForOneAnother_31 rfl ?_
    refine r_zret (pc := 32) rfl (by decide) ?_ (Nat.le_of_ble_eq_true rfl) (Nat.le_of_ble_eq_true rfl) dX8_passForOneAnother_32
    rw [no 0 (by omega) (decide_eq_false hno)]
    exact ⟨rfl, rfl⟩
  refine r_aload_n (pc := 0) 1 dX8_passForOneAnother_0 rfl ?_
  refine r_iload_n (pc := 1) 2 dX8_passForOneAnother_1 rfl ?_
  refine r_dV (pc := 2) (As := [_]) mv_X5_isHere ml_X8_117 (c5_isHere hp hv hn h6 _) (pt_is hp) rfl rfl (Nat.le_of_ble_eq_true rfl) (Nat.le_of_ble_eq_true rfl) (Nat.le_of_ble_eq_true rfl) (Nat.le_of_ble_eq_true rfl) (Nat.le_of_ble_eq_true rfl) dX8_passForOneAnother_2 ?_
  refine r_if_eq (pc := 5) (tgt := 31) dX8_passForOneAnother_5 (by decide) (fun c_5 => ?_) (fun c_5 => ?_)
  · have hz := bI_0.mp c_5
    unfold hereB at hz
    rw [hina, nI_clamp (by omega), Bool.true_and] at hz
    exact no31 (fun z => by rw [hz] at z; exact absurd z.1 (by decide))
  · have hza := bI_n0.mp c_5
    unfold hereB at hza
    rw [hina, nI_clamp (by omega), Bool.true_and] at hza
    refine r_aload_n (pc := 8) 1 dX8_passForOneAnother_8 rfl ?_
    refine r_iload_n (pc := 9) 3 dX8_passForOneAnother_9 rfl ?_
    refine r_dV (pc := 10) (As := [_]) mv_X5_isHere ml_X8_117 (c5_isHere hp hv hn h6 _) (pt_is hp) rfl rfl (Nat.le_of_ble_eq_true rfl) (Nat.le_of_ble_eq_true rfl) (Nat.le_of_ble_eq_true rfl) (Nat.le_of_ble_eq_true rfl) (Nat.le_of_ble_eq_true rfl) dX8_passForOneAnother_10 ?_
    refine r_if_eq (pc := 13) (tgt := 31) dX8_passForOneAnother_13 (by decide) (fun c_13 => ?_) (fun c_13 => ?_)
    · have hz := bI_0.mp c_13
      unfold hereB at hz
      rw [hinb, nI_clamp (by omega), Bool.true_and] at hz
      exact no31 (fun z => by rw [hz] at z; exact absurd z.2.1 (by decide))
    · have hzb := bI_n0.mp c_13
      unfold hereB at hzb
      rw [hinb, nI_clamp (by omega), Bool.true_and] at hzb
      refine r_aload_n (pc := 16) 1 dX8_passForOneAnother_16 rfl ?_
      refine r_getR (pc := 17) fl_X8_108 (pt_is hp) (pt_f1 hp) dX8_passForOneAnother_17 ?_
      refine r_iload_n (pc := 20) 2 dX8_passForOneAnother_20 rfl ?_
      refine r_iald (pc := 21) (j := a) (pt_r1 hp) rfl (by omega) (by decide) dX8_passForOneAnother_21 ?_
      refine r_aload_n (pc := 22) 1 dX8_passForOneAnother_22 rfl ?_
      refine r_getR (pc := 23) fl_X8_108 (pt_is hp) (pt_f1 hp) dX8_passForOneAnother_23 ?_
      refine r_iload_n (pc := 26) 3 dX8_passForOneAnother_26 rfl ?_
      refine r_iald (pc := 27) (j := b) (pt_r1 hp) rfl (by omega) (by decide) dX8_passForOneAnother_27 ?_
      rw [pv_li hv (by omega), pv_li hv (by omega)]
      have loop : ∀ j, j ≤ 10 → pfN r fo a b j = true → Wp E mX8_passForOneAnother (Rm 2 0 0) (Qm E (po (some (.int (bI (pfN r fo a b 10)))) h) 0 0) 36 [(0, .ref (x + 96)), (1, .ref p), (2, .int (nI a)), (3, .int (nI b)), (4, .int (nI j))] [] h 0 0 := by
        refine upTo (fun j hj ih => ?_) ?_
        · intro hf
          refine r_iload (pc := 36) 4 dX8_passForOneAnother_36 rfl ?_
          refine r_bipush (pc := 38) (10) dX8_passForOneAnother_38 rfl ?_
          refine r_icmp_ge (pc := 40) (tgt := 78) dX8_passForOneAnother_40 (by decide) (fun c_40 => ?_) (fun c_40 => ?_)
          · exact absurd c_40 (nI_ge (b := 10) hj (by decide))
          · refine r_aload_n (pc := 43) 0 dX8_passForOneAnother_43 rfl ?_
            refine r_getR (pc := 44) fl_X8_15 (ca_96 hc) (cf_96_1 hc) dX8_passForOneAnother_44 ?_
            refine r_iload_n (pc := 47) 2 dX8_passForOneAnother_47 rfl ?_
            refine r_bipush (pc := 48) (10) dX8_passForOneAnother_48 rfl ?_
            refine r_imul (pc := 50) dX8_passForOneAnother_50 ?_
            refine r_iload (pc := 51) 4 dX8_passForOneAnother_51 rfl ?_
            refine r_iadd (pc := 53) dX8_passForOneAnother_53 ?_
            refine r_iald (pc := 54) (j := a * 10 + j) (cr_97 hc) (by simp only [fa_lit, nI_add, nI_mul]) (by omega) (by decide) dX8_passForOneAnother_54 ?_
            refine r_aload_n (pc := 55) 0 dX8_passForOneAnother_55 rfl ?_
            refine r_getR (pc := 56) fl_X8_15 (ca_96 hc) (cf_96_1 hc) dX8_passForOneAnother_56 ?_
            refine r_iload_n (pc := 59) 3 dX8_passForOneAnother_59 rfl ?_
            refine r_bipush (pc := 60) (10) dX8_passForOneAnother_60 rfl ?_
            refine r_imul (pc := 62) dX8_passForOneAnother_62 ?_
            refine r_iload (pc := 63) 4 dX8_passForOneAnother_63 rfl ?_
            refine r_iadd (pc := 65) dX8_passForOneAnother_65 ?_
            refine r_iald (pc := 66) (j := b * 10 + j) (cr_97 hc) (by simp only [fa_lit, nI_add, nI_mul]) (by omega) (by decide) dX8_passForOneAnother_66 ?_
            rw [Nat.mul_comm a 10, Nat.mul_comm b 10, hS a j (by omega) hj (Or.inl ha) hza, hS b j (by omega) hj (Or.inl hb) hzb]
            refine r_icmp_eq (pc := 67) (tgt := 72) dX8_passForOneAnother_67 (by decide) (fun c_67 => ?_) (fun c_67 => ?_)
            · refine r_iinc (pc := 72) (v := _ + (1)) (lv' := [(0, _), (1, _), (2, _), (3, _), (4, _)]) 4 dX8_passForOneAnother_72 rfl rfl (Nat.le_of_ble_eq_true rfl) rfl ?_
              refine r_goto (pc := 75) (tgt := 36) dX8_passForOneAnother_75 (by decide) ?_
              rw [nI_1]
              refine ih ?_
              show (pfN r fo a b j && _) = true
              rw [hf, decide_eq_true c_67]; rfl
            · refine r_iconst (pc := 70) (0) dX8_passForOneAnother_70 rfl ?_
              refine r_zret (pc := 71) rfl (by decide) ?_ (Nat.le_of_ble_eq_true rfl) (Nat.le_of_ble_eq_true rfl) dX8_passForOneAnother_71
              rw [no (j + 1) (by omega) (by show (pfN r fo a b j && _) = false; rw [decide_eq_false c_67, Bool.and_false])]
              exact ⟨rfl, rfl⟩
        · intro hf
          refine r_iload (pc := 36) 4 dX8_passForOneAnother_36 rfl ?_
          refine r_bipush (pc := 38) (10) dX8_passForOneAnother_38 rfl ?_
          refine r_icmp_ge (pc := 40) (tgt := 78) dX8_passForOneAnother_40 (by decide) (fun c_40 => ?_) (fun c_40 => ?_)
          · refine r_iconst (pc := 78) (1) dX8_passForOneAnother_78 rfl ?_
            refine r_zret (pc := 79) rfl (by decide) ?_ (Nat.le_of_ble_eq_true rfl) (Nat.le_of_ble_eq_true rfl) dX8_passForOneAnother_79
            rw [hf]
            exact ⟨rfl, rfl⟩
          · exact absurd (show (10 : Int32) ≤ nI 10 by decide) c_40
      refine r_icmp_ne (pc := 28) (tgt := 33) dX8_passForOneAnother_28 (by decide) (fun c_28 => ?_) (fun c_28 => ?_)
      · refine r_iconst (pc := 33) (0) dX8_passForOneAnother_33 rfl ?_
        refine r_istore (pc := 34) (lv' := [(0, _), (1, _), (2, _), (3, _), (4, _)]) dX8_passForOneAnother_34 (Nat.le_of_ble_eq_true rfl) rfl ?_
        exact loop 0 (by omega) (decide_eq_true ⟨hza, hzb, c_28⟩)
      · exact no31 (fun z => z.2.2 c_28)
end SIGHT3
