/-! the class: which lives it can be -/
section SIGHT
variable {E : En} {h : Hp} {x p : Nat} {r : Nat → Int32}
theorem and_nI (a b : Nat) : nI a &&& nI b = nI (a &&& b) := by
  apply Int32.toBitVec_inj.mp
  apply BitVec.eq_of_getLsbD_eq
  intro i hi
  have e1 : ∀ n : Nat, (nI n).toBitVec = BitVec.ofNat 32 n := fun n => rfl
  rw [show (nI a &&& nI b).toBitVec = BitVec.ofNat 32 a &&& BitVec.ofNat 32 b from rfl, e1, BitVec.getLsbD_and, BitVec.getLsbD_ofNat, BitVec.getLsbD_ofNat, BitVec.getLsbD_ofNat, Nat.testBit_and]
  rw [decide_eq_true hi, Bool.true_and, Bool.true_and, Bool.true_and]
theorem or_nI (a b : Nat) : nI a ||| nI b = nI (a ||| b) := by
  apply Int32.toBitVec_inj.mp
  apply BitVec.eq_of_getLsbD_eq
  intro i hi
  have e1 : ∀ n : Nat, (nI n).toBitVec = BitVec.ofNat 32 n := fun n => rfl
  rw [show (nI a ||| nI b).toBitVec = BitVec.ofNat 32 a ||| BitVec.ofNat 32 b from rfl, e1, BitVec.getLsbD_or, BitVec.getLsbD_ofNat, BitVec.getLsbD_ofNat, BitVec.getLsbD_ofNat, Nat.testBit_or]
  rw [decide_eq_true hi, Bool.true_and, Bool.true_and, Bool.true_and]
theorem or_lt {a k : Nat} (ha : a < 512) (hk : k < 9) : a ||| 2 ^ k < 512 := Nat.or_lt_two_pow (n := 9) ha (Nat.pow_lt_pow_right (by decide) hk)
theorem or_bit {a k i : Nat} : (a ||| 2 ^ k).testBit i = (a.testBit i || decide (k = i)) := by rw [Nat.testBit_or, Nat.testBit_two_pow]
/-- a set of lives whose bits are as b says, up to n -/
def SetIs (z : Int32) (n : Nat) (b : Nat → Bool) : Prop := ∃ R, R < 512 ∧ z = nI R ∧ ∀ i, i < 9 → R.testBit i = (decide (i < n) && b i)
theorem SetIs.z {b : Nat → Bool} : SetIs 0 0 b := ⟨0, by decide, rfl, fun i _ => by rw [Nat.zero_testBit]; rfl⟩
theorem SetIs.yes {z : Int32} {n : Nat} {b : Nat → Bool} (hs : SetIs z n b) (hn : n < 9) (hb : b n = true) : SetIs (z ||| 1 <<< (nI n &&& 31)) (n + 1) b := by
  obtain ⟨R, h1, rfl, h2⟩ := hs
  refine ⟨R ||| 2 ^ n, or_lt h1 hn, by rw [sh9 n hn, or_nI], fun i hi => ?_⟩
  rw [or_bit, h2 i hi]
  by_cases h3 : n = i
  · subst h3; rw [hb, decide_eq_true (show n = n from rfl), decide_eq_true (show n < n + 1 by omega), Bool.or_true]; rfl
  · rw [decide_eq_false h3, Bool.or_false]
    congr 1
    apply decide_eq_decide.mpr
    omega
theorem SetIs.no {z : Int32} {n : Nat} {b : Nat → Bool} (hs : SetIs z n b) (hb : b n = false) : SetIs z (n + 1) b := by
  obtain ⟨R, h1, rfl, h2⟩ := hs
  refine ⟨R, h1, rfl, fun i hi => ?_⟩
  rw [h2 i hi]
  by_cases h3 : i = n
  · subst h3; rw [hb, Bool.and_false, Bool.and_false]
  · congr 1
    apply decide_eq_decide.mpr
    omega
theorem SetIs.eq {z w : Int32} {b c : Nat → Bool} (h1 : SetIs z 9 b) (h2 : SetIs w 9 c) (hbc : ∀ i, i < 9 → b i = c i) : z = w := by
  obtain ⟨R, r1, rfl, r2⟩ := h1
  obtain ⟨S, s1, rfl, s2⟩ := h2
  rw [set_ext r1 s1 (fun i hi => by rw [r2 i hi, s2 i hi, hbc i hi])]
theorem canN_set {fo : Option (List Cl)} {k sg : Nat} : ∀ n, n ≤ 9 → SetIs (canN r fo k sg n) n (fun l => soN r fo k l sg)
  | 0, _ => SetIs.z
  | n + 1, hn => by
    have ih := canN_set (fo := fo) (k := k) (sg := sg) n (by omega)
    rw [canN]
    by_cases hs : soN r fo k n sg = true
    · rw [if_pos hs]; exact ih.yes (by omega) hs
    · rw [if_neg hs, Int32.or_zero]; exact ih.no (by cases hq : soN r fo k n sg with | false => rfl | true => exact absurd hq hs)
def shB (r : Nat → Int32) (fo : Option (List Cl)) (k j : Nat) (sp : Int32) (L l : Nat) : Bool := L.testBit l && decide (showF r fo k (nI l) sp (nI j) = r (41 + j))
/-- asking goes on: the words but for life, spent and year as they were -/
def AskG (h : Hp) (x : Nat) (r : Nat → Int32) (k : Nat) (lw : Option Nat) (yr : Int32) : Prop := ∃ b1 b2, Ask h x (wdF r k b1 b2 (r (32 + k)) yr) (r 6) lw
theorem AskG.year {k : Nat} {lw : Option Nat} {yr : Int32} (ha : AskG h x r k lw yr) (y2 : Int32) : AskG (wI h (x + 38) 6 y2) x r k lw y2 := by
  obtain ⟨b1, b2, hb⟩ := ha
  exact ⟨b1, b2, (hb.w 6 y2).cg (wdF_year (y2 := y2))⟩
theorem c8_livesThatShow (hc : CS E h x) (hpx : pOf x p) (hv : PtV h p r) {n ns : Nat} (hrw : RwOK r n ns) {lw : Option Nat} {fo : Option (List Cl)} (hfo : FoL E h x fo lw) {k j L : Nat} {sp yr : Int32} (ha : AskG h x r k lw yr) (hj : j < 8) (hL : L < 512) : Ct E 3 0 0 mX8_livesThatShow [.ref (x + 96), .ref p, .int (nI j), .int (nI L), .int sp] h (fun v h' => (∃ z, v = some (.int z) ∧ SetIs z 9 (shB r fo k j sp L)) ∧ Fr (akS x) h h' ∧ AskG h' x r k lw (r 5 + nI j)) := by
  have hp := pt_of hc hpx
  obtain ⟨d, hd10, ed⟩ := hrw.2.2.2.2.2.2.2.2.2.1
  refine Ct.of (by decide +kernel) (Nat.le_of_ble_eq_true rfl) ?_
  refine r_iconst (pc := 0) (0) dX8_livesThatShow_0 rfl ?_
  refine r_istore (pc := 1) (lv' := [(0, _), (1, _), (2, _), (3, _), (4, _), (5, _)]) dX8_livesThatShow_1 (Nat.le_of_ble_eq_true rfl) rfl ?_
  refine r_aload_n (pc := 3) 0 dX8_livesThatShow_3 rfl ?_
  refine r_getR (pc := 4) fl_X8_9 (ca_96 hc) (cf_96_0 hc) dX8_livesThatShow_4 ?_
  refine r_aload_n (pc := 7) 1 dX8_livesThatShow_7 rfl ?_
  refine r_getR (pc := 8) fl_X8_48 (pt_is hp) (pt_f10 hp) dX8_livesThatShow_8 ?_
  refine r_iconst (pc := 11) (0) dX8_livesThatShow_11 rfl ?_
  refine r_iald (pc := 12) (j := 0) (pt_r10 hp) rfl (by decide) (by decide) dX8_livesThatShow_12 ?_
  rw [pv_te hv (show 0 < 3 by decide)]
  refine r_iload_n (pc := 13) 2 dX8_livesThatShow_13 rfl ?_
  refine r_iadd (pc := 14) dX8_livesThatShow_14 ?_
  refine r_dV0 (pc := 15) (As := [_]) mv_X0_inYear ml_X8_51 (c0_inYear hc _) (ca_37 hc) rfl rfl (Nat.le_of_ble_eq_true rfl) (Nat.le_of_ble_eq_true rfl) (Nat.le_of_ble_eq_true rfl) (Nat.le_of_ble_eq_true rfl) (Nat.le_of_ble_eq_true rfl) dX8_livesThatShow_15 ?_
  refine r_iconst (pc := 18) (0) dX8_livesThatShow_18 rfl ?_
  refine r_istore (pc := 19) (lv' := [(0, _), (1, _), (2, _), (3, _), (4, _), (5, _), (6, _)]) dX8_livesThatShow_19 (Nat.le_of_ble_eq_true rfl) rfl ?_
  have loop : ∀ l, l ≤ 9 → ∀ (hh : Hp) (z : Int32), Fr (akS x) h hh → AskG hh x r k lw (r 5 + nI j) → SetIs z l (shB r fo k j sp L) → Wp E mX8_livesThatShow (Rm 3 0 0) (Qm E (fun v h' => (∃ z, v = some (.int z) ∧ SetIs z 9 (shB r fo k j sp L)) ∧ Fr (akS x) h h' ∧ AskG h' x r k lw (r 5 + nI j)) 0 0) 21 [(0, .ref (x + 96)), (1, .ref p), (2, .int (nI j)), (3, .int (nI L)), (4, .int sp), (5, .int z), (6, .int (nI l))] [] hh 0 0 := by
    refine upTo (fun l hl ih => ?_) ?_
    · intro hh z fr ha hs
      have hch := hc.ak fr
      have hph := pt_of hch hpx
      have hvh := hv.ak hpx fr
      have no : ∀ h2 : Hp, Fr (akS x) h h2 → AskG h2 x r k lw (r 5 + nI j) → shB r fo k j sp L l = false → Wp E mX8_livesThatShow (Rm 3 0 0) (Qm E (fun v h' => (∃ z, v = some (.int z) ∧ SetIs z 9 (shB r fo k j sp L)) ∧ Fr (akS x) h h' ∧ AskG h' x r k lw (r 5 + nI j)) 0 0) 76 [(0, .ref (x + 96)), (1, .ref p), (2, .int (nI j)), (3, .int (nI L)), (4, .int sp), (5, .int z), (6, .int (nI l))] [] h2 0 0 := by
        intro h2 f2 ha2 hno
        refine r_iinc (pc := 76) (v := _ + (1)) (lv' := [(0, _), (1, _), (2, _), (3, _), (4, _), (5, _), (6, _)]) 6 dX8_livesThatShow_76 rfl rfl (Nat.le_of_ble_eq_true rfl) rfl ?_
        refine r_goto (pc := 79) (tgt := 21) dX8_livesThatShow_79 (by decide) ?_
        rw [nI_1]
        exact ih h2 z f2 ha2 (hs.no hno)
      refine r_iload (pc := 21) 6 dX8_livesThatShow_21 rfl ?_
      refine r_bipush (pc := 23) (9) dX8_livesThatShow_23 rfl ?_
      refine r_icmp_ge (pc := 25) (tgt := 82) dX8_livesThatShow_25 (by decide) (fun c_25 => ?_) (fun c_25 => ?_)
      · exact absurd c_25 (nI_ge (b := 9) hl (by decide))
      · refine r_iload_n (pc := 28) 3 dX8_livesThatShow_28 rfl ?_
        refine r_iload (pc := 29) 6 dX8_livesThatShow_29 rfl ?_
        refine r_dN (pc := 31) (As := [_, _]) ms_X11_hasBit mk_X8_55 (ct_hasBit _ _) rfl rfl (Nat.le_of_ble_eq_true rfl) (Nat.le_of_ble_eq_true rfl) (Nat.le_of_ble_eq_true rfl) (Nat.le_of_ble_eq_true rfl) (Nat.le_of_ble_eq_true rfl) dX8_livesThatShow_31 ?_
        refine r_if_eq (pc := 34) (tgt := 76) dX8_livesThatShow_34 (by decide) (fun c_34 => ?_) (fun c_34 => ?_)
        · rw [isB9 L hL l hl] at c_34
          exact no hh fr ha (by unfold shB; rw [bI_0.mp c_34]; rfl)
        · rw [isB9 L hL l hl] at c_34
          have hb := bI_n0.mp c_34
          obtain ⟨b1, b2, ha1⟩ := ha
          refine r_aload_n (pc := 37) 0 dX8_livesThatShow_37 rfl ?_
          refine r_getR (pc := 38) fl_X8_9 (ca_96 hch) (cf_96_0 hch) dX8_livesThatShow_38 ?_
          refine r_iload (pc := 41) 6 dX8_livesThatShow_41 rfl ?_
          refine r_iload (pc := 43) 4 dX8_livesThatShow_43 rfl ?_
          refine r_dV0 (pc := 45) (As := [_, _]) mv_X0_atLife ml_X8_59 (c0_atLife hch _ _) (ca_37 hch) rfl rfl (Nat.le_of_ble_eq_true rfl) (Nat.le_of_ble_eq_true rfl) (Nat.le_of_ble_eq_true rfl) (Nat.le_of_ble_eq_true rfl) (Nat.le_of_ble_eq_true rfl) dX8_livesThatShow_45 ?_
          have ha3 := ((ha1.w 1 (nI l)).w 2 sp).cg (wdF_life (l2 := nI l) (s2 := sp))
          have fr3 : Fr (akS x) h (wI (wI hh (x + 38) 1 (nI l)) (x + 38) 2 sp) := fr.tr (Fr.tr (Fr.wI (by unfold akS; omega)) (Fr.wI (by unfold akS; omega)))
          generalize wI (wI hh (x + 38) 1 (nI l)) (x + 38) 2 sp = h3 at ha3 fr3 ⊢
          have hc3 := hc.ak fr3
          refine r_aload_n (pc := 48) 0 dX8_livesThatShow_48 rfl ?_
          refine r_getR (pc := 49) fl_X8_9 (ca_96 hc3) (cf_96_0 hc3) dX8_livesThatShow_49 ?_
          refine r_sipush (pc := 52) (265) dX8_livesThatShow_52 rfl ?_
          refine r_callV (pc := 55) (As := [_]) mv_X0_tells ml_X8_63 (ask_at (hd := 2) (on := nI j) hc3 ha3 rfl (hfo.ak fr3) hl hd10 ed (by decide)) (ca_37 hc3) rfl rfl (Nat.le_of_ble_eq_true rfl) (Nat.le_of_ble_eq_true rfl) (Nat.le_of_ble_eq_true rfl) (Nat.le_of_ble_eq_true rfl) (Nat.le_of_ble_eq_true rfl) dX8_livesThatShow_55 (fun r h4 hp => ?_)
          obtain ⟨rfl, hr4⟩ := hp
          show Wp E mX8_livesThatShow _ _ _ _ [.int _] _ 0 0
          rw [tell_show]
          have fr4 := fr3.tr hr4.ak
          have hc4 := hc.ak fr4
          have hp4 := pt_of hc4 hpx
          have hv4 := hv.ak hpx fr4
          have ha4 : AskG h4 x r k lw (r 5 + nI j) := ⟨_, _, ha3.rk hr4⟩
          refine r_aload_n (pc := 58) 1 dX8_livesThatShow_58 rfl ?_
          refine r_getR (pc := 59) fl_X8_66 (pt_is hp4) (pt_f9 hp4) dX8_livesThatShow_59 ?_
          refine r_iload_n (pc := 62) 2 dX8_livesThatShow_62 rfl ?_
          refine r_iald (pc := 63) (j := j) (pt_r9 hp4) rfl (by omega) (by decide) dX8_livesThatShow_63 ?_
          rw [pv_se hv4 hj]
          refine r_icmp_ne (pc := 64) (tgt := 76) dX8_livesThatShow_64 (by decide) (fun c_64 => ?_) (fun c_64 => ?_)
          · exact no h4 fr4 ha4 (by unfold shB; rw [decide_eq_false c_64, Bool.and_false])
          · refine r_iload (pc := 67) 5 dX8_livesThatShow_67 rfl ?_
            refine r_iconst (pc := 69) (1) dX8_livesThatShow_69 rfl ?_
            refine r_iload (pc := 70) 6 dX8_livesThatShow_70 rfl ?_
            refine r_ishl (pc := 72) dX8_livesThatShow_72 ?_
            refine r_ior (pc := 73) dX8_livesThatShow_73 ?_
            refine r_istore (pc := 74) (lv' := [(0, _), (1, _), (2, _), (3, _), (4, _), (5, _), (6, _)]) dX8_livesThatShow_74 (Nat.le_of_ble_eq_true rfl) rfl ?_
            refine r_iinc (pc := 76) (v := _ + (1)) (lv' := [(0, _), (1, _), (2, _), (3, _), (4, _), (5, _), (6, _)]) 6 dX8_livesThatShow_76 rfl rfl (Nat.le_of_ble_eq_true rfl) rfl ?_
            refine r_goto (pc := 79) (tgt := 21) dX8_livesThatShow_79 (by decide) ?_
            rw [nI_1]
            exact ih h4 _ fr4 ha4 (hs.yes hl (by unfold shB; rw [hb, decide_eq_true c_64]; rfl))
    · intro hh z fr ha hs
      refine r_iload (pc := 21) 6 dX8_livesThatShow_21 rfl ?_
      refine r_bipush (pc := 23) (9) dX8_livesThatShow_23 rfl ?_
      refine r_icmp_ge (pc := 25) (tgt := 82) dX8_livesThatShow_25 (by decide) (fun c_25 => ?_) (fun c_25 => ?_)
      · refine r_iload (pc := 82) 5 dX8_livesThatShow_82 rfl ?_
        refine r_iret (pc := 84) rfl ?_ (Nat.le_of_ble_eq_true rfl) (Nat.le_of_ble_eq_true rfl) dX8_livesThatShow_84
        exact ⟨⟨z, rfl, hs⟩, fr, ha⟩
      · exact absurd (show (9 : Int32) ≤ nI 9 by decide) c_25
  exact loop 0 (by omega) _ 0 (Fr.wI (by unfold akS; omega)) (ha.year _) SetIs.z
theorem c8_livesItCanBe (hc : CS E h x) (hpx : pOf x p) (hv : PtV h p r) {n ns nl sg : Nat} (hrw : RwOK r n ns) (h3 : r 3 = nI nl) (hl6 : nl ≤ 6) {lw : Option Nat} {fo : Option (List Cl)} (hlw : LwA h p r nl lw) (hfo : FoL E h x fo lw) {k : Nat} (hk : k < 6) (hsg : r 2 = nI sg) (h8 : sg ≤ 8) : Ct E 4 0 0 mX8_livesItCanBe [.ref (x + 96), .ref p, .int (nI k)] h (fun v h' => v = some (.int (canN r fo k sg 9)) ∧ Fr (akS x) h h' ∧ ∃ yr, AskG h' x r k lw yr) := by
  have hp := pt_of hc hpx
  obtain ⟨y, hy, ey⟩ := rw_y hrw hk
  refine Ct.of (by decide +kernel) (Nat.le_of_ble_eq_true rfl) ?_
  refine r_sipush (pc := 0) (511) dX8_livesItCanBe_0 rfl ?_
  refine r_istore_n (pc := 3) (lv' := [(0, _), (1, _), (2, _), (3, _)]) dX8_livesItCanBe_3 (Nat.le_of_ble_eq_true rfl) rfl ?_
  refine r_aload_n (pc := 4) 1 dX8_livesItCanBe_4 rfl ?_
  refine r_iload_n (pc := 5) 2 dX8_livesItCanBe_5 rfl ?_
  refine r_dV (pc := 6) (As := [_]) mv_X5_spentBy ml_X8_28 (c5_spentBy hp hv hk hy ey) (pt_is hp) rfl rfl (Nat.le_of_ble_eq_true rfl) (Nat.le_of_ble_eq_true rfl) (Nat.le_of_ble_eq_true rfl) (Nat.le_of_ble_eq_true rfl) (Nat.le_of_ble_eq_true rfl) dX8_livesItCanBe_6 ?_
  refine r_istore (pc := 9) (lv' := [(0, _), (1, _), (2, _), (3, _), (4, _)]) dX8_livesItCanBe_9 (Nat.le_of_ble_eq_true rfl) rfl ?_
  refine r_aload_n (pc := 11) 0 dX8_livesItCanBe_11 rfl ?_
  refine r_getR (pc := 12) fl_X8_9 (ca_96 hc) (cf_96_0 hc) dX8_livesItCanBe_12 ?_
  refine r_aload_n (pc := 15) 1 dX8_livesItCanBe_15 rfl ?_
  refine r_iload_n (pc := 16) 2 dX8_livesItCanBe_16 rfl ?_
  refine r_callV (pc := 17) (As := [_, _]) mv_X0_about ml_X8_34 (c0_about hc hpx hv hk hy ey h3 hl6 hlw) (ca_37 hc) rfl rfl (Nat.le_of_ble_eq_true rfl) (Nat.le_of_ble_eq_true rfl) (Nat.le_of_ble_eq_true rfl) (Nat.le_of_ble_eq_true rfl) (Nat.le_of_ble_eq_true rfl) dX8_livesItCanBe_17 (fun r h2 hp => ?_)
  obtain ⟨rfl, f2, ha2⟩ := hp
  show Wp E mX8_livesItCanBe _ _ _ _ [] _ 0 0
  have loop : ∀ j, j ≤ sg → ∀ (hh : Hp) (yr : Int32) (B : Nat), Fr (akS x) h hh → AskG hh x r k lw yr → B < 512 → (∀ i, i < 9 → B.testBit i = soN r fo k i j) → Wp E mX8_livesItCanBe (Rm 4 0 0) (Qm E (fun v h' => v = some (.int (canN r fo k sg 9)) ∧ Fr (akS x) h h' ∧ ∃ yr, AskG h' x r k lw yr) 0 0) 23 [(0, .ref (x + 96)), (1, .ref p), (2, .int (nI k)), (3, .int (nI B)), (4, .int (spentF r k)), (5, .int (nI j))] [] hh 0 0 := by
    refine upTo (fun j hj ih => ?_) ?_
    · intro hh yr B fr ha hB hbits
      have hch := hc.ak fr
      have hph := pt_of hch hpx
      have hvh := hv.ak hpx fr
      refine r_iload (pc := 23) 5 dX8_livesItCanBe_23 rfl ?_
      refine r_aload_n (pc := 25) 1 dX8_livesItCanBe_25 rfl ?_
      refine r_getI (pc := 26) fl_X8_40 (pt_is hph) dX8_livesItCanBe_26 ?_
      rw [pv_2 hvh, hsg]
      refine r_icmp_ge (pc := 29) (tgt := 51) dX8_livesItCanBe_29 (by decide) (fun c_29 => ?_) (fun c_29 => ?_)
      · exact absurd c_29 (nI_ge hj (by omega))
      · refine r_iload_n (pc := 32) 3 dX8_livesItCanBe_32 rfl ?_
        refine r_aload_n (pc := 33) 0 dX8_livesItCanBe_33 rfl ?_
        refine r_aload_n (pc := 34) 1 dX8_livesItCanBe_34 rfl ?_
        refine r_iload (pc := 35) 5 dX8_livesItCanBe_35 rfl ?_
        refine r_iload_n (pc := 37) 3 dX8_livesItCanBe_37 rfl ?_
        refine r_iload (pc := 38) 4 dX8_livesItCanBe_38 rfl ?_
        refine r_callV (pc := 40) (As := [_, _, _, _]) mv_X8_livesThatShow ml_X8_44 (c8_livesThatShow hch hpx hvh hrw (hfo.ak fr) ha (by omega) hB) (ca_96 hch) rfl rfl (Nat.le_of_ble_eq_true rfl) (Nat.le_of_ble_eq_true rfl) (Nat.le_of_ble_eq_true rfl) (Nat.le_of_ble_eq_true rfl) (Nat.le_of_ble_eq_true rfl) dX8_livesItCanBe_40 (fun r h3 hp => ?_)
        obtain ⟨⟨z, rfl, R, hR, rfl, hRb⟩, f3, ha3⟩ := hp
        show Wp E mX8_livesItCanBe _ _ _ _ [.int _, .int _] _ 0 0
        refine r_iand (pc := 43) dX8_livesItCanBe_43 ?_
        refine r_istore_n (pc := 44) (lv' := [(0, _), (1, _), (2, _), (3, _), (4, _), (5, _)]) dX8_livesItCanBe_44 (Nat.le_of_ble_eq_true rfl) rfl ?_
        refine r_iinc (pc := 45) (v := _ + (1)) (lv' := [(0, _), (1, _), (2, _), (3, _), (4, _), (5, _)]) 5 dX8_livesItCanBe_45 rfl rfl (Nat.le_of_ble_eq_true rfl) rfl ?_
        refine r_goto (pc := 48) (tgt := 23) dX8_livesItCanBe_48 (by decide) ?_
        rw [nI_1, and_nI]
        refine ih h3 _ (B &&& R) (fr.tr f3) ha3 (Nat.lt_of_le_of_lt Nat.and_le_left hB) (fun i hi => ?_)
        rw [Nat.testBit_and, hRb i hi, hbits i hi, soN]
        unfold shB
        rw [hbits i hi, decide_eq_true hi]
        cases soN r fo k i j <;> rfl
    · intro hh yr B fr ha hB hbits
      have hch := hc.ak fr
      have hph := pt_of hch hpx
      have hvh := hv.ak hpx fr
      refine r_iload (pc := 23) 5 dX8_livesItCanBe_23 rfl ?_
      refine r_aload_n (pc := 25) 1 dX8_livesItCanBe_25 rfl ?_
      refine r_getI (pc := 26) fl_X8_40 (pt_is hph) dX8_livesItCanBe_26 ?_
      rw [pv_2 hvh, hsg]
      refine r_icmp_ge (pc := 29) (tgt := 51) dX8_livesItCanBe_29 (by decide) (fun c_29 => ?_) (fun c_29 => ?_)
      · refine r_iload_n (pc := 51) 3 dX8_livesItCanBe_51 rfl ?_
        refine r_iret (pc := 52) rfl ?_ (Nat.le_of_ble_eq_true rfl) (Nat.le_of_ble_eq_true rfl) dX8_livesItCanBe_52
        refine ⟨?_, fr, yr, ha⟩
        rw [SetIs.eq (z := nI B) (b := fun l => soN r fo k l sg) ⟨B, hB, rfl, fun i hi => by rw [hbits i hi, decide_eq_true hi, Bool.true_and]⟩ (canN_set (fo := fo) (k := k) (sg := sg) 9 (Nat.le_refl _)) (fun _ _ => rfl)]
      · exact absurd (Int32.le_refl _) c_29
  refine r_iconst (pc := 20) (0) dX8_livesItCanBe_20 rfl ?_
  refine r_istore (pc := 21) (lv' := [(0, _), (1, _), (2, _), (3, _), (4, _), (5, _)]) dX8_livesItCanBe_21 (Nat.le_of_ble_eq_true rfl) rfl ?_
  exact loop 0 (by omega) h2 _ 511 f2 ⟨_, _, ha2⟩ (by decide) (fun i hi => by rw [t511 i hi]; rfl)
end SIGHT
