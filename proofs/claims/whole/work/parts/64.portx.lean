/-! the class: a year passes in a port; a port is copied, written into a row and read back -/
section PORTX
variable {E : En} {h : Hp} {x p : Nat} {r : Nat → Int32}
theorem passK_lo {fo : Option (List Cl)} {k j : Nat} (hj : j < 26 ∨ 26 + k ≤ j) : passK r fo k j = r j := by unfold passK; rw [if_neg (by omega)]
theorem gold_eq {a : Nat} (ha : a < 2 ^ 31) : minI 9999 (nI a) = withinF (nI a).toInt64 0 9999 := by
  have z0 : (0 : Int32).toInt64 = 0 := by decide
  have n1 : ¬ (nI a).toInt64 < 0 := by
    rw [fa_lt64, Int32.toInt_toInt64, nI_toInt ha, show (0 : Int64).toInt = 0 by decide]; omega
  have e1 : ((9999 : Int32).toInt64 < (nI a).toInt64) ↔ 9999 < a := by
    rw [fa_lt64, Int32.toInt_toInt64, Int32.toInt_toInt64, nI_toInt ha, show (9999 : Int32).toInt = 9999 by decide]; omega
  have e2 : (nI a).toInt64.toInt32 = nI a := by
    apply Int32.toInt_inj.mp
    rw [Int64.toInt_toInt32, Int32.toInt_toInt64, nI_toInt ha, Int.bmod_eq_of_le (by omega) (by omega)]
  unfold minI withinF
  rw [z0, if_neg n1]
  by_cases h1 : 9999 < a
  · rw [if_pos (e1.mpr h1), if_neg (show ¬ nI a < 9999 from nI_nlt (a := a) (b := 9999) (by omega) ha)]
  · rw [if_neg (fun z => h1 (e1.mp z)), e2]
    by_cases h2 : a < 9999
    · rw [if_pos (show nI a < 9999 from nI_lt (a := a) (b := 9999) h2 (by decide))]
    · rw [if_neg (show ¬ nI a < 9999 from nI_nlt (a := a) (b := 9999) (by omega) ha), show a = 9999 by omega]; rfl
theorem tellF_earn {fo : Option (List Cl)} {k : Nat} {rk : Nat → Int32} (h1 : rk (20 + k) = r (20 + k)) (h2 : rk (26 + k) = r (26 + k)) (h3 : rk (32 + k) = r (32 + k)) (h4 : rk 5 = r 5) (h5 : rk 7 = r 7) (life spent : Int32) (ship year dr : Int32) : tellF fo 0 (setE rk k life spent (rk (32 + k)) 0) (wdF rk k life spent ship year) dr = earnF r fo k life spent := by
  have e : setE rk k life spent (rk (32 + k)) 0 = setE r k life spent (r (32 + k)) 0 := by
    funext j
    unfold setE
    rw [h1, h2, h3, h4, h5]
  rw [e]; rfl
def pyS (x p a k : Nat) : Prop := akS x a k ∨ ptW p a k
theorem csP_pw {a k : Nat} (hpx : p = x + 3 ∨ p = x + 14 ∨ p = x + 59) (hq : csP x a k) : ¬ ptW p a k := by
  obtain ⟨t, ht, rfl, rfl⟩ := hq
  intro z
  have key : ∀ t ∈ csF, ∀ q ∈ [3, 14, 59], ¬ ((t.1 = q ∧ (t.2.1 = 0 ∨ t.2.1 = 6 ∨ t.2.1 = 8 ∨ t.2.1 = 11 ∨ t.2.1 = 13)) ∨ (q + 1 ≤ t.1 ∧ t.1 ≤ q + 8)) := by decide +kernel
  unfold ptW at z
  rcases hpx with rfl | rfl | rfl
  · exact key t ht 3 (by decide) (by omega)
  · exact key t ht 14 (by decide) (by omega)
  · exact key t ht 59 (by decide) (by omega)
theorem CS.py {h1 : Hp} (hc : CS E h x) (hpx : pOf x p) (a1 : Fr (pyS x p) h h1) : CS E h1 x := hc.fr a1 (fun a k q z => z.elim (csP_ak q) (csP_pw (by unfold pOf at hpx; omega) q))
theorem FoL.far {S : Nat → Nat → Prop} {h1 : Hp} {fo : Option (List Cl)} {lw : Option Nat} (hf : FoL E h x fo lw) (a1 : Fr S h h1) (q : ∀ a k, x + 135 < a → ¬ S a k) : FoL E h1 x fo lw := by
  cases fo with
  | none => exact hf
  | some cls =>
    obtain ⟨t, nn, e1, ht, hl⟩ := hf
    exact ⟨t, nn, e1, ht, hl.fr a1 (fun i k hi => q _ _ (by omega))⟩
theorem c5_passYear (hc : CS E h x) (hpx : pOf x p) (hv : PtV h p r) {n ns nl : Nat} (hrw : RwOK r n ns) (h3 : r 3 = nI nl) (hl6 : nl ≤ 6) {lw : Option Nat} {fo : Option (List Cl)} (hlw : LwA h p r nl lw) (hfo : FoL E h x fo lw) : Ct E 3 0 0 mX5_passYear [.ref p, .ref (x + 37)] h (fun v h' => v = none ∧ Fr (pyS x p) h h' ∧ PtV h' p (passR r fo n)) := by
  obtain ⟨hn, h6, -, -, hcat, -, hgold, -, hyear, hdr, -, -⟩ := id hrw
  have hpx' := hpx
  unfold pOf at hpx'
  refine Ct.of (by decide +kernel) (Nat.le_of_ble_eq_true rfl) ?_
  refine r_iconst (pc := 0) (0) dX5_passYear_0 rfl ?_
  refine r_istore_n (pc := 1) (lv' := [(0, _), (1, _), (2, _)]) dX5_passYear_1 (Nat.le_of_ble_eq_true rfl) rfl ?_
  have loop : ∀ k, k ≤ n → ∀ hh, Fr (pyS x p) h hh → PtV hh p (passK r fo k) → Wp E mX5_passYear (Rm 3 0 0) (Qm E (fun v h' => v = none ∧ Fr (pyS x p) h h' ∧ PtV h' p (passR r fo n)) 0 0) 2 [(0, .ref p), (1, .ref (x + 37)), (2, .int (nI k))] [] hh 0 0 := by
    refine upTo (fun k hk ih => ?_) ?_
    · intro hh fr hvk
      have hc1 := hc.py hpx fr
      have hp1 := pt_of hc1 hpx
      have q4 : passK r fo k 4 = r 4 := passK_lo (by omega)
      have hlw1 : LwA hh p (passK r fo k) nl lw := by
        refine ⟨fun z => ?_, fun z => ?_⟩
        · rw [q4] at z ⊢
          rw [fr.R (by unfold pyS akS ptW; omega)]
          exact hlw.1 z
        · rw [q4] at z; exact hlw.2 z
      have hfo1 := hfo.far fr (fun a k ha => by unfold pyS akS ptW; omega)
      obtain ⟨hlk, y, hy, ey, -⟩ := hcat k (by omega)
      obtain ⟨g, hg, eg⟩ := hgold k (by omega)
      obtain ⟨d, hd, ed⟩ := hdr
      have eW : withinF (r (26 + k) + earnA r fo k).toInt64 0 9999 = passK r fo (k + 1) (26 + k) := by
        unfold passK; rw [if_pos (by omega), show 26 + k - 26 = k by omega]
      have dead : aliveF r k = false → Wp E mX5_passYear (Rm 3 0 0) (Qm E (fun v h' => v = none ∧ Fr (pyS x p) h h' ∧ PtV h' p (passR r fo n)) 0 0) 52 [(0, .ref p), (1, .ref (x + 37)), (2, .int (nI k))] [] hh 0 0 := by
        intro hno
        have e9 : passK r fo (k + 1) = passK r fo k := by
          rw [← passK_s, show earnA r fo k = 0 by unfold earnA; rw [if_neg (by rw [hno]; decide)], Int32.add_zero, eg, ← gold_eq (by omega)]
          have e8 : minI 9999 (nI g) = nI g := by
            unfold minI
            by_cases h2 : g < 9999
            · rw [if_pos (show nI g < 9999 from nI_lt (a := g) (b := 9999) h2 (by decide))]
            · rw [if_neg (show ¬ nI g < 9999 from nI_nlt (a := g) (b := 9999) (by omega) (by omega)), show g = 9999 by omega]; rfl
          rw [e8, ← eg]
          funext j
          by_cases hj : j = 26 + k
          · subst hj; rw [va_up_self, passK_lo (by omega)]
          · rw [va_up_ne _ _ hj]
        have h9 := ih hh fr (by rw [e9]; exact hvk)
        refine r_iinc (pc := 52) (v := _ + (1)) (lv' := [(0, _), (1, _), (2, _)]) 2 dX5_passYear_52 rfl rfl (Nat.le_of_ble_eq_true rfl) rfl ?_
        refine r_goto (pc := 55) (tgt := 2) dX5_passYear_55 (by decide) ?_
        rw [nI_1]; exact h9
      refine r_iload_n (pc := 2) 2 dX5_passYear_2 rfl ?_
      refine r_aload_n (pc := 3) 0 dX5_passYear_3 rfl ?_
      refine r_getI (pc := 4) fl_X5_46 (pt_is hp1) dX5_passYear_4 ?_
      refine r_icmp_ge (pc := 7) (tgt := 58) dX5_passYear_7 (by decide) (fun c_7 => ?_) (fun c_7 => ?_)
      · rw [pv_0 hvk, passK_lo (by omega), hn] at c_7; exact absurd c_7 (nI_ge hk (by omega))
      · refine r_aload_n (pc := 10) 0 dX5_passYear_10 rfl ?_
        refine r_getR (pc := 11) fl_X5_9 (pt_is hp1) (pt_f1 hp1) dX5_passYear_11 ?_
        refine r_iload_n (pc := 14) 2 dX5_passYear_14 rfl ?_
        refine r_iald (pc := 15) (j := k) (pt_r1 hp1) rfl (by omega) (by decide) dX5_passYear_15 ?_
        refine r_iconst (pc := 16) (-1) dX5_passYear_16 rfl ?_
        refine r_icmp_eq (pc := 17) (tgt := 52) dX5_passYear_17 (by decide) (fun c_17 => ?_) (fun c_17 => ?_)
        · rw [pv_li hvk (by omega), passK_lo (by omega)] at c_17
          exact dead (by unfold aliveF; rw [decide_eq_false (fun z => z c_17)])
        · rw [pv_li hvk (by omega), passK_lo (by omega)] at c_17
          have hal : aliveF r k = true := by unfold aliveF; rw [decide_eq_true c_17]
          obtain ⟨li, hli, eli⟩ := hlk.resolve_left c_17
          refine r_aload_n (pc := 20) 1 dX5_passYear_20 rfl ?_
          refine r_aload_n (pc := 21) 0 dX5_passYear_21 rfl ?_
          refine r_iload_n (pc := 22) 2 dX5_passYear_22 rfl ?_
          refine r_callV (pc := 23) (As := [_, _]) mv_X0_about ml_X5_75 (c0_about hc1 hpx hvk (by omega) hy (by rw [passK_lo (by omega)]; exact ey) (by rw [passK_lo (by omega)]; exact h3) hl6 hlw1) (ca_37 hc1) rfl rfl (Nat.le_of_ble_eq_true rfl) (Nat.le_of_ble_eq_true rfl) (Nat.le_of_ble_eq_true rfl) (Nat.le_of_ble_eq_true rfl) (Nat.le_of_ble_eq_true rfl) dX5_passYear_23 (fun r h1 hp => ?_)
          obtain ⟨rfl, f1, ha1⟩ := hp
          show Wp E mX5_passYear _ _ _ _ [] _ 0 0
          have hc2 := hc1.ak f1
          have hp2 := pt_of hc2 hpx
          have hv2 := hvk.ak hpx f1
          have hfo2 := hfo1.ak f1
          have ft := fr.tr (f1.mono (fun a k z => (Or.inl z : pyS x p a k)))
          refine r_aload_n (pc := 26) 0 dX5_passYear_26 rfl ?_
          refine r_getR (pc := 27) fl_X5_21 (pt_is hp2) (pt_f4 hp2) dX5_passYear_27 ?_
          refine r_iload_n (pc := 30) 2 dX5_passYear_30 rfl ?_
          refine r_sipush (pc := 31) (9999) dX5_passYear_31 rfl ?_
          refine r_aload_n (pc := 34) 0 dX5_passYear_34 rfl ?_
          refine r_getR (pc := 35) fl_X5_21 (pt_is hp2) (pt_f4 hp2) dX5_passYear_35 ?_
          refine r_iload_n (pc := 38) 2 dX5_passYear_38 rfl ?_
          refine r_iald (pc := 39) (j := k) (pt_r4 hp2) rfl (by omega) (by decide) dX5_passYear_39 ?_
          rw [pv_go hv2 (by omega), passK_lo (by omega), eg]
          have hl1 : wdF (passK r fo k) k (passK r fo k (8 + k)) (spentF (passK r fo k) k) (passK r fo k (32 + k)) (passK r fo k 5) 1 = nI li := by
            show passK r fo k (8 + k) = nI li
            rw [passK_lo (by omega)]; exact eli
          have hd1 : passK r fo k 6 = nI d := by rw [passK_lo (by omega)]; exact ed
          have he1 : ∀ j, j < 8 → setE (passK r fo k) k (passK r fo k (8 + k)) (spentF (passK r fo k) k) (passK r fo k (32 + k)) 0 j = (wdF (passK r fo k) k (passK r fo k (8 + k)) (spentF (passK r fo k) k) (passK r fo k (32 + k)) (passK r fo k 5) j).toInt64 := by
            intro j hj
            have := setE_wd (r := passK r fo k) (k := k) (life := passK r fo k (8 + k)) (spent := spentF (passK r fo k) k) (ship := passK r fo k (32 + k)) (on := 0) j hj
            rw [Int32.add_zero] at this
            exact this
          refine r_aload_n (pc := 40) 1 dX5_passYear_40 rfl ?_
          refine r_sipush (pc := 41) (263) dX5_passYear_41 rfl ?_
          refine r_callV (pc := 44) (As := [_]) mv_X0_tells ml_X5_81 (c0_tells (hd := 0) hc2 ha1 hfo2 (by decide) hl1 (by omega) hd1 hd he1 setE_b) (ca_37 hc2) rfl rfl (Nat.le_of_ble_eq_true rfl) (Nat.le_of_ble_eq_true rfl) (Nat.le_of_ble_eq_true rfl) (Nat.le_of_ble_eq_true rfl) (Nat.le_of_ble_eq_true rfl) dX5_passYear_44 (fun r h2 hp => ?_)
          obtain ⟨rfl, hr3⟩ := hp
          have esp : spentF (passK r fo k) k = spentF r k := by unfold spentF aliveF; rw [passK_lo (by omega), passK_lo (by omega)]
          have etl : tellF fo 0 (setE (passK r fo k) k (passK r fo k (8 + k)) (spentF (passK r fo k) k) (passK r fo k (32 + k)) 0) (wdF (passK r fo k) k (passK r fo k (8 + k)) (spentF (passK r fo k) k) (passK r fo k (32 + k)) (passK r fo k 5)) (passK r fo k 6) = earnA r fo k := by
            rw [tellF_earn (r := r) (passK_lo (by omega)) (passK_lo (by omega)) (passK_lo (by omega)) (passK_lo (by omega)) (passK_lo (by omega))]
            unfold earnA
            rw [if_pos hal, esp, passK_lo (by omega)]
          obtain ⟨te, hte, ete⟩ : ∃ te, te ≤ 99 ∧ earnA r fo k = nI te := by
            unfold earnA
            rw [if_pos hal]
            exact withinF_nI _ (b := 99) (by decide)
          have fu := ft.tr (hr3.ak.mono (fun a k z => (Or.inl z : pyS x p a k)))
          have hc3 := hc.py hpx fu
          have hp3 := pt_of hc3 hpx
          have hv3 := hv2.ak hpx hr3.ak
          show Wp E mX5_passYear _ _ _ _ [.int _, .int _, .int _, .int _, .ref _] _ 0 0
          rw [etl, ete]
          refine r_iadd (pc := 47) dX5_passYear_47 ?_
          refine r_minI (pc := 48) ml_X5_84 (Nat.le_of_ble_eq_true rfl) (Nat.le_of_ble_eq_true rfl) (Nat.le_of_ble_eq_true rfl) (Nat.le_of_ble_eq_true rfl) (Nat.le_of_ble_eq_true rfl) dX5_passYear_48 ?_
          rw [nI_add]
          have ev : minI 9999 (nI (g + te)) = withinF (r (26 + k) + earnA r fo k).toInt64 0 9999 := by rw [ete, eg, nI_add]; exact gold_eq (by omega)
          rw [ev]
          refine r_iast (pc := 51) (j := k) (pt_r4 hp3) rfl (by omega) (by decide) dX5_passYear_51 ?_
          have hv4 := hv3.go (k := k) (by omega) (withinF (r (26 + k) + earnA r fo k).toInt64 0 9999)
          rw [passK_s] at hv4
          have h9 := ih _ (fu.tr (Fr.wI (Or.inr (by unfold ptW; omega)))) hv4
          refine r_iinc (pc := 52) (v := _ + (1)) (lv' := [(0, _), (1, _), (2, _)]) 2 dX5_passYear_52 rfl rfl (Nat.le_of_ble_eq_true rfl) rfl ?_
          refine r_goto (pc := 55) (tgt := 2) dX5_passYear_55 (by decide) ?_
          rw [nI_1]; exact h9
    · intro hh fr hvk
      have hc1 := hc.py hpx fr
      have hp1 := pt_of hc1 hpx
      refine r_iload_n (pc := 2) 2 dX5_passYear_2 rfl ?_
      refine r_aload_n (pc := 3) 0 dX5_passYear_3 rfl ?_
      refine r_getI (pc := 4) fl_X5_46 (pt_is hp1) dX5_passYear_4 ?_
      refine r_icmp_ge (pc := 7) (tgt := 58) dX5_passYear_7 (by decide) (fun c_7 => ?_) (fun c_7 => ?_)
      · refine r_aload_n (pc := 58) 0 dX5_passYear_58 rfl ?_
        refine r_getR (pc := 59) fl_X5_33 (pt_is hp1) (pt_f10 hp1) dX5_passYear_59 ?_
        refine r_iconst (pc := 62) (0) dX5_passYear_62 rfl ?_
        refine r_dup2_11 (pc := 63) dX5_passYear_63 rfl rfl ?_
        refine r_iald (pc := 64) (j := 0) (pt_r10 hp1) rfl (by decide) (by decide) dX5_passYear_64 ?_
        rw [pv_te hvk (show 0 < 3 by decide), passK_lo (by omega)]
        refine r_iconst (pc := 65) (1) dX5_passYear_65 rfl ?_
        refine r_iadd (pc := 66) dX5_passYear_66 ?_
        refine r_iast (pc := 67) (j := 0) (pt_r10 hp1) rfl (by decide) (by decide) dX5_passYear_67 ?_
        refine r_vret (pc := 68) rfl ?_ (Nat.le_of_ble_eq_true rfl) (Nat.le_of_ble_eq_true rfl) dX5_passYear_68
        exact ⟨rfl, fr.tr (Fr.wI (Or.inr (by unfold ptW; omega))), hvk.te (k := 0) (by decide) _⟩
      · rw [pv_0 hvk, passK_lo (by omega), hn] at c_7; exact absurd (Int32.le_refl _) c_7
  exact loop 0 (by omega) h Fr.rf (by rw [passK_0]; exact hv)
end PORTX
