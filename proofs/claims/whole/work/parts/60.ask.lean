/-! the class: asking a law -/
section ASK
variable {E : En} {h : Hp} {x p : Nat} {r : Nat → Int32}
/-- what asking writes: the reckoner's pile, the words, the law at hand -/
def akS (x a k : Nat) : Prop := (a = x + 1 ∧ k = 1) ∨ a = x + 2 ∨ (a = x + 37 ∧ (k = 2 ∨ k = 3)) ∨ a = x + 38
theorem csP_ak {a k : Nat} (hp : csP x a k) : ¬ akS x a k := by
  obtain ⟨t, ht, rfl, rfl⟩ := hp
  intro z
  have key : ∀ t ∈ csF, ¬ ((t.1 = 1 ∧ t.2.1 = 1) ∨ t.1 = 2 ∨ (t.1 = 37 ∧ (t.2.1 = 2 ∨ t.2.1 = 3)) ∨ t.1 = 38) := by decide +kernel
  exact key t ht (by unfold akS at z; omega)
theorem CS.ak {h1 : Hp} (hc : CS E h x) (a1 : Fr (akS x) h h1) : CS E h1 x := hc.fr a1 (fun _ _ => csP_ak)
theorem hI_at {a k : Nat} {v : Int32} : hI (wI h a k v) a k = v := up2_at
theorem hI_ne {a k b j : Nat} {v : Int32} (hne : ¬ (b = a ∧ j = k)) : hI (wI h a k v) b j = hI h b j := up2_ne hne
def pOf (x p : Nat) : Prop := p = x + 3 ∨ p = x + 14
theorem pt_of (hc : CS E h x) (hpx : pOf x p) : ptS E h p := by
  rcases hpx with rfl | rfl
  · exact cs_pt3 hc
  · exact cs_pt14 hc
theorem PtV.fr {S : Nat → Nat → Prop} {h1 : Hp} (hv : PtV h p r) (a1 : Fr S h h1) (q : ∀ i k, i ≤ 8 → ¬ S (p + i) k) : PtV h1 p r := by
  obtain ⟨⟨b0, b1, b2, b3, b4⟩, c1, c2, c3, c4, c5, c6, c7, c8⟩ := hv
  have z : ∀ k, hI h1 p k = hI h p k := fun k => a1.I (q 0 k (by omega))
  refine ⟨⟨(z 0).trans b0, (z 6).trans b1, (z 8).trans b2, (z 11).trans b3, (z 13).trans b4⟩, fun k hk => (a1.I (q 8 k (by omega))).trans (c1 k hk), fun k hk => (a1.I (q 1 k (by omega))).trans (c2 k hk), fun k hk => (a1.I (q 2 k (by omega))).trans (c3 k hk), fun k hk => (a1.I (q 3 k (by omega))).trans (c4 k hk), fun k hk => (a1.I (q 4 k (by omega))).trans (c5 k hk), fun k hk => (a1.I (q 5 k (by omega))).trans (c6 k hk), fun k hk => (a1.I (q 6 k (by omega))).trans (c7 k hk), fun k hk => (a1.I (q 7 k (by omega))).trans (c8 k hk)⟩
theorem PtV.ak {h1 : Hp} (hv : PtV h p r) (hpx : pOf x p) (a1 : Fr (akS x) h h1) : PtV h1 p r := hv.fr a1 (fun i k hi => by unfold akS; unfold pOf at hpx; omega)
/-- the words, the drays and the law at hand -/
def Ask (h : Hp) (x : Nat) (w : Nat → Int32) (dr : Int32) (lw : Option Nat) : Prop := (∀ j, j < 8 → hI h (x + 38) j = w j) ∧ hI h (x + 37) 2 = dr ∧ hR h (x + 37) 3 = lw
def wdF (r : Nat → Int32) (k : Nat) (life spent ship year : Int32) : Nat → Int32 := fun j => match j with
  | 0 => nI k | 1 => life | 2 => spent | 3 => r (20 + k) | 4 => r (26 + k) | 5 => ship | 6 => year | _ => r 7
def LwA (h : Hp) (p : Nat) (r : Nat → Int32) (nl : Nat) (lw : Option Nat) : Prop := (inN (r 4) nl = true → hR h (p + 9) (r 4).toNatClampNeg = lw) ∧ (inN (r 4) nl = false → lw = none)
theorem c5_lawOf (hp : ptS E h p) (hv : PtV h p r) {nl : Nat} (h3 : r 3 = nI nl) (hl6 : nl ≤ 6) (c : Int32) {lw : Option Nat} (h1 : inN c nl = true → hR h (p + 9) c.toNatClampNeg = lw) (h2 : inN c nl = false → lw = none) : Ct E 0 0 0 mX5_lawOf [.ref p, .int c] h (po (some (va_rf lw)) h) := by
  refine Ct.of (by decide +kernel) (Nat.le_of_ble_eq_true rfl) ?_
  have no : inN c nl = false → Wp E mX5_lawOf (Rm 0 0 0) (Qm E (po (some (va_rf lw)) h) 0 0) 21 [(0, .ref p), (1, .int c)] [] h 0 0 := by
    intro hno
    rw [h2 hno]
    refine r_null (pc := 21) dX5_lawOf_21 ?_
    refine r_aret (pc := 22) (v := none) rfl (Or.inl ⟨_, rfl⟩) ?_ (Nat.le_of_ble_eq_true rfl) (Nat.le_of_ble_eq_true rfl) dX5_lawOf_22
    exact ⟨rfl, rfl⟩
  have hin := inN_lt (c := c) (n := nl) (by omega)
  refine r_iload_n (pc := 0) 1 dX5_lawOf_0 rfl ?_
  refine r_if_lt (pc := 1) (tgt := 21) dX5_lawOf_1 (by decide) (fun c_1 => ?_) (fun c_1 => ?_)
  · exact no (by rw [hin, decide_eq_false (fun z => z.1 c_1)])
  · refine r_iload_n (pc := 4) 1 dX5_lawOf_4 rfl ?_
    refine r_aload_n (pc := 5) 0 dX5_lawOf_5 rfl ?_
    refine r_getI (pc := 6) fl_X5_56 (pt_is hp) dX5_lawOf_6 ?_
    refine r_icmp_ge (pc := 9) (tgt := 21) dX5_lawOf_9 (by decide) (fun c_9 => ?_) (fun c_9 => ?_)
    · rw [pv_3 hv, h3] at c_9
      exact no (by rw [hin, decide_eq_false (fun z => z.2 c_9)])
    · rw [pv_3 hv, h3] at c_9
      have hy : inN c nl = true := by rw [hin, decide_eq_true ⟨c_1, c_9⟩]
      obtain ⟨k, hk, rfl⟩ := inN_of (by omega) hy
      have e := h1 hy
      rw [nI_clamp (by omega)] at e
      refine r_aload_n (pc := 12) 0 dX5_lawOf_12 rfl ?_
      refine r_getR (pc := 13) fl_X5_38 (pt_is hp) (pt_f12 hp) dX5_lawOf_13 ?_
      refine r_iload_n (pc := 16) 1 dX5_lawOf_16 rfl ?_
      refine r_aald (pc := 17) (j := k) (pt_r12 hp) (by decide) rfl (by omega) (by decide) dX5_lawOf_17 ?_
      rw [e]
      refine r_goto (pc := 18) (tgt := 22) dX5_lawOf_18 (by decide) ?_
      refine r_aret (pc := 22) (v := lw) rfl (Or.inl ⟨_, rfl⟩) ?_ (Nat.le_of_ble_eq_true rfl) (Nat.le_of_ble_eq_true rfl) dX5_lawOf_22
      exact ⟨rfl, rfl⟩
theorem c0_about (hc : CS E h x) (hpx : pOf x p) (hv : PtV h p r) {k y nl : Nat} (hk : k < 6) (hy : y < 512) (ey : r (14 + k) = nI y) (h3 : r 3 = nI nl) (hl6 : nl ≤ 6) {lw : Option Nat} (hlw : LwA h p r nl lw) : Ct E 2 0 0 mX0_about [.ref (x + 37), .ref p, .int (nI k)] h (fun v h' => v = none ∧ Fr (akS x) h h' ∧ Ask h' x (wdF r k (r (8 + k)) (spentF r k) (r (32 + k)) (r 5)) (r 6) lw) := by
  have hp := pt_of hc hpx
  have f0 : Fr (akS x) h (wR h (x + 37) 3 lw) := Fr.wR (by unfold akS; omega)
  have hc0 := hc.ak f0
  have hp0 := pt_of hc0 hpx
  refine Ct.of (by decide +kernel) (Nat.le_of_ble_eq_true rfl) ?_
  refine r_aload_n (pc := 0) 0 dX0_about_0 rfl ?_
  refine r_aload_n (pc := 1) 1 dX0_about_1 rfl ?_
  refine r_aload_n (pc := 2) 1 dX0_about_2 rfl ?_
  refine r_getI (pc := 3) fl_X0_19 (pt_is hp) dX0_about_3 ?_
  rw [pv_4 hv]
  refine r_dV (pc := 6) (As := [_]) mv_X5_lawOf ml_X0_25 (c5_lawOf hp hv h3 hl6 _ hlw.1 hlw.2) (pt_is hp) rfl rfl (Nat.le_of_ble_eq_true rfl) (Nat.le_of_ble_eq_true rfl) (Nat.le_of_ble_eq_true rfl) (Nat.le_of_ble_eq_true rfl) (Nat.le_of_ble_eq_true rfl) dX0_about_6 ?_
  refine r_putO (pc := 9) fp_X0_29 (Or.inl ⟨_, rfl⟩) (fun z => by cases z) (ca_37 hc) dX0_about_9 ?_
  refine r_aload_n (pc := 12) 0 dX0_about_12 rfl ?_
  refine r_aload_n (pc := 13) 1 dX0_about_13 rfl ?_
  refine r_getR (pc := 14) fl_X0_33 (pt_is hp0) (pt_f10 hp0) dX0_about_14 ?_
  refine r_iconst (pc := 17) (1) dX0_about_17 rfl ?_
  refine r_iald (pc := 18) (j := 1) (pt_r10 hp0) rfl (by decide) (by decide) dX0_about_18 ?_
  rw [pv_te (hv.ak hpx f0) (show 1 < 3 by decide)]
  have f1 : Fr (akS x) h (wI (wR h (x + 37) 3 lw) (x + 37) 2 (r (5 + 1))) := f0.tr (Fr.wI (by unfold akS; omega))
  refine r_putI (pc := 19) fp_X0_36 (ca_37 hc0) dX0_about_19 ?_
  refine r_aload_n (pc := 22) 0 dX0_about_22 rfl ?_
  refine r_getR (pc := 23) fl_X0_15 (ca_37 hc0) (cf_37_1 hc0) dX0_about_23 ?_
  refine r_iconst (pc := 26) (0) dX0_about_26 rfl ?_
  refine r_iload_n (pc := 27) 2 dX0_about_27 rfl ?_
  refine r_iast (pc := 28) (j := 0) (cr_38 hc0) rfl (by decide) (by decide) dX0_about_28 ?_
  refine r_aload_n (pc := 29) 0 dX0_about_29 rfl ?_
  refine r_getR (pc := 30) fl_X0_15 (ca_37 hc0) (cf_37_1 hc0) dX0_about_30 ?_
  refine r_iconst (pc := 33) (1) dX0_about_33 rfl ?_
  refine r_aload_n (pc := 34) 1 dX0_about_34 rfl ?_
  refine r_getR (pc := 35) fl_X0_39 (pt_is hp0) (pt_f1 hp0) dX0_about_35 ?_
  refine r_iload_n (pc := 38) 2 dX0_about_38 rfl ?_
  refine r_iald (pc := 39) (j := k) (pt_r1 hp0) rfl (by omega) (by decide) dX0_about_39 ?_
  have g0 : Fr (akS x) h (wI (wI (wR h (x + 37) 3 lw) (x + 37) 2 (r (5 + 1))) (x + 38) 0 (nI k)) := f1.tr (Fr.wI (by unfold akS; omega))
  rw [pv_li (hv.ak hpx g0) hk]
  refine r_iast (pc := 40) (j := 1) (cr_38 hc0) rfl (by decide) (by decide) dX0_about_40 ?_
  refine r_aload_n (pc := 41) 0 dX0_about_41 rfl ?_
  refine r_getR (pc := 42) fl_X0_15 (ca_37 hc0) (cf_37_1 hc0) dX0_about_42 ?_
  refine r_iconst (pc := 45) (2) dX0_about_45 rfl ?_
  refine r_aload_n (pc := 46) 1 dX0_about_46 rfl ?_
  refine r_iload_n (pc := 47) 2 dX0_about_47 rfl ?_
  have g1 : Fr (akS x) h (wI (wI (wI (wR h (x + 37) 3 lw) (x + 37) 2 (r (5 + 1))) (x + 38) 0 (nI k)) (x + 38) 1 (r (8 + k))) := g0.tr (Fr.wI (by unfold akS; omega))
  refine r_dV (pc := 48) (As := [_]) mv_X5_spentBy ml_X0_42 (c5_spentBy (pt_of (hc.ak g1) hpx) (hv.ak hpx g1) hk hy ey) (pt_is hp0) rfl rfl (Nat.le_of_ble_eq_true rfl) (Nat.le_of_ble_eq_true rfl) (Nat.le_of_ble_eq_true rfl) (Nat.le_of_ble_eq_true rfl) (Nat.le_of_ble_eq_true rfl) dX0_about_48 ?_
  refine r_iast (pc := 51) (j := 2) (cr_38 hc0) rfl (by decide) (by decide) dX0_about_51 ?_
  refine r_aload_n (pc := 52) 0 dX0_about_52 rfl ?_
  refine r_getR (pc := 53) fl_X0_15 (ca_37 hc0) (cf_37_1 hc0) dX0_about_53 ?_
  refine r_iconst (pc := 56) (3) dX0_about_56 rfl ?_
  refine r_aload_n (pc := 57) 1 dX0_about_57 rfl ?_
  refine r_getR (pc := 58) fl_X0_46 (pt_is hp0) (pt_f3 hp0) dX0_about_58 ?_
  refine r_iload_n (pc := 61) 2 dX0_about_61 rfl ?_
  refine r_iald (pc := 62) (j := k) (pt_r3 hp0) rfl (by omega) (by decide) dX0_about_62 ?_
  have g2 : Fr (akS x) h (wI (wI (wI (wI (wR h (x + 37) 3 lw) (x + 37) 2 (r (5 + 1))) (x + 38) 0 (nI k)) (x + 38) 1 (r (8 + k))) (x + 38) 2 (spentF r k)) := g1.tr (Fr.wI (by unfold akS; omega))
  rw [pv_ea (hv.ak hpx g2) hk]
  refine r_iast (pc := 63) (j := 3) (cr_38 hc0) rfl (by decide) (by decide) dX0_about_63 ?_
  refine r_aload_n (pc := 64) 0 dX0_about_64 rfl ?_
  refine r_getR (pc := 65) fl_X0_15 (ca_37 hc0) (cf_37_1 hc0) dX0_about_65 ?_
  refine r_iconst (pc := 68) (4) dX0_about_68 rfl ?_
  refine r_aload_n (pc := 69) 1 dX0_about_69 rfl ?_
  refine r_getR (pc := 70) fl_X0_49 (pt_is hp0) (pt_f4 hp0) dX0_about_70 ?_
  refine r_iload_n (pc := 73) 2 dX0_about_73 rfl ?_
  refine r_iald (pc := 74) (j := k) (pt_r4 hp0) rfl (by omega) (by decide) dX0_about_74 ?_
  have g3 : Fr (akS x) h (wI (wI (wI (wI (wI (wR h (x + 37) 3 lw) (x + 37) 2 (r (5 + 1))) (x + 38) 0 (nI k)) (x + 38) 1 (r (8 + k))) (x + 38) 2 (spentF r k)) (x + 38) 3 (r (20 + k))) := g2.tr (Fr.wI (by unfold akS; omega))
  rw [pv_go (hv.ak hpx g3) hk]
  refine r_iast (pc := 75) (j := 4) (cr_38 hc0) rfl (by decide) (by decide) dX0_about_75 ?_
  refine r_aload_n (pc := 76) 0 dX0_about_76 rfl ?_
  refine r_getR (pc := 77) fl_X0_15 (ca_37 hc0) (cf_37_1 hc0) dX0_about_77 ?_
  refine r_iconst (pc := 80) (5) dX0_about_80 rfl ?_
  refine r_aload_n (pc := 81) 1 dX0_about_81 rfl ?_
  refine r_getR (pc := 82) fl_X0_52 (pt_is hp0) (pt_f5 hp0) dX0_about_82 ?_
  refine r_iload_n (pc := 85) 2 dX0_about_85 rfl ?_
  refine r_iald (pc := 86) (j := k) (pt_r5 hp0) rfl (by omega) (by decide) dX0_about_86 ?_
  have g4 : Fr (akS x) h (wI (wI (wI (wI (wI (wI (wR h (x + 37) 3 lw) (x + 37) 2 (r (5 + 1))) (x + 38) 0 (nI k)) (x + 38) 1 (r (8 + k))) (x + 38) 2 (spentF r k)) (x + 38) 3 (r (20 + k))) (x + 38) 4 (r (26 + k))) := g3.tr (Fr.wI (by unfold akS; omega))
  rw [pv_sh (hv.ak hpx g4) hk]
  refine r_iast (pc := 87) (j := 5) (cr_38 hc0) rfl (by decide) (by decide) dX0_about_87 ?_
  refine r_aload_n (pc := 88) 0 dX0_about_88 rfl ?_
  refine r_getR (pc := 89) fl_X0_15 (ca_37 hc0) (cf_37_1 hc0) dX0_about_89 ?_
  refine r_bipush (pc := 92) (6) dX0_about_92 rfl ?_
  refine r_aload_n (pc := 94) 1 dX0_about_94 rfl ?_
  refine r_getR (pc := 95) fl_X0_33 (pt_is hp0) (pt_f10 hp0) dX0_about_95 ?_
  refine r_iconst (pc := 98) (0) dX0_about_98 rfl ?_
  refine r_iald (pc := 99) (j := 0) (pt_r10 hp0) rfl (by decide) (by decide) dX0_about_99 ?_
  have g5 : Fr (akS x) h (wI (wI (wI (wI (wI (wI (wI (wR h (x + 37) 3 lw) (x + 37) 2 (r (5 + 1))) (x + 38) 0 (nI k)) (x + 38) 1 (r (8 + k))) (x + 38) 2 (spentF r k)) (x + 38) 3 (r (20 + k))) (x + 38) 4 (r (26 + k))) (x + 38) 5 (r (32 + k))) := g4.tr (Fr.wI (by unfold akS; omega))
  rw [pv_te (hv.ak hpx g5) (show 0 < 3 by decide)]
  refine r_iast (pc := 100) (j := 6) (cr_38 hc0) rfl (by decide) (by decide) dX0_about_100 ?_
  refine r_aload_n (pc := 101) 0 dX0_about_101 rfl ?_
  refine r_getR (pc := 102) fl_X0_15 (ca_37 hc0) (cf_37_1 hc0) dX0_about_102 ?_
  refine r_bipush (pc := 105) (7) dX0_about_105 rfl ?_
  refine r_aload_n (pc := 107) 1 dX0_about_107 rfl ?_
  refine r_getR (pc := 108) fl_X0_33 (pt_is hp0) (pt_f10 hp0) dX0_about_108 ?_
  refine r_iconst (pc := 111) (2) dX0_about_111 rfl ?_
  refine r_iald (pc := 112) (j := 2) (pt_r10 hp0) rfl (by decide) (by decide) dX0_about_112 ?_
  have g6 : Fr (akS x) h (wI (wI (wI (wI (wI (wI (wI (wI (wR h (x + 37) 3 lw) (x + 37) 2 (r (5 + 1))) (x + 38) 0 (nI k)) (x + 38) 1 (r (8 + k))) (x + 38) 2 (spentF r k)) (x + 38) 3 (r (20 + k))) (x + 38) 4 (r (26 + k))) (x + 38) 5 (r (32 + k))) (x + 38) 6 (r (5 + 0))) := g5.tr (Fr.wI (by unfold akS; omega))
  rw [pv_te (hv.ak hpx g6) (show 2 < 3 by decide)]
  refine r_iast (pc := 113) (j := 7) (cr_38 hc0) rfl (by decide) (by decide) dX0_about_113 ?_
  refine r_vret (pc := 114) rfl ?_ (Nat.le_of_ble_eq_true rfl) (Nat.le_of_ble_eq_true rfl) dX0_about_114
  have g7 : Fr (akS x) h (wI (wI (wI (wI (wI (wI (wI (wI (wI (wR h (x + 37) 3 lw) (x + 37) 2 (r (5 + 1))) (x + 38) 0 (nI k)) (x + 38) 1 (r (8 + k))) (x + 38) 2 (spentF r k)) (x + 38) 3 (r (20 + k))) (x + 38) 4 (r (26 + k))) (x + 38) 5 (r (32 + k))) (x + 38) 6 (r (5 + 0))) (x + 38) 7 (r (5 + 2))) := g6.tr (Fr.wI (by unfold akS; omega))
  refine ⟨rfl, g7, fun j hj => ?_, ?_, ?_⟩
  · rcases (by omega : j = 0 ∨ j = 1 ∨ j = 2 ∨ j = 3 ∨ j = 4 ∨ j = 5 ∨ j = 6 ∨ j = 7) with rfl | rfl | rfl | rfl | rfl | rfl | rfl | rfl
    · rw [hI_ne (by omega)]; rw [hI_ne (by omega)]; rw [hI_ne (by omega)]; rw [hI_ne (by omega)]; rw [hI_ne (by omega)]; rw [hI_ne (by omega)]; rw [hI_ne (by omega)]; rw [hI_at]; rfl
    · rw [hI_ne (by omega)]; rw [hI_ne (by omega)]; rw [hI_ne (by omega)]; rw [hI_ne (by omega)]; rw [hI_ne (by omega)]; rw [hI_ne (by omega)]; rw [hI_at]; rfl
    · rw [hI_ne (by omega)]; rw [hI_ne (by omega)]; rw [hI_ne (by omega)]; rw [hI_ne (by omega)]; rw [hI_ne (by omega)]; rw [hI_at]; rfl
    · rw [hI_ne (by omega)]; rw [hI_ne (by omega)]; rw [hI_ne (by omega)]; rw [hI_ne (by omega)]; rw [hI_at]; rfl
    · rw [hI_ne (by omega)]; rw [hI_ne (by omega)]; rw [hI_ne (by omega)]; rw [hI_at]; rfl
    · rw [hI_ne (by omega)]; rw [hI_ne (by omega)]; rw [hI_at]; rfl
    · rw [hI_ne (by omega)]; rw [hI_at]; rfl
    · rw [hI_at]; rfl
  · rw [hI_ne (by omega)]; rw [hI_ne (by omega)]; rw [hI_ne (by omega)]; rw [hI_ne (by omega)]; rw [hI_ne (by omega)]; rw [hI_ne (by omega)]; rw [hI_ne (by omega)]; rw [hI_ne (by omega)]; rw [hI_at]
  · exact up2_at
theorem c0_atLife (hc : CS E h x) (life spent : Int32) : Ct E 0 0 0 mX0_atLife [.ref (x + 37), .int life, .int spent] h (po none (wI (wI h (x + 38) 1 life) (x + 38) 2 spent)) := by
  refine Ct.of (by decide +kernel) (Nat.le_of_ble_eq_true rfl) ?_
  refine r_aload_n (pc := 0) 0 dX0_atLife_0 rfl ?_
  refine r_getR (pc := 1) fl_X0_15 (ca_37 hc) (cf_37_1 hc) dX0_atLife_1 ?_
  refine r_iconst (pc := 4) (1) dX0_atLife_4 rfl ?_
  refine r_iload_n (pc := 5) 1 dX0_atLife_5 rfl ?_
  refine r_iast (pc := 6) (j := 1) (cr_38 hc) rfl (by decide) (by decide) dX0_atLife_6 ?_
  refine r_aload_n (pc := 7) 0 dX0_atLife_7 rfl ?_
  refine r_getR (pc := 8) fl_X0_15 (ca_37 hc) (cf_37_1 hc) dX0_atLife_8 ?_
  refine r_iconst (pc := 11) (2) dX0_atLife_11 rfl ?_
  refine r_iload_n (pc := 12) 2 dX0_atLife_12 rfl ?_
  refine r_iast (pc := 13) (j := 2) (cr_38 hc) rfl (by decide) (by decide) dX0_atLife_13 ?_
  refine r_vret (pc := 14) rfl ?_ (Nat.le_of_ble_eq_true rfl) (Nat.le_of_ble_eq_true rfl) dX0_atLife_14
  exact ⟨rfl, rfl⟩
theorem c0_inYear (hc : CS E h x) (y : Int32) : Ct E 0 0 0 mX0_inYear [.ref (x + 37), .int y] h (po none (wI h (x + 38) 6 y)) := by
  refine Ct.of (by decide +kernel) (Nat.le_of_ble_eq_true rfl) ?_
  refine r_aload_n (pc := 0) 0 dX0_inYear_0 rfl ?_
  refine r_getR (pc := 1) fl_X0_15 (ca_37 hc) (cf_37_1 hc) dX0_inYear_1 ?_
  refine r_bipush (pc := 4) (6) dX0_inYear_4 rfl ?_
  refine r_iload_n (pc := 6) 1 dX0_inYear_6 rfl ?_
  refine r_iast (pc := 7) (j := 6) (cr_38 hc) rfl (by decide) (by decide) dX0_inYear_7 ?_
  refine r_vret (pc := 8) rfl ?_ (Nat.le_of_ble_eq_true rfl) (Nat.le_of_ble_eq_true rfl) dX0_inYear_8
  exact ⟨rfl, rfl⟩
theorem Ask.w {w : Nat → Int32} {dr : Int32} {lw : Option Nat} (ha : Ask h x w dr lw) (j : Nat) (v : Int32) : Ask (wI h (x + 38) j v) x (va_up w j v) dr lw := by
  refine ⟨fun i hi => ?_, ?_, ha.2.2⟩
  · by_cases hij : i = j
    · subst hij; rw [hI_at, va_up_self]
    · rw [hI_ne (by omega), va_up_ne _ _ hij]; exact ha.1 i hi
  · rw [hI_ne (by omega)]; exact ha.2.1
theorem Ask.cg {w w' : Nat → Int32} {dr : Int32} {lw : Option Nat} (ha : Ask h x w dr lw) (hw : ∀ j, j < 8 → w' j = w j) : Ask h x w' dr lw := ⟨fun j hj => (ha.1 j hj).trans (hw j hj).symm, ha.2⟩
theorem wdF_life {k : Nat} {life spent ship year l2 s2 : Int32} : ∀ j, j < 8 → wdF r k l2 s2 ship year j = va_up (va_up (wdF r k life spent ship year) 1 l2) 2 s2 j := by
  intro j hj
  rcases (by omega : j = 0 ∨ j = 1 ∨ j = 2 ∨ j = 3 ∨ j = 4 ∨ j = 5 ∨ j = 6 ∨ j = 7) with rfl | rfl | rfl | rfl | rfl | rfl | rfl | rfl <;> simp [va_up, wdF]
theorem wdF_year {k : Nat} {life spent ship year y2 : Int32} : ∀ j, j < 8 → wdF r k life spent ship y2 j = va_up (wdF r k life spent ship year) 6 y2 j := by
  intro j hj
  rcases (by omega : j = 0 ∨ j = 1 ∨ j = 2 ∨ j = 3 ∨ j = 4 ∨ j = 5 ∨ j = 6 ∨ j = 7) with rfl | rfl | rfl | rfl | rfl | rfl | rfl | rfl <;> simp [va_up, wdF]
theorem wdF_ship {k : Nat} {life spent ship year s2 : Int32} : ∀ j, j < 8 → wdF r k life spent s2 year j = va_up (wdF r k life spent ship year) 5 s2 j := by
  intro j hj
  rcases (by omega : j = 0 ∨ j = 1 ∨ j = 2 ∨ j = 3 ∨ j = 4 ∨ j = 5 ∨ j = 6 ∨ j = 7) with rfl | rfl | rfl | rfl | rfl | rfl | rfl | rfl <;> simp [va_up, wdF]
theorem setE_wd {k : Nat} {life spent ship on : Int32} : ∀ j, j < 8 → setE r k life spent ship on j = (wdF r k life spent ship (r 5 + on) j).toInt64 := by
  intro j hj
  rcases (by omega : j = 0 ∨ j = 1 ∨ j = 2 ∨ j = 3 ∨ j = 4 ∨ j = 5 ∨ j = 6 ∨ j = 7) with rfl | rfl | rfl | rfl | rfl | rfl | rfl | rfl <;> rfl
end ASK
