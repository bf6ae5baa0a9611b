/-! the class: the newest taken back; ports and pasts copied -/
section PAST4
variable {E : En} {h : Hp} {p : Nat} {r : Nat → Int32}
def tkS (a p b k : Nat) : Prop := psW a b k ∨ ptW p b k
theorem psS.fr {S : Nat → Nat → Prop} {h1 : Hp} {a : Nat} (hps : psS E h a) (a1 : Fr S h h1) (q0 : ¬ S a 0) (q1 : ¬ S a 1) (q2 : ∀ k, ¬ S (a + 1) k) : psS E h1 a := by
  obtain ⟨b0, ⟨b1, b2⟩, ⟨b3, b4⟩, b5⟩ := hps
  exact ⟨b0.fr a1, ⟨(a1.R q0).trans b1, b2.fr a1⟩, ⟨(a1.R q1).trans b3, b4.fr a1⟩, fun j hj => ⟨(a1.R (q2 j)).trans (b5 j hj).1, (b5 j hj).2.fr a1⟩⟩
theorem ptS.fr {S : Nat → Nat → Prop} {h1 : Hp} (hp : ptS E h p) (a1 : Fr S h h1) (q : ∀ k, (k = 1 ∨ k = 2 ∨ k = 3 ∨ k = 4 ∨ k = 5 ∨ k = 7 ∨ k = 9 ∨ k = 10 ∨ k = 12) → ¬ S p k) : ptS E h1 p := by
  obtain ⟨b0, ⟨b1, c1⟩, ⟨b2, c2⟩, ⟨b3, c3⟩, ⟨b4, c4⟩, ⟨b5, c5⟩, ⟨b6, c6⟩, ⟨b7, c7⟩, ⟨b8, c8⟩, ⟨b9, c9⟩⟩ := hp
  exact ⟨b0.fr a1, ⟨(a1.R (q _ (by omega))).trans b1, c1.fr a1⟩, ⟨(a1.R (q _ (by omega))).trans b2, c2.fr a1⟩, ⟨(a1.R (q _ (by omega))).trans b3, c3.fr a1⟩, ⟨(a1.R (q _ (by omega))).trans b4, c4.fr a1⟩, ⟨(a1.R (q _ (by omega))).trans b5, c5.fr a1⟩, ⟨(a1.R (q _ (by omega))).trans b6, c6.fr a1⟩, ⟨(a1.R (q _ (by omega))).trans b7, c7.fr a1⟩, ⟨(a1.R (q _ (by omega))).trans b8, c8.fr a1⟩, ⟨(a1.R (q _ (by omega))).trans b9, c9.fr a1⟩⟩
theorem c4_takeNone {a : Nat} (hps : psS E h a) (hu : hI h a 3 = nI 0) : Ct E 2 0 0 mX4_takeNewest [.ref a, .ref p] h (po (some (.int (-1))) h) := by
  refine Ct.of (by decide +kernel) (Nat.le_of_ble_eq_true rfl) ?_
  refine r_aload_n (pc := 0) 0 dX4_takeNewest_0 rfl ?_
  refine r_getI (pc := 1) fl_X4_22 (ps_is hps) dX4_takeNewest_1 ?_
  refine r_if_ne (pc := 4) (tgt := 9) dX4_takeNewest_4 (by decide) (fun c_4 => ?_) (fun c_4 => ?_)
  · rw [hu] at c_4; exact absurd rfl c_4
  · refine r_iconst (pc := 7) (-1) dX4_takeNewest_7 rfl ?_
    refine r_iret (pc := 8) rfl ?_ (Nat.le_of_ble_eq_true rfl) (Nat.le_of_ble_eq_true rfl) dX4_takeNewest_8
    exact ⟨rfl, rfl⟩
theorem c4_takeNewest {a nw u : Nat} {K : Nat → Int32} {S : Nat → Nat → Int32} (hps : psS E h a) (hpv : PsV h a nw u K S) (h0 : 0 < u) (hp : ptS E h p) (hv : PtV h p r) (hpa : a + 18 < p ∨ p + 9 < a) : Ct E 2 0 0 mX4_takeNewest [.ref a, .ref p] h (fun v h' => v = some (.int (K (u - 1))) ∧ Fr (tkS a p) h h' ∧ PtV h' p (bkR r (S (u - 1))) ∧ PsV h' a ((nw + 15) % 16) (u - 1) K S) := by
  obtain ⟨e2, e3, hnw, hu, hki⟩ := hpv
  have etop := slt_top hnw hu h0
  obtain ⟨k1, k2⟩ := hki (u - 1) (by omega)
  rw [etop] at k1 k2
  refine Ct.of (by decide +kernel) (Nat.le_of_ble_eq_true rfl) ?_
  refine r_aload_n (pc := 0) 0 dX4_takeNewest_0 rfl ?_
  refine r_getI (pc := 1) fl_X4_22 (ps_is hps) dX4_takeNewest_1 ?_
  refine r_if_ne (pc := 4) (tgt := 9) dX4_takeNewest_4 (by decide) (fun c_4 => ?_) (fun c_4 => ?_)
  · refine r_aload_n (pc := 9) 0 dX4_takeNewest_9 rfl ?_
    refine r_getR (pc := 10) fl_X4_18 (ps_is hps) (ps_f1 hps) dX4_takeNewest_10 ?_
    refine r_aload_n (pc := 13) 0 dX4_takeNewest_13 rfl ?_
    refine r_getI (pc := 14) fl_X4_26 (ps_is hps) dX4_takeNewest_14 ?_
    refine r_iald (pc := 17) (j := nw) (ps_r1 hps) e2 (by omega) (by decide) dX4_takeNewest_17 ?_
    rw [k1]
    refine r_istore_n (pc := 18) (lv' := [(0, _), (1, _), (2, _)]) dX4_takeNewest_18 (Nat.le_of_ble_eq_true rfl) rfl ?_
    refine r_aload_n (pc := 19) 1 dX4_takeNewest_19 rfl ?_
    refine r_aload_n (pc := 20) 0 dX4_takeNewest_20 rfl ?_
    refine r_getR (pc := 21) fl_X4_15 (ps_is hps) (ps_f0 hps) dX4_takeNewest_21 ?_
    refine r_aload_n (pc := 24) 0 dX4_takeNewest_24 rfl ?_
    refine r_getI (pc := 25) fl_X4_26 (ps_is hps) dX4_takeNewest_25 ?_
    refine r_aaldR (pc := 28) (j := nw) (ps_r0 hps) (by decide) e2 (by omega) (by decide) (ps_e hps hnw) dX4_takeNewest_28 ?_
    refine r_callV (pc := 29) (As := [_]) mv_X5_readFrom ml_X4_39 (c5_readFrom hp hv (ps_re hps hnw) (by omega) k2) (pt_is hp) rfl rfl (Nat.le_of_ble_eq_true rfl) (Nat.le_of_ble_eq_true rfl) (Nat.le_of_ble_eq_true rfl) (Nat.le_of_ble_eq_true rfl) (Nat.le_of_ble_eq_true rfl) dX4_takeNewest_29 (fun r h2 hp => ?_)
    obtain ⟨rfl, f1, hv2⟩ := hp
    show Wp E mX4_takeNewest _ _ _ _ [] _ 0 0
    have g2 : hI h2 a 2 = nI nw := (f1.I (by unfold ptW; omega)).trans e2
    have g3 : hI h2 a 3 = nI u := (f1.I (by unfold ptW; omega)).trans e3
    have hps2 := hps.fr f1 (by unfold ptW; omega) (by unfold ptW; omega) (fun k => by unfold ptW; omega)
    refine r_aload_n (pc := 32) 0 dX4_takeNewest_32 rfl ?_
    refine r_aload_n (pc := 33) 0 dX4_takeNewest_33 rfl ?_
    refine r_getI (pc := 34) fl_X4_26 (ps_is hps2) dX4_takeNewest_34 ?_
    refine r_bipush (pc := 37) (16) dX4_takeNewest_37 rfl ?_
    refine r_iadd (pc := 39) dX4_takeNewest_39 ?_
    refine r_iconst (pc := 40) (1) dX4_takeNewest_40 rfl ?_
    refine r_isub (pc := 41) dX4_takeNewest_41 ?_
    refine r_bipush (pc := 42) (16) dX4_takeNewest_42 rfl ?_
    refine r_irem (pc := 44) dX4_takeNewest_44 (by decide) ?_
    rw [g2, show nI nw + 16 - 1 - (nI nw + 16 - 1) / 16 * 16 = nI ((nw + 15) % 16) by
      rw [show (16 : Int32) = nI 16 from rfl, nI_add, show nI (nw + 16) - 1 = nI (nw + 15) from nI_sub (a := nw + 16) (b := 1) (by omega)]; exact nI_mod (by omega) (by decide)]
    refine r_putI (pc := 45) fp_X4_26 (ps_is hps2) dX4_takeNewest_45 ?_
    refine r_aload_n (pc := 48) 0 dX4_takeNewest_48 rfl ?_
    refine r_dup (pc := 49) dX4_takeNewest_49 rfl ?_
    refine r_getI (pc := 50) fl_X4_22 (ps_is hps2) dX4_takeNewest_50 ?_
    refine r_iconst (pc := 53) (1) dX4_takeNewest_53 rfl ?_
    refine r_isub (pc := 54) dX4_takeNewest_54 ?_
    rw [hI_ne (by omega), g3, show nI u - 1 = nI (u - 1) from nI_sub (a := u) (b := 1) h0]
    refine r_putI (pc := 55) fp_X4_22 (ps_is hps2) dX4_takeNewest_55 ?_
    refine r_iload_n (pc := 58) 2 dX4_takeNewest_58 rfl ?_
    refine r_iret (pc := 59) rfl ?_ (Nat.le_of_ble_eq_true rfl) (Nat.le_of_ble_eq_true rfl) dX4_takeNewest_59
    refine ⟨rfl, ?_, ?_, ?_, ?_, Nat.mod_lt _ (by decide), by omega, fun i hi => ?_⟩
    · exact (f1.mono (fun a k z => (Or.inr z : tkS _ _ a k))).tr (Fr.tr (Fr.wI (Or.inl (by unfold psW; omega))) (Fr.wI (Or.inl (by unfold psW; omega))))
    · have fz : Fr (psW a) h2 (wI (wI h2 a 2 (nI ((nw + 15) % 16))) a 3 (nI (u - 1))) := Fr.tr (Fr.wI (by unfold psW; omega)) (Fr.wI (by unfold psW; omega))
      exact hv2.fr fz (fun i k hi => by unfold psW; omega)
    · rw [hI_ne (by omega), hI_at]
    · rw [hI_at]
    · have es : slt ((nw + 15) % 16) (u - 1) i = slt nw u i := by unfold slt; omega
      have hlt := slt_lt nw u i
      obtain ⟨q1, q2⟩ := hki i (by omega)
      rw [es]
      refine ⟨?_, q2.cg ?_⟩
      · rw [hI_ne (by omega), hI_ne (by omega), f1.I (by unfold ptW; omega)]; exact q1
      · funext k
        rw [hI_ne (by omega), hI_ne (by omega), f1.I (by unfold ptW; omega)]
  · rw [e3] at c_4
    have := (nI_eq (a := u) (b := 0) (by omega) (by omega)).mp c_4
    omega
end PAST4
