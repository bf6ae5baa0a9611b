/-! the class: all remembered, all restored -/
section RESTORE
variable {E : En} {h : Hp} {x : Nat} {r : Nat → Int32}
theorem csP_cf {p a k : Nat} (hpx : p = x + 3 ∨ p = x + 14 ∨ p = x + 59) (hq : csP x a k) : ¬ cfS p a k := by
  intro z
  rcases z with z | z
  · exact csP_pw hpx hq z
  · obtain ⟨t, ht, rfl, rfl⟩ := hq
    have key : ∀ t ∈ csF, ¬ (t.1 = 12 ∨ t.1 = 23 ∨ t.1 = 68) := by decide +kernel
    exact key t ht (by omega)
theorem CS.cf {h1 : Hp} {p : Nat} (hc : CS E h x) (hpx : p = x + 3 ∨ p = x + 14 ∨ p = x + 59) (a1 : Fr (cfS p) h h1) : CS E h1 x := hc.fr a1 (fun _ _ => csP_cf hpx)
/-- what remembering, what restoring writes -/
def rmS (x a k : Nat) : Prop := cfS (x + 59) a k ∨ psW (x + 69) a k
def rsS (x a k : Nat) : Prop := cfS (x + 3) a k ∨ psW (x + 40) a k
theorem c1_remember (hc : CS E h x) (hv : PtV h (x + 3) r) (hlaw : ∀ i, i < 6 → ∀ t, hR h (x + 3 + 9) i = some t → isA E h t 10) {nw u : Nat} {K : Nat → Int32} {S : Nat → Nat → Int32} (hps : PsV h (x + 40) nw u K S) : Ct E 2 0 0 mX1_remember [.ref (x + 39)] h (fun v h' => v = none ∧ Fr (rmS x) h h' ∧ PtV h' (x + 59) r ∧ (∀ i, i < 6 → hR h' (x + 59 + 9) i = hR h (x + 3 + 9) i) ∧ PsV h' (x + 69) nw u K S) := by
  refine Ct.of (by decide +kernel) (Nat.le_of_ble_eq_true rfl) ?_
  refine r_aload_n (pc := 0) 0 dX1_remember_0 rfl ?_
  refine r_getR (pc := 1) fl_X1_29 (ca_39 hc) (cf_39_3 hc) dX1_remember_1 ?_
  refine r_aload_n (pc := 4) 0 dX1_remember_4 rfl ?_
  refine r_getR (pc := 5) fl_X1_9 (ca_39 hc) (cf_39_0 hc) dX1_remember_5 ?_
  refine r_callV (pc := 8) (As := [_]) mv_X5_copyFrom ml_X1_113 (c5_copyFrom (cs_pt59 hc) (cs_pt3 hc) hv (by omega) hlaw) (pt_is (cs_pt59 hc)) rfl rfl (Nat.le_of_ble_eq_true rfl) (Nat.le_of_ble_eq_true rfl) (Nat.le_of_ble_eq_true rfl) (Nat.le_of_ble_eq_true rfl) (Nat.le_of_ble_eq_true rfl) dX1_remember_8 (fun r h2 hp => ?_)
  obtain ⟨rfl, f2, hv2, hl2⟩ := hp
  show Wp E mX1_remember _ _ _ _ [] _ 0 0
  have hc2 := hc.cf (Or.inr (Or.inr rfl)) f2
  have hps2 := hps.fr f2 (by unfold cfS ptW; omega) (by unfold cfS ptW; omega) (fun i k h1 h2 => by unfold cfS ptW; omega)
  refine r_aload_n (pc := 11) 0 dX1_remember_11 rfl ?_
  refine r_getR (pc := 12) fl_X1_32 (ca_39 hc2) (cf_39_4 hc2) dX1_remember_12 ?_
  refine r_aload_n (pc := 15) 0 dX1_remember_15 rfl ?_
  refine r_getR (pc := 16) fl_X1_22 (ca_39 hc2) (cf_39_2 hc2) dX1_remember_16 ?_
  refine r_callV (pc := 19) (As := [_]) mv_X4_copyFrom ml_X1_117 (c4_copyFrom (cs_ps69 hc2) (cs_ps40 hc2) (by omega) hps2) (ps_is (cs_ps69 hc2)) rfl rfl (Nat.le_of_ble_eq_true rfl) (Nat.le_of_ble_eq_true rfl) (Nat.le_of_ble_eq_true rfl) (Nat.le_of_ble_eq_true rfl) (Nat.le_of_ble_eq_true rfl) dX1_remember_19 (fun r h3 hp => ?_)
  obtain ⟨rfl, f3, hps3⟩ := hp
  show Wp E mX1_remember _ _ _ _ [] _ 0 0
  refine r_vret (pc := 22) rfl ?_ (Nat.le_of_ble_eq_true rfl) (Nat.le_of_ble_eq_true rfl) dX1_remember_22
  refine ⟨rfl, (f2.mono (fun a k z => (Or.inl z : rmS x a k))).tr (f3.mono (fun a k z => (Or.inr z : rmS x a k))), hv2.fr f3 (fun i k hi => by unfold psW; omega), fun i hi => ?_, hps3⟩
  rw [f3.R (by unfold psW; omega)]
  exact hl2 i hi
theorem c1_restore (hc : CS E h x) (hv : PtV h (x + 59) r) (hlaw : ∀ i, i < 6 → ∀ t, hR h (x + 59 + 9) i = some t → isA E h t 10) {nw u : Nat} {K : Nat → Int32} {S : Nat → Nat → Int32} (hps : PsV h (x + 69) nw u K S) : Ct E 2 0 0 mX1_restore [.ref (x + 39)] h (fun v h' => v = none ∧ Fr (rsS x) h h' ∧ PtV h' (x + 3) r ∧ (∀ i, i < 6 → hR h' (x + 3 + 9) i = hR h (x + 59 + 9) i) ∧ PsV h' (x + 40) nw u K S) := by
  refine Ct.of (by decide +kernel) (Nat.le_of_ble_eq_true rfl) ?_
  refine r_aload_n (pc := 0) 0 dX1_restore_0 rfl ?_
  refine r_getR (pc := 1) fl_X1_9 (ca_39 hc) (cf_39_0 hc) dX1_restore_1 ?_
  refine r_aload_n (pc := 4) 0 dX1_restore_4 rfl ?_
  refine r_getR (pc := 5) fl_X1_29 (ca_39 hc) (cf_39_3 hc) dX1_restore_5 ?_
  refine r_callV (pc := 8) (As := [_]) mv_X5_copyFrom ml_X1_113 (c5_copyFrom (cs_pt3 hc) (cs_pt59 hc) hv (by omega) hlaw) (pt_is (cs_pt3 hc)) rfl rfl (Nat.le_of_ble_eq_true rfl) (Nat.le_of_ble_eq_true rfl) (Nat.le_of_ble_eq_true rfl) (Nat.le_of_ble_eq_true rfl) (Nat.le_of_ble_eq_true rfl) dX1_restore_8 (fun r h2 hp => ?_)
  obtain ⟨rfl, f2, hv2, hl2⟩ := hp
  show Wp E mX1_restore _ _ _ _ [] _ 0 0
  have hc2 := hc.cf (Or.inl rfl) f2
  have hps2 := hps.fr f2 (by unfold cfS ptW; omega) (by unfold cfS ptW; omega) (fun i k h1 h2 => by unfold cfS ptW; omega)
  refine r_aload_n (pc := 11) 0 dX1_restore_11 rfl ?_
  refine r_getR (pc := 12) fl_X1_22 (ca_39 hc2) (cf_39_2 hc2) dX1_restore_12 ?_
  refine r_aload_n (pc := 15) 0 dX1_restore_15 rfl ?_
  refine r_getR (pc := 16) fl_X1_32 (ca_39 hc2) (cf_39_4 hc2) dX1_restore_16 ?_
  refine r_callV (pc := 19) (As := [_]) mv_X4_copyFrom ml_X1_117 (c4_copyFrom (cs_ps40 hc2) (cs_ps69 hc2) (by omega) hps2) (ps_is (cs_ps40 hc2)) rfl rfl (Nat.le_of_ble_eq_true rfl) (Nat.le_of_ble_eq_true rfl) (Nat.le_of_ble_eq_true rfl) (Nat.le_of_ble_eq_true rfl) (Nat.le_of_ble_eq_true rfl) dX1_restore_19 (fun r h3 hp => ?_)
  obtain ⟨rfl, f3, hps3⟩ := hp
  show Wp E mX1_restore _ _ _ _ [] _ 0 0
  refine r_vret (pc := 22) rfl ?_ (Nat.le_of_ble_eq_true rfl) (Nat.le_of_ble_eq_true rfl) dX1_restore_22
  refine ⟨rfl, (f2.mono (fun a k z => (Or.inl z : rsS x a k))).tr (f3.mono (fun a k z => (Or.inr z : rsS x a k))), hv2.fr f3 (fun i k hi => by unfold psW; omega), fun i hi => ?_, hps3⟩
  rw [f3.R (by unfold psW; omega)]
  exact hl2 i hi
end RESTORE
