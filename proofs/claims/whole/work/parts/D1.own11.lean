/-! the class's own methods: back -/
section OWN11
variable {E : En} {h h1 h2 : Hp} {x : Nat} {μ μ' : Mu} {S : Nat → Nat → Prop}
/-- the port replaced -/
theorem CR.port (hr : CR E h x μ) (f : Fr S h h1) (q : ∀ a k, S a k → scP x a k ∨ cfS (x + 3) a k ∨ psW (x + 40) a k) (hp : PoR E h1 x (x + 3) (μ' 2)) (hps : PsR h1 x μ') (em : ∀ o j, obI o j → o ≠ 2 → o ≠ 5 → o ≠ 6 → ¬ (o = 0 ∧ j = 8) → μ' o j = μ o j) : CR E h1 x μ' := by
  obtain ⟨hc, -, -, ⟨hi, hd⟩, ht, hco, hb, hw, h20⟩ := hr
  have fa : ∀ {a k : Nat}, S a k → ¬ x + 135 < a ∧ ¬ (x + 13 ≤ a ∧ a ≤ x + 25) ∧ ¬ a = x ∧ ¬ a = x + 101 ∧ ¬ a = x + 33 ∧ ¬ (a = x + 30 ∧ k = 0) := fun z => by
    rcases q _ _ z with z | z | z
    · have := sc_far z; omega
    · have := cf_far z; omega
    · have := ps_far z; omega
  have eo : ∀ o, (o = 1 ∨ o = 9 ∨ o = 33) → μ' o = μ o := fun o ho => by funext j; exact em o j (by unfold obI; omega) (by omega) (by omega) (by omega) (by omega)
  have cs : ∀ a k, csP x a k → ¬ S a k := fun a k hq z => by
    rcases q _ _ z with z | z | z
    · exact csP_sc hq z
    · exact csP_cf (Or.inl rfl) hq z
    · exact csP_ac hq (Or.inr (Or.inr z))
  refine ⟨hc.fr f cs, hp, hps, ⟨fun i h2 => ((hi i h2).fr f (fun k z => by have := fa z; omega) (fun a k ha z => (fa z).1 ha)).mu h2 (em _ _ (by unfold obI; omega) (by omega) (by omega) (by omega) (by omega)) (fun j _ => em _ _ (by unfold obI; omega) (by omega) (by omega) (by omega) (by omega)), fun p e1 => ?_⟩, (ht.fr f (fun z => by have := fa z; omega) (fun k z => by have := fa z; omega)).mu (em _ _ (by unfold obI; omega) (by omega) (by omega) (by omega) (by omega)) (eo 9 (by omega)), (hco.fr f (fun k _ _ z => by have := fa z; omega) (fun k z => by have := fa z; omega)).mu ⟨em _ _ (by unfold obI; omega) (by omega) (by omega) (by omega) (by omega), em _ _ (by unfold obI; omega) (by omega) (by omega) (by omega) (by omega), em _ _ (by unfold obI; omega) (by omega) (by omega) (by omega) (by omega), em _ _ (by unfold obI; omega) (by omega) (by omega) (by omega) (by omega)⟩ (eo 1 (by omega)), (hb.fr f (fun i k hi z => by have := fa z; omega)).mu (em _ _ (by unfold obI; omega) (by omega) (by omega) (by omega) (by omega)) (eo 33 (by omega)), hw.fr f (fun k z => by have := fa z; omega) (fun z => by have := fa z; omega), (em _ _ (by unfold obI; omega) (by omega) (by omega) (by omega) (by omega)).trans h20⟩
  rw [f.R (fun z => by have := fa z; omega)] at e1 ⊢
  exact hd p e1
/-- a port copied from another one -/
theorem PoR.copy {p q : Nat} {r : Nat → Int32} (hq : PoR E h x q r) (f : Fr (cfS p) h h1) (hv : PtV h1 p r) (hR9 : ∀ i, i < 6 → hR h1 (p + 9) i = hR h (q + 9) i) (far : ∀ t nn, txS E h t nn → x + 135 < t → t + 5 < p ∨ p + 9 < t) : PoR E h1 x p r := by
  obtain ⟨-, nc, ns, nl, sg, hg, hl⟩ := hq
  refine ⟨hv, nc, ns, nl, sg, hg, fun i hi => ?_, fun i hi t ht => ?_⟩
  · obtain ⟨cls, t, nn, a1, a2, a3, a4⟩ := hl.1 i hi
    exact ⟨cls, t, nn, a1, (hR9 i (by have := hg.2.1.2; omega)).trans a2, a3, a4.fr f (fun j k hj z => by have := cf_far z; have := far t nn a4.1 a3; omega)⟩
  · rw [hR9 i hi] at ht
    obtain ⟨a1, a2⟩ := hl.2 i hi t ht
    exact ⟨a1, a2.fr f⟩
theorem c11_back {nc ns nl sg : Nat} (hr : CR E h x μ) (hg : GM μ nc ns nl sg) (k : Int32) : Ct E 2 0 0 mX11_back [.ref x, .int k] h (pCr E h x (.int (backM μ k).1) (backM μ k).2) := by
  have hc := hr.1
  refine Ct.of (by decide +kernel) (Nat.le_of_ble_eq_true rfl) ?_
  have no : ¬ inN k 2 = true → Wp E mX11_back (Rm 2 0 0) (Qm E (pCr E h x (.int (backM μ k).1) (backM μ k).2) 0 0) 9 [(0, .ref x), (1, .int k)] [] h 0 0 := by
    intro hno
    refine r_aload_n (pc := 9) 0 dX11_back_9 rfl ?_
    refine r_iconst (pc := 10) (-1) dX11_back_10 rfl ?_
    refine r_dV (pc := 11) (As := [_]) mv_X11_refused ml_X11_106 (c11_refused hc (-1) (j := 1) (by decide) (by decide) (by decide)) (nl_is hc) rfl rfl (Nat.le_of_ble_eq_true rfl) (Nat.le_of_ble_eq_true rfl) (Nat.le_of_ble_eq_true rfl) (Nat.le_of_ble_eq_true rfl) (Nat.le_of_ble_eq_true rfl) dX11_back_11 ?_
    refine r_iret (pc := 14) rfl ?_ (Nat.le_of_ble_eq_true rfl) (Nat.le_of_ble_eq_true rfl) dX11_back_14
    rw [backM, if_neg hno]
    exact ⟨rfl, hr.th.tell _ t_1, kp_to⟩
  refine r_iload_n (pc := 0) 1 dX11_back_0 rfl ?_
  refine r_if_lt (pc := 1) (tgt := 9) dX11_back_1 (by decide) (fun c_1 => ?_) (fun c_1 => ?_)
  · exact no (fun z => absurd ((in_le (b := 1) (by decide)).mp z).1 (Int32.not_le.mpr c_1))
  · refine r_iload_n (pc := 4) 1 dX11_back_4 rfl ?_
    refine r_iconst (pc := 5) (2) dX11_back_5 rfl ?_
    refine r_icmp_lt (pc := 6) (tgt := 15) dX11_back_6 (by decide) (fun c_6 => ?_) (fun c_6 => ?_)
    · have hin : inN k 2 = true := by
        unfold inN
        refine decide_eq_true ⟨?_, ?_⟩
        · have := (fa_le 0 k).mp (Int32.not_lt.mp c_1); exact this
        · have := (fa_lt k 2).mp c_6; exact this
      rw [backM, if_pos hin]
      obtain ⟨q, hq, rfl⟩ := inN_of (by decide) hin
      rw [nI_clamp (by omega)]
      rcases hr.2.2.2.1.1 q hq with ⟨a1, a2⟩ | ⟨a1, p, a2, a3, a4, a5⟩
      · rw [a1, if_pos rfl]
        refine r_aload_n (pc := 15) 0 dX11_back_15 rfl ?_
        refine r_getR (pc := 16) fl_X11_21 (nl_is hc) (nl_f1 hc) dX11_back_16 ?_
        refine r_iload_n (pc := 19) 1 dX11_back_19 rfl ?_
        refine r_aaldN (pc := 20) (j := q) (cr_13 hc) (by decide) rfl (by omega) (by decide) (a2) dX11_back_20 ?_
        refine r_ifnonnullN (pc := 21) dX11_back_21 ?_
        refine r_aload_n (pc := 24) 0 dX11_back_24 rfl ?_
        refine r_bipush (pc := 25) (-2) dX11_back_25 rfl ?_
        refine r_dV (pc := 27) (As := [_]) mv_X11_refused ml_X11_106 (c11_refused hc (-2) (j := 2) (by decide) (by decide) (by decide)) (nl_is hc) rfl rfl (Nat.le_of_ble_eq_true rfl) (Nat.le_of_ble_eq_true rfl) (Nat.le_of_ble_eq_true rfl) (Nat.le_of_ble_eq_true rfl) (Nat.le_of_ble_eq_true rfl) dX11_back_27 ?_
        refine r_iret (pc := 30) rfl ?_ (Nat.le_of_ble_eq_true rfl) (Nat.le_of_ble_eq_true rfl) dX11_back_30
        exact ⟨rfl, hr.th.tell _ t_2, kp_to⟩
      · rw [a1, if_neg (by decide)]
        have hp3 := cs_pt3 hc
        refine r_aload_n (pc := 15) 0 dX11_back_15 rfl ?_
        refine r_getR (pc := 16) fl_X11_21 (nl_is hc) (nl_f1 hc) dX11_back_16 ?_
        refine r_iload_n (pc := 19) 1 dX11_back_19 rfl ?_
        refine r_aaldR (pc := 20) (j := q) (cr_13 hc) (by decide) rfl (by omega) (by decide) (a2) dX11_back_20 ?_
        refine r_ifnonnull (pc := 21) (tgt := 31) dX11_back_21 (by decide) ?_
        refine r_aload_n (pc := 31) 0 dX11_back_31 rfl ?_
        refine r_getR (pc := 32) fl_X11_15 (nl_is hc) (nl_f0 hc) dX11_back_32 ?_
        refine r_aload_n (pc := 35) 0 dX11_back_35 rfl ?_
        refine r_getR (pc := 36) fl_X11_21 (nl_is hc) (nl_f1 hc) dX11_back_36 ?_
        refine r_iload_n (pc := 39) 1 dX11_back_39 rfl ?_
        refine r_aaldR (pc := 40) (j := q) (cr_13 hc) (by decide) rfl (by omega) (by decide) (a2) dX11_back_40 ?_
        refine r_callV (pc := 41) (As := [_]) mv_X5_copyFrom ml_X11_315 (c5_copyFrom hp3 a4 a5.1 (by omega) (fun i hi t ht => (a5.2.choose_spec.choose_spec.choose_spec.choose_spec.2.2 i hi t ht).2)) (pt_is (cs_pt3 hc)) rfl rfl (Nat.le_of_ble_eq_true rfl) (Nat.le_of_ble_eq_true rfl) (Nat.le_of_ble_eq_true rfl) (Nat.le_of_ble_eq_true rfl) (Nat.le_of_ble_eq_true rfl) dX11_back_41 (fun r h3 hp => ?_)
        obtain ⟨rfl, f3, hv3, hR3⟩ := hp
        show Wp E mX11_back _ _ _ _ [] _ 0 0
        have hpo : PoR E h3 x (x + 3) (fun j => μ 3 (5450 * q + j)) := a5.copy f3 hv3 hR3 (fun t nn ht h1 => by omega)
        have f4 : Fr (fun a k => cfS (x + 3) a k ∨ psW (x + 40) a k) h (wI h3 (x + 40) 3 0) := (f3.mono (fun a k z => (Or.inl z : cfS (x + 3) a k ∨ psW (x + 40) a k))).tr (Fr.wI (Or.inr (by unfold psW; omega)))
        have eb : ∀ o j, o ≠ 2 → bakN (up2 μ 0 0 0) q 5450 o j = up2 μ 0 0 0 o j := fun o j ho => by unfold bakN; rw [if_neg (by omega)]
        have e2 : ∀ j, j < 5450 → up2 (bakN (up2 μ 0 0 0) q 5450) 0 8 0 2 j = μ 3 (5450 * q + j) := fun j hj => by
          rw [up2_ne (by omega)]; unfold bakN; rw [if_pos ⟨rfl, hj⟩, up2_ne (by omega)]
        obtain ⟨nw, hpv⟩ := hr.2.2.1.1
        have fps : Fr (cfS (x + 3)) h h3 := f3
        have eu : uF (up2 (bakN (up2 μ 0 0 0) q 5450) 0 8 0) = 0 := by
          show (up2 (bakN (up2 μ 0 0 0) q 5450) 0 8 0 0 8).toNatClampNeg = 0
          rw [up2_at]; rfl
        have hps : PsR (wI h3 (x + 40) 3 0) x (up2 (bakN (up2 μ 0 0 0) q 5450) 0 8 0) := by
          refine ⟨⟨nw, ?_⟩, ⟨by rw [eu, up2_at]; rfl, by omega⟩, fun i hi => by omega⟩
          rw [eu]
          exact ⟨by rw [hI_ne (by omega), f3.I (fun z => by have := cf_far z; omega)]; exact hpv.1, by rw [hI_at]; rfl, hpv.2.2.1, by omega, fun i hi => by omega⟩
        have hr4 : CR E (wI h3 (x + 40) 3 0) x (up2 (bakN (up2 μ 0 0 0) q 5450) 0 8 0) := by
          refine hr.port f4 (fun a k z => Or.inr z) ?_ hps (fun o j ho h2 h5 h6 h8 => by rw [up2_ne h8, eb o j h2, up2_ne (by unfold obI at ho; omega)])
          refine PoR.cg ?_ e2
          exact hpo.fr (S := fun a k => a = x + 40 ∧ k = 3) (Fr.wI ⟨rfl, rfl⟩) (fun i k hi z => by omega) (fun t nn i k _ ht hi z => by omega)
        have hc3 := hc.fr f3 (fun a k hq => csP_cf (Or.inl rfl) hq)
        have hc4 := hr4.1
        refine r_aload_n (pc := 44) 0 dX11_back_44 rfl ?_
        refine r_getR (pc := 45) fl_X11_56 (nl_is hc3) (nl_f6 hc3) dX11_back_45 ?_
        refine r_dV0 (pc := 48) (As := []) mv_X1_forgetPast ml_X11_113 (c1_forgetPast hc3) (ca_39 hc3) rfl rfl (Nat.le_of_ble_eq_true rfl) (Nat.le_of_ble_eq_true rfl) (Nat.le_of_ble_eq_true rfl) (Nat.le_of_ble_eq_true rfl) (Nat.le_of_ble_eq_true rfl) dX11_back_48 ?_
        refine r_aload_n (pc := 51) 0 dX11_back_51 rfl ?_
        refine r_iconst (pc := 52) (0) dX11_back_52 rfl ?_
        refine r_dV (pc := 53) (As := [_]) mv_X11_allowed ml_X11_120 (c11_allowed hc4 _) (nl_is hc4) rfl rfl (Nat.le_of_ble_eq_true rfl) (Nat.le_of_ble_eq_true rfl) (Nat.le_of_ble_eq_true rfl) (Nat.le_of_ble_eq_true rfl) (Nat.le_of_ble_eq_true rfl) dX11_back_53 ?_
        refine r_iret (pc := 56) rfl ?_ (Nat.le_of_ble_eq_true rfl) (Nat.le_of_ble_eq_true rfl) dX11_back_56
        have htl := hr4.tell 0 (t_p (by decide))
        rw [toH_p (by decide)] at htl
        rw [settledM, if_neg (by decide)]
        exact ⟨rfl, htl, (f4.kp (fun a k z => by rcases z with z | z; · have := cf_far z; omega
                                                 · have := ps_far z; omega)).tr (kp_wI (by omega))⟩
    · refine no (fun z => ?_)
      have := ((in_le (b := 1) (by decide)).mp z).2
      refine c_6 ((fa_lt _ _).mpr ?_)
      have h9 := (fa_le _ _).mp this
      exact Int.lt_of_le_of_lt h9 (by decide)
end OWN11
