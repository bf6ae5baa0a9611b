/-! the class's own methods: years -/
section OWN12
variable {E : En} {h h1 h2 : Hp} {x : Nat} {μ μ' : Mu} {S : Nat → Nat → Prop}
/-- what is behind the years, replaced -/
theorem CR.beh (hr : CR E h x μ) (f : Fr S h h1) (q : ∀ a k, S a k → scP x a k ∨ cfS (x + 14) a k) (hb : BhR h1 x μ') (em : ∀ o j, obI o j → o ≠ 33 → ¬ (o = 0 ∧ j = 59) → μ' o j = μ o j) : CR E h1 x μ' := by
  obtain ⟨hc, hp, hs, ⟨hi, hd⟩, ht, hco, -, hw, h20⟩ := hr
  have fa : ∀ {a k : Nat}, S a k → ¬ x + 135 < a ∧ ¬ (x + 3 ≤ a ∧ a ≤ x + 13) ∧ ¬ (x + 24 ≤ a ∧ a ≤ x + 25) ∧ ¬ a = x ∧ ¬ (x + 40 ≤ a ∧ a ≤ x + 58) ∧ ¬ a = x + 101 ∧ ¬ a = x + 33 ∧ ¬ (a = x + 30 ∧ k = 0) := fun z => by
    rcases q _ _ z with z | z
    · have := sc_far z; omega
    · have := cf_far z; omega
  have eo : ∀ o, (o = 1 ∨ o = 2 ∨ o = 9) → μ' o = μ o := fun o ho => by funext j; exact em o j (by unfold obI; omega) (by omega) (by omega)
  have cs : ∀ a k, csP x a k → ¬ S a k := fun a k hq z => by
    rcases q _ _ z with z | z
    · exact csP_sc hq z
    · exact csP_cf (Or.inr (Or.inl rfl)) hq z
  refine ⟨hc.fr f cs, by rw [eo 2 (by omega)]; exact hp.fr f (fun i k hi z => by have := fa z; omega) (fun t nn i k _ ht hi z => by have := fa z; omega), (hs.fr f (fun i k hi z => by have := fa z; omega)).mu (em _ _ (by unfold obI; omega) (by omega) (by omega)) (fun i _ => em _ _ (by unfold obI; omega) (by omega) (by omega)) (fun j hj => em _ _ (by unfold obI; omega) (by omega) (by omega)) (em _ _ (by unfold obI; omega) (by omega) (by omega)) (em _ _ (by unfold obI; omega) (by omega) (by omega)), ⟨fun i h2 => ((hi i h2).fr f (fun k z => by have := fa z; omega) (fun a k ha z => (fa z).1 ha)).mu h2 (em _ _ (by unfold obI; omega) (by omega) (by omega)) (fun j _ => em _ _ (by unfold obI; omega) (by omega) (by omega)), fun p e1 => ?_⟩, (ht.fr f (fun z => by have := fa z; omega) (fun k z => by have := fa z; omega)).mu (em _ _ (by unfold obI; omega) (by omega) (by omega)) (eo 9 (by omega)), (hco.fr f (fun k _ _ z => by have := fa z; omega) (fun k z => by have := fa z; omega)).mu ⟨em _ _ (by unfold obI; omega) (by omega) (by omega), em _ _ (by unfold obI; omega) (by omega) (by omega), em _ _ (by unfold obI; omega) (by omega) (by omega), em _ _ (by unfold obI; omega) (by omega) (by omega)⟩ (eo 1 (by omega)), hb, hw.fr f (fun k z => by have := fa z; omega) (fun z => by have := fa z; omega), (em _ _ (by unfold obI; omega) (by omega) (by omega)).trans h20⟩
  rw [f.R (fun z => by have := fa z; omega)] at e1 ⊢
  exact hd p e1
theorem c11_years {fo : Option (List Cl)} {nc ns nl sg : Nat} {lw : Option Nat} (hr : CR E h x μ) (hg : GM μ nc ns nl sg) (hL : Lv E h x (μ 2) nc ns nl lw fo) (seed n : Int32) : Ct E 5 0 0 mX11_years [.ref x, .int seed, .int n] h (pCr E h x (.int (yearsV (μ 2) fo nc seed n)) (yearsM (μ 2) fo nc seed n μ)) := by
  obtain ⟨hc, hv, hrw, ⟨hnl, hl6⟩, hlw, hfo⟩ := hL
  have hn := hrw.1
  have h6 := hrw.2.1
  have hp3 := cs_pt3 hc
  have hp14 := cs_pt14 hc
  have hlaw : ∀ i, i < 6 → ∀ t, hR h (x + 3 + 9) i = some t → isA E h t 10 := by
    obtain ⟨-, a, b, c, d, -, hl⟩ := hr.2.1
    exact fun i hi t ht => (hl.2 i hi t ht).2
  refine Ct.of (by decide +kernel) (Nat.le_of_ble_eq_true rfl) ?_
  have no : ¬ (inN seed 1000001 = true ∧ inN n 61 = true ∧ ¬ n = 0) → Wp E mX11_years (Rm 5 0 0) (Qm E (pCr E h x (.int (yearsV (μ 2) fo nc seed n)) (yearsM (μ 2) fo nc seed n μ)) 0 0) 22 [(0, .ref x), (1, .int seed), (2, .int n)] [] h 0 0 := by
    intro hno
    have e : yearsOK nc seed n = -1 := by unfold yearsOK; rw [if_neg hno]
    refine r_aload_n (pc := 22) 0 dX11_years_22 rfl ?_
    refine r_iconst (pc := 23) (-1) dX11_years_23 rfl ?_
    refine r_dV (pc := 24) (As := [_]) mv_X11_refused ml_X11_106 (c11_refused hc (-1) (j := 1) (by decide) (by decide) (by decide)) (nl_is hc) rfl rfl (Nat.le_of_ble_eq_true rfl) (Nat.le_of_ble_eq_true rfl) (Nat.le_of_ble_eq_true rfl) (Nat.le_of_ble_eq_true rfl) (Nat.le_of_ble_eq_true rfl) dX11_years_24 ?_
    refine r_iret (pc := 27) rfl ?_ (Nat.le_of_ble_eq_true rfl) (Nat.le_of_ble_eq_true rfl) dX11_years_27
    rw [yearsV, yearsM, e, if_neg (by decide), if_neg (by decide)]
    exact ⟨rfl, hr.tell _ t_1, kp_to⟩
  refine r_iload_n (pc := 0) 1 dX11_years_0 rfl ?_
  refine r_if_lt (pc := 1) (tgt := 22) dX11_years_1 (by decide) (fun c_1 => ?_) (fun c_1 => ?_)
  · exact no (fun z => absurd ((in_le (b := 1000000) (by decide)).mp z.1).1 (Int32.not_le.mpr c_1))
  · refine r_iload_n (pc := 4) 1 dX11_years_4 rfl ?_
    refine r_ldc_w (pc := 5) cs_X11_314 dX11_years_5 ?_
    refine r_icmp_gt (pc := 8) (tgt := 22) dX11_years_8 (by decide) (fun c_8 => ?_) (fun c_8 => ?_)
    · exact no (fun z => absurd ((in_le (b := 1000000) (by decide)).mp z.1).2 (Int32.not_le.mpr c_8))
    · refine r_iload_n (pc := 11) 2 dX11_years_11 rfl ?_
      refine r_iconst (pc := 12) (1) dX11_years_12 rfl ?_
      refine r_icmp_lt (pc := 13) (tgt := 22) dX11_years_13 (by decide) (fun c_13 => ?_) (fun c_13 => ?_)
      · refine no (fun z => z.2.2 ?_)
        obtain ⟨q, hq, rfl⟩ := inN_of (by decide) z.2.1
        rcases Nat.eq_zero_or_pos q with e | e
        · rw [e]; rfl
        · exact absurd c_13 (Int32.not_lt.mpr (nI_le (a := 1) e (by omega)))
      · refine r_iload_n (pc := 16) 2 dX11_years_16 rfl ?_
        refine r_bipush (pc := 17) (60) dX11_years_17 rfl ?_
        refine r_icmp_le (pc := 19) (tgt := 28) dX11_years_19 (by decide) (fun c_19 => ?_) (fun c_19 => ?_)
        · have hs1 : inN seed 1000001 = true := (in_le (b := 1000000) (by decide)).mpr ⟨Int32.not_lt.mp c_1, Int32.not_lt.mp c_8⟩
          have hn1 : inN n 61 = true := (in_le (b := 60) (by decide)).mpr ⟨Int32.le_trans (by decide) (Int32.not_lt.mp c_13), c_19⟩
          have hn0 : ¬ n = 0 := fun z => by rw [z] at c_13; exact c_13 (by decide)
          obtain ⟨s, hs, rfl⟩ := inN_of (by decide) hs1
          obtain ⟨q, hq, rfl⟩ := inN_of (by decide) hn1
          refine r_aload_n (pc := 28) 0 dX11_years_28 rfl ?_
          refine r_getR (pc := 29) fl_X11_15 (nl_is hc) (nl_f0 hc) dX11_years_29 ?_
          refine r_getI (pc := 32) fl_X11_110 (pt_is (cs_pt3 hc)) dX11_years_32 ?_
          rw [pv_0 hv, hn]
          refine r_if_ne (pc := 35) (tgt := 45) dX11_years_35 (by decide) (fun c_35 => ?_) (fun c_35 => ?_)
          · have hnc : ¬ nc = 0 := fun z => c_35 (by rw [z]; rfl)
            have e : yearsOK nc (nI s) (nI q) = 0 := by unfold yearsOK; rw [if_pos ⟨hs1, hn1, hn0⟩, if_neg hnc]
            rw [yearsV, yearsM, e, if_pos rfl, if_pos rfl]
            have eT : yearsT (μ 2) fo nc (nI s) (nI q) = yrY fo nc (μ 2, (nI s).toInt64, 0) q := by unfold yearsT; rw [nI_clamp (by omega)]
            rw [eT]
            obtain ⟨D, hD, eD⟩ := yrY_d (fo := fo) h6 (t := ((μ 2, (nI s).toInt64, 0) : Yr)) rfl q
            refine r_aload_n (pc := 45) 0 dX11_years_45 rfl ?_
            refine r_getR (pc := 46) fl_X11_25 (nl_is hc) (nl_f2 hc) dX11_years_46 ?_
            refine r_aload_n (pc := 49) 0 dX11_years_49 rfl ?_
            refine r_getR (pc := 50) fl_X11_15 (nl_is hc) (nl_f0 hc) dX11_years_50 ?_
            refine r_callV (pc := 53) (As := [_]) mv_X5_copyFrom ml_X11_315 (c5_copyFrom hp14 hp3 hv (by omega) hlaw) (pt_is (cs_pt14 hc)) rfl rfl (Nat.le_of_ble_eq_true rfl) (Nat.le_of_ble_eq_true rfl) (Nat.le_of_ble_eq_true rfl) (Nat.le_of_ble_eq_true rfl) (Nat.le_of_ble_eq_true rfl) dX11_years_53 (fun r h3 hp => ?_)
            obtain ⟨rfl, f3, hv3, hR3⟩ := hp
            show Wp E mX11_years _ _ _ _ [] _ 0 0
            have hc3 := hc.fr f3 (fun a k hq => csP_cf (Or.inr (Or.inl rfl)) hq)
            have hlw3 : LwA h3 (x + 14) (μ 2) nl lw := ⟨fun z => by
              obtain ⟨w, hw, ew⟩ := inN_of (by omega) z
              have := hlw.1 z
              rw [ew, nI_clamp (by omega)] at this ⊢
              exact (hR3 w (by omega)).trans this, hlw.2⟩
            have hfo3 : FoL E h3 x fo lw := hfo.far f3 (fun a k ha z => by have := cf_far z; omega)
            refine r_aload_n (pc := 56) 0 dX11_years_56 rfl ?_
            refine r_aload_n (pc := 57) 0 dX11_years_57 rfl ?_
            refine r_getR (pc := 58) fl_X11_74 (nl_is hc3) (nl_f8 hc3) dX11_years_58 ?_
            refine r_aload_n (pc := 61) 0 dX11_years_61 rfl ?_
            refine r_getR (pc := 62) fl_X11_25 (nl_is hc3) (nl_f2 hc3) dX11_years_62 ?_
            refine r_iload_n (pc := 65) 1 dX11_years_65 rfl ?_
            refine r_iload_n (pc := 66) 2 dX11_years_66 rfl ?_
            refine r_callV (pc := 67) (As := [_, _, _]) mv_X2_drawYears ml_X11_318 (c2_drawYears hc3 (Or.inr rfl) hv3 hrw hnl hl6 hlw3 hfo3 (by omega) (by omega)) (ca_90 hc3) rfl rfl (Nat.le_of_ble_eq_true rfl) (Nat.le_of_ble_eq_true rfl) (Nat.le_of_ble_eq_true rfl) (Nat.le_of_ble_eq_true rfl) (Nat.le_of_ble_eq_true rfl) dX11_years_67 (fun r h4 hp => ?_)
            obtain ⟨rfl, f4, hv4, hrw4⟩ := hp
            show Wp E mX11_years _ _ _ _ [.int _, .ref x] _ 0 0
            generalize hT : yrY fo nc (μ 2, (nI s).toInt64, 0) q = T at eD hv4 hrw4 ⊢
            have f34 : Fr (fun a k => scP x a k ∨ cfS (x + 14) a k) h h4 := (f3.mono (fun a k z => (Or.inr z : scP x a k ∨ cfS (x + 14) a k))).tr (f4.mono (fun a k z => z.elim (fun w => (Or.inl (ro_sc (fo_ro w)) : scP x a k ∨ cfS (x + 14) a k)) (fun w => Or.inr (Or.inl w))))
            have hr4 : CR E h4 x (drN (up2 μ 0 59 (nI nc)) T.1 nc) := by
              refine hr.beh f34 (fun a k z => z) ?_ (fun o j _ h33 h59 => by rw [drN_ne h33, up2_ne h59])
              refine ⟨T.1, nc, hv4, hrw4.1, h6, Or.inl (by rw [drN_ne (by decide), up2_at]), fun k hk => ⟨?_, ?_, ?_⟩⟩
              · unfold drN; rw [if_pos ⟨rfl, hk⟩]
              · unfold drN; rw [if_neg (by omega), if_pos ⟨rfl, by omega, by omega⟩, show 6 + k - 6 = k by omega]
                obtain ⟨y, hy, ey⟩ := rw_y hrw4 (show k < 6 by omega)
                rw [ey, bcF_pc y hy, onesN_pc hy 9 (Nat.le_refl _)]
              · unfold drN; rw [if_neg (by omega), if_neg (by omega), if_pos ⟨rfl, by omega, by omega⟩, show 12 + k - 12 = k by omega]
            have ekp : Kp x h h4 := (f3.kp (fun a k z => by have := cf_far z; omega)).tr (f4.kp (fun a k z => by unfold dyS foS akS ptW at z; omega))
            have hc4 := hr4.1
            rw [eD]
            refine r_dV (pc := 70) (As := [_]) mv_X11_allowed ml_X11_120 (c11_allowed hc4 _) (nl_is hc4) rfl rfl (Nat.le_of_ble_eq_true rfl) (Nat.le_of_ble_eq_true rfl) (Nat.le_of_ble_eq_true rfl) (Nat.le_of_ble_eq_true rfl) (Nat.le_of_ble_eq_true rfl) dX11_years_70 ?_
            refine r_iret (pc := 73) rfl ?_ (Nat.le_of_ble_eq_true rfl) (Nat.le_of_ble_eq_true rfl) dX11_years_73
            have htl := hr4.tell (nI D) (t_p (nI_pos' (by omega)))
            rw [toH_p (Int32.not_lt.mpr (nI_pos' (by omega)))] at htl
            exact ⟨rfl, htl, ekp.tr (kp_wI (by omega))⟩
          · have hnc : nc = 0 := (nI_z (by omega)).mp c_35
            have e : yearsOK nc (nI s) (nI q) = -3 := by unfold yearsOK; rw [if_pos ⟨hs1, hn1, hn0⟩, if_pos hnc]
            rw [yearsV, yearsM, e, if_neg (by decide), if_neg (by decide)]
            refine r_aload_n (pc := 38) 0 dX11_years_38 rfl ?_
            refine r_bipush (pc := 39) (-3) dX11_years_39 rfl ?_
            refine r_dV (pc := 41) (As := [_]) mv_X11_refused ml_X11_106 (c11_refused hc (-3) (j := 3) (by decide) (by decide) (by decide)) (nl_is hc) rfl rfl (Nat.le_of_ble_eq_true rfl) (Nat.le_of_ble_eq_true rfl) (Nat.le_of_ble_eq_true rfl) (Nat.le_of_ble_eq_true rfl) (Nat.le_of_ble_eq_true rfl) dX11_years_41 ?_
            refine r_iret (pc := 44) rfl ?_ (Nat.le_of_ble_eq_true rfl) (Nat.le_of_ble_eq_true rfl) dX11_years_44
            exact ⟨rfl, hr.tell _ t_3, kp_to⟩
        · exact no (fun z => absurd ((in_le (b := 60) (by decide)).mp z.2.1).2 c_19)
end OWN12
