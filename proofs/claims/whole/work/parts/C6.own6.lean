/-! the class's own methods: small changes -/
section OWN6
variable {E : En} {h h1 h2 : Hp} {x : Nat} {r r' : Nat → Int32} {μ μ' : Mu} {S : Nat → Nat → Prop}
theorem CR.th (hr : CR E h x μ) : CR E h x (up2 μ 0 0 0) := hr.mu (fun o j hq => up2_ne (by unfold obI at hq; omega))
theorem RwOK.cgB {nc ns : Nat} (hr : RwOK r nc ns) (hh : ∀ j, j < 41 → j ≠ 2 → j ≠ 3 → j ≠ 4 → r' j = r j) : RwOK r' nc ns :=
  hr.cg (fun j hj => hh j (by omega) (by omega) (by omega) (by omega)) (fun k hk => (hr.2.2.2.2.1 k hk).cg (hh _ (by omega) (by omega) (by omega) (by omega)) (hh _ (by omega) (by omega) (by omega) (by omega))) (fun k hk => by rw [hh _ (by omega) (by omega) (by omega) (by omega)]; exact hr.2.2.2.2.2.1 k hk) (fun k hk => by rw [hh _ (by omega) (by omega) (by omega) (by omega)]; exact hr.2.2.2.2.2.2.1 k hk) (fun k hk => by rw [hh _ (by omega) (by omega) (by omega) (by omega)]; exact hr.2.2.2.2.2.2.2.1 k hk) (by rw [hh _ (by omega) (by omega) (by omega) (by omega)]; exact hr.2.2.2.2.2.2.2.2.1)
theorem Gn.cgB (hg : Gn r) (hh : ∀ j, 8 ≤ j → j < 38 → r' j = r j) : Gn r' := fun k hk e => by
  rw [hh _ (by omega) (by omega)] at e ⊢
  exact hg k hk e
/-- a row changed, but not what was kept -/
theorem CR.row0 {nc ns nl sg : Nat} (hr : CR E h x μ) (f : Fr S h h1) (q : ∀ a k, S a k → scP x a k ∨ ptW (x + 3) a k) (hv : PtV h1 (x + 3) (μ' 2)) (hg : RwG (μ' 2) nc ns nl sg) (h3 : μ' 2 3 = μ 2 3) (h50 : ∀ j, 50 ≤ j → j < 5450 → μ' 2 j = μ 2 j) (h26 : μ' 2 6 = μ 2 6) (h27 : μ' 2 7 = μ 2 7) (em : ∀ o j, obI o j → o ≠ 2 → μ' o j = μ o j) : CR E h1 x μ' := by
  have ps : PsR h1 x μ' := (hr.2.2.1.fr f (fun i k hi z => by
    rcases q _ _ z with z | z
    · have := sc_far z; omega
    · unfold ptW at z; omega)).mu (em _ _ (by unfold obI; omega) (by omega)) (fun i _ => em _ _ (by unfold obI; omega) (by omega)) (fun j hj => em _ _ (by unfold obI; omega) (by omega)) h26 h27
  exact hr.row f (fun a k z => (q a k z).imp id Or.inl) hv ⟨hg, ps.2⟩ ps.1 h3 h50 (fun o j ho h2 _ _ _ => em o j ho h2)
/-- what was kept is forgotten -/
theorem CR.past0 (hr : CR E h x μ) : CR E (wI h (x + 40) 3 0) x (up2 μ 0 8 0) := by
  obtain ⟨nc, ns, nl, sg, hg⟩ := hr.gm
  have f : Fr (psW (x + 40)) h (wI h (x + 40) 3 0) := Fr.wI (by unfold psW; omega)
  have e2 : up2 μ 0 8 0 2 = μ 2 := by funext j; exact up2_ne (by omega)
  have eu : uF (up2 μ 0 8 0) = 0 := by unfold uF; rw [up2_at]; rfl
  obtain ⟨nw, hv⟩ := hr.2.2.1.1
  refine hr.row f (fun a k z => Or.inr (Or.inr z)) (by rw [e2]; exact hr.2.1.1.fr f (fun i k hi z => by have := ps_far z; omega)) ⟨by rw [e2]; exact hg.1, ⟨by rw [eu, up2_at]; rfl, by omega⟩, fun i hi => by omega⟩ ⟨nw, ?_⟩ (by rw [e2]) (fun j _ _ => by rw [e2]) (fun o j _ h2 h5 h6 h8 => up2_ne h8)
  rw [eu]
  exact ⟨by rw [hI_ne (by omega)]; exact hv.1, by rw [hI_at]; rfl, hv.2.2.1, by omega, fun i hi => by omega⟩
theorem kp_ro (f : Fr (roS x) h h1) : Kp x h h1 := f.kp (fun a k z => by have := ro_sc z; rcases this with q | q | q | q | q | q | q <;> first | (unfold roS foS siS akS at z; omega) | omega)
theorem c11_force {nc ns nl sg : Nat} (hr : CR E h x μ) (hg : GM μ nc ns nl sg) (law : Int32) : Ct E 1 0 0 mX11_force [.ref x, .int law] h (pCr E h x (.int (forceM μ nl law).1) (forceM μ nl law).2) := by
  have hc := hr.1
  have hv := hr.2.1.1
  have hp := cs_pt3 hc
  have h3 := hg.1.2.1.1
  have hl6 := hg.1.2.1.2
  have th2 : up2 μ 0 0 0 2 = μ 2 := by funext j; exact up2_ne (by omega)
  refine Ct.of (by decide +kernel) (Nat.le_of_ble_eq_true rfl) ?_
  have go : isLawB nl law = true → Wp E mX11_force (Rm 1 0 0) (Qm E (pCr E h x (.int (forceM μ nl law).1) (forceM μ nl law).2) 0 0) 23 [(0, .ref x), (1, .int law)] [] h 0 0 := by
    intro hlb
    rw [forceM, if_pos hlb]
    refine r_aload_n (pc := 23) 0 dX11_force_23 rfl ?_
    refine r_getR (pc := 24) fl_X11_15 (nl_is hc) (nl_f0 hc) dX11_force_24 ?_
    refine r_getI (pc := 27) fl_X11_239 (pt_is (cs_pt3 hc)) dX11_force_27 ?_
    refine r_istore_n (pc := 30) (lv' := [(0, _), (1, _), (2, _)]) dX11_force_30 (Nat.le_of_ble_eq_true rfl) rfl ?_
    rw [pv_4 hv]
    refine r_aload_n (pc := 31) 0 dX11_force_31 rfl ?_
    refine r_getR (pc := 32) fl_X11_15 (nl_is hc) (nl_f0 hc) dX11_force_32 ?_
    refine r_iload_n (pc := 35) 1 dX11_force_35 rfl ?_
    refine r_putI (pc := 36) fp_X11_239 (pt_is (cs_pt3 hc)) dX11_force_36 ?_
    have f : Fr (ptW (x + 3)) h (wI h (x + 3) 13 law) := Fr.wI (by unfold ptW; omega)
    have e2 : up2 (up2 μ 0 0 0) 2 4 law 2 = va_up (μ 2) 4 law := by rw [up2_same, th2]
    have hr1 : CR E (wI h (x + 3) 13 law) x (up2 (up2 μ 0 0 0) 2 4 law) := by
      refine hr.th.row0 (nc := nc) (ns := ns) (nl := nl) (sg := sg) f (fun a k z => Or.inr z) (by rw [e2]; exact hv.c4 law) ?_ (by rw [e2, th2, va_up_ne _ _ (by decide)]) (fun j h1 _ => by rw [e2, th2, va_up_ne _ _ (by omega)]) (by rw [e2, th2, va_up_ne _ _ (by decide)]) (by rw [e2, th2, va_up_ne _ _ (by decide)]) (fun o j _ ho => up2_ne (by omega))
      rw [e2]
      refine ⟨hg.1.1.cgB (fun j _ _ _ h4 => va_up_ne _ _ h4), by rw [va_up_ne _ _ (by decide)]; exact hg.1.2.1, by rw [va_up_ne _ _ (by decide)]; exact hg.1.2.2.1, ?_, hg.1.2.2.2.2.cgB (fun j _ _ => va_up_ne _ _ (by omega))⟩
      rw [va_up_self]
      unfold isLawB at hlb
      rw [Bool.or_eq_true] at hlb
      rcases hlb with z | z
      · exact Or.inl (of_decide_eq_true z)
      · obtain ⟨k, hk, ek⟩ := inN_of (by omega) z
        exact Or.inr ⟨k, hk, ek⟩
    have hc1 := hr1.1
    refine r_aload_n (pc := 39) 0 dX11_force_39 rfl ?_
    refine r_iload_n (pc := 40) 2 dX11_force_40 rfl ?_
    refine r_dV (pc := 41) (As := [_]) mv_X11_allowed ml_X11_120 (c11_allowed hc1 _) (nl_is hc1) rfl rfl (Nat.le_of_ble_eq_true rfl) (Nat.le_of_ble_eq_true rfl) (Nat.le_of_ble_eq_true rfl) (Nat.le_of_ble_eq_true rfl) (Nat.le_of_ble_eq_true rfl) dX11_force_41 ?_
    refine r_iret (pc := 44) rfl ?_ (Nat.le_of_ble_eq_true rfl) (Nat.le_of_ble_eq_true rfl) dX11_force_44
    refine ⟨rfl, ?_, (kp_wI (by omega)).tr (kp_wI (by omega))⟩
    have ht := hr1.tell 0 (t_p (by decide))
    rw [toH_p (by decide)] at ht
    exact ht
  refine r_iload_n (pc := 0) 1 dX11_force_0 rfl ?_
  refine r_iconst (pc := 1) (-1) dX11_force_1 rfl ?_
  refine r_icmp_eq (pc := 2) (tgt := 23) dX11_force_2 (by decide) (fun c_2 => ?_) (fun c_2 => ?_)
  · exact go (by unfold isLawB; rw [decide_eq_true c_2]; rfl)
  · refine r_aload_n (pc := 5) 0 dX11_force_5 rfl ?_
    refine r_getR (pc := 6) fl_X11_15 (nl_is hc) (nl_f0 hc) dX11_force_6 ?_
    refine r_iload_n (pc := 9) 1 dX11_force_9 rfl ?_
    refine r_dV (pc := 10) (As := [_]) mv_X5_hasLaw ml_X11_236 (c5_hasLaw hp hv h3 hl6 _) (pt_is (cs_pt3 hc)) rfl rfl (Nat.le_of_ble_eq_true rfl) (Nat.le_of_ble_eq_true rfl) (Nat.le_of_ble_eq_true rfl) (Nat.le_of_ble_eq_true rfl) (Nat.le_of_ble_eq_true rfl) dX11_force_10 ?_
    refine r_if_ne (pc := 13) (tgt := 23) dX11_force_13 (by decide) (fun c_13 => ?_) (fun c_13 => ?_)
    · exact go (by unfold isLawB; rw [bI_n0.mp c_13, Bool.or_true])
    · refine r_aload_n (pc := 16) 0 dX11_force_16 rfl ?_
      refine r_bipush (pc := 17) (-2) dX11_force_17 rfl ?_
      refine r_dV (pc := 19) (As := [_]) mv_X11_refused ml_X11_106 (c11_refused hc (-2) (j := 2) (by decide) (by decide) (by decide)) (nl_is hc) rfl rfl (Nat.le_of_ble_eq_true rfl) (Nat.le_of_ble_eq_true rfl) (Nat.le_of_ble_eq_true rfl) (Nat.le_of_ble_eq_true rfl) (Nat.le_of_ble_eq_true rfl) dX11_force_19 ?_
      refine r_iret (pc := 22) rfl ?_ (Nat.le_of_ble_eq_true rfl) (Nat.le_of_ble_eq_true rfl) dX11_force_22
      rw [forceM, if_neg (by unfold isLawB; rw [bI_0.mp c_13, decide_eq_false c_2]; decide)]
      exact ⟨rfl, hr.th.tell _ t_2, kp_to⟩
theorem c11_seen {nc ns nl sg : Nat} (hr : CR E h x μ) (hg : GM μ nc ns nl sg) (d : Int32) : Ct E 1 0 0 mX11_seen [.ref x, .int d] h (pCr E h x (.int (seenM μ sg d).1) (seenM μ sg d).2) := by
  have hc := hr.1
  have hv := hr.2.1.1
  have hp := cs_pt3 hc
  have hsg := hg.1.2.2.1.1
  have h8 := hg.1.2.2.1.2
  have th2 : up2 μ 0 0 0 2 = μ 2 := by funext j; exact up2_ne (by omega)
  refine Ct.of (by decide +kernel) (Nat.le_of_ble_eq_true rfl) ?_
  have no : ¬ inN d 10 = true → Wp E mX11_seen (Rm 1 0 0) (Qm E (pCr E h x (.int (seenM μ sg d).1) (seenM μ sg d).2) 0 0) 10 [(0, .ref x), (1, .int d)] [] h 0 0 := by
    intro hno
    refine r_aload_n (pc := 10) 0 dX11_seen_10 rfl ?_
    refine r_iconst (pc := 11) (-1) dX11_seen_11 rfl ?_
    refine r_dV (pc := 12) (As := [_]) mv_X11_refused ml_X11_106 (c11_refused hc (-1) (j := 1) (by decide) (by decide) (by decide)) (nl_is hc) rfl rfl (Nat.le_of_ble_eq_true rfl) (Nat.le_of_ble_eq_true rfl) (Nat.le_of_ble_eq_true rfl) (Nat.le_of_ble_eq_true rfl) (Nat.le_of_ble_eq_true rfl) dX11_seen_12 ?_
    refine r_iret (pc := 15) rfl ?_ (Nat.le_of_ble_eq_true rfl) (Nat.le_of_ble_eq_true rfl) dX11_seen_15
    rw [seenM, if_neg hno]
    exact ⟨rfl, hr.th.tell _ t_1, kp_to⟩
  refine r_iload_n (pc := 0) 1 dX11_seen_0 rfl ?_
  refine r_if_lt (pc := 1) (tgt := 10) dX11_seen_1 (by decide) (fun c_1 => ?_) (fun c_1 => ?_)
  · exact no (fun z => absurd ((in_le (b := 9) (by decide)).mp z).1 (Int32.not_le.mpr c_1))
  · refine r_iload_n (pc := 4) 1 dX11_seen_4 rfl ?_
    refine r_bipush (pc := 5) (10) dX11_seen_5 rfl ?_
    refine r_icmp_lt (pc := 7) (tgt := 16) dX11_seen_7 (by decide) (fun c_7 => ?_) (fun c_7 => ?_)
    · have hin : inN d 10 = true := by
        unfold inN
        refine decide_eq_true ⟨?_, ?_⟩
        · have := (fa_le 0 d).mp (Int32.not_lt.mp c_1); exact this
        · have := (fa_lt d 10).mp c_7; exact this
      rw [seenM, if_pos hin]
      refine r_aload_n (pc := 16) 0 dX11_seen_16 rfl ?_
      refine r_getR (pc := 17) fl_X11_15 (nl_is hc) (nl_f0 hc) dX11_seen_17 ?_
      refine r_getI (pc := 20) fl_X11_262 (pt_is (cs_pt3 hc)) dX11_seen_20 ?_
      refine r_bipush (pc := 23) (8) dX11_seen_23 rfl ?_
      rw [pv_2 hv, hsg]
      refine r_icmp_lt (pc := 25) (tgt := 35) dX11_seen_25 (by decide) (fun c_25 => ?_) (fun c_25 => ?_)
      · have hlt : sg < 8 := by
          rcases Nat.lt_or_ge sg 8 with z | z
          · exact z
          · exact absurd c_25 (by rw [show sg = 8 by omega]; decide)
        rw [if_neg (by omega)]
        refine r_aload_n (pc := 35) 0 dX11_seen_35 rfl ?_
        refine r_getR (pc := 36) fl_X11_15 (nl_is hc) (nl_f0 hc) dX11_seen_36 ?_
        refine r_getR (pc := 39) fl_X11_265 (pt_is (cs_pt3 hc)) (pt_f9 (cs_pt3 hc)) dX11_seen_39 ?_
        refine r_aload_n (pc := 42) 0 dX11_seen_42 rfl ?_
        refine r_getR (pc := 43) fl_X11_15 (nl_is hc) (nl_f0 hc) dX11_seen_43 ?_
        refine r_getI (pc := 46) fl_X11_262 (pt_is (cs_pt3 hc)) dX11_seen_46 ?_
        rw [pv_2 hv, hsg]
        refine r_iload_n (pc := 49) 1 dX11_seen_49 rfl ?_
        refine r_iast (pc := 50) (j := sg) (pt_r9 (cs_pt3 hc)) rfl (by omega) (by decide) dX11_seen_50 ?_
        refine r_aload_n (pc := 51) 0 dX11_seen_51 rfl ?_
        refine r_getR (pc := 52) fl_X11_15 (nl_is hc) (nl_f0 hc) dX11_seen_52 ?_
        refine r_dup (pc := 55) dX11_seen_55 rfl ?_
        refine r_getI (pc := 56) fl_X11_262 (pt_is (cs_pt3 hc)) dX11_seen_56 ?_
        rw [hI_ne (by omega), pv_2 hv, hsg]
        refine r_iconst (pc := 59) (1) dX11_seen_59 rfl ?_
        refine r_iadd (pc := 60) dX11_seen_60 ?_
        refine r_putI (pc := 61) fp_X11_262 (pt_is (cs_pt3 hc)) dX11_seen_61 ?_
        rw [show nI sg + 1 = nI (sg + 1) from nI_1 sg]
        have e2 : up2 (up2 (up2 μ 0 0 0) 2 (41 + sg) d) 2 2 (nI (sg + 1)) 2 = va_up (va_up (μ 2) (41 + sg) d) 2 (nI (sg + 1)) := by rw [up2_same, up2_same, th2]
        have f : Fr (ptW (x + 3)) h (wI (wI h (x + 10) sg d) (x + 3) 8 (nI (sg + 1))) := (Fr.wI (by unfold ptW; omega)).tr (Fr.wI (by unfold ptW; omega))
        have hv1 : PtV (wI (wI h (x + 10) sg d) (x + 3) 8 (nI (sg + 1))) (x + 3) (va_up (va_up (μ 2) (41 + sg) d) 2 (nI (sg + 1))) := PtV.c2 (hv.se hlt d) _
        have hr1 : CR E (wI (wI h (x + 10) sg d) (x + 3) 8 (nI (sg + 1))) x (up2 (up2 (up2 μ 0 0 0) 2 (41 + sg) d) 2 2 (nI (sg + 1))) := by
          have nn : ∀ {j : Nat}, j ≠ 2 → (j < 41 ∨ 49 ≤ j) → va_up (va_up (μ 2) (41 + sg) d) 2 (nI (sg + 1)) j = μ 2 j := fun h1 h2 => by rw [va_up_ne _ _ h1, va_up_ne _ _ (by omega)]
          refine hr.th.row0 (nc := nc) (ns := ns) (nl := nl) (sg := sg + 1) f (fun a k z => Or.inr z) (by rw [e2]; exact hv1) ?_ (by rw [e2, th2, nn (by decide) (by omega)]) (fun j h1 _ => by rw [e2, th2, nn (by omega) (by omega)]) (by rw [e2, th2, nn (by decide) (by omega)]) (by rw [e2, th2, nn (by decide) (by omega)]) (fun o j _ ho => by rw [up2_ne (by omega), up2_ne (by omega)])
          rw [e2]
          refine ⟨hg.1.1.cgB (fun j h1 h2 _ _ => nn h2 (by omega)), by rw [nn (by decide) (by omega)]; exact hg.1.2.1, ⟨va_up_self _ _ _, by omega⟩, by rw [nn (by decide) (by omega)]; exact hg.1.2.2.2.1, hg.1.2.2.2.2.cgB (fun j _ _ => nn (by omega) (by omega))⟩
        have ekp : Kp x h (wI (wI h (x + 10) sg d) (x + 3) 8 (nI (sg + 1))) := f.kp (fun a k z => by unfold ptW at z; omega)
        generalize wI (wI h (x + 10) sg d) (x + 3) 8 (nI (sg + 1)) = h3 at hr1 hv1 ekp ⊢
        have hc1 := hr1.1
        refine r_aload_n (pc := 64) 0 dX11_seen_64 rfl ?_
        refine r_aload_n (pc := 65) 0 dX11_seen_65 rfl ?_
        refine r_getR (pc := 66) fl_X11_15 (nl_is hc1) (nl_f0 hc1) dX11_seen_66 ?_
        refine r_getI (pc := 69) fl_X11_262 (pt_is (cs_pt3 hc1)) dX11_seen_69 ?_
        rw [pv_2 hv1, va_up_self]
        refine r_dV (pc := 72) (As := [_]) mv_X11_allowed ml_X11_120 (c11_allowed hc1 _) (nl_is hc1) rfl rfl (Nat.le_of_ble_eq_true rfl) (Nat.le_of_ble_eq_true rfl) (Nat.le_of_ble_eq_true rfl) (Nat.le_of_ble_eq_true rfl) (Nat.le_of_ble_eq_true rfl) dX11_seen_72 ?_
        refine r_iret (pc := 75) rfl ?_ (Nat.le_of_ble_eq_true rfl) (Nat.le_of_ble_eq_true rfl) dX11_seen_75
        have ht := hr1.tell (nI (sg + 1)) (t_p (nI_pos' (by omega)))
        rw [toH_p (Int32.not_lt.mpr (nI_pos' (by omega)))] at ht
        exact ⟨rfl, ht, ekp.tr (kp_wI (by omega))⟩
      · have h88 : sg = 8 := by
          rcases Nat.lt_or_ge sg 8 with z | z
          · exact absurd (nI_lt (b := 8) z (by decide)) c_25
          · omega
        rw [if_pos h88]
        refine r_aload_n (pc := 28) 0 dX11_seen_28 rfl ?_
        refine r_bipush (pc := 29) (-5) dX11_seen_29 rfl ?_
        refine r_dV (pc := 31) (As := [_]) mv_X11_refused ml_X11_106 (c11_refused hc (-5) (j := 5) (by decide) (by decide) (by decide)) (nl_is hc) rfl rfl (Nat.le_of_ble_eq_true rfl) (Nat.le_of_ble_eq_true rfl) (Nat.le_of_ble_eq_true rfl) (Nat.le_of_ble_eq_true rfl) (Nat.le_of_ble_eq_true rfl) dX11_seen_31 ?_
        refine r_iret (pc := 34) rfl ?_ (Nat.le_of_ble_eq_true rfl) (Nat.le_of_ble_eq_true rfl) dX11_seen_34
        exact ⟨rfl, hr.th.tell _ t_5, kp_to⟩
    · refine no (fun z => ?_)
      have := ((in_le (b := 9) (by decide)).mp z).2
      refine c_7 ((fa_lt _ _).mpr ?_)
      have h9 := (fa_le _ _).mp this
      exact Int.lt_of_le_of_lt h9 (by decide)
end OWN6
