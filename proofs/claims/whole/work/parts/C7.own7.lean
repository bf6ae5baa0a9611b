/-! the class's own methods: forget, ship, end, feed -/
section OWN7
variable {E : En} {h h1 h2 : Hp} {x : Nat} {r r' : Nat → Int32} {μ μ' : Mu}
theorem c11_forget {nc ns nl sg : Nat} (hr : CR E h x μ) (hg : GM μ nc ns nl sg) : Ct E 0 0 0 mX11_forget [.ref x] h (pCr E h x (.int (μ 2 2)) (up2 (up2 μ 0 0 0) 2 2 0)) := by
  have hc := hr.1
  have hv := hr.2.1.1
  have th2 := th_2 μ
  refine Ct.of (by decide +kernel) (Nat.le_of_ble_eq_true rfl) ?_
  refine r_aload_n (pc := 0) 0 dX11_forget_0 rfl ?_
  refine r_getR (pc := 1) fl_X11_15 (nl_is hc) (nl_f0 hc) dX11_forget_1 ?_
  refine r_getI (pc := 4) fl_X11_262 (pt_is (cs_pt3 hc)) dX11_forget_4 ?_
  rw [pv_2 hv]
  refine r_istore_n (pc := 7) (lv' := [(0, _), (1, _)]) dX11_forget_7 (Nat.le_of_ble_eq_true rfl) rfl ?_
  refine r_aload_n (pc := 8) 0 dX11_forget_8 rfl ?_
  refine r_getR (pc := 9) fl_X11_15 (nl_is hc) (nl_f0 hc) dX11_forget_9 ?_
  refine r_iconst (pc := 12) (0) dX11_forget_12 rfl ?_
  refine r_putI (pc := 13) fp_X11_262 (pt_is (cs_pt3 hc)) dX11_forget_13 ?_
  refine r_iload_n (pc := 16) 1 dX11_forget_16 rfl ?_
  refine r_iret (pc := 17) rfl ?_ (Nat.le_of_ble_eq_true rfl) (Nat.le_of_ble_eq_true rfl) dX11_forget_17
  have f : Fr (ptW (x + 3)) h (wI h (x + 3) 8 0) := Fr.wI (by unfold ptW; omega)
  have e2 : up2 (up2 μ 0 0 0) 2 2 0 2 = va_up (μ 2) 2 0 := by rw [up2_same, th2]
  refine ⟨rfl, ?_, kp_wI (by omega)⟩
  refine hr.th.row0 (nc := nc) (ns := ns) (nl := nl) (sg := 0) f (fun a k z => Or.inr z) (by rw [e2]; exact hv.c2 0) ?_ (by rw [e2, th2, va_up_ne _ _ (by decide)]) (fun j h1 _ => by rw [e2, th2, va_up_ne _ _ (by omega)]) (by rw [e2, th2, va_up_ne _ _ (by decide)]) (by rw [e2, th2, va_up_ne _ _ (by decide)]) (fun o j _ ho => up2_ne (by omega))
  rw [e2]
  exact ⟨hg.1.1.cgB (fun j _ h2 _ _ => va_up_ne _ _ h2), by rw [va_up_ne _ _ (by decide)]; exact hg.1.2.1, ⟨by rw [va_up_self]; rfl, by omega⟩, by rw [va_up_ne _ _ (by decide)]; exact hg.1.2.2.2.1, hg.1.2.2.2.2.cgB (fun j _ _ => va_up_ne _ _ (by omega))⟩
theorem c11_ship {nc ns nl sg : Nat} (hr : CR E h x μ) (hg : GM μ nc ns nl sg) (d : Int32) : Ct E 1 0 0 mX11_ship [.ref x, .int d] h (pCr E h x (.int (shipM μ ns d).1) (shipM μ ns d).2) := by
  have hc := hr.1
  have hv := hr.2.1.1
  have hp := cs_pt3 hc
  have hns := hg.1.1.2.2.1
  have h3 := hg.1.1.2.2.2.1
  have th2 := th_2 μ
  refine Ct.of (by decide +kernel) (Nat.le_of_ble_eq_true rfl) ?_
  have no : ¬ inN d 512 = true → Wp E mX11_ship (Rm 1 0 0) (Qm E (pCr E h x (.int (shipM μ ns d).1) (shipM μ ns d).2) 0 0) 11 [(0, .ref x), (1, .int d)] [] h 0 0 := by
    intro hno
    refine r_aload_n (pc := 11) 0 dX11_ship_11 rfl ?_
    refine r_iconst (pc := 12) (-1) dX11_ship_12 rfl ?_
    refine r_dV (pc := 13) (As := [_]) mv_X11_refused ml_X11_106 (c11_refused hc (-1) (j := 1) (by decide) (by decide) (by decide)) (nl_is hc) rfl rfl (Nat.le_of_ble_eq_true rfl) (Nat.le_of_ble_eq_true rfl) (Nat.le_of_ble_eq_true rfl) (Nat.le_of_ble_eq_true rfl) (Nat.le_of_ble_eq_true rfl) dX11_ship_13 ?_
    refine r_iret (pc := 16) rfl ?_ (Nat.le_of_ble_eq_true rfl) (Nat.le_of_ble_eq_true rfl) dX11_ship_16
    rw [shipM, if_neg hno]
    exact ⟨rfl, hr.th.tell _ t_1, kp_to⟩
  refine r_iload_n (pc := 0) 1 dX11_ship_0 rfl ?_
  refine r_if_lt (pc := 1) (tgt := 11) dX11_ship_1 (by decide) (fun c_1 => ?_) (fun c_1 => ?_)
  · exact no (fun z => absurd ((in_le (b := 511) (by decide)).mp z).1 (Int32.not_le.mpr c_1))
  · refine r_iload_n (pc := 4) 1 dX11_ship_4 rfl ?_
    refine r_sipush (pc := 5) (511) dX11_ship_5 rfl ?_
    refine r_icmp_le (pc := 8) (tgt := 17) dX11_ship_8 (by decide) (fun c_8 => ?_) (fun c_8 => ?_)
    · have hin : inN d 512 = true := (in_le (b := 511) (by decide)).mpr ⟨Int32.not_lt.mp c_1, c_8⟩
      rw [shipM, if_pos hin]
      refine r_aload_n (pc := 17) 0 dX11_ship_17 rfl ?_
      refine r_getR (pc := 18) fl_X11_15 (nl_is hc) (nl_f0 hc) dX11_ship_18 ?_
      refine r_getI (pc := 21) fl_X11_158 (pt_is (cs_pt3 hc)) dX11_ship_21 ?_
      refine r_iconst (pc := 24) (3) dX11_ship_24 rfl ?_
      rw [pv_1 hv, hns]
      refine r_icmp_lt (pc := 25) (tgt := 35) dX11_ship_25 (by decide) (fun c_25 => ?_) (fun c_25 => ?_)
      · have hlt : ns < 3 := by
          rcases Nat.lt_or_ge ns 3 with z | z
          · exact z
          · exact absurd c_25 (by rw [show ns = 3 by omega]; decide)
        rw [if_neg (by omega)]
        refine r_aload_n (pc := 35) 0 dX11_ship_35 rfl ?_
        refine r_aload_n (pc := 36) 0 dX11_ship_36 rfl ?_
        refine r_getR (pc := 37) fl_X11_15 (nl_is hc) (nl_f0 hc) dX11_ship_37 ?_
        refine r_iload_n (pc := 40) 1 dX11_ship_40 rfl ?_
        refine r_callV (pc := 41) (As := [_]) mv_X5_addShip ml_X11_161 (c5_addShip hp hv hns hlt d) (pt_is (cs_pt3 hc)) rfl rfl (Nat.le_of_ble_eq_true rfl) (Nat.le_of_ble_eq_true rfl) (Nat.le_of_ble_eq_true rfl) (Nat.le_of_ble_eq_true rfl) (Nat.le_of_ble_eq_true rfl) dX11_ship_41 (fun r h3 hp => ?_)
        obtain ⟨rfl, f, hv1⟩ := hp
        show Wp E mX11_ship _ _ _ _ [.int _, .ref x] _ 0 0
        have nn : ∀ {j : Nat}, j ≠ 1 → (j < 38 ∨ 41 ≤ j) → va_up (va_up (μ 2) 1 (nI (ns + 1))) (38 + ns) d j = μ 2 j := fun h1 h2 => by rw [va_up_ne _ _ (by omega), va_up_ne _ _ h1]
        have e2 : up2 (up2 (up2 μ 0 0 0) 2 (38 + ns) d) 2 1 (nI (ns + 1)) 2 = va_up (va_up (μ 2) 1 (nI (ns + 1))) (38 + ns) d := by
          rw [up2_same, up2_same, th2]
          funext j
          by_cases h1 : j = 1
          · subst h1; rw [va_up_self, va_up_ne _ _ (by omega), va_up_self]
          · rw [va_up_ne _ _ h1]
            by_cases h2 : j = 38 + ns
            · subst h2; rw [va_up_self, va_up_self]
            · rw [va_up_ne _ _ h2, va_up_ne _ _ h2, va_up_ne _ _ h1]
        have hr1 : CR E h3 x (up2 (up2 (up2 μ 0 0 0) 2 (38 + ns) d) 2 1 (nI (ns + 1))) := by
          refine hr.th.row0 (nc := nc) (ns := ns + 1) (nl := nl) (sg := sg) f (fun a k z => Or.inr z) (by rw [e2]; exact hv1) ?_ (by rw [e2, th2, nn (by decide) (by omega)]) (fun j h1 _ => by rw [e2, th2, nn (by omega) (by omega)]) (by rw [e2, th2, nn (by decide) (by omega)]) (by rw [e2, th2, nn (by decide) (by omega)]) (fun o j _ ho => by rw [up2_ne (by omega), up2_ne (by omega)])
          rw [e2]
          obtain ⟨a1, a2, a3, a4, a5, a6, a7, a8, a9, a10, a11, a12⟩ := hg.1.1
          refine ⟨⟨by rw [nn (by decide) (by omega)]; exact a1, a2, by rw [va_up_ne _ _ (by omega), va_up_self], by omega, fun k hk => (a5 k hk).cg (nn (by omega) (by omega)) (nn (by omega) (by omega)), fun k hk => by rw [nn (by omega) (by omega)]; exact a6 k hk, fun k hk => by rw [nn (by omega) (by omega)]; exact a7 k hk, fun k hk => by rw [nn (by omega) (by omega)]; exact a8 k hk, by rw [nn (by decide) (by omega)]; exact a9, by rw [nn (by decide) (by omega)]; exact a10, by rw [nn (by decide) (by omega)]; exact a11, fun k hk => ?_⟩, by rw [nn (by decide) (by omega)]; exact hg.1.2.1, by rw [nn (by decide) (by omega)]; exact hg.1.2.2.1, by rw [nn (by decide) (by omega)]; exact hg.1.2.2.2.1, hg.1.2.2.2.2.cgB (fun j _ _ => nn (by omega) (by omega))⟩
          by_cases hk2 : k = ns
          · subst hk2
            obtain ⟨q, hq, eq⟩ := inN_of (by decide) hin
            exact ⟨q, hq, by rw [va_up_self]; exact eq⟩
          · obtain ⟨q, hq, eq⟩ := a12 k hk
            exact ⟨q, hq, by rw [va_up_ne _ _ (by omega), va_up_ne _ _ (by omega)]; exact eq⟩
        have ekp : Kp x h h3 := f.kp (fun a k z => by unfold ptW at z; omega)
        have hc1 := hr1.1
        refine r_dV (pc := 44) (As := [_]) mv_X11_allowed ml_X11_120 (c11_allowed hc1 _) (nl_is hc1) rfl rfl (Nat.le_of_ble_eq_true rfl) (Nat.le_of_ble_eq_true rfl) (Nat.le_of_ble_eq_true rfl) (Nat.le_of_ble_eq_true rfl) (Nat.le_of_ble_eq_true rfl) dX11_ship_44 ?_
        refine r_iret (pc := 47) rfl ?_ (Nat.le_of_ble_eq_true rfl) (Nat.le_of_ble_eq_true rfl) dX11_ship_47
        have ht := hr1.tell (nI ns) (t_p (nI_pos' (by omega)))
        rw [toH_p (Int32.not_lt.mpr (nI_pos' (by omega)))] at ht
        exact ⟨rfl, ht, ekp.tr (kp_wI (by omega))⟩
      · have h88 : ns = 3 := by
          rcases Nat.lt_or_ge ns 3 with z | z
          · exact absurd (nI_lt (b := 3) z (by decide)) c_25
          · omega
        rw [if_pos h88]
        refine r_aload_n (pc := 28) 0 dX11_ship_28 rfl ?_
        refine r_bipush (pc := 29) (-5) dX11_ship_29 rfl ?_
        refine r_dV (pc := 31) (As := [_]) mv_X11_refused ml_X11_106 (c11_refused hc (-5) (j := 5) (by decide) (by decide) (by decide)) (nl_is hc) rfl rfl (Nat.le_of_ble_eq_true rfl) (Nat.le_of_ble_eq_true rfl) (Nat.le_of_ble_eq_true rfl) (Nat.le_of_ble_eq_true rfl) (Nat.le_of_ble_eq_true rfl) dX11_ship_31 ?_
        refine r_iret (pc := 34) rfl ?_ (Nat.le_of_ble_eq_true rfl) (Nat.le_of_ble_eq_true rfl) dX11_ship_34
        exact ⟨rfl, hr.th.tell _ t_5, kp_to⟩
    · exact no (fun z => absurd ((in_le (b := 511) (by decide)).mp z).2 c_8)
/-- the tape changed in both -/
theorem CR.tape (hr : CR E h x μ) (f : Fr (taS x) h h1) (ht : TaR h1 x μ') (em : ∀ o j, obI o j → o ≠ 9 → ¬ (o = 0 ∧ j = 13) → μ' o j = μ o j) : CR E h1 x μ' := by
  obtain ⟨hc, hp, hs, ⟨hi, hd⟩, -, hco, hb, hw, h20⟩ := hr
  have eo : ∀ o, (o = 1 ∨ o = 2 ∨ o = 33) → μ' o = μ o := fun o ho => by funext j; exact em o j (by unfold obI; omega) (by omega) (by omega)
  refine ⟨hc.ta f, by rw [eo 2 (by omega)]; exact hp.fr f (fun i k hi z => by unfold taS at z; omega) (fun t nn i k _ ht hi z => by unfold taS at z; omega), (hs.fr f (fun i k hi z => by unfold taS at z; omega)).mu (em _ _ (by unfold obI; omega) (by omega) (by omega)) (fun i _ => em _ _ (by unfold obI; omega) (by omega) (by omega)) (fun j hj => em _ _ (by unfold obI; omega) (by omega) (by omega)) (em _ _ (by unfold obI; omega) (by omega) (by omega)) (em _ _ (by unfold obI; omega) (by omega) (by omega)), ⟨fun i h2 => ((hi i h2).fr f (fun k z => by unfold taS at z; omega) (fun a k ha z => by unfold taS at z; omega)).mu h2 (em _ _ (by unfold obI; omega) (by omega) (by omega)) (fun j _ => em _ _ (by unfold obI; omega) (by omega) (by omega)), fun p e1 => ?_⟩, ht, (hco.fr f (fun k _ _ z => by unfold taS at z; omega) (fun k z => by unfold taS at z; omega)).mu ⟨em _ _ (by unfold obI; omega) (by omega) (by omega), em _ _ (by unfold obI; omega) (by omega) (by omega), em _ _ (by unfold obI; omega) (by omega) (by omega), em _ _ (by unfold obI; omega) (by omega) (by omega)⟩ (eo 1 (by omega)), (hb.fr f (fun i k hi z => by unfold taS at z; omega)).mu (em _ _ (by unfold obI; omega) (by omega) (by omega)) (eo 33 (by omega)), hw.fr f (fun k z => by unfold taS at z; omega) (fun z => by unfold taS at z; omega), (em _ _ (by unfold obI; omega) (by omega) (by omega)).trans h20⟩
  rw [f.R (fun z => by unfold taS at z; omega)] at e1 ⊢
  exact hd p e1
theorem CR.size (hr : CR E h x μ) {t : Nat} (ht : t ≤ 400) : CR E (wI h (x + 24) 1 (nI t)) x (up2 μ 0 13 (nI t)) := by
  have f : Fr (taS x) h (wI h (x + 24) 1 (nI t)) := Fr.wI (by unfold taS; omega)
  obtain ⟨-, a4, a5⟩ := hr.2.2.2.2.1
  have e9 : up2 μ 0 13 (nI t) 9 = μ 9 := by funext j; exact up2_ne (by omega)
  exact hr.tape f ⟨⟨t, ht, up2_at, hI_at⟩, fun k => by rw [hI_ne (by omega), e9]; exact a4 k, by rw [e9]; exact a5⟩ (fun o j _ h9 h0 => up2_ne h0)
theorem c11_end {t : Nat} (hr : CR E h x μ) (ht : μ 0 13 = nI t) (h4 : t ≤ 400) (n : Int32) : Ct E 0 0 0 mX11_end [.ref x, .int n] h (pCr E h x (.int (endM μ t n).1) (endM μ t n).2) := by
  have hc := hr.1
  obtain ⟨⟨t0, g1, g2, g3⟩, -⟩ := hr.2.2.2.2.1
  rw [g2.symm.trans ht] at g3
  refine Ct.of (by decide +kernel) (Nat.le_of_ble_eq_true rfl) ?_
  have no : ¬ inN n (t + 1) = true → Wp E mX11_end (Rm 0 0 0) (Qm E (pCr E h x (.int (endM μ t n).1) (endM μ t n).2) 0 0) 15 [(0, .ref x), (1, .int n)] [] h 0 0 := by
    intro hno
    refine r_iconst (pc := 15) (-1) dX11_end_15 rfl ?_
    refine r_iret (pc := 16) rfl ?_ (Nat.le_of_ble_eq_true rfl) (Nat.le_of_ble_eq_true rfl) dX11_end_16
    rw [endM, if_neg hno]
    exact ⟨rfl, hr.th, Kp.rf⟩
  refine r_iload_n (pc := 0) 1 dX11_end_0 rfl ?_
  refine r_if_lt (pc := 1) (tgt := 15) dX11_end_1 (by decide) (fun c_1 => ?_) (fun c_1 => ?_)
  · exact no (fun z => absurd ((in_le (b := t) (by omega)).mp z).1 (Int32.not_le.mpr c_1))
  · refine r_iload_n (pc := 4) 1 dX11_end_4 rfl ?_
    refine r_aload_n (pc := 5) 0 dX11_end_5 rfl ?_
    refine r_getR (pc := 6) fl_X11_31 (nl_is hc) (nl_f3 hc) dX11_end_6 ?_
    refine r_getI (pc := 9) fl_X11_194 (ca_24 hc) dX11_end_9 ?_
    rw [g3]
    refine r_icmp_le (pc := 12) (tgt := 17) dX11_end_12 (by decide) (fun c_12 => ?_) (fun c_12 => ?_)
    · have hin : inN n (t + 1) = true := (in_le (b := t) (by omega)).mpr ⟨Int32.not_lt.mp c_1, c_12⟩
      obtain ⟨q, hq, rfl⟩ := inN_of (by omega) hin
      refine r_aload_n (pc := 17) 0 dX11_end_17 rfl ?_
      refine r_getR (pc := 18) fl_X11_31 (nl_is hc) (nl_f3 hc) dX11_end_18 ?_
      refine r_iload_n (pc := 21) 1 dX11_end_21 rfl ?_
      refine r_putI (pc := 22) fp_X11_194 (ca_24 hc) dX11_end_22 ?_
      refine r_iload_n (pc := 25) 1 dX11_end_25 rfl ?_
      refine r_iret (pc := 26) rfl ?_ (Nat.le_of_ble_eq_true rfl) (Nat.le_of_ble_eq_true rfl) dX11_end_26
      rw [endM, if_pos hin]
      exact ⟨rfl, hr.th.size (by omega), kp_wI (by omega)⟩
    · exact no (fun z => absurd ((in_le (b := t) (by omega)).mp z).2 c_12)
theorem byte_le (v k : Int32) : ∃ a, a ≤ 255 ∧ byteF v k = nI a := by
  unfold byteF
  generalize v >>> (k &&& 31) = w
  refine ⟨(w &&& 255).toBitVec.toNat, ?_, ?_⟩
  · rw [Int32.toBitVec_and, BitVec.toNat_and]
    exact Nat.le_trans Nat.and_le_right (by decide)
  · apply Int32.toBitVec_inj.mp
    apply BitVec.eq_of_toNat_eq
    have hlt : (w &&& 255).toBitVec.toNat ≤ 255 := by
      rw [Int32.toBitVec_and, BitVec.toNat_and]
      exact Nat.le_trans Nat.and_le_right (by decide)
    generalize (w &&& 255).toBitVec.toNat = b at hlt ⊢
    show b = (BitVec.ofNat 32 b).toNat
    rw [BitVec.toNat_ofNat, Nat.mod_eq_of_lt (by omega)]
/-- one byte more -/
theorem CR.by (hr : CR E h x μ) {t : Nat} (ht : μ 0 13 = nI t) (h4 : t < 400) {b : Nat} (hb : b ≤ 255) : CR E (byH x h t (nI b)) x (byM μ t (nI b)) := by
  have f : Fr (taS x) h (byH x h t (nI b)) := (Fr.wI (by unfold taS; omega)).tr (Fr.wI (by unfold taS; omega))
  obtain ⟨-, a4, a5⟩ := hr.2.2.2.2.1
  have e9 : ∀ k, byM μ t (nI b) 9 k = if k = t then nI b else μ 9 k := fun k => by
    unfold byM
    rw [up2_ne (by omega)]
    by_cases hk : k = t
    · subst hk; rw [up2_at, if_pos rfl]
    · rw [up2_ne (by omega), if_neg hk]
  refine hr.tape f ⟨⟨t + 1, by omega, up2_at, hI_at⟩, fun k => ?_, fun q hq => ?_⟩ (fun o j _ h9 h0 => by unfold byM; rw [up2_ne h0, up2_ne (by omega)])
  · unfold byH
    rw [hI_ne (by omega), e9]
    by_cases hk : k = t
    · subst hk; rw [hI_at, if_pos rfl]
    · rw [hI_ne (by omega), if_neg hk]; exact a4 k
  · rw [e9]
    split
    · exact ⟨b, hb, rfl⟩
    · exact a5 q hq
theorem CR.four (hr : CR E h x μ) {t : Nat} (ht : μ 0 13 = nI t) (h4 : t + 4 ≤ 400) (v : Int32) : CR E (foH x h t v) x (fourM μ t v) ∧ fourM μ t v 0 13 = nI (t + 4) ∧ Kp x h (foH x h t v) := by
  obtain ⟨b1, l1, e1⟩ := byte_le v 24
  obtain ⟨b2, l2, e2⟩ := byte_le v 16
  obtain ⟨b3, l3, e3⟩ := byte_le v 8
  obtain ⟨b4, l4, e4⟩ := byte_le v 0
  unfold foH fourM
  rw [e1, e2, e3, e4]
  have s : ∀ (ν : Mu) (q : Nat) (w : Int32), byM ν q w 0 13 = nI (q + 1) := fun ν q w => up2_at
  have kb : ∀ (g : Hp) (q : Nat) (w : Int32), Kp x g (byH x g q w) := fun g q w => (kp_wI (by omega)).tr (kp_wI (by omega))
  exact ⟨(((hr.by ht (by omega) l1).by (s _ _ _) (by omega) l2).by (s _ _ _) (by omega) l3).by (s _ _ _) (by omega) l4, s _ _ _, (((kb _ _ _).tr (kb _ _ _)).tr (kb _ _ _)).tr (kb _ _ _)⟩
theorem c11_feed {t : Nat} (hr : CR E h x μ) (ht : μ 0 13 = nI t) (h4 : t ≤ 400) (a b c d e : Int32) : Ct E 1 0 0 mX11_feed [.ref x, .int a, .int b, .int c, .int d, .int e] h (pCr E h x (.int (feedM μ t a b c d e).1) (feedM μ t a b c d e).2) := by
  have hc := hr.1
  have sz : ∀ {g : Hp} {ν : Mu} {q : Nat}, CR E g x ν → ν 0 13 = nI q → hI g (x + 24) 1 = nI q := fun hr hq => by
    obtain ⟨⟨t0, g1, g2, g3⟩, -⟩ := hr.2.2.2.2.1
    rw [← g2, hq] at g3; exact g3
  refine Ct.of (by decide +kernel) (Nat.le_of_ble_eq_true rfl) ?_
  refine r_aload_n (pc := 0) 0 dX11_feed_0 rfl ?_
  refine r_getR (pc := 1) fl_X11_31 (nl_is hc) (nl_f3 hc) dX11_feed_1 ?_
  refine r_dV (pc := 4) (As := []) mv_X9_hasRoomForFive ml_X11_186 (c9_hasRoomForFive hc (sz hr ht) h4) (ca_24 hc) rfl rfl (Nat.le_of_ble_eq_true rfl) (Nat.le_of_ble_eq_true rfl) (Nat.le_of_ble_eq_true rfl) (Nat.le_of_ble_eq_true rfl) (Nat.le_of_ble_eq_true rfl) dX11_feed_4 ?_
  refine r_if_ne (pc := 7) (tgt := 12) dX11_feed_7 (by decide) (fun c_7 => ?_) (fun c_7 => ?_)
  · have hroom := of_decide_eq_true (bI_n0.mp c_7)
    rw [feedM, if_pos hroom]
    have ht0 : up2 μ 0 0 0 0 13 = nI t := by rw [up2_ne (by omega)]; exact ht
    obtain ⟨r1, s1, k1⟩ := hr.th.four ht0 (by omega) a
    obtain ⟨r2, s2, k2⟩ := r1.four s1 (by omega) b
    obtain ⟨r3, s3, k3⟩ := r2.four s2 (by omega) c
    obtain ⟨r4, s4, k4⟩ := r3.four s3 (by omega) d
    obtain ⟨r5, s5, k5⟩ := r4.four s4 (by omega) e
    have hc1 := r1.1
    have hc2 := r2.1
    have hc3 := r3.1
    have hc4 := r4.1
    have hc5 := r5.1
    refine r_aload_n (pc := 12) 0 dX11_feed_12 rfl ?_
    refine r_getR (pc := 13) fl_X11_31 (nl_is hc) (nl_f3 hc) dX11_feed_13 ?_
    refine r_iload_n (pc := 16) 1 dX11_feed_16 rfl ?_
    refine r_dV0 (pc := 17) (As := [_]) mv_X9_add ml_X11_190 (c9_add hc a (sz hr ht) (by omega)) (ca_24 hc) rfl rfl (Nat.le_of_ble_eq_true rfl) (Nat.le_of_ble_eq_true rfl) (Nat.le_of_ble_eq_true rfl) (Nat.le_of_ble_eq_true rfl) (Nat.le_of_ble_eq_true rfl) dX11_feed_17 ?_
    refine r_aload_n (pc := 20) 0 dX11_feed_20 rfl ?_
    refine r_getR (pc := 21) fl_X11_31 (nl_is hc1) (nl_f3 hc1) dX11_feed_21 ?_
    refine r_iload_n (pc := 24) 2 dX11_feed_24 rfl ?_
    refine r_dV0 (pc := 25) (As := [_]) mv_X9_add ml_X11_190 (c9_add hc1 b (sz r1 s1) (by omega)) (ca_24 hc1) rfl rfl (Nat.le_of_ble_eq_true rfl) (Nat.le_of_ble_eq_true rfl) (Nat.le_of_ble_eq_true rfl) (Nat.le_of_ble_eq_true rfl) (Nat.le_of_ble_eq_true rfl) dX11_feed_25 ?_
    refine r_aload_n (pc := 28) 0 dX11_feed_28 rfl ?_
    refine r_getR (pc := 29) fl_X11_31 (nl_is hc2) (nl_f3 hc2) dX11_feed_29 ?_
    refine r_iload_n (pc := 32) 3 dX11_feed_32 rfl ?_
    refine r_dV0 (pc := 33) (As := [_]) mv_X9_add ml_X11_190 (c9_add hc2 c (sz r2 s2) (by omega)) (ca_24 hc2) rfl rfl (Nat.le_of_ble_eq_true rfl) (Nat.le_of_ble_eq_true rfl) (Nat.le_of_ble_eq_true rfl) (Nat.le_of_ble_eq_true rfl) (Nat.le_of_ble_eq_true rfl) dX11_feed_33 ?_
    refine r_aload_n (pc := 36) 0 dX11_feed_36 rfl ?_
    refine r_getR (pc := 37) fl_X11_31 (nl_is hc3) (nl_f3 hc3) dX11_feed_37 ?_
    refine r_iload (pc := 40) 4 dX11_feed_40 rfl ?_
    refine r_dV0 (pc := 42) (As := [_]) mv_X9_add ml_X11_190 (c9_add hc3 d (sz r3 s3) (by omega)) (ca_24 hc3) rfl rfl (Nat.le_of_ble_eq_true rfl) (Nat.le_of_ble_eq_true rfl) (Nat.le_of_ble_eq_true rfl) (Nat.le_of_ble_eq_true rfl) (Nat.le_of_ble_eq_true rfl) dX11_feed_42 ?_
    refine r_aload_n (pc := 45) 0 dX11_feed_45 rfl ?_
    refine r_getR (pc := 46) fl_X11_31 (nl_is hc4) (nl_f3 hc4) dX11_feed_46 ?_
    refine r_iload (pc := 49) 5 dX11_feed_49 rfl ?_
    refine r_dV0 (pc := 51) (As := [_]) mv_X9_add ml_X11_190 (c9_add hc4 e (sz r4 s4) (by omega)) (ca_24 hc4) rfl rfl (Nat.le_of_ble_eq_true rfl) (Nat.le_of_ble_eq_true rfl) (Nat.le_of_ble_eq_true rfl) (Nat.le_of_ble_eq_true rfl) (Nat.le_of_ble_eq_true rfl) dX11_feed_51 ?_
    refine r_aload_n (pc := 54) 0 dX11_feed_54 rfl ?_
    refine r_getR (pc := 55) fl_X11_31 (nl_is hc5) (nl_f3 hc5) dX11_feed_55 ?_
    refine r_getI (pc := 58) fl_X11_194 (ca_24 hc5) dX11_feed_58 ?_
    rw [show hI _ (x + 24) 1 = nI (t + 20) from sz r5 s5]
    refine r_iret (pc := 61) rfl ?_ (Nat.le_of_ble_eq_true rfl) (Nat.le_of_ble_eq_true rfl) dX11_feed_61
    exact ⟨rfl, r5, (((k1.tr k2).tr k3).tr k4).tr k5⟩
  · have hroom := of_decide_eq_false (bI_0.mp c_7)
    refine r_iconst (pc := 10) (-1) dX11_feed_10 rfl ?_
    refine r_iret (pc := 11) rfl ?_ (Nat.le_of_ble_eq_true rfl) (Nat.le_of_ble_eq_true rfl) dX11_feed_11
    rw [feedM, if_neg hroom]
    exact ⟨rfl, hr.th, Kp.rf⟩
end OWN7
