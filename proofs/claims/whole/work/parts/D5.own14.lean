/-! the class's own methods: orders() -/
section OWN14
variable {E : En} {h h1 h2 : Hp} {x n : Nat} {μ : Mu} {wl wo wh : Nat → Int64}
/-- behind orders() -/
def pOC (E : En) (h : Hp) (x : Nat) (μ : Mu) (n nc ns : Nat) (fo : Option (List Cl)) (wl wo wh : Nat → Int64) : Option Value → Hp → Prop := fun v h' => Kp x h h' ∧ ∃ R, OrdRun wl wo wh (tk (μ 9) n) 13 0 0 0 R ∧ (match R with
  | .inl j => v = some (.int (-6)) ∧ CR E h' x (tellM (up2 (up2 (up2 μ 0 55 (-1)) 0 13 0) 0 18 (nI (tk (μ 9) n j).1)) (-6))
  | .inr ds => match lisF fo nc ns ds 0 (up2 (up2 (up2 (up2 (up2 μ 0 55 (-1)) 0 13 0) 0 18 (-1)) 0 53 0) 0 54 (-1)) with
    | .inl k => v = some (.int (-3)) ∧ CR E h' x (tellM (up2 (up2 (up2 (up2 μ 0 55 (-1)) 0 13 0) 0 18 (-1)) 0 55 (nI k)) (-3))
    | .inr β => v = some (.int (β 0 53)) ∧ CR E h' x (tellM β (β 0 53)))
theorem c11_orders {fo : Option (List Cl)} {nc ns nl sg : Nat} {lw : Option Nat} (hw : Wls wl wo) (hh : Whs wh 11) (hr : CR E h x μ) (hg : GM μ nc ns nl sg) (hL : Lv E h x (μ 2) nc ns nl lw fo) (hn : μ 0 13 = nI n) (h4 : n ≤ 400) : Ct E 44 0 0 mX11_orders [.ref x] h (pOC E h x μ n nc ns fo wl wo wh) := by
  have hc := hr.1
  refine Ct.of (by decide +kernel) (Nat.le_of_ble_eq_true rfl) ?_
  refine r_aload_n (pc := 0) 0 dX11_orders_0 rfl ?_
  refine r_iconst (pc := 1) (-1) dX11_orders_1 rfl ?_
  refine r_putI (pc := 2) fp_X11_96 (nl_is hc) dX11_orders_2 ?_
  have hr1 := hr.cnt (k := 13) (j := 55) (Or.inr (Or.inr ⟨rfl, rfl⟩)) (-1)
  have f1 : Fr (fun a k => a = x ∧ k = 13) h (wI h x 13 (-1)) := Fr.wI ⟨rfl, rfl⟩
  have e19 : up2 μ 0 55 (-1) 9 = μ 9 := by funext j; exact up2_ne (by omega)
  have hL1 : Lv E (wI h x 13 (-1)) x (μ 2) nc ns nl lw fo := hL.gen f1 (fun a k hq z => by
    obtain ⟨t, ht, rfl, rfl⟩ := hq
    have key : ∀ t ∈ csF, ¬ (t.1 = 0 ∧ t.2.1 = 13) := by decide +kernel
    exact key t ht (by omega)) (fun i k hi z => by omega) (fun a k ha z => by omega)
  have k1 : Kp x h (wI h x 13 (-1)) := kp_wI (by omega)
  generalize wI h x 13 (-1) = g1 at hr1 hL1 k1 ⊢
  have hc1 := hr1.1
  have hrd := c6_readO hw hh hr1 (n := n) (by rw [up2_ne (by omega)]; exact hn) h4
  rw [e19] at hrd
  refine r_aload_n (pc := 5) 0 dX11_orders_5 rfl ?_
  refine r_aload_n (pc := 6) 0 dX11_orders_6 rfl ?_
  refine r_getR (pc := 7) fl_X11_38 (nl_is hc1) (nl_f4 hc1) dX11_orders_7 ?_
  refine r_aload_n (pc := 10) 0 dX11_orders_10 rfl ?_
  refine r_getR (pc := 11) fl_X11_31 (nl_is hc1) (nl_f3 hc1) dX11_orders_11 ?_
  refine r_iconst (pc := 14) (0) dX11_orders_14 rfl ?_
  refine r_callV (pc := 15) (As := [_, _]) mv_X6_read ml_X11_209 (hrd) (ca_26 hc1) rfl rfl (Nat.le_of_ble_eq_true rfl) (Nat.le_of_ble_eq_true rfl) (Nat.le_of_ble_eq_true rfl) (Nat.le_of_ble_eq_true rfl) (Nat.le_of_ble_eq_true rfl) dX11_orders_15 (fun r g2 hp => ?_)
  obtain ⟨⟨f2, h24⟩, R, hRn, hm⟩ := hp
  have hr2 := hr1.read f2 h24
  have k2 := k1.tr (re_kp f2)
  have hL2 : Lv E g2 x (μ 2) nc ns nl lw fo := hL1.gen f2 (fun a k hq => csP_re hq) (fun i k hi z => by
    unfold reS at z
    rcases z with z | z | z | z | z | z | z | z | z | z | z <;> omega) (fun a k ha z => by
    unfold reS at z
    rcases z with z | z | z | z | z | z | z | z | z | z | z <;> omega)
  have hc2 := hr2.1
  cases R with
  | inl j =>
    subst hm
    show Wp E mX11_orders _ _ _ _ [.int _, .ref x] _ 0 0
    have hj := tk_from (μ 9) n j
    have hr3 := hr2.cnt (k := 12) (j := 18) (Or.inr (Or.inl ⟨rfl, rfl⟩)) (nI (tk (μ 9) n j).1)
    have hc3 := hr3.1
    refine r_putI (pc := 18) fp_X11_93 (nl_is hc2) dX11_orders_18 ?_
    refine r_aload_n (pc := 21) 0 dX11_orders_21 rfl ?_
    refine r_getI (pc := 22) fl_X11_93 (nl_is hc2) dX11_orders_22 ?_
    rw [hI_at]
    refine r_iconst (pc := 25) (-1) dX11_orders_25 rfl ?_
    refine r_icmp_eq (pc := 26) (tgt := 36) dX11_orders_26 (by decide) (fun c_26 => ?_) (fun c_26 => ?_)
    · exact absurd c_26.symm (m1_nI (by omega))
    · refine r_aload_n (pc := 29) 0 dX11_orders_29 rfl ?_
      refine r_bipush (pc := 30) (-6) dX11_orders_30 rfl ?_
      refine r_dV (pc := 32) (As := [_]) mv_X11_refused ml_X11_106 (c11_refused hc3 (-6) (j := 6) (by decide) (by decide) (by decide)) (nl_is hc3) rfl rfl (Nat.le_of_ble_eq_true rfl) (Nat.le_of_ble_eq_true rfl) (Nat.le_of_ble_eq_true rfl) (Nat.le_of_ble_eq_true rfl) (Nat.le_of_ble_eq_true rfl) dX11_orders_32 ?_
      refine r_iret (pc := 35) rfl ?_ (Nat.le_of_ble_eq_true rfl) (Nat.le_of_ble_eq_true rfl) dX11_orders_35
      exact ⟨(k2.tr (kp_wI (by omega))).tr kp_to, .inl j, hRn, rfl, hr3.tell _ t_6⟩
  | inr ds =>
    obtain ⟨rfl, hod⟩ := hm
    show Wp E mX11_orders _ _ _ _ [.int _, .ref x] _ 0 0
    have hr3 := hr2.cnt (k := 12) (j := 18) (Or.inr (Or.inl ⟨rfl, rfl⟩)) (-1)
    have f3 : Fr (fun a k => a = x ∧ k = 12) g2 (wI g2 x 12 (-1)) := Fr.wI ⟨rfl, rfl⟩
    have hL3 : Lv E (wI g2 x 12 (-1)) x (μ 2) nc ns nl lw fo := hL2.gen f3 (fun a k hq z => by
      obtain ⟨t, ht, rfl, rfl⟩ := hq
      have key : ∀ t ∈ csF, ¬ (t.1 = 0 ∧ t.2.1 = 12) := by decide +kernel
      exact key t ht (by omega)) (fun i k hi z => by omega) (fun a k ha z => by omega)
    have hod3 : OdT (wI g2 x 12 (-1)) (x + 27) ds := hod.cg (fun i hi => by funext k; exact f3.I (by omega))
    have k3 : Kp x h (wI g2 x 12 (-1)) := k2.tr (kp_wI (by omega))
    refine r_putI (pc := 18) fp_X11_93 (nl_is hc2) dX11_orders_18 ?_
    refine r_aload_n (pc := 21) 0 dX11_orders_21 rfl ?_
    refine r_getI (pc := 22) fl_X11_93 (nl_is hc2) dX11_orders_22 ?_
    rw [hI_at]
    generalize wI g2 x 12 (-1) = g3 at hr3 hL3 hod3 k3 ⊢
    have hc3 := hr3.1
    generalize hB : up2 (up2 (up2 μ 0 55 (-1)) 0 13 0) 0 18 (-1) = B at hr3
    have eB2 : B 2 = μ 2 := by rw [← hB]; funext j; rw [up2_ne (by omega), up2_ne (by omega), up2_ne (by omega)]
    have hgB : GM B nc ns nl sg := by rw [← hB]; exact ((hg.up (by decide)).up (by decide)).up (by decide)
    have hLB : Lv E g3 x (B 2) nc ns nl lw fo := by rw [eB2]; exact hL3
    have hlaw : ∀ i, i < 6 → ∀ t, hR g3 (x + 3 + 9) i = some t → isA E g3 t 10 := by
      obtain ⟨-, a, b, c, d, -, hl⟩ := hr3.2.1
      exact fun i hi t ht => (hl.2 i hi t ht).2
    have hds : ∀ (q : Nat) (d : Od), ds[q]? = some d → (∃ k, k < 4 ∧ d.1 = nI k) ∧ d.2.1 ≤ 20 := fun q d hq => by
      obtain ⟨-, -, sz, -, -, hall⟩ := hod
      obtain ⟨hd, a0, a1, a2, a3, ⟨b1, b2, b3, b4, b5⟩, -⟩ := hall q d hq
      exact ⟨⟨hd, b1, b2⟩, b5⟩
    have hlen := hod.2.1
    refine r_iconst (pc := 25) (-1) dX11_orders_25 rfl ?_
    refine r_icmp_eq (pc := 26) (tgt := 36) dX11_orders_26 (by decide) (fun c_26 => ?_) (fun c_26 => ?_)
    · refine r_aload_n (pc := 36) 0 dX11_orders_36 rfl ?_
      refine r_getR (pc := 37) fl_X11_65 (nl_is hc3) (nl_f7 hc3) dX11_orders_37 ?_
      refine r_aload_n (pc := 40) 0 dX11_orders_40 rfl ?_
      refine r_getR (pc := 41) fl_X11_38 (nl_is hc3) (nl_f4 hc3) dX11_orders_41 ?_
      refine r_getR (pc := 44) fl_X11_213 (ca_26 hc3) (cf_26_0 hc3) dX11_orders_44 ?_
      refine r_callV (pc := 47) (As := [_]) mv_X3_run ml_X11_227 (c3_run hLB hr3.2.2.1.1 hod3 hlaw) (ca_88 hc3) rfl rfl (Nat.le_of_ble_eq_true rfl) (Nat.le_of_ble_eq_true rfl) (Nat.le_of_ble_eq_true rfl) (Nat.le_of_ble_eq_true rfl) (Nat.le_of_ble_eq_true rfl) dX11_orders_47 (fun r g4 hp => ?_)
      obtain ⟨⟨f4, hR4⟩, hm4⟩ := hp
      have k4 : Kp x h g4 := k3.tr (f4.kp (fun a k z w => ru_far z w.1))
      have hnl := hgB.1.2.1.2
      obtain ⟨hvB, nc0, ns0, nl0, sg0, hg0, hl0⟩ := hr3.2.1
      have enl : nl = nl0 := by
        have e := hgB.1.2.1.1
        rw [hg0.2.1.1] at e
        have := hg0.2.1.2
        exact (nI_inj (by omega) (by omega) e).symm
      subst enl
      have hcs4 : CS E g4 x := hc3.fr f4 (fun a k hq z => by
        rcases ru_q z with w | w | w
        · exact csP_sc hq w
        · exact csP_cf (Or.inl rfl) hq w
        · exact csP_ac hq (Or.inr (Or.inr w)))
      have hlF : ∀ F, lisF fo nc ns ds 0 (up2 (up2 B 0 53 0) 0 54 (-1)) = F → lisF fo nc ns ds 0 (up2 (up2 (up2 (up2 (up2 μ 0 55 (-1)) 0 13 0) 0 18 (-1)) 0 53 0) 0 54 (-1)) = F := fun F hF => by rw [hB]; exact hF
      cases hF : lisF fo nc ns ds 0 (up2 (up2 B 0 53 0) 0 54 (-1)) with
      | inl k =>
        rw [hF] at hm4
        obtain ⟨rfl, hv4, hps4, h885⟩ := hm4
        show Wp E mX11_orders _ _ _ _ [.int _] _ 0 0
        have hr4 : CR E g4 x B := hr3.port f4 (fun a k z => ru_q z) ⟨hv4, nc, ns, nl, sg, hgB.1, hl0.ru hnl f4 (fun a k ha z => ru_far z (by omega)) hR4 (fun j _ _ => rfl)⟩ ⟨hps4, hgB.2⟩ (fun o j _ _ _ _ _ => rfl)
        have hr5 := hr4.cnt (k := 13) (j := 55) (Or.inr (Or.inr ⟨rfl, rfl⟩)) (nI k)
        have hc5 := hr5.1
        refine r_istore_n (pc := 50) (lv' := [(0, _), (1, _)]) dX11_orders_50 (Nat.le_of_ble_eq_true rfl) rfl ?_
        refine r_aload_n (pc := 51) 0 dX11_orders_51 rfl ?_
        refine r_aload_n (pc := 52) 0 dX11_orders_52 rfl ?_
        refine r_getR (pc := 53) fl_X11_65 (nl_is hcs4) (nl_f7 hcs4) dX11_orders_53 ?_
        refine r_getI (pc := 56) fl_X11_230 (ca_88 hcs4) dX11_orders_56 ?_
        rw [h885]
        refine r_putI (pc := 59) fp_X11_96 (nl_is hcs4) dX11_orders_59 ?_
        refine r_aload_n (pc := 62) 0 dX11_orders_62 rfl ?_
        refine r_iload_n (pc := 63) 1 dX11_orders_63 rfl ?_
        refine r_dV (pc := 64) (As := [_]) mv_X11_told ml_X11_233 (c11_told hc5 _ t_3) (nl_is hc5) rfl rfl (Nat.le_of_ble_eq_true rfl) (Nat.le_of_ble_eq_true rfl) (Nat.le_of_ble_eq_true rfl) (Nat.le_of_ble_eq_true rfl) (Nat.le_of_ble_eq_true rfl) dX11_orders_64 ?_
        refine r_iret (pc := 67) rfl ?_ (Nat.le_of_ble_eq_true rfl) (Nat.le_of_ble_eq_true rfl) dX11_orders_67
        refine ⟨(k4.tr (kp_wI (by omega))).tr kp_to, .inr ds, hRn, ?_⟩
        dsimp only
        rw [hlF _ hF]
        exact ⟨rfl, by rw [hB]; exact hr5.tell _ t_3⟩
      | inr β =>
        rw [hF] at hm4
        obtain ⟨rfl, hLo, h885⟩ := hm4
        show Wp E mX11_orders _ _ _ _ [.int _] _ 0 0
        have hLI : LI B (up2 (up2 B 0 53 0) 0 54 (-1)) nc ns nl sg 0 := ⟨(hgB.up (by decide)).up (by decide), fun o j hq => by rw [up2_ne (by unfold kqI at hq; omega), up2_ne (by unfold kqI at hq; omega)], 0, by omega, by rw [up2_ne (by omega), up2_at]; rfl⟩
        obtain ⟨gβ, kβ, q, hq, eq⟩ := LI.lis ds 0 0 _ hds hLI hF
        have hr4 : CR E g4 x β := hr3.port f4 (fun a k z => ru_q z) ⟨hLo.1.2.1, nc, ns, nl, sg, gβ.1, hl0.ru hnl f4 (fun a k ha z => ru_far z (by omega)) hR4 (fun j _ _ => kβ 2 j (by unfold kqI; omega))⟩ ⟨hLo.2.1, gβ.2⟩ (fun o j ho h2 h5 h6 h8 => kβ o j (by unfold obI at ho; unfold kqI; omega))
        have e55 : β 0 55 = -1 := by rw [kβ 0 55 (by unfold kqI; omega), ← hB, up2_ne (by omega), up2_ne (by omega), up2_at]
        have hr5 : CR E (wI g4 x 13 (-1)) x β := (hr4.cnt (k := 13) (j := 55) (Or.inr (Or.inr ⟨rfl, rfl⟩)) (-1)).mu (fun o j _ => by
          by_cases z : o = 0 ∧ j = 55
          · obtain ⟨rfl, rfl⟩ := z; rw [up2_at, e55]
          · rw [up2_ne z])
        have hc5 := hr5.1
        have tq : β 0 53 < 0 → ∃ j, j < 7 ∧ -(β 0 53) = nI j := by rw [eq]; exact t_p (nI_pos' (by omega))
        refine r_istore_n (pc := 50) (lv' := [(0, _), (1, _)]) dX11_orders_50 (Nat.le_of_ble_eq_true rfl) rfl ?_
        refine r_aload_n (pc := 51) 0 dX11_orders_51 rfl ?_
        refine r_aload_n (pc := 52) 0 dX11_orders_52 rfl ?_
        refine r_getR (pc := 53) fl_X11_65 (nl_is hcs4) (nl_f7 hcs4) dX11_orders_53 ?_
        refine r_getI (pc := 56) fl_X11_230 (ca_88 hcs4) dX11_orders_56 ?_
        rw [h885]
        refine r_putI (pc := 59) fp_X11_96 (nl_is hcs4) dX11_orders_59 ?_
        refine r_aload_n (pc := 62) 0 dX11_orders_62 rfl ?_
        refine r_iload_n (pc := 63) 1 dX11_orders_63 rfl ?_
        refine r_dV (pc := 64) (As := [_]) mv_X11_told ml_X11_233 (c11_told hc5 _ tq) (nl_is hc5) rfl rfl (Nat.le_of_ble_eq_true rfl) (Nat.le_of_ble_eq_true rfl) (Nat.le_of_ble_eq_true rfl) (Nat.le_of_ble_eq_true rfl) (Nat.le_of_ble_eq_true rfl) dX11_orders_64 ?_
        refine r_iret (pc := 67) rfl ?_ (Nat.le_of_ble_eq_true rfl) (Nat.le_of_ble_eq_true rfl) dX11_orders_67
        refine ⟨(k4.tr (kp_wI (by omega))).tr kp_to, .inr ds, hRn, ?_⟩
        dsimp only
        rw [hlF _ hF]
        exact ⟨rfl, hr5.tell _ tq⟩
    · exact absurd rfl c_26
end OWN14
