/-! the class's own methods: image -/
section OWN17
variable {E : En} {h h1 h2 : Hp} {x : Nat} {μ μ' : Mu} {S : Nat → Nat → Prop}
theorem ImR.mu2 {i : Nat} (hp : ImR E h x μ i) (h4 : μ' 4 i = μ 4 i) (h3 : ∀ j, j < 5450 → μ' 3 (5450 * i + j) = μ 3 (5450 * i + j)) : ImR E h x μ' i := by
  rcases hp with ⟨a1, a2⟩ | ⟨a1, p, a2, a3, a4, a5⟩
  · exact Or.inl ⟨h4.trans a1, a2⟩
  · exact Or.inr ⟨h4.trans a1, p, a2, a3, a4, a5.cg (fun j hj => h3 j hj)⟩
/-- the relation, but for one image, of which only the port is there -/
def CRi (E : En) (h : Hp) (x : Nat) (μ : Mu) (q p : Nat) : Prop := CS E h x ∧ PoR E h x (x + 3) (μ 2) ∧ PsR h x μ ∧ ((∀ i, i < 2 → i ≠ q → ImR E h x μ i ∧ ¬ hR h (x + 13) i = some p) ∧ hR h (x + 13) q = some p ∧ x + 135 < p ∧ ptS E h p) ∧ TaR h x μ ∧ CoR h x μ ∧ BhR h x μ ∧ WoR h x ∧ μ 0 20 = 0
theorem CRi.copy {q p : Nat} (hr : CRi E h x μ q p) (hq : q < 2) (f : Fr (cfS p) h h1) (hv : PtV h1 p (μ 2)) (hR9 : ∀ i, i < 6 → hR h1 (p + 9) i = hR h (x + 3 + 9) i) : CR E h1 x (up2 (imgN (up2 μ 0 0 0) q 5450) 4 q 1) := by
  obtain ⟨hc, hp, hs, ⟨hi, hiq, hx, hpt⟩, ht, hco, hb, hw, h20⟩ := hr
  have fa : ∀ {a k : Nat}, cfS p a k → p ≤ a ∧ a ≤ p + 9 := fun z => cf_far z
  have far : ∀ t nn, txS E h t nn → x + 135 < t → t + 5 < p ∨ p + 9 < t := fun t nn htx _ => tx_pt htx hpt
  have e0 : ∀ o j, o ≠ 3 → o ≠ 4 → ¬ (o = 0 ∧ j = 0) → up2 (imgN (up2 μ 0 0 0) q 5450) 4 q 1 o j = μ o j := fun o j h3 h4 h0 => by
    rw [up2_ne (by omega)]; unfold imgN; rw [if_neg (by omega), up2_ne h0]
  have eo : ∀ o, o ≠ 0 → o ≠ 3 → o ≠ 4 → up2 (imgN (up2 μ 0 0 0) q 5450) 4 q 1 o = μ o := fun o a1 a2 a3 => by
    funext j; exact e0 o j a2 a3 (by omega)
  have cs : ∀ a k, csP x a k → ¬ cfS p a k := fun a k hq2 z => by
    obtain ⟨t, ht2, rfl, rfl⟩ := hq2
    have key : ∀ t ∈ csF, t.1 ≤ 101 := by decide +kernel
    have := key t ht2
    have := fa z
    omega
  have q2 : ∀ t nn i k, txS E h t nn → x + 135 < t → i ≤ 5 → ¬ cfS p (t + i) k := fun t nn i k htx h1 h2 z => by
    have := fa z
    have := far t nn htx h1
    omega
  refine ⟨hc.fr f cs, by rw [eo 2 (by omega) (by omega) (by omega)]; exact hp.fr f (fun i k hi z => by have := fa z; omega) q2, (hs.fr f (fun i k hi z => by have := fa z; omega)).mu (e0 _ _ (by omega) (by omega) (by omega)) (fun i _ => e0 _ _ (by omega) (by omega) (by omega)) (fun j _ => e0 _ _ (by omega) (by omega) (by omega)) (e0 _ _ (by omega) (by omega) (by omega)) (e0 _ _ (by omega) (by omega) (by omega)), ⟨fun i h2 => ?_, fun p1 e1 e2 => ?_⟩, (ht.fr f (fun z => by have := fa z; omega) (fun k z => by have := fa z; omega)).mu (e0 _ _ (by omega) (by omega) (by omega)) (eo 9 (by omega) (by omega) (by omega)), (hco.fr f (fun k _ _ z => by have := fa z; omega) (fun k z => by have := fa z; omega)).mu ⟨e0 _ _ (by omega) (by omega) (by omega), e0 _ _ (by omega) (by omega) (by omega), e0 _ _ (by omega) (by omega) (by omega), e0 _ _ (by omega) (by omega) (by omega)⟩ (eo 1 (by omega) (by omega) (by omega)), (hb.fr f (fun i k hi z => by have := fa z; omega)).mu (e0 _ _ (by omega) (by omega) (by omega)) (eo 33 (by omega) (by omega) (by omega)), hw.fr f (fun k z => by have := fa z; omega) (fun z => by have := fa z; omega), (e0 _ _ (by omega) (by omega) (by omega)).trans h20⟩
  · by_cases hiq2 : i = q
    · subst hiq2
      refine Or.inr ⟨up2_at, p, (f.R (fun z => by have := fa z; omega)).trans hiq, hx, hpt.fr f (fun k hk z => ?_), ?_⟩
      · unfold cfS ptW at z
        omega
      · refine PoR.cg (PoR.copy hp f hv hR9 far) (fun j hj => ?_)
        show up2 (imgN (up2 μ 0 0 0) i 5450) 4 i 1 3 (5450 * i + j) = μ 2 j
        rw [up2_ne (by omega)]; unfold imgN
        rw [if_pos ⟨rfl, by omega, by omega⟩, up2_ne (by omega), Nat.add_sub_cancel_left]
    · obtain ⟨him, hne⟩ := hi i h2 hiq2
      have h1i : ImR E h1 x μ i := by
        rcases him with ⟨a1, a2⟩ | ⟨a1, p2, a2, a3, a4, a5⟩
        · exact Or.inl ⟨a1, (f.R (fun z => by have := fa z; omega)).trans a2⟩
        · have hpp : ¬ p2 = p := fun z => hne (z ▸ a2)
          have hap := pt_pt hpt a4 hpp
          exact Or.inr ⟨a1, p2, (f.R (fun z => by have := fa z; omega)).trans a2, a3, a4.fr f (fun k _ z => by have := fa z; omega), a5.fr f (fun j k hj z => by have := fa z; omega) q2⟩
      refine h1i.mu2 ?_ (fun j hj => ?_)
      · rw [up2_ne (by omega)]; unfold imgN; rw [if_neg (by omega), up2_ne (by omega)]
      · rw [up2_ne (by omega)]; unfold imgN; rw [if_neg (by omega), up2_ne (by omega)]
  · rw [f.R (fun z => by have := fa z; omega)] at e1 e2
    by_cases hq0 : q = 0
    · subst hq0
      have : p = p1 := Option.some.inj (hiq.symm.trans e1)
      subst this
      exact (hi 1 (by omega) (by omega)).2 e2
    · have hq1 : q = 1 := by omega
      subst hq1
      have : p = p1 := Option.some.inj (hiq.symm.trans e2)
      subst this
      exact (hi 0 (by omega) (by omega)).2 e1
theorem CR.cri {q p : Nat} (hr : CR E h x μ) (hq : q < 2) (e : hR h (x + 13) q = some p) (hx : x + 135 < p) (hpt : ptS E h p) : CRi E h x μ q p := by
  obtain ⟨hc, hp, hs, ⟨hi, hd⟩, ht, hco, hb, hw, h20⟩ := hr
  refine ⟨hc, hp, hs, ⟨fun i h2 hne => ⟨hi i h2, fun z => ?_⟩, e, hx, hpt⟩, ht, hco, hb, hw, h20⟩
  rcases (show (q = 0 ∧ i = 1) ∨ (q = 1 ∧ i = 0) by omega) with ⟨rfl, rfl⟩ | ⟨rfl, rfl⟩
  · exact hd p e z
  · exact hd p z e
theorem CR.crn {q p : Nat} (hr : CR E h x μ) (hq : q < 2) (hx : x + 135 < p) (hpt : ptS E h p) (hn : ∀ i, i < 2 → ¬ hR h (x + 13) i = some p) : CRi E (wR h (x + 13) q (some p)) x μ q p := by
  obtain ⟨hc, hp, hs, ⟨hi, hd⟩, ht, hco, hb, hw, h20⟩ := hr
  have f : Fr (fun a k => a = x + 13 ∧ k = q) h (wR h (x + 13) q (some p)) := Fr.wR ⟨rfl, rfl⟩
  refine ⟨hc.fr f (fun a k hq2 z => ?_), hp.fr f (fun i k hi z => by omega) (fun t nn i k _ h1 h2 z => by omega), hs.fr f (fun i k hi z => by omega), ⟨fun i h2 hne => ⟨?_, ?_⟩, up2_at, hx, hpt.fr f (fun k _ z => by omega)⟩, ht.fr f (fun z => by omega) (fun k z => by omega), hco.fr f (fun k _ _ z => by omega) (fun k z => by omega), hb.fr f (fun i k hi z => by omega), hw.fr f (fun k z => by omega) (fun z => by omega), h20⟩
  · obtain ⟨t, ht2, rfl, rfl⟩ := hq2
    have key : ∀ t ∈ csF, ¬ t.1 = 13 := by decide +kernel
    have := key t ht2
    omega
  · rcases hi i h2 with ⟨a1, a2⟩ | ⟨a1, p2, a2, a3, a4, a5⟩
    · exact Or.inl ⟨a1, (f.R (fun z => by omega)).trans a2⟩
    · exact Or.inr ⟨a1, p2, (f.R (fun z => by omega)).trans a2, a3, a4.fr f (fun k _ z => by omega), a5.fr f (fun j k hj z => by omega) (fun t nn i k _ h1 h2 z => by omega)⟩
  · rw [f.R (fun z => by omega)]; exact hn i h2
theorem Gr.kp (g : Gr E h h1) (top : x + 135 < eZ E + hN h) : Kp x h h1 := ⟨g.1, fun a h1 h2 => g.2 a (by omega)⟩
theorem c11_image (hr : CR E h x μ) (top : x + 135 < eZ E + hN h) (hao : AoK E "NineLives$Text") (k : Int32) : Ct E 2 10 64 mX11_image [.ref x, .int k] h (pCr E h x (.int (imageM μ k).1) (imageM μ k).2) := by
  have hc := hr.1
  refine Ct.of (by decide +kernel) (Nat.le_of_ble_eq_true rfl) ?_
  have no : ¬ inN k 2 = true → Wp E mX11_image (Rm 2 10 64) (Qm E (pCr E h x (.int (imageM μ k).1) (imageM μ k).2) 10 64) 9 [(0, .ref x), (1, .int k)] [] h 0 0 := by
    intro hno
    refine r_aload_n (pc := 9) 0 dX11_image_9 rfl ?_
    refine r_iconst (pc := 10) (-1) dX11_image_10 rfl ?_
    refine r_dV (pc := 11) (As := [_]) mv_X11_refused ml_X11_106 (c11_refused hc (-1) (j := 1) (by decide) (by decide) (by decide)) (nl_is hc) rfl rfl (Nat.le_of_ble_eq_true rfl) (Nat.le_of_ble_eq_true rfl) (Nat.le_of_ble_eq_true rfl) (Nat.le_of_ble_eq_true rfl) (Nat.le_of_ble_eq_true rfl) dX11_image_11 ?_
    refine r_iret (pc := 14) rfl ?_ (Nat.le_of_ble_eq_true rfl) (Nat.le_of_ble_eq_true rfl) dX11_image_14
    rw [imageM, if_neg hno]
    exact ⟨rfl, hr.th.tell _ t_1, kp_to⟩
  have fin : ∀ (q p : Nat) (g : Hp) (cl sl : Nat), q < 2 → k = nI q → CRi E g x μ q p → Kp x h g → cl ≤ 10 → sl ≤ 64 → Wp E mX11_image (Rm 2 10 64) (Qm E (pCr E h x (.int (imageM μ k).1) (imageM μ k).2) 10 64) 37 [(0, .ref x), (1, .int k)] [] g cl sl := by
    intro q p g cl sl hq hk hcr hkp hcl hsl
    have hin : inN k 2 = true := by rw [hk, inN_nI (by omega)]; exact decide_eq_true hq
    have hcg := hcr.1
    have hpt := hcr.2.2.2.1.2.2.2
    have e13 := hcr.2.2.2.1.2.1
    have hxp := hcr.2.2.2.1.2.2.1
    obtain ⟨hv, nc, ns, nl, sg, hgw, hlw⟩ := id hcr.2.1
    refine r_aload_n (pc := 37) 0 dX11_image_37 rfl ?_
    refine r_getR (pc := 38) fl_X11_21 (nl_is hcg) (nl_f1 hcg) dX11_image_38 ?_
    refine r_iload_n (pc := 41) 1 dX11_image_41 rfl ?_
    refine r_aaldR (pc := 42) (j := q) (cr_13 hcg) (by decide) hk (by omega) (by decide) (e13) dX11_image_42 ?_
    refine r_aload_n (pc := 43) 0 dX11_image_43 rfl ?_
    refine r_getR (pc := 44) fl_X11_15 (nl_is hcg) (nl_f0 hcg) dX11_image_44 ?_
    refine r_callV (pc := 47) (As := [_]) mv_X5_copyFrom ml_X11_315 (c5_copyFrom hpt (cs_pt3 hcg) hv (by omega) (fun i hi t ht => (hlw.2 i hi t ht).2)) hpt.1 rfl rfl (Nat.le_of_ble_eq_true rfl) (Nat.le_of_ble_eq_true rfl) (Nat.le_of_ble_eq_true rfl) (show cl + 0 ≤ 10 by omega) (show sl + 0 ≤ 64 by omega) dX11_image_47 (fun r g3 hp => ?_)
    obtain ⟨rfl, f3, hv3, hR3⟩ := hp
    show Wp E mX11_image _ _ _ _ [] _ _ _
    have hr3 := hcr.copy hq f3 hv3 hR3
    have hc3 := hr3.1
    refine r_aload_n (pc := 50) 0 dX11_image_50 rfl ?_
    refine r_iconst (pc := 51) (0) dX11_image_51 rfl ?_
    refine r_dV (pc := 52) (As := [_]) mv_X11_allowed ml_X11_120 (c11_allowed hc3 0) (ca_0 hc3) rfl rfl (Nat.le_of_ble_eq_true rfl) (Nat.le_of_ble_eq_true rfl) (Nat.le_of_ble_eq_true rfl) (show cl + 0 ≤ 10 by omega) (show sl + 0 ≤ 64 by omega) dX11_image_52 ?_
    refine r_iret (pc := 55) rfl ?_ (show cl + 0 ≤ 10 by omega) (show sl + 0 ≤ 64 by omega) dX11_image_55
    have htl := hr3.tell 0 (t_p (by decide))
    rw [toH_p (by decide)] at htl
    rw [imageM, if_pos hin, hk, nI_clamp (by omega)]
    exact ⟨rfl, htl, (hkp.tr (f3.kp (fun a k z => by have := cf_far z; omega))).tr (kp_wI (by omega))⟩
  refine r_iload_n (pc := 0) 1 dX11_image_0 rfl ?_
  refine r_if_lt (pc := 1) (tgt := 9) dX11_image_1 (by decide) (fun c_1 => ?_) (fun c_1 => ?_)
  · exact no (fun z => absurd ((in_le (b := 1) (by decide)).mp z).1 (Int32.not_le.mpr c_1))
  · refine r_iload_n (pc := 4) 1 dX11_image_4 rfl ?_
    refine r_iconst (pc := 5) (2) dX11_image_5 rfl ?_
    refine r_icmp_lt (pc := 6) (tgt := 15) dX11_image_6 (by decide) (fun c_6 => ?_) (fun c_6 => ?_)
    · have hin : inN k 2 = true := by
        unfold inN
        refine decide_eq_true ⟨?_, ?_⟩
        · have := (fa_le 0 k).mp (Int32.not_lt.mp c_1); exact this
        · have := (fa_lt k 2).mp c_6; exact this
      obtain ⟨q, hq, hk⟩ := inN_of (by decide) hin
      rcases id (hr.2.2.2.1.1 q hq) with ⟨a1, a2⟩ | ⟨a1, p, a2, a3, a4, a5⟩
      · refine r_aload_n (pc := 15) 0 dX11_image_15 rfl ?_
        refine r_getR (pc := 16) fl_X11_21 (nl_is hc) (nl_f1 hc) dX11_image_16 ?_
        refine r_iload_n (pc := 19) 1 dX11_image_19 rfl ?_
        refine r_aaldN (pc := 20) (j := q) (cr_13 hc) (by decide) hk (by omega) (by decide) (a2) dX11_image_20 ?_
        refine r_ifnonnullN (pc := 21) dX11_image_21 ?_
        refine r_aload_n (pc := 24) 0 dX11_image_24 rfl ?_
        refine r_getR (pc := 25) fl_X11_21 (nl_is hc) (nl_f1 hc) dX11_image_25 ?_
        refine r_iload_n (pc := 28) 1 dX11_image_28 rfl ?_
        refine r_new (pc := 29) nl_X11_12 (Nat.le_of_ble_eq_true rfl) (Nat.le_of_ble_eq_true rfl) dX11_image_29 ?_
        refine r_dup (pc := 32) dX11_image_32 rfl ?_
        have hA : isA E (hNew h (eZ E + hN h) 5 0) (eZ E + hN h) 5 := ⟨by omega, by show eZ E + hN h < eZ E + (hN h + 1); omega, by show va_up _ _ _ _ = _; rw [va_up_self]⟩
        have hz0 : hI (hNew h (eZ E + hN h) 5 0) (eZ E + hN h) = fun _ => 0 := by show va_up _ _ _ _ = _; rw [va_up_self]
        have hzz : eZ E + hN (hNew h (eZ E + hN h) 5 0) = eZ E + hN h + 1 := by show eZ E + (hN h + 1) = _; omega
        have hG0 : Gr E h (hNew h (eZ E + hN h) 5 0) := ⟨by show hN h ≤ hN h + 1; omega, fun b hb => ⟨va_up_ne _ _ (by omega), va_up_ne _ _ (by omega), va_up_ne _ _ (by omega), va_up_ne _ _ (by omega), va_up_ne _ _ (by omega)⟩⟩
        generalize hNew h (eZ E + hN h) 5 0 = g0 at hA hz0 hzz hG0 ⊢
        have hpx : x + 135 < eZ E + hN h := top
        generalize hpd : eZ E + hN h = p at hA hz0 hzz hpx ⊢
        refine r_callI (pc := 33) (As := []) mn_X5_init ml_X11_14 (c5_init hA hzz hao) rfl rfl (Nat.le_of_ble_eq_true rfl) (Nat.le_of_ble_eq_true rfl) (Nat.le_of_ble_eq_true rfl) (Nat.le_of_ble_eq_true rfl) (Nat.le_of_ble_eq_true rfl) dX11_image_33 (fun r g hp => ?_)
        obtain ⟨rfl, g1, g2, g3, g4, g5, g6, g7, g8, g9, w1, w2, w3, w4, w5, w6, w7, w8, w9, rfl⟩ := hp
        show Wp E mX11_image _ _ _ _ [.ref p, .int k, .ref (x + 13)] _ _ _
        obtain ⟨n1, n2, n3, n4, n5⟩ := nw_port hA hz0 hzz w1 w2 w3 w4 w5 w6 w7 w8 w9
        generalize wI g9 p 13 (-1) = g at n1 n2 n3 n4 n5 ⊢
        have hG : Gr E h g := ⟨by rw [n2]; have := hG0.1; omega, fun b hb => by
          obtain ⟨b1, b2, b3, b4, b5⟩ := hG0.2 b hb
          obtain ⟨d1, d2, d3, d4, d5⟩ := n3 b (by omega)
          exact ⟨d1.trans b1, d2.trans b2, d3.trans b3, d4.trans b4, d5.trans b5⟩⟩
        have hrg := hr.up hG
        have hcg := hrg.1
        refine r_aast (pc := 36) (j := q) (cr_13 hcg) (Or.inl ⟨rfl, rfl⟩) n1.1 hk (by omega) (by decide) dX11_image_36 ?_
        refine fin q p _ _ _ hq hk (hrg.crn hq hpx n1 (fun i h2 z => ?_)) ((hG.kp top).tr (Fr.kp (S := fun a _ => a = x + 13) (Fr.wR rfl) (fun a k z => by omega))) (Nat.le_of_ble_eq_true rfl) (Nat.le_of_ble_eq_true rfl)
        rw [hG.R (by have := hc.top; omega)] at z
        rcases id (hr.2.2.2.1.1 i h2) with ⟨b1, b2⟩ | ⟨b1, p2, b2, b3, b4, b5⟩
        · rw [b2] at z; cases z
        · have e2 : p2 = p := Option.some.inj (b2.symm.trans z)
          have := b4.1.2.1
          omega
      · refine r_aload_n (pc := 15) 0 dX11_image_15 rfl ?_
        refine r_getR (pc := 16) fl_X11_21 (nl_is hc) (nl_f1 hc) dX11_image_16 ?_
        refine r_iload_n (pc := 19) 1 dX11_image_19 rfl ?_
        refine r_aaldR (pc := 20) (j := q) (cr_13 hc) (by decide) hk (by omega) (by decide) (a2) dX11_image_20 ?_
        refine r_ifnonnull (pc := 21) (tgt := 37) dX11_image_21 (by decide) ?_
        exact fin q p h 0 0 hq hk (hr.cri hq a2 a3 a4) ⟨Nat.le_refl _, fun a _ _ => ⟨rfl, rfl, rfl, rfl, rfl⟩⟩ (by decide) (by decide)
    · refine no (fun z => ?_)
      have := ((in_le (b := 1) (by decide)).mp z).2
      refine c_6 ((fa_lt _ _).mpr ?_)
      have h9 := (fa_le _ _).mp this
      exact Int.lt_of_le_of_lt h9 (by decide)
end OWN17
