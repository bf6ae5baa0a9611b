/-! the class's own methods: a row of cats and mice -/
section OWN9
variable {E : En} {h h1 h2 : Hp} {x : Nat} {r r' : Nat → Int32} {μ μ' : Mu}
/-- a number of the class's own -/
theorem CR.cnt (hr : CR E h x μ) {k j : Nat} (hk : (k = 11 ∧ j = 11) ∨ (k = 12 ∧ j = 18) ∨ (k = 13 ∧ j = 55)) (v : Int32) : CR E (wI h x k v) x (up2 μ 0 j v) := by
  have f : Fr (fun a i => a = x ∧ i = k) h (wI h x k v) := Fr.wI ⟨rfl, rfl⟩
  obtain ⟨hc, hp, hs, ⟨hi, hd⟩, ht, ⟨⟨a1, a2, a3, a4⟩, a5⟩, hb, hw, h20⟩ := hr
  have em : ∀ o i, ¬ (o = 0 ∧ i = j) → up2 μ 0 j v o i = μ o i := fun o i hn => up2_ne hn
  have eo : ∀ o, o ≠ 0 → up2 μ 0 j v o = μ o := fun o ho => by funext i; exact em o i (by omega)
  refine ⟨hc.fr f (fun a i hq z => ?_), by rw [eo 2 (by omega)]; exact hp.fr f (fun i k hi z => by omega) (fun t nn i k _ ht hi z => by omega), (hs.fr f (fun i k hi z => by omega)).mu (em _ _ (by omega)) (fun i _ => em _ _ (by omega)) (fun j hj => em _ _ (by omega)) (em _ _ (by omega)) (em _ _ (by omega)), ⟨fun i h2 => ((hi i h2).fr f (fun k z => by omega) (fun a k ha z => by omega)).mu h2 (em _ _ (by omega)) (fun j _ => em _ _ (by omega)), fun p e1 => ?_⟩, (ht.fr f (fun z => by omega) (fun k z => by omega)).mu (em _ _ (by omega)) (eo 9 (by omega)), ⟨⟨?_, ?_, ?_, ?_⟩, fun i hi => ?_⟩, (hb.fr f (fun i k hi z => by omega)).mu (em _ _ (by omega)) (eo 33 (by omega)), hw.fr f (fun k z => by omega) (fun z => by omega), (em _ _ (by omega)).trans h20⟩
  · obtain ⟨t, ht, rfl, rfl⟩ := hq
    have key : ∀ t ∈ csF, ¬ (t.1 = 0 ∧ 11 ≤ t.2.1) := by decide +kernel
    exact key t ht (by omega)
  · rw [f.R (by omega)] at e1 ⊢
    exact hd p e1
  · rcases hk with ⟨rfl, rfl⟩ | ⟨rfl, rfl⟩ | ⟨rfl, rfl⟩
    · rw [hI_at, up2_at]
    · rw [hI_ne (by omega), up2_ne (by omega)]; exact a1
    · rw [hI_ne (by omega), up2_ne (by omega)]; exact a1
  · rcases hk with ⟨rfl, rfl⟩ | ⟨rfl, rfl⟩ | ⟨rfl, rfl⟩
    · rw [hI_ne (by omega), up2_ne (by omega)]; exact a2
    · rw [hI_at, up2_at]
    · rw [hI_ne (by omega), up2_ne (by omega)]; exact a2
  · rcases hk with ⟨rfl, rfl⟩ | ⟨rfl, rfl⟩ | ⟨rfl, rfl⟩
    · rw [hI_ne (by omega), up2_ne (by omega)]; exact a3
    · rw [hI_ne (by omega), up2_ne (by omega)]; exact a3
    · rw [hI_at, up2_at]
  · rw [hI_ne (by omega), up2_ne (by omega)]; exact a4
  · rw [hI_ne (by omega), up2_ne (by omega)]; exact a5 i hi
theorem CR.sz {t : Nat} (hr : CR E h x μ) (ht : μ 0 13 = nI t) : hI h (x + 24) 1 = nI t := by
  obtain ⟨⟨t0, g1, g2, g3⟩, -⟩ := hr.2.2.2.2.1
  rw [← g2, ht] at g3; exact g3
theorem c11_cameFrom {nc ns nl sg t i : Nat} (hr : CR E h x μ) (hg : GM μ nc ns nl sg) (ht : μ 0 13 = nI t) (h4 : t ≤ 400) (hi : 3 * i < t) : Ct E 1 0 0 mX11_cameFrom [.ref x, .int (nI (3 * i))] h (fun v h' => ∃ b : Bool, b = decide (3 * i + 2 < t ∧ 0 ≤ comeB nc (μ 9 (3 * i)) (μ 9 (3 * i + 1)) (μ 9 (3 * i + 2))) ∧ v = some (.int (bI b)) ∧ CR E h' x (if b = true then comeM μ nc (μ 9 (3 * i)) (μ 9 (3 * i + 1)) (μ 9 (3 * i + 2)) else μ) ∧ Kp x h h') := by
  have hc := hr.1
  have hv := hr.2.1.1
  have hp := cs_pt3 hc
  have hn := hg.1.1.1
  have h6 := hg.1.1.2.1
  have hsz := hr.sz ht
  obtain ⟨-, htp, hby⟩ := hr.2.2.2.2.1
  refine Ct.of (by decide +kernel) (Nat.le_of_ble_eq_true rfl) ?_
  have no1 : ¬ (3 * i + 2 < t ∧ 0 ≤ comeB nc (μ 9 (3 * i)) (μ 9 (3 * i + 1)) (μ 9 (3 * i + 2))) → Wp E mX11_cameFrom (Rm 1 0 0) (Qm E (fun v h' => ∃ b : Bool, b = decide (3 * i + 2 < t ∧ 0 ≤ comeB nc (μ 9 (3 * i)) (μ 9 (3 * i + 1)) (μ 9 (3 * i + 2))) ∧ v = some (.int (bI b)) ∧ CR E h' x (if b = true then comeM μ nc (μ 9 (3 * i)) (μ 9 (3 * i + 1)) (μ 9 (3 * i + 2)) else μ) ∧ Kp x h h') 0 0) 25 [(0, .ref x), (1, .int (nI (3 * i)))] [] h 0 0 := by
    intro hno
    refine r_iconst (pc := 25) (0) dX11_cameFrom_25 rfl ?_
    refine r_zret (pc := 26) rfl (by decide) ?_ (Nat.le_of_ble_eq_true rfl) (Nat.le_of_ble_eq_true rfl) dX11_cameFrom_26
    exact ⟨false, (decide_eq_false hno).symm, rfl, by rw [if_neg (by decide)]; exact hr, Kp.rf⟩
  refine r_iload_n (pc := 0) 1 dX11_cameFrom_0 rfl ?_
  refine r_iconst (pc := 1) (2) dX11_cameFrom_1 rfl ?_
  refine r_iadd (pc := 2) dX11_cameFrom_2 ?_
  refine r_aload_n (pc := 3) 0 dX11_cameFrom_3 rfl ?_
  refine r_getR (pc := 4) fl_X11_31 (nl_is hc) (nl_f3 hc) dX11_cameFrom_4 ?_
  refine r_getI (pc := 7) fl_X11_194 (ca_24 hc) dX11_cameFrom_7 ?_
  rw [hsz, show nI (3 * i) + 2 = nI (3 * i + 2) from nI_add _ 2]
  refine r_icmp_ge (pc := 10) (tgt := 25) dX11_cameFrom_10 (by decide) (fun c_10 => ?_) (fun c_10 => ?_)
  · refine no1 (fun z => ?_)
    exact absurd c_10 (nI_ge z.1 (by omega))
  · have hin3 : 3 * i + 2 < t := by
      rcases Nat.lt_or_ge (3 * i + 2) t with z | z
      · exact z
      · exact absurd (nI_le z (by omega)) c_10
    refine r_aload_n (pc := 13) 0 dX11_cameFrom_13 rfl ?_
    refine r_getR (pc := 14) fl_X11_15 (nl_is hc) (nl_f0 hc) dX11_cameFrom_14 ?_
    refine r_getI (pc := 17) fl_X11_110 (pt_is (cs_pt3 hc)) dX11_cameFrom_17 ?_
    refine r_bipush (pc := 20) (6) dX11_cameFrom_20 rfl ?_
    rw [pv_0 hv, hn]
    refine r_icmp_lt (pc := 22) (tgt := 27) dX11_cameFrom_22 (by decide) (fun c_22 => ?_) (fun c_22 => ?_)
    · have hlt : nc < 6 := by
        rcases Nat.lt_or_ge nc 6 with z | z
        · exact z
        · exact absurd c_22 (by rw [show nc = 6 by omega]; decide)
      have bt : ∀ k, k < t → (if inN (nI k) t = true then hI h (x + 25) (nI k).toNatClampNeg else 0) = μ 9 k := fun k hk => by
        rw [if_pos (by rw [inN_nI (by omega)]; exact decide_eq_true hk), nI_clamp (by omega)]; exact htp k
      obtain ⟨b0, l0, e0⟩ := hby (3 * i) (by omega)
      obtain ⟨b1, l1, e1⟩ := hby (3 * i + 1) (by omega)
      obtain ⟨b2, l2, e2⟩ := hby (3 * i + 2) (by omega)
      rw [e0, e1, e2]
      have no2 : ¬ (b0 < 9 ∧ b1 < 9 ∧ b2 < 10) → Wp E mX11_cameFrom (Rm 1 0 0) (Qm E (fun v h' => ∃ b : Bool, b = decide (3 * i + 2 < t ∧ 0 ≤ comeB nc (nI b0) (nI b1) (nI b2)) ∧ v = some (.int (bI b)) ∧ CR E h' x (if b = true then comeM μ nc (nI b0) (nI b1) (nI b2) else μ) ∧ Kp x h h') 0 0) 79 [(0, .ref x), (1, .int (nI (3 * i))), (2, .int (nI b0)), (3, .int (nI b1)), (4, .int (nI b2))] [] h 0 0 := by
        intro hno
        have eB : comeB nc (nI b0) (nI b1) (nI b2) = -1 := by
          unfold comeB
          rw [inN_nI (by omega), inN_nI (by omega), inN_nI (by omega), if_neg]
          intro z
          exact hno ⟨of_decide_eq_true z.1, of_decide_eq_true z.2.1, of_decide_eq_true z.2.2⟩
        refine r_iconst (pc := 79) (0) dX11_cameFrom_79 rfl ?_
        refine r_zret (pc := 80) rfl (by decide) ?_ (Nat.le_of_ble_eq_true rfl) (Nat.le_of_ble_eq_true rfl) dX11_cameFrom_80
        refine ⟨false, (decide_eq_false (fun z => ?_)).symm, rfl, by rw [if_neg (by decide)]; exact hr, Kp.rf⟩
        rw [eB] at z
        exact absurd z.2 (by decide)
      refine r_aload_n (pc := 27) 0 dX11_cameFrom_27 rfl ?_
      refine r_getR (pc := 28) fl_X11_31 (nl_is hc) (nl_f3 hc) dX11_cameFrom_28 ?_
      refine r_iload_n (pc := 31) 1 dX11_cameFrom_31 rfl ?_
      refine r_dV (pc := 32) (As := [_]) mv_X9_byteAt ml_X11_200 (c9_byteAt hc hsz h4) (ca_24 hc) rfl rfl (Nat.le_of_ble_eq_true rfl) (Nat.le_of_ble_eq_true rfl) (Nat.le_of_ble_eq_true rfl) (Nat.le_of_ble_eq_true rfl) (Nat.le_of_ble_eq_true rfl) dX11_cameFrom_32 ?_
      rw [bt (3 * i) (by omega), e0]
      refine r_istore_n (pc := 35) (lv' := [(0, _), (1, _), (2, _)]) dX11_cameFrom_35 (Nat.le_of_ble_eq_true rfl) rfl ?_
      refine r_aload_n (pc := 36) 0 dX11_cameFrom_36 rfl ?_
      refine r_getR (pc := 37) fl_X11_31 (nl_is hc) (nl_f3 hc) dX11_cameFrom_37 ?_
      refine r_iload_n (pc := 40) 1 dX11_cameFrom_40 rfl ?_
      refine r_iconst (pc := 41) (1) dX11_cameFrom_41 rfl ?_
      refine r_iadd (pc := 42) dX11_cameFrom_42 ?_
      rw [show nI (3 * i) + 1 = nI (3 * i + 1) from nI_add _ 1]
      refine r_dV (pc := 43) (As := [_]) mv_X9_byteAt ml_X11_200 (c9_byteAt hc hsz h4) (ca_24 hc) rfl rfl (Nat.le_of_ble_eq_true rfl) (Nat.le_of_ble_eq_true rfl) (Nat.le_of_ble_eq_true rfl) (Nat.le_of_ble_eq_true rfl) (Nat.le_of_ble_eq_true rfl) dX11_cameFrom_43 ?_
      rw [bt (3 * i + 1) (by omega), e1]
      refine r_istore_n (pc := 46) (lv' := [(0, _), (1, _), (2, _), (3, _)]) dX11_cameFrom_46 (Nat.le_of_ble_eq_true rfl) rfl ?_
      refine r_aload_n (pc := 47) 0 dX11_cameFrom_47 rfl ?_
      refine r_getR (pc := 48) fl_X11_31 (nl_is hc) (nl_f3 hc) dX11_cameFrom_48 ?_
      refine r_iload_n (pc := 51) 1 dX11_cameFrom_51 rfl ?_
      refine r_iconst (pc := 52) (2) dX11_cameFrom_52 rfl ?_
      refine r_iadd (pc := 53) dX11_cameFrom_53 ?_
      rw [show nI (3 * i) + 2 = nI (3 * i + 2) from nI_add _ 2]
      refine r_dV (pc := 54) (As := [_]) mv_X9_byteAt ml_X11_200 (c9_byteAt hc hsz h4) (ca_24 hc) rfl rfl (Nat.le_of_ble_eq_true rfl) (Nat.le_of_ble_eq_true rfl) (Nat.le_of_ble_eq_true rfl) (Nat.le_of_ble_eq_true rfl) (Nat.le_of_ble_eq_true rfl) dX11_cameFrom_54 ?_
      rw [bt (3 * i + 2) (by omega), e2]
      refine r_istore (pc := 57) (lv' := [(0, _), (1, _), (2, _), (3, _), (4, _)]) dX11_cameFrom_57 (Nat.le_of_ble_eq_true rfl) rfl ?_
      refine r_iload_n (pc := 59) 2 dX11_cameFrom_59 rfl ?_
      refine r_dS (pc := 60) (As := [_]) ms_X11_isLife ml_X11_102 (ct_cisLife _) rfl rfl (Nat.le_of_ble_eq_true rfl) (Nat.le_of_ble_eq_true rfl) (Nat.le_of_ble_eq_true rfl) (Nat.le_of_ble_eq_true rfl) (Nat.le_of_ble_eq_true rfl) dX11_cameFrom_60 ?_
      refine r_if_eq (pc := 63) (tgt := 79) dX11_cameFrom_63 (by decide) (fun c_63 => ?_) (fun c_63 => ?_)
      · refine no2 (fun z => ?_)
        have := bI_0.mp c_63
        rw [inN_nI (by omega), decide_eq_true z.1] at this
        cases this
      · have g0 : b0 < 9 := by
          have := bI_n0.mp c_63
          rw [inN_nI (by omega)] at this
          exact of_decide_eq_true this
        refine r_iload_n (pc := 66) 3 dX11_cameFrom_66 rfl ?_
        refine r_bipush (pc := 67) (9) dX11_cameFrom_67 rfl ?_
        refine r_icmp_ge (pc := 69) (tgt := 79) dX11_cameFrom_69 (by decide) (fun c_69 => ?_) (fun c_69 => ?_)
        · refine no2 (fun z => ?_)
          exact absurd c_69 (nI_ge (b := 9) z.2.1 (by decide))
        · have g1 : b1 < 9 := by
            rcases Nat.lt_or_ge b1 9 with z | z
            · exact z
            · exact absurd (nI_le (a := 9) z (by omega)) c_69
          refine r_iload (pc := 72) 4 dX11_cameFrom_72 rfl ?_
          refine r_bipush (pc := 74) (9) dX11_cameFrom_74 rfl ?_
          refine r_icmp_le (pc := 76) (tgt := 81) dX11_cameFrom_76 (by decide) (fun c_76 => ?_) (fun c_76 => ?_)
          · have g2 : b2 ≤ 9 := by
              rcases Nat.lt_or_ge 9 b2 with z | z
              · exact absurd c_76 (Int32.not_le.mpr (nI_lt (a := 9) z (by omega)))
              · exact z
            refine r_aload_n (pc := 81) 0 dX11_cameFrom_81 rfl ?_
            refine r_getR (pc := 82) fl_X11_15 (nl_is hc) (nl_f0 hc) dX11_cameFrom_82 ?_
            refine r_iload_n (pc := 85) 2 dX11_cameFrom_85 rfl ?_
            refine r_iload_n (pc := 86) 2 dX11_cameFrom_86 rfl ?_
            refine r_iload_n (pc := 87) 3 dX11_cameFrom_87 rfl ?_
            refine r_dS (pc := 88) (As := [_, _]) ms_X11_lowestBeside ml_X11_203 (c11_lowestBeside _ _) rfl rfl (Nat.le_of_ble_eq_true rfl) (Nat.le_of_ble_eq_true rfl) (Nat.le_of_ble_eq_true rfl) (Nat.le_of_ble_eq_true rfl) (Nat.le_of_ble_eq_true rfl) dX11_cameFrom_88 ?_
            refine r_iload (pc := 91) 4 dX11_cameFrom_91 rfl ?_
            refine r_callV (pc := 93) (As := [_, _, _]) mv_X5_addCat ml_X11_116 (c5_addCat hp hv hn hlt _ _ _) (pt_is (cs_pt3 hc)) rfl rfl (Nat.le_of_ble_eq_true rfl) (Nat.le_of_ble_eq_true rfl) (Nat.le_of_ble_eq_true rfl) (Nat.le_of_ble_eq_true rfl) (Nat.le_of_ble_eq_true rfl) dX11_cameFrom_93 (fun r h3 hp => ?_)
            obtain ⟨rfl, f3, hv3⟩ := hp
            show Wp E mX11_cameFrom _ _ _ _ [.int _] _ 0 0
            obtain ⟨eB, hr3, -⟩ := hr.come (h1 := h3) (ot := b1) (ea := b2) hg hlt g0 g1 g2 f3 hv3
            refine r_pop (pc := 96) dX11_cameFrom_96 rfl ?_
            refine r_iconst (pc := 97) (1) dX11_cameFrom_97 rfl ?_
            refine r_zret (pc := 98) rfl (by decide) ?_ (Nat.le_of_ble_eq_true rfl) (Nat.le_of_ble_eq_true rfl) dX11_cameFrom_98
            refine ⟨true, ?_, rfl, by rw [if_pos rfl]; exact hr3, f3.kp (fun a k z => by unfold ptW at z; omega)⟩
            rw [eB]
            exact (decide_eq_true ⟨hin3, nI_pos' (by omega)⟩).symm
          · refine no2 (fun z => c_76 ?_)
            exact nI_le (b := 9) (show b2 ≤ 9 by omega) (by decide)
    · have h66 : nc = 6 := by
        rcases Nat.lt_or_ge nc 6 with z | z
        · exact absurd (nI_lt (b := 6) z (by decide)) c_22
        · omega
      refine no1 (fun z => ?_)
      have z2 := z.2
      unfold comeB at z2
      split at z2
      · exact absurd z2 (by decide)
      · exact absurd z2 (by decide)
end OWN9
