/-! the class's own methods: undo, cats that come -/
section OWN8
variable {E : En} {h h1 h2 : Hp} {x : Nat} {r r' : Nat → Int32} {μ μ' : Mu}
theorem c11_undo {nc ns nl sg : Nat} (hr : CR E h x μ) (hg : GM μ nc ns nl sg) : Ct E 4 0 0 mX11_undo [.ref x] h (pCr E h x (.int (undoM μ (uF μ)).1) (undoM μ (uF μ)).2) := by
  have hc := hr.1
  have hv := hr.2.1.1
  have th2 := th_2 μ
  obtain ⟨nw, hpv⟩ := hr.2.2.1.1
  have h16 := hg.2.1.2
  refine Ct.of (by decide +kernel) (Nat.le_of_ble_eq_true rfl) ?_
  refine r_aload_n (pc := 0) 0 dX11_undo_0 rfl ?_
  refine r_getR (pc := 1) fl_X11_56 (nl_is hc) (nl_f6 hc) dX11_undo_1 ?_
  refine r_callV (pc := 4) (As := []) mv_X1_takeBack ml_X11_245 (c1_takeBack hc hv hpv) (ca_39 hc) rfl rfl (Nat.le_of_ble_eq_true rfl) (Nat.le_of_ble_eq_true rfl) (Nat.le_of_ble_eq_true rfl) (Nat.le_of_ble_eq_true rfl) (Nat.le_of_ble_eq_true rfl) dX11_undo_4 (fun r h3 hp => ?_)
  rcases Nat.eq_zero_or_pos (uF μ) with h0 | h0
  · obtain ⟨rfl, rfl⟩ := hp.1 h0
    show Wp E mX11_undo _ _ _ _ [.int _] _ 0 0
    rw [undoM, if_pos h0]
    refine r_istore_n (pc := 7) (lv' := [(0, _), (1, _)]) dX11_undo_7 (Nat.le_of_ble_eq_true rfl) rfl ?_
    refine r_iload_n (pc := 8) 1 dX11_undo_8 rfl ?_
    refine r_iconst (pc := 9) (-1) dX11_undo_9 rfl ?_
    refine r_icmp_ne (pc := 10) (tgt := 22) dX11_undo_10 (by decide) (fun c_10 => ?_) (fun c_10 => ?_)
    · exact absurd rfl c_10
    · refine r_aload_n (pc := 13) 0 dX11_undo_13 rfl ?_
      refine r_bipush (pc := 14) (-3) dX11_undo_14 rfl ?_
      refine r_dV (pc := 16) (As := [_]) mv_X11_refused ml_X11_106 (c11_refused hc (-3) (j := 3) (by decide) (by decide) (by decide)) (nl_is hc) rfl rfl (Nat.le_of_ble_eq_true rfl) (Nat.le_of_ble_eq_true rfl) (Nat.le_of_ble_eq_true rfl) (Nat.le_of_ble_eq_true rfl) (Nat.le_of_ble_eq_true rfl) dX11_undo_16 ?_
      refine r_goto (pc := 19) (tgt := 27) dX11_undo_19 (by decide) ?_
      refine r_iret (pc := 27) rfl ?_ (Nat.le_of_ble_eq_true rfl) (Nat.le_of_ble_eq_true rfl) dX11_undo_27
      exact ⟨rfl, hr.th.tell _ t_3, kp_to⟩
  · obtain ⟨rfl, f3, hv3, hps3⟩ := hp.2 h0
    show Wp E mX11_undo _ _ _ _ [.int _] _ 0 0
    rw [undoM, if_neg (by omega)]
    obtain ⟨⟨kd, hkd, ekd⟩, g6, g7, gs⟩ := hg.2.2 (uF μ - 1) (by omega)
    have eb : ∀ o j, backN (up2 (up2 μ 0 0 0) 0 8 (nI (uF μ - 1))) (uF μ - 1) 33 o j = if o = 2 ∧ 5 ≤ j ∧ j < 38 then μ 5 (33 * (uF μ - 1) + (j - 5)) else up2 (up2 μ 0 0 0) 0 8 (nI (uF μ - 1)) o j := fun o j => by
      unfold backN
      rw [up2_ne (a := 0) (b := 5) (by omega), up2_ne (by omega)]
    generalize backN (up2 (up2 μ 0 0 0) 0 8 (nI (uF μ - 1))) (uF μ - 1) 33 = ν at eb ⊢
    have e2 : ν 2 = bkR (μ 2) (Sn μ (uF μ - 1)) := by
      funext j
      rw [eb]
      unfold bkR Sn
      by_cases hj : j = 5 ∨ (8 ≤ j ∧ j < 38)
      · rw [if_pos hj, if_pos (by omega)]
      · rw [if_neg hj]
        by_cases h6 : j = 6
        · subst h6; rw [if_pos (by omega)]; exact g6
        · by_cases h7 : j = 7
          · subst h7; rw [if_pos (by omega)]; exact g7
          · rw [if_neg (by omega), up2_ne (by omega), up2_ne (by omega)]
    have en : ∀ o j, o ≠ 2 → ¬ (o = 0 ∧ (j = 8 ∨ j = 0)) → ν o j = μ o j := fun o j h1 h2 => by
      rw [eb, if_neg (by omega), up2_ne (by omega), up2_ne (by omega)]
    have e8 : ν 0 8 = nI (uF μ - 1) := by rw [eb, if_neg (by omega), up2_at]
    have eu : uF ν = uF μ - 1 := by
      show (ν 0 8).toNatClampNeg = _
      rw [e8, nI_clamp (by omega)]
    have kb : ∀ {j : Nat}, j ≠ 5 → (j < 8 ∨ 38 ≤ j) → bkR (μ 2) (Sn μ (uF μ - 1)) j = μ 2 j := fun h1 h2 => by unfold bkR; rw [if_neg (by omega)]
    have kc : ∀ {j : Nat}, (j = 5 ∨ (8 ≤ j ∧ j < 38)) → bkR (μ 2) (Sn μ (uF μ - 1)) j = Sn μ (uF μ - 1) j := fun h1 => by unfold bkR; rw [if_pos h1]
    have hgm : GM ν nc ns nl sg := by
      obtain ⟨b1, b2, b3, b4, b5, b6⟩ := gs
      obtain ⟨a1, a2, a3, a4, a5, a6, a7, a8, a9, a10, a11, a12⟩ := hg.1.1
      refine ⟨?_, ⟨by rw [eu]; exact e8, by omega⟩, fun i hi => ?_⟩
      · rw [e2]
        refine ⟨⟨by rw [kb (by decide) (by omega)]; exact a1, a2, by rw [kb (by decide) (by omega)]; exact a3, a4, fun k hk => (b1 k hk).cg (kc (by omega)) (kc (by omega)), fun k hk => by rw [kc (by omega)]; exact b2 k hk, fun k hk => by rw [kc (by omega)]; exact b3 k hk, fun k hk => by rw [kc (by omega)]; exact b4 k hk, by rw [kc (by omega)]; exact b5, by rw [kb (by decide) (by omega)]; exact a10, by rw [kb (by decide) (by omega)]; exact a11, fun k hk => by rw [kb (by omega) (by omega)]; exact a12 k hk⟩, by rw [kb (by decide) (by omega)]; exact hg.1.2.1, by rw [kb (by decide) (by omega)]; exact hg.1.2.2.1, by rw [kb (by decide) (by omega)]; exact hg.1.2.2.2.1, fun k hk z => ?_⟩
        rw [kc (by omega)] at z ⊢
        exact b6 k hk z
      · rw [eu] at hi
        obtain ⟨⟨kd2, c1, c2⟩, c3, c4, c5⟩ := hg.2.2 i (by omega)
        refine ⟨⟨kd2, c1, by rw [en _ _ (by decide) (by omega)]; exact c2⟩, by rw [en _ _ (by decide) (by omega), e2, kb (by decide) (by omega)]; exact c3, by rw [en _ _ (by decide) (by omega), e2, kb (by decide) (by omega)]; exact c4, c5.cg (fun j _ _ => en _ _ (by decide) (by omega))⟩
    have hr1 : CR E h3 x ν := by
      refine hr.row f3 (fun a k z => z.elim (fun w => Or.inr (Or.inr w)) (fun w => Or.inr (Or.inl w))) (by rw [e2]; exact hv3) hgm ⟨(nw + 15) % 16, ?_⟩ (by rw [e2, kb (by decide) (by omega)]) (fun j h1 _ => by rw [e2, kb (by omega) (by omega)]) (fun o j ho h2 h5 h6 h8 => en o j h2 (by unfold obI at ho; omega))
      rw [eu]
      exact hps3.cg (fun i hi => en _ _ (by decide) (by omega)) (fun i hi j hj => en _ _ (by decide) (by omega))
    have ekp : Kp x h h3 := f3.kp (fun a k z => by unfold tkS psW ptW at z; omega)
    have hc1 := hr1.1
    rw [ekd]
    refine r_istore_n (pc := 7) (lv' := [(0, _), (1, _)]) dX11_undo_7 (Nat.le_of_ble_eq_true rfl) rfl ?_
    refine r_iload_n (pc := 8) 1 dX11_undo_8 rfl ?_
    refine r_iconst (pc := 9) (-1) dX11_undo_9 rfl ?_
    refine r_icmp_ne (pc := 10) (tgt := 22) dX11_undo_10 (by decide) (fun c_10 => ?_) (fun c_10 => ?_)
    · refine r_aload_n (pc := 22) 0 dX11_undo_22 rfl ?_
      refine r_iload_n (pc := 23) 1 dX11_undo_23 rfl ?_
      refine r_dV (pc := 24) (As := [_]) mv_X11_allowed ml_X11_120 (c11_allowed hc1 _) (nl_is hc1) rfl rfl (Nat.le_of_ble_eq_true rfl) (Nat.le_of_ble_eq_true rfl) (Nat.le_of_ble_eq_true rfl) (Nat.le_of_ble_eq_true rfl) (Nat.le_of_ble_eq_true rfl) dX11_undo_24 ?_
      refine r_iret (pc := 27) rfl ?_ (Nat.le_of_ble_eq_true rfl) (Nat.le_of_ble_eq_true rfl) dX11_undo_27
      have ht := hr1.tell (nI kd) (t_p (nI_pos' (by omega)))
      rw [toH_p (Int32.not_lt.mpr (nI_pos' (by omega)))] at ht
      exact ⟨rfl, ht, ekp.tr (kp_wI (by omega))⟩
    · exact absurd c_10.symm (m1_nI (by omega))
theorem c11_lowestBeside (life many : Int32) : Ct E 0 0 0 mX11_lowestBeside [.int life, .int many] h (po (some (.int (lowN life many 9).1)) h) := by
  refine Ct.of (by decide +kernel) (Nat.le_of_ble_eq_true rfl) ?_
  refine r_iconst (pc := 0) (0) dX11_lowestBeside_0 rfl ?_
  refine r_istore_n (pc := 1) (lv' := [(0, _), (1, _), (2, _)]) dX11_lowestBeside_1 (Nat.le_of_ble_eq_true rfl) rfl ?_
  refine r_iload_n (pc := 2) 1 dX11_lowestBeside_2 rfl ?_
  refine r_istore_n (pc := 3) (lv' := [(0, _), (1, _), (2, _), (3, _)]) dX11_lowestBeside_3 (Nat.le_of_ble_eq_true rfl) rfl ?_
  refine r_iconst (pc := 4) (0) dX11_lowestBeside_4 rfl ?_
  refine r_istore (pc := 5) (lv' := [(0, _), (1, _), (2, _), (3, _), (4, _)]) dX11_lowestBeside_5 (Nat.le_of_ble_eq_true rfl) rfl ?_
  have loop : ∀ k, k ≤ 9 → Wp E mX11_lowestBeside (Rm 0 0 0) (Qm E (po (some (.int (lowN life many 9).1)) h) 0 0) 7 [(0, .int life), (1, .int many), (2, .int (lowN life many k).1), (3, .int (lowN life many k).2), (4, .int (nI k))] [] h 0 0 := by
    refine upTo (fun k hk ih => ?_) ?_
    · refine r_iload (pc := 7) 4 dX11_lowestBeside_7 rfl ?_
      refine r_bipush (pc := 9) (9) dX11_lowestBeside_9 rfl ?_
      refine r_icmp_ge (pc := 11) (tgt := 40) dX11_lowestBeside_11 (by decide) (fun c_11 => ?_) (fun c_11 => ?_)
      · exact absurd c_11 (nI_ge (b := 9) hk (by decide))
      · refine r_iload_n (pc := 14) 3 dX11_lowestBeside_14 rfl ?_
        refine r_if_le (pc := 15) (tgt := 40) dX11_lowestBeside_15 (by decide) (fun c_15 => ?_) (fun c_15 => ?_)
        · have e9 : lowN life many 9 = lowN life many k := by
            have := lowN_stop c_15 (9 - k)
            rw [show k + (9 - k) = 9 by omega] at this
            exact this
          refine r_iload_n (pc := 40) 2 dX11_lowestBeside_40 rfl ?_
          refine r_iret (pc := 41) rfl ?_ (Nat.le_of_ble_eq_true rfl) (Nat.le_of_ble_eq_true rfl) dX11_lowestBeside_41
          exact ⟨by rw [e9], rfl⟩
        · refine r_iload (pc := 18) 4 dX11_lowestBeside_18 rfl ?_
          refine r_iload_n (pc := 20) 0 dX11_lowestBeside_20 rfl ?_
          refine r_icmp_eq (pc := 21) (tgt := 34) dX11_lowestBeside_21 (by decide) (fun c_21 => ?_) (fun c_21 => ?_)
          · have e9 : lowN life many (k + 1) = lowN life many k := by rw [lowN, if_neg c_15, if_pos c_21]
            rw [e9] at ih
            refine r_iinc (pc := 34) (v := _ + (1)) (lv' := [(0, _), (1, _), (2, _), (3, _), (4, _)]) 4 dX11_lowestBeside_34 rfl rfl (Nat.le_of_ble_eq_true rfl) rfl ?_
            refine r_goto (pc := 37) (tgt := 7) dX11_lowestBeside_37 (by decide) ?_
            rw [nI_1]; exact ih
          · have e9 : lowN life many (k + 1) = ((lowN life many k).1 ||| 1 <<< (nI k &&& 31), (lowN life many k).2 + -1) := by rw [lowN, if_neg c_15, if_neg c_21]
            rw [e9] at ih
            refine r_iload_n (pc := 24) 2 dX11_lowestBeside_24 rfl ?_
            refine r_iconst (pc := 25) (1) dX11_lowestBeside_25 rfl ?_
            refine r_iload (pc := 26) 4 dX11_lowestBeside_26 rfl ?_
            refine r_ishl (pc := 28) dX11_lowestBeside_28 ?_
            refine r_ior (pc := 29) dX11_lowestBeside_29 ?_
            refine r_istore_n (pc := 30) (lv' := [(0, _), (1, _), (2, _), (3, _), (4, _)]) dX11_lowestBeside_30 (Nat.le_of_ble_eq_true rfl) rfl ?_
            refine r_iinc (pc := 31) (v := _ + (-1)) (lv' := [(0, _), (1, _), (2, _), (3, _), (4, _)]) 3 dX11_lowestBeside_31 rfl rfl (Nat.le_of_ble_eq_true rfl) rfl ?_
            refine r_iinc (pc := 34) (v := _ + (1)) (lv' := [(0, _), (1, _), (2, _), (3, _), (4, _)]) 4 dX11_lowestBeside_34 rfl rfl (Nat.le_of_ble_eq_true rfl) rfl ?_
            refine r_goto (pc := 37) (tgt := 7) dX11_lowestBeside_37 (by decide) ?_
            rw [nI_1]; exact ih
    · refine r_iload (pc := 7) 4 dX11_lowestBeside_7 rfl ?_
      refine r_bipush (pc := 9) (9) dX11_lowestBeside_9 rfl ?_
      refine r_icmp_ge (pc := 11) (tgt := 40) dX11_lowestBeside_11 (by decide) (fun c_11 => ?_) (fun c_11 => ?_)
      · refine r_iload_n (pc := 40) 2 dX11_lowestBeside_40 rfl ?_
        refine r_iret (pc := 41) rfl ?_ (Nat.le_of_ble_eq_true rfl) (Nat.le_of_ble_eq_true rfl) dX11_lowestBeside_41
        exact ⟨rfl, rfl⟩
      · exact absurd (show (9 : Int32) ≤ nI 9 by decide) c_11
  exact loop 0 (by omega)
theorem low81 : ∀ li, li < 9 → ∀ ot, ot < 9 → ((lowN (nI li) (nI ot) 9).1 = nI (lowN (nI li) (nI ot) 9).1.toNatClampNeg ∧ (lowN (nI li) (nI ot) 9).1.toNatClampNeg < 512 ∧ (lowN (nI li) (nI ot) 9).1.toNatClampNeg.testBit li = false) := by decide +kernel
theorem low8 : ∀ li, li < 9 → (511 : Int32) &&& (1 <<< (nI li &&& 31) ^^^ -1) = (lowN (nI li) 8 9).1 := by decide +kernel
/-- one more has come -/
theorem CR.come {nc ns nl sg li ot ea : Nat} (hr : CR E h x μ) (hg : GM μ nc ns nl sg) (h6 : nc < 6) (hli : li < 9) (hot : ot < 9) (hea : ea ≤ 9) (f : Fr (ptW (x + 3)) h h1) (hv : PtV h1 (x + 3) (va_up (va_up (va_up (va_up (va_up (va_up (μ 2) 0 (nI (nc + 1))) (8 + nc) (nI li)) (14 + nc) (lowN (nI li) (nI ot) 9).1) (20 + nc) (nI ea)) (26 + nc) 0) (32 + nc) (-1))) : comeB nc (nI li) (nI ot) (nI ea) = nI nc ∧ CR E h1 x (comeM μ nc (nI li) (nI ot) (nI ea)) ∧ GM (comeM μ nc (nI li) (nI ot) (nI ea)) (nc + 1) ns nl sg := by
  have eB : comeB nc (nI li) (nI ot) (nI ea) = nI nc := by
    unfold comeB
    rw [if_pos ⟨by rw [inN_nI (by omega)]; exact decide_eq_true hli, by rw [inN_nI (by omega)]; exact decide_eq_true hot, by rw [inN_nI (by omega)]; exact decide_eq_true (by omega)⟩, if_neg (by omega)]
  have eM : comeM μ nc (nI li) (nI ot) (nI ea) = setR μ (va_up (va_up (va_up (va_up (va_up (va_up (μ 2) 0 (nI (nc + 1))) (8 + nc) (nI li)) (14 + nc) (lowN (nI li) (nI ot) 9).1) (20 + nc) (nI ea)) (26 + nc) 0) (32 + nc) (-1)) := by
    unfold comeM
    rw [eB, if_pos (nI_pos' (by omega))]
    funext o j
    by_cases ho : o = 2
    · subst ho
      rw [show setR μ _ 2 j = _ from congrFun setR_2 j]
      unfold up2 va_up
      simp only [true_and]
      by_cases h0 : j = 0
      · subst h0
        rw [if_pos rfl, if_neg (by omega), if_neg (by omega), if_neg (by omega), if_neg (by omega), if_neg (by omega), if_pos rfl]
      · rw [if_neg h0]
        by_cases h1 : j = 32 + nc
        · rw [if_pos h1, if_pos h1]
        · rw [if_neg h1, if_neg h1]
          by_cases h2 : j = 26 + nc
          · rw [if_pos h2, if_pos h2]
          · rw [if_neg h2, if_neg h2]
            by_cases h3 : j = 20 + nc
            · rw [if_pos h3, if_pos h3]
            · rw [if_neg h3, if_neg h3]
              by_cases h4 : j = 14 + nc
              · rw [if_pos h4, if_pos h4]
              · rw [if_neg h4, if_neg h4]
                by_cases h5 : j = 8 + nc
                · rw [if_pos h5, if_pos h5]
                · rw [if_neg h5, if_neg h5, if_neg h0]
    · rw [congrFun (setR_ne ho) j, up2_ne (by omega), up2_ne (by omega), up2_ne (by omega), up2_ne (by omega), up2_ne (by omega), up2_ne (by omega)]
  obtain ⟨l1, l2, l3⟩ := low81 li hli ot hot
  generalize hR' : va_up (va_up (va_up (va_up (va_up (va_up (μ 2) 0 (nI (nc + 1))) (8 + nc) (nI li)) (14 + nc) (lowN (nI li) (nI ot) 9).1) (20 + nc) (nI ea)) (26 + nc) 0) (32 + nc) (-1) = R at hv eM
  have nn : ∀ {j : Nat}, j ≠ 0 → j ≠ 8 + nc → j ≠ 14 + nc → j ≠ 20 + nc → j ≠ 26 + nc → j ≠ 32 + nc → R j = μ 2 j := fun g0 g1 g2 g3 g4 g5 => by
    rw [← hR', va_up_ne _ _ g5, va_up_ne _ _ g4, va_up_ne _ _ g3, va_up_ne _ _ g2, va_up_ne _ _ g1, va_up_ne _ _ g0]
  have e0 : R 0 = nI (nc + 1) := by rw [← hR', va_up_ne _ _ (by omega), va_up_ne _ _ (by omega), va_up_ne _ _ (by omega), va_up_ne _ _ (by omega), va_up_ne _ _ (by omega), va_up_self]
  have e8 : R (8 + nc) = nI li := by rw [← hR', va_up_ne _ _ (by omega), va_up_ne _ _ (by omega), va_up_ne _ _ (by omega), va_up_ne _ _ (by omega), va_up_self]
  have e14 : R (14 + nc) = (lowN (nI li) (nI ot) 9).1 := by rw [← hR', va_up_ne _ _ (by omega), va_up_ne _ _ (by omega), va_up_ne _ _ (by omega), va_up_self]
  have e20 : R (20 + nc) = nI ea := by rw [← hR', va_up_ne _ _ (by omega), va_up_ne _ _ (by omega), va_up_self]
  have e26 : R (26 + nc) = 0 := by rw [← hR', va_up_ne _ _ (by omega), va_up_self]
  have e32 : R (32 + nc) = -1 := by rw [← hR', va_up_self]
  have hgR : RwG R (nc + 1) ns nl sg := by
    obtain ⟨a1, a2, a3, a4, a5, a6, a7, a8, a9, a10, a11, a12⟩ := hg.1.1
    have n1 : ∀ {j : Nat}, (0 < j ∧ j < 8) ∨ 38 ≤ j → R j = μ 2 j := fun hj => nn (by omega) (by omega) (by omega) (by omega) (by omega) (by omega)
    refine ⟨⟨e0, by omega, by rw [n1 (by omega)]; exact a3, a4, fun k hk => ?_, fun k hk => ?_, fun k hk => ?_, fun k hk => ?_, by rw [n1 (by omega)]; exact a9, by rw [n1 (by omega)]; exact a10, by rw [n1 (by omega)]; exact a11, fun k hk => by rw [n1 (by omega)]; exact a12 k hk⟩, by rw [n1 (by omega)]; exact hg.1.2.1, by rw [n1 (by omega)]; exact hg.1.2.2.1, by rw [n1 (by omega)]; exact hg.1.2.2.2.1, fun k hk z => ?_⟩
    · by_cases h1 : k = nc
      · subst h1
        unfold CatOK
        rw [e8, e14]
        refine ⟨Or.inr ⟨li, hli, rfl⟩, _, l2, l1, fun li2 h2 e => ?_⟩
        rw [← nI_inj (by omega) (by omega) e]; exact l3
      · exact (a5 k hk).cg (nn (by omega) (by omega) (by omega) (by omega) (by omega) (by omega)) (nn (by omega) (by omega) (by omega) (by omega) (by omega) (by omega))
    · by_cases h1 : k = nc
      · subst h1; exact ⟨ea, hea, e20⟩
      · rw [nn (by omega) (by omega) (by omega) (by omega) (by omega) (by omega)]; exact a6 k hk
    · by_cases h1 : k = nc
      · subst h1; exact ⟨0, by omega, e26⟩
      · rw [nn (by omega) (by omega) (by omega) (by omega) (by omega) (by omega)]; exact a7 k hk
    · by_cases h1 : k = nc
      · subst h1; exact Or.inl e32
      · rw [nn (by omega) (by omega) (by omega) (by omega) (by omega) (by omega)]; exact a8 k hk
    · by_cases h1 : k = nc
      · subst h1; exact e32
      · rw [nn (by omega) (by omega) (by omega) (by omega) (by omega) (by omega)] at z ⊢
        exact hg.1.2.2.2.2 k hk z
  have hr1 : CR E h1 x (setR μ R) := hr.row0 (nc := nc + 1) (ns := ns) (nl := nl) (sg := sg) f (fun a k z => Or.inr z) (by rw [setR_2]; exact hv) (by rw [setR_2]; exact hgR) (by rw [setR_2]; exact nn (by omega) (by omega) (by omega) (by omega) (by omega) (by omega)) (fun j g1 g2 => by rw [setR_2]; exact nn (by omega) (by omega) (by omega) (by omega) (by omega) (by omega)) (by rw [setR_2]; exact nn (by omega) (by omega) (by omega) (by omega) (by omega) (by omega)) (by rw [setR_2]; exact nn (by omega) (by omega) (by omega) (by omega) (by omega) (by omega)) (fun o j _ ho => congrFun (setR_ne ho) j)
  refine ⟨eB, by rw [eM]; exact hr1, by rw [eM]; exact ⟨by rw [setR_2]; exact hgR, hr1.2.2.1.2⟩⟩
theorem c11_cat {nc ns nl sg : Nat} (hr : CR E h x μ) (hg : GM μ nc ns nl sg) (life : Int32) : Ct E 2 0 0 mX11_cat [.ref x, .int life] h (pCr E h x (.int (comeB nc life 8 9)) (catM μ nc life)) := by
  have hc := hr.1
  have hv := hr.2.1.1
  have hp := cs_pt3 hc
  have hn := hg.1.1.1
  have h6 := hg.1.1.2.1
  have th2 := th_2 μ
  refine Ct.of (by decide +kernel) (Nat.le_of_ble_eq_true rfl) ?_
  refine r_iload_n (pc := 0) 1 dX11_cat_0 rfl ?_
  refine r_dS (pc := 1) (As := [_]) ms_X11_isLife ml_X11_102 (ct_cisLife _) rfl rfl (Nat.le_of_ble_eq_true rfl) (Nat.le_of_ble_eq_true rfl) (Nat.le_of_ble_eq_true rfl) (Nat.le_of_ble_eq_true rfl) (Nat.le_of_ble_eq_true rfl) dX11_cat_1 ?_
  refine r_if_ne (pc := 4) (tgt := 13) dX11_cat_4 (by decide) (fun c_4 => ?_) (fun c_4 => ?_)
  · have hin := bI_n0.mp c_4
    obtain ⟨li, hli, rfl⟩ := inN_of (by decide) hin
    refine r_aload_n (pc := 13) 0 dX11_cat_13 rfl ?_
    refine r_getR (pc := 14) fl_X11_15 (nl_is hc) (nl_f0 hc) dX11_cat_14 ?_
    refine r_getI (pc := 17) fl_X11_110 (pt_is (cs_pt3 hc)) dX11_cat_17 ?_
    refine r_bipush (pc := 20) (6) dX11_cat_20 rfl ?_
    rw [pv_0 hv, hn]
    refine r_icmp_lt (pc := 22) (tgt := 32) dX11_cat_22 (by decide) (fun c_22 => ?_) (fun c_22 => ?_)
    · have hlt : nc < 6 := by
        rcases Nat.lt_or_ge nc 6 with z | z
        · exact z
        · exact absurd c_22 (by rw [show nc = 6 by omega]; decide)
      have hr0 := hr.th.past0
      have e02 : up2 (up2 μ 0 0 0) 0 8 0 2 = μ 2 := by funext j; rw [up2_ne (by omega), up2_ne (by omega)]
      have hg0 : GM (up2 (up2 μ 0 0 0) 0 8 0) nc ns nl sg := ⟨by rw [e02]; exact hg.1, hr0.2.2.1.2⟩
      refine r_aload_n (pc := 32) 0 dX11_cat_32 rfl ?_
      refine r_getR (pc := 33) fl_X11_56 (nl_is hc) (nl_f6 hc) dX11_cat_33 ?_
      refine r_dV0 (pc := 36) (As := []) mv_X1_forgetPast ml_X11_113 (c1_forgetPast hc) (ca_39 hc) rfl rfl (Nat.le_of_ble_eq_true rfl) (Nat.le_of_ble_eq_true rfl) (Nat.le_of_ble_eq_true rfl) (Nat.le_of_ble_eq_true rfl) (Nat.le_of_ble_eq_true rfl) dX11_cat_36 ?_
      have hc0 := hr0.1
      have hv0 := hr0.2.1.1
      have kp0 : Kp x h (wI h (x + 40) 3 0) := kp_wI (by omega)
      generalize wI h (x + 40) 3 0 = h0 at hr0 hc0 hv0 kp0 ⊢
      refine r_aload_n (pc := 39) 0 dX11_cat_39 rfl ?_
      refine r_aload_n (pc := 40) 0 dX11_cat_40 rfl ?_
      refine r_getR (pc := 41) fl_X11_15 (nl_is hc0) (nl_f0 hc0) dX11_cat_41 ?_
      refine r_iload_n (pc := 44) 1 dX11_cat_44 rfl ?_
      refine r_sipush (pc := 45) (511) dX11_cat_45 rfl ?_
      refine r_iconst (pc := 48) (1) dX11_cat_48 rfl ?_
      refine r_iload_n (pc := 49) 1 dX11_cat_49 rfl ?_
      refine r_ishl (pc := 50) dX11_cat_50 ?_
      refine r_iconst (pc := 51) (-1) dX11_cat_51 rfl ?_
      refine r_ixor (pc := 52) dX11_cat_52 ?_
      refine r_iand (pc := 53) dX11_cat_53 ?_
      rw [show (511 : Int32) &&& (1 <<< (nI li &&& 31) ^^^ -1) = (lowN (nI li) (nI 8) 9).1 from low8 li hli]
      refine r_bipush (pc := 54) (9) dX11_cat_54 rfl ?_
      refine r_callV (pc := 56) (As := [_, _, _]) mv_X5_addCat ml_X11_116 (c5_addCat (cs_pt3 hc0) hv0 (by rw [e02]; exact hn) hlt _ _ _) (pt_is (cs_pt3 hc0)) rfl rfl (Nat.le_of_ble_eq_true rfl) (Nat.le_of_ble_eq_true rfl) (Nat.le_of_ble_eq_true rfl) (Nat.le_of_ble_eq_true rfl) (Nat.le_of_ble_eq_true rfl) dX11_cat_56 (fun r h3 hp => ?_)
      obtain ⟨rfl, f3, hv3⟩ := hp
      show Wp E mX11_cat _ _ _ _ [.int _, .ref x] _ 0 0
      obtain ⟨eB, hr3, -⟩ := hr0.come (h1 := h3) (ot := 8) (ea := 9) hg0 hlt hli (by decide) (by decide) f3 hv3
      have ekp : Kp x h0 h3 := f3.kp (fun a k z => by unfold ptW at z; omega)
      have hc3 := hr3.1
      refine r_dV (pc := 59) (As := [_]) mv_X11_allowed ml_X11_120 (c11_allowed hc3 _) (nl_is hc3) rfl rfl (Nat.le_of_ble_eq_true rfl) (Nat.le_of_ble_eq_true rfl) (Nat.le_of_ble_eq_true rfl) (Nat.le_of_ble_eq_true rfl) (Nat.le_of_ble_eq_true rfl) dX11_cat_59 ?_
      refine r_iret (pc := 62) rfl ?_ (Nat.le_of_ble_eq_true rfl) (Nat.le_of_ble_eq_true rfl) dX11_cat_62
      have eB2 : comeB nc (nI li) 8 9 = nI nc := eB
      rw [catM, eB2, settledM, if_neg (Int32.not_lt.mpr (nI_pos' (by omega)))]
      have hr4 : CR E h3 x (up2 (comeM (up2 μ 0 0 0) nc (nI li) 8 9) 0 8 0) := hr3.mu (fun o j _ => by
        have e1 : comeB nc (nI li) (nI 8) (nI 9) = nI nc := eB
        show _ = comeM (up2 (up2 μ 0 0 0) 0 8 0) nc (nI li) (nI 8) (nI 9) o j
        unfold comeM
        rw [eB2, e1, if_pos (nI_pos' (by omega)), if_pos (nI_pos' (by omega))]
        unfold up2
        by_cases ho : o = 2
        · subst ho
          simp
          rfl
        · simp [ho])
      have ht := hr4.tell (nI nc) (t_p (nI_pos' (by omega)))
      rw [toH_p (Int32.not_lt.mpr (nI_pos' (by omega)))] at ht
      exact ⟨rfl, ht, (kp0.tr ekp).tr (kp_wI (by omega))⟩
    · have h66 : nc = 6 := by
        rcases Nat.lt_or_ge nc 6 with z | z
        · exact absurd (nI_lt (b := 6) z (by decide)) c_22
        · omega
      have eB : comeB nc (nI li) 8 9 = -5 := by
        unfold comeB
        rw [if_pos ⟨hin, by decide, by decide⟩, if_pos h66]
      rw [catM, eB, settledM, if_pos (by decide), comeM_no (by rw [eB]; decide)]
      refine r_aload_n (pc := 25) 0 dX11_cat_25 rfl ?_
      refine r_bipush (pc := 26) (-5) dX11_cat_26 rfl ?_
      refine r_dV (pc := 28) (As := [_]) mv_X11_refused ml_X11_106 (c11_refused hc (-5) (j := 5) (by decide) (by decide) (by decide)) (nl_is hc) rfl rfl (Nat.le_of_ble_eq_true rfl) (Nat.le_of_ble_eq_true rfl) (Nat.le_of_ble_eq_true rfl) (Nat.le_of_ble_eq_true rfl) (Nat.le_of_ble_eq_true rfl) dX11_cat_28 ?_
      refine r_iret (pc := 31) rfl ?_ (Nat.le_of_ble_eq_true rfl) (Nat.le_of_ble_eq_true rfl) dX11_cat_31
      exact ⟨rfl, hr.th.tell _ t_5, kp_to⟩
  · have eB : comeB nc life 8 9 = -1 := by
      unfold comeB
      rw [if_neg (fun z => by rw [bI_0.mp c_4] at z; exact absurd z.1 (by decide))]
    rw [catM, eB, settledM, if_pos (by decide), comeM_no (by rw [eB]; decide)]
    refine r_aload_n (pc := 7) 0 dX11_cat_7 rfl ?_
    refine r_iconst (pc := 8) (-1) dX11_cat_8 rfl ?_
    refine r_dV (pc := 9) (As := [_]) mv_X11_refused ml_X11_106 (c11_refused hc (-1) (j := 1) (by decide) (by decide) (by decide)) (nl_is hc) rfl rfl (Nat.le_of_ble_eq_true rfl) (Nat.le_of_ble_eq_true rfl) (Nat.le_of_ble_eq_true rfl) (Nat.le_of_ble_eq_true rfl) (Nat.le_of_ble_eq_true rfl) dX11_cat_9 ?_
    refine r_iret (pc := 12) rfl ?_ (Nat.le_of_ble_eq_true rfl) (Nat.le_of_ble_eq_true rfl) dX11_cat_12
    exact ⟨rfl, hr.th.tell _ t_1, kp_to⟩
end OWN8
