/-! the class's reader: a part read -/
section PART2
variable {E : En} {x n N : Nat} {b : Nat → Int32} {od test : Bool} {wl wo : Nat → Int64}
theorem poW_le : ∀ κ, κ < 303 → (poW κ = 99 ∨ poW κ ≤ 16) := by decide +kernel
theorem opP_4 : ∀ j, j < 7 → ((opP j < 4 ↔ j < 4) ∧ (j < 4 → opP j = j) ∧ (opP j = 16 ↔ j = 6) ∧ (opP j = 10 ↔ j = 5) ∧ (opP j = 4 ↔ j = 4)) := by decide
theorem c6_takeOrderWord {h : Hp} {i κ : Nat} (hc : CS E h x) (ht : TokI h x b n N) (hi : hI h (x + 26) 6 = nI i) (hNw : ¬ poW κ = 99 → i < N) (hκ : κ ≤ 302) : Ct E 2 0 0 mX6_takeOrderWord [.ref (x + 26), .int (nI κ)] h (fun w h' => (poW κ = 99 ∧ w = some (.int (-1)) ∧ h' = h) ∨ (poW κ < 4 ∧ w = some (.int (nI (poW κ))) ∧ h' = wI h (x + 26) 6 (nI (i + 1))) ∨ (¬ poW κ = 99 ∧ 4 ≤ poW κ ∧ numB (tk b n (i + 1)) 0 (if poW κ = 16 then 2 else 5) = true ∧ i + 1 < N ∧ (∃ m, m ≤ (if poW κ = 16 then 2 else 5) ∧ (tk b n (i + 1)).2.2.2 = lN m ∧ w = some (.int (nI (poW κ + m)))) ∧ h' = wI (wI h (x + 26) 6 (nI (i + 1))) (x + 26) 6 (nI (i + 1 + 1))) ∨ (¬ poW κ = 99 ∧ 4 ≤ poW κ ∧ numB (tk b n (i + 1)) 0 (if poW κ = 16 then 2 else 5) = false ∧ w = some (.int (-1)) ∧ h' = wI h (x + 26) 6 (nI (i + 1)))) := by
  have h4 := ht.2.1
  have hp99 := poW_le κ (by omega)
  refine Ct.of (by decide +kernel) (Nat.le_of_ble_eq_true rfl) ?_
  refine r_iload_n (pc := 0) 1 dX6_takeOrderWord_0 rfl ?_
  refine r_dS (pc := 1) (As := [_]) ms_X6_placeOfOrderWord ml_X6_170 (ct_placeOf hκ) rfl rfl (Nat.le_of_ble_eq_true rfl) (Nat.le_of_ble_eq_true rfl) (Nat.le_of_ble_eq_true rfl) (Nat.le_of_ble_eq_true rfl) (Nat.le_of_ble_eq_true rfl) dX6_takeOrderWord_1 ?_
  refine r_istore_n (pc := 4) (lv' := [(0, _), (1, _), (2, _)]) dX6_takeOrderWord_4 (Nat.le_of_ble_eq_true rfl) rfl ?_
  refine r_iload_n (pc := 5) 2 dX6_takeOrderWord_5 rfl ?_
  refine r_iconst (pc := 6) (-1) dX6_takeOrderWord_6 rfl ?_
  refine r_icmp_ne (pc := 7) (tgt := 12) dX6_takeOrderWord_7 (by decide) (fun c_7 => ?_) (fun c_7 => ?_)
  · have hn99 : ¬ poW κ = 99 := fun z => c_7 (by unfold poI; rw [if_pos z])
    have epo : poI κ = nI (poW κ) := by unfold poI; rw [if_neg hn99]
    have hN := hNw hn99
    rw [epo]
    refine r_aload_n (pc := 12) 0 dX6_takeOrderWord_12 rfl ?_
    refine r_dup (pc := 13) dX6_takeOrderWord_13 rfl ?_
    refine r_getI (pc := 14) fl_X6_69 (ca_26 hc) dX6_takeOrderWord_14 ?_
    rw [hi]
    refine r_iconst (pc := 17) (1) dX6_takeOrderWord_17 rfl ?_
    refine r_iadd (pc := 18) dX6_takeOrderWord_18 ?_
    rw [nI_1]
    refine r_putI (pc := 19) fp_X6_69 (ca_26 hc) dX6_takeOrderWord_19 ?_
    have ht2 : TokI (wI h (x + 26) 6 (nI (i + 1))) x b n N := ht.w (Or.inl ⟨rfl, by decide⟩)
    have hc2 : CS E (wI h (x + 26) 6 (nI (i + 1))) x := hc
    have hi2 : hI (wI h (x + 26) 6 (nI (i + 1))) (x + 26) 6 = nI (i + 1) := hI_at
    refine r_iload_n (pc := 22) 2 dX6_takeOrderWord_22 rfl ?_
    refine r_iconst (pc := 23) (4) dX6_takeOrderWord_23 rfl ?_
    refine r_icmp_ge (pc := 24) (tgt := 29) dX6_takeOrderWord_24 (by decide) (fun c_24 => ?_) (fun c_24 => ?_)
    · have h4p : 4 ≤ poW κ := by
        rcases Nat.lt_or_ge (poW κ) 4 with z | z
        · exact absurd c_24 (nI_ge (b := 4) z (by decide))
        · exact z
      have mk : ∀ c2 : Nat, c2 = (if poW κ = 16 then 2 else 5) → ∀ CI : Int32, CI = nI c2 → Wp E mX6_takeOrderWord (Rm 2 0 0) (Qm E (fun w h' => (poW κ = 99 ∧ w = some (.int (-1)) ∧ h' = h) ∨ (poW κ < 4 ∧ w = some (.int (nI (poW κ))) ∧ h' = wI h (x + 26) 6 (nI (i + 1))) ∨ (¬ poW κ = 99 ∧ 4 ≤ poW κ ∧ numB (tk b n (i + 1)) 0 (if poW κ = 16 then 2 else 5) = true ∧ i + 1 < N ∧ (∃ m, m ≤ (if poW κ = 16 then 2 else 5) ∧ (tk b n (i + 1)).2.2.2 = lN m ∧ w = some (.int (nI (poW κ + m)))) ∧ h' = wI (wI h (x + 26) 6 (nI (i + 1))) (x + 26) 6 (nI (i + 1 + 1))) ∨ (¬ poW κ = 99 ∧ 4 ≤ poW κ ∧ numB (tk b n (i + 1)) 0 (if poW κ = 16 then 2 else 5) = false ∧ w = some (.int (-1)) ∧ h' = wI h (x + 26) 6 (nI (i + 1)))) 0 0) 42 [(0, .ref (x + 26)), (1, .int (nI κ)), (2, .int (nI (poW κ)))] [.int CI, .int 0, .ref (x + 26)] (wI h (x + 26) 6 (nI (i + 1))) 0 0 := by
        rintro c2 hc2e CI rfl
        have hlit : (if poW κ = 16 then (2 : Int64) else 5) = lN c2 := by rw [hc2e]; split <;> rfl
        rw [hlit, ← hc2e]
        have hc2b : c2 ≤ 5 := by rw [hc2e]; split <;> omega
        refine r_callV (pc := 42) (As := [_, _]) mv_X6_takeNumber ml_X6_136 (c6_takeNumber (a := 0) hc2 ht2 hi2 (by omega) (by omega) (by omega)) (ca_26 hc2) rfl rfl (Nat.le_of_ble_eq_true rfl) (Nat.le_of_ble_eq_true rfl) (Nat.le_of_ble_eq_true rfl) (Nat.le_of_ble_eq_true rfl) (Nat.le_of_ble_eq_true rfl) dX6_takeOrderWord_42 (fun r h3 hp => ?_)
        rcases hp with ⟨hnb, hiN, ⟨m, -, hm2, hm3, rfl⟩, rfl⟩ | ⟨hnb, rfl, rfl⟩
        · show Wp E mX6_takeOrderWord _ _ _ _ [.int _] _ 0 0
          refine r_istore_n (pc := 45) (lv' := [(0, _), (1, _), (2, _), (3, _)]) dX6_takeOrderWord_45 (Nat.le_of_ble_eq_true rfl) rfl ?_
          refine r_iload_n (pc := 46) 3 dX6_takeOrderWord_46 rfl ?_
          refine r_iconst (pc := 47) (-1) dX6_takeOrderWord_47 rfl ?_
          refine r_icmp_ne (pc := 48) (tgt := 55) dX6_takeOrderWord_48 (by decide) (fun c_48 => ?_) (fun c_48 => ?_)
          · refine r_iload_n (pc := 55) 2 dX6_takeOrderWord_55 rfl ?_
            refine r_iload_n (pc := 56) 3 dX6_takeOrderWord_56 rfl ?_
            refine r_iadd (pc := 57) dX6_takeOrderWord_57 ?_
            refine r_iret (pc := 58) rfl ?_ (Nat.le_of_ble_eq_true rfl) (Nat.le_of_ble_eq_true rfl) dX6_takeOrderWord_58
            rw [nI_add]
            exact Or.inr (Or.inr (Or.inl ⟨hn99, h4p, hnb, hiN, ⟨m, hm2, hm3, rfl⟩, rfl⟩))
          · exact absurd c_48.symm (m1_nI (by omega))
        · show Wp E mX6_takeOrderWord _ _ _ _ [.int _] _ 0 0
          refine r_istore_n (pc := 45) (lv' := [(0, _), (1, _), (2, _), (3, _)]) dX6_takeOrderWord_45 (Nat.le_of_ble_eq_true rfl) rfl ?_
          refine r_iload_n (pc := 46) 3 dX6_takeOrderWord_46 rfl ?_
          refine r_iconst (pc := 47) (-1) dX6_takeOrderWord_47 rfl ?_
          refine r_icmp_ne (pc := 48) (tgt := 55) dX6_takeOrderWord_48 (by decide) (fun c_48 => ?_) (fun c_48 => ?_)
          · exact absurd rfl c_48
          · refine r_iconst (pc := 51) (-1) dX6_takeOrderWord_51 rfl ?_
            refine r_goto (pc := 52) (tgt := 58) dX6_takeOrderWord_52 (by decide) ?_
            refine r_iret (pc := 58) rfl ?_ (Nat.le_of_ble_eq_true rfl) (Nat.le_of_ble_eq_true rfl) dX6_takeOrderWord_58
            exact Or.inr (Or.inr (Or.inr ⟨hn99, h4p, hnb, rfl, rfl⟩))
      refine r_aload_n (pc := 29) 0 dX6_takeOrderWord_29 rfl ?_
      refine r_iconst (pc := 30) (0) dX6_takeOrderWord_30 rfl ?_
      refine r_iload_n (pc := 31) 2 dX6_takeOrderWord_31 rfl ?_
      refine r_bipush (pc := 32) (16) dX6_takeOrderWord_32 rfl ?_
      refine r_icmp_ne (pc := 34) (tgt := 41) dX6_takeOrderWord_34 (by decide) (fun c_34 => ?_) (fun c_34 => ?_)
      · refine r_iconst (pc := 41) (5) dX6_takeOrderWord_41 rfl ?_
        exact mk 5 (by rw [if_neg (fun z => c_34 (by rw [z]; rfl))]) _ rfl
      · have e16 : poW κ = 16 := nI_inj (b := 16) (by omega) (by decide) c_34
        refine r_iconst (pc := 37) (2) dX6_takeOrderWord_37 rfl ?_
        refine r_goto (pc := 38) (tgt := 42) dX6_takeOrderWord_38 (by decide) ?_
        exact mk 2 (by rw [if_pos e16]) _ rfl
    · have h4p : poW κ < 4 := by
        rcases Nat.lt_or_ge (poW κ) 4 with z | z
        · exact z
        · exact absurd (nI_le (a := 4) z (by omega)) c_24
      refine r_iload_n (pc := 27) 2 dX6_takeOrderWord_27 rfl ?_
      refine r_iret (pc := 28) rfl ?_ (Nat.le_of_ble_eq_true rfl) (Nat.le_of_ble_eq_true rfl) dX6_takeOrderWord_28
      exact Or.inr (Or.inl ⟨h4p, rfl, rfl⟩)
  · have h99 : poW κ = 99 := by
      apply Classical.byContradiction
      intro z
      unfold poI at c_7
      rw [if_neg z] at c_7
      exact absurd c_7.symm (m1_nI (by omega))
    refine r_iconst (pc := 10) (-1) dX6_takeOrderWord_10 rfl ?_
    refine r_iret (pc := 11) rfl ?_ (Nat.le_of_ble_eq_true rfl) (Nat.le_of_ble_eq_true rfl) dX6_takeOrderWord_11
    exact Or.inl ⟨h99, rfl, rfl⟩
/-- a part, where no bracket stands -/
theorem c6_leaf {h : Hp} {D d i lv c : Nat} (hw : Wls wl wo) (hr : RdH E h x b n N od i lv c) (hD : 3 ≤ D) (hno : tS (tk b n i) 91 = false) : Wp E mX6_hasPart (Rm D 0 0) (Qm E (pRe E h x b n N od i lv c (semP (mcO b n od test wl wo) d i lv) (falP (mcO b n od test wl wo) d i lv)) 0 0) 19 [(0, .ref (x + 26)), (1, .int (nI d)), (2, .int (hI h (x + 34) i))] [] h 0 0 := by
  have hr0 := hr
  obtain ⟨⟨hc, ht⟩, ⟨hi, hN⟩, ⟨h7, h50⟩, h8, h6, hci⟩ := hr
  have h400 := ht.2.1
  have hkr := ht.kr hN
  obtain ⟨κ, hκ, eκ⟩ := hkr.nat
  rw [eκ] at hkr
  -- what the machine says
  have mach : ∀ pl, aS (mcO b n od test wl wo) (1, i, lv, d, pl, sZ) = rpA wl wo od (tk b n) i lv d pl := fun pl => rfl
  have rp : ∀ pl, rpA wl wo od (tk b n) i lv d pl = (if (¬ prtA wl wo od (tk b n i) = -1 ∨ digB (tk b n i) = true) ∧ lv < 50 then
    (if od = true ∧ (5 : Int32) ≤ prtA wl wo od (tk b n i) then (if numB (tk b n (i + 1)) 0 (if prtA wl wo od (tk b n i) = 7 then 2 else 5) = true then some (.inr (3, i + 2, lv + 1, d, pl, sLf od (prtA wl wo od (tk b n i)) (tk b n (i + 1)).2.2.2.toInt32)) else some (.inl (i + 1)))
     else some (.inr (3, i + 1, lv + 1, d, pl, sLf od (if prtA wl wo od (tk b n i) = -1 then 0 else prtA wl wo od (tk b n i)) (if digB (tk b n i) = true then (tk b n i).2.2.2.toInt32 else 0))))
  else some (.inl i)) := fun pl => by unfold rpA; rw [hno, if_neg (by decide)]
  have fl : ∀ j, (∀ pl, rpA wl wo od (tk b n) i lv d pl = some (.inl j)) → falP (mcO b n od test wl wo) d i lv j := fun j hj pl => Fls.one (by show ¬ (1 : Int32) = 4; decide) ((mach pl).trans (hj pl))
  have gd : ∀ i' s, Bd s → (∀ pl, rpA wl wo od (tk b n) i lv d pl = some (.inr (3, i', lv + 1, d, pl, s))) → semP (mcO b n od test wl wo) d i lv i' (lv + 1) s := fun i' s hs hj => ⟨hs, fun pl => Gos.one (by show ¬ (1 : Int32) = 4; decide) ((mach pl).trans (hj pl))⟩
  refine r_aload_n (pc := 19) 0 dX6_hasPart_19 rfl ?_
  refine r_getI (pc := 20) fl_X6_72 (ca_26 hc) dX6_hasPart_20 ?_
  rw [h7]
  refine r_bipush (pc := 23) (50) dX6_hasPart_23 rfl ?_
  refine r_icmp_lt (pc := 25) (tgt := 30) dX6_hasPart_25 (by decide) (fun c_25 => ?_) (fun c_25 => ?_)
  · have hlv : lv < 50 := by
      rcases Nat.lt_or_ge lv 50 with z | z
      · exact z
      · exact absurd c_25 (nI_nlt (b := 50) z (by omega))
    refine r_aload_n (pc := 30) 0 dX6_hasPart_30 rfl ?_
    refine r_dup (pc := 31) dX6_hasPart_31 rfl ?_
    refine r_getI (pc := 32) fl_X6_72 (ca_26 hc) dX6_hasPart_32 ?_
    rw [h7]
    refine r_iconst (pc := 35) (1) dX6_hasPart_35 rfl ?_
    refine r_iadd (pc := 36) dX6_hasPart_36 ?_
    rw [nI_1]
    refine r_putI (pc := 37) fp_X6_72 (ca_26 hc) dX6_hasPart_37 ?_
    have hr1 := hr0.prt (lv' := lv + 1) (by omega)
    have f1 : Fr (rdS x c) h (wI h (x + 26) 7 (nI (lv + 1))) := Fr.wI (by unfold rdS; omega)
    generalize wI h (x + 26) 7 (nI (lv + 1)) = h1 at hr1 f1 ⊢
    obtain ⟨⟨hc1, ht1⟩, ⟨hi1, -⟩, -, h81, -, -⟩ := id hr1
    -- the end: a leaf is laid down, or none
    have done : ∀ (h2 : Hp) (i' w : Nat) (q : Bool) (s : Sm), RdH E h2 x b n N od i' (lv + 1) c → Fr (rdS x c) h h2 → i < i' → (∀ e, s e = some (if q = true then (nI w).toInt64 else e w)) → (q = false → w < wlw od) → (q = true → w ≤ 1000) → (∀ pl, rpA wl wo od (tk b n) i lv d pl = some (.inr (3, i', lv + 1, d, pl, s))) → Wp E mX6_hasPart (Rm D 0 0) (Qm E (pRe E h x b n N od i lv c (semP (mcO b n od test wl wo) d i lv) (falP (mcO b n od test wl wo) d i lv)) 0 0) 98 [(0, .ref (x + 26)), (1, .int (nI d)), (2, .int (nI κ)), (3, .int (bI q)), (4, .int (nI w))] [] h2 0 0 := by
      intro h2 i' w q s hr2 f2 hii hs hwq hwn hm
      have hc2 := hr2.1.1
      have h31 : wlw od < 2 ^ 31 := by unfold wlw; split <;> decide
      have fin : ∀ o : Int32, o = (if q = true then 300 else 303) → Wp E mX6_hasPart (Rm D 0 0) (Qm E (pRe E h x b n N od i lv c (semP (mcO b n od test wl wo) d i lv) (falP (mcO b n od test wl wo) d i lv)) 0 0) 115 [(0, .ref (x + 26)), (1, .int (nI d)), (2, .int (nI κ)), (3, .int (bI q)), (4, .int (nI w))] [.int o, .ref (x + 27)] h2 0 0 := by
        intro o ho
        refine r_iload (pc := 115) 4 dX6_hasPart_115 rfl ?_
        refine r_dV (pc := 117) (As := [_, _]) mv_X10_add ml_X6_148 (c6_add hr2 (by omega) _ _) (tx_is (cs_tx27 hc2)) rfl rfl (Nat.le_of_ble_eq_true rfl) (fr_le (by omega)) (lo_le (by decide) (by omega)) (Nat.le_of_ble_eq_true rfl) (Nat.le_of_ble_eq_true rfl) dX6_hasPart_117 ?_
        refine r_pop (pc := 120) dX6_hasPart_120 rfl ?_
        refine r_iconst (pc := 121) (1) dX6_hasPart_121 rfl ?_
        refine r_zret (pc := 122) rfl (by decide) ?_ (Nat.le_of_ble_eq_true rfl) (Nat.le_of_ble_eq_true rfl) dX6_hasPart_122
        refine ⟨f2.tr adH_fr, Or.inl ⟨rfl, i', lv + 1, c + 1, s, hr2.add (by omega), hii, by omega, by omega, by omega, ?_, gd i' s ?_ hm⟩⟩
        · rw [show lv + 1 - lv = 1 by omega]
          cases q with
          | true => exact CSeg_num (by rw [adH_O, ho]; rfl) (fun e => by rw [hs e, adH_A]; rfl)
          | false => exact CSeg_word (w := w) (by rw [adH_O, ho]; rfl) adH_A (hwq rfl) h31 (fun e => by rw [hs e]; rfl)
        · cases q with
          | true => exact Bd.num (hwn rfl) (fun e => by rw [hs e]; rfl)
          | false => exact Bd.leaf (fun e => ⟨w, by rw [hs e]; rfl⟩)
      refine r_aload_n (pc := 98) 0 dX6_hasPart_98 rfl ?_
      refine r_getR (pc := 99) fl_X6_14 (ca_26 hc2) (cf_26_0 hc2) dX6_hasPart_99 ?_
      refine r_iload_n (pc := 102) 3 dX6_hasPart_102 rfl ?_
      refine r_if_eq (pc := 103) (tgt := 112) dX6_hasPart_103 (by decide) (fun c_103 => ?_) (fun c_103 => ?_)
      · refine r_sipush (pc := 112) (303) dX6_hasPart_112 rfl ?_
        exact fin _ (by rw [bI_0.mp c_103]; rfl)
      · refine r_sipush (pc := 106) (300) dX6_hasPart_106 rfl ?_
        refine r_goto (pc := 109) (tgt := 115) dX6_hasPart_109 (by decide) ?_
        exact fin _ (by rw [bI_n0.mp c_103]; rfl)
    have none : ∀ (h2 : Hp) (j : Nat) (q : Bool), Fr (rdS x c) h h2 → hI h2 (x + 26) 6 = nI j → j ≤ N → (∀ pl, rpA wl wo od (tk b n) i lv d pl = some (.inl j)) → Wp E mX6_hasPart (Rm D 0 0) (Qm E (pRe E h x b n N od i lv c (semP (mcO b n od test wl wo) d i lv) (falP (mcO b n od test wl wo) d i lv)) 0 0) 88 [(0, .ref (x + 26)), (1, .int (nI d)), (2, .int (nI κ)), (3, .int (bI q))] [.int (-1)] h2 0 0 := by
      intro h2 j q f2 hj hjN hm
      refine r_istore (pc := 88) (lv' := [(0, _), (1, _), (2, _), (3, _), (4, _)]) dX6_hasPart_88 (Nat.le_of_ble_eq_true rfl) rfl ?_
      refine r_iload (pc := 90) 4 dX6_hasPart_90 rfl ?_
      refine r_iconst (pc := 92) (-1) dX6_hasPart_92 rfl ?_
      refine r_icmp_ne (pc := 93) (tgt := 98) dX6_hasPart_93 (by decide) (fun c_93 => ?_) (fun c_93 => ?_)
      · exact absurd rfl c_93
      · refine r_iconst (pc := 96) (0) dX6_hasPart_96 rfl ?_
        refine r_zret (pc := 97) rfl (by decide) ?_ (Nat.le_of_ble_eq_true rfl) (Nat.le_of_ble_eq_true rfl) dX6_hasPart_97
        exact ⟨f2, Or.inr ⟨rfl, j, hj, hjN, fl j hm⟩⟩
    have some88 : ∀ (h2 : Hp) (i' w : Nat) (q : Bool) (s : Sm), RdH E h2 x b n N od i' (lv + 1) c → Fr (rdS x c) h h2 → i < i' → (∀ e, s e = some (if q = true then (nI w).toInt64 else e w)) → (q = false → w < wlw od) → (q = true → w ≤ 1000) → (∀ pl, rpA wl wo od (tk b n) i lv d pl = some (.inr (3, i', lv + 1, d, pl, s))) → Wp E mX6_hasPart (Rm D 0 0) (Qm E (pRe E h x b n N od i lv c (semP (mcO b n od test wl wo) d i lv) (falP (mcO b n od test wl wo) d i lv)) 0 0) 88 [(0, .ref (x + 26)), (1, .int (nI d)), (2, .int (nI κ)), (3, .int (bI q))] [.int (nI w)] h2 0 0 := by
      intro h2 i' w q s hr2 f2 hii hs hwq hwn hm
      have hw31 : w < 2 ^ 31 := by
        cases q with
        | true => have := hwn rfl; omega
        | false => have := hwq rfl; unfold wlw at this; split at this <;> omega
      refine r_istore (pc := 88) (lv' := [(0, _), (1, _), (2, _), (3, _), (4, _)]) dX6_hasPart_88 (Nat.le_of_ble_eq_true rfl) rfl ?_
      refine r_iload (pc := 90) 4 dX6_hasPart_90 rfl ?_
      refine r_iconst (pc := 92) (-1) dX6_hasPart_92 rfl ?_
      refine r_icmp_ne (pc := 93) (tgt := 98) dX6_hasPart_93 (by decide) (fun c_93 => ?_) (fun c_93 => ?_)
      · exact done h2 i' w q s hr2 f2 hii hs hwq hwn hm
      · exact absurd c_93.symm (m1_nI hw31)
    have hnum : nI κ = 300 ↔ (tk b n i).2.2.1 = 2 := hkr.nm
    have hiw : (tk b n i).2.2.1 = 1 → i < N := fun z => by
      rcases Nat.lt_or_ge i N with w | w
      · exact w
      · have := (ht.end hN).mpr (by omega); rw [this] at z; exact absurd z (by decide)
    have at53 : ∀ q : Bool, (q = true ↔ nI κ = 300) → Wp E mX6_hasPart (Rm D 0 0) (Qm E (pRe E h x b n N od i lv c (semP (mcO b n od test wl wo) d i lv) (falP (mcO b n od test wl wo) d i lv)) 0 0) 52 [(0, .ref (x + 26)), (1, .int (nI d)), (2, .int (nI κ))] [.int (bI q)] h1 0 0 := by
      intro q hq
      refine r_istore_n (pc := 52) (lv' := [(0, _), (1, _), (2, _), (3, _)]) dX6_hasPart_52 (Nat.le_of_ble_eq_true rfl) rfl ?_
      refine r_iload_n (pc := 53) 3 dX6_hasPart_53 rfl ?_
      refine r_if_eq (pc := 54) (tgt := 68) dX6_hasPart_54 (by decide) (fun c_54 => ?_) (fun c_54 => ?_)
      · -- no number
        have hqf := bI_0.mp c_54
        have hn300 : ¬ nI κ = 300 := fun z => by rw [hq.mpr z] at hqf; cases hqf
        have hdig : digB (tk b n i) = false := by
          unfold digB; exact decide_eq_false (fun z => hn300 (hnum.mpr z.1))
        refine r_aload_n (pc := 68) 0 dX6_hasPart_68 rfl ?_
        refine r_getI (pc := 69) fl_X6_52 (ca_26 hc1) dX6_hasPart_69 ?_
        rw [h81]
        refine r_if_eq (pc := 72) (tgt := 83) dX6_hasPart_72 (by decide) (fun c_72 => ?_) (fun c_72 => ?_)
        · -- orders
          have hod : od = true := by
            cases hz : od with
            | true => rfl
            | false => rw [hz] at c_72; exact absurd c_72 (by decide)
          obtain ⟨po1, po2⟩ := prt_ord hkr hκ hw
          have ep : prtA wl wo od (tk b n i) = ptN wo (tk b n i) 7 := by unfold prtA; rw [if_pos hod]
          have hex : ¬ poW κ = 99 → ∃ j, j < 7 ∧ κ = 256 + ordV j := fun z => by
            apply Classical.byContradiction
            intro w
            exact z ((poW_ord κ (by omega)).mpr (fun j hj e => w ⟨j, hj, e⟩))
          have hNw : ¬ poW κ = 99 → i < N := fun z => by
            obtain ⟨j, hj, e⟩ := hex z
            have hv := ordV_lt j hj
            have := (hkr.wd hv).mp (by rw [e])
            exact hiw (of_decide_eq_true this).1
          refine r_aload_n (pc := 83) 0 dX6_hasPart_83 rfl ?_
          refine r_iload_n (pc := 84) 2 dX6_hasPart_84 rfl ?_
          refine r_callV (pc := 85) (As := [_]) mv_X6_takeOrderWord ml_X6_167 (c6_takeOrderWord hc1 ht1 hi1 hNw hκ) (ca_26 hc1) rfl rfl (Nat.le_of_ble_eq_true rfl) (fr_le (by omega)) (lo_le (by decide) (by omega)) (Nat.le_of_ble_eq_true rfl) (Nat.le_of_ble_eq_true rfl) dX6_hasPart_85 (fun r h2 hp => ?_)
          rcases hp with ⟨h99, rfl, rfl⟩ | ⟨h4p, rfl, rfl⟩ | ⟨hn99, h4p, hnb, hiN, ⟨m, hm2, hm3, rfl⟩, rfl⟩ | ⟨hn99, h4p, hnb, rfl, rfl⟩
          · have hn7 := (poW_ord κ (by omega)).mp h99
            show Wp E mX6_hasPart _ _ _ _ [.int _] _ 0 0
            refine none _ i q f1 hi1 hN (fun pl => ?_)
            rw [rp, ep, po2 hn7, hdig, if_neg (fun z => z.1.elim (fun w => w rfl) (fun w => by cases w))]
          · obtain ⟨j, hj, e⟩ := hex (by omega)
            have hpw : poW κ = opP j := by rw [e]; exact poW_at j hj
            obtain ⟨o1, o2, -⟩ := opP_4 j hj
            have hj4 : j < 4 := o1.mp (by omega)
            have hiN := hNw (by omega)
            rw [hpw, o2 hj4]
            show Wp E mX6_hasPart _ _ _ _ [.int _] _ 0 0
            refine some88 _ (i + 1) j q (sLf od (nI (j + 1)) 0) (hr1.now (by omega) (by omega)) (f1.tr (Fr.wI (by unfold rdS; omega))) (by omega) (fun e => ?_) (fun _ => by unfold wlw; rw [hod, if_pos rfl]; omega) (fun z => by rw [hqf] at z; cases z) (fun pl => ?_)
            · rw [hqf, if_neg (by decide)]
              unfold sLf lfE
              rw [if_neg (nI_ne0 (by omega) (by omega)), hod, if_neg (by decide), if_pos (show nI (j + 1) < 5 from nI_lt (b := 5) (by omega) (by decide)), nI_clamp (by omega), Nat.add_sub_cancel]
            · rw [rp, ep, po1 j hj e, hdig, if_pos ⟨Or.inl (fun z => m1_nI (by omega) z.symm), hlv⟩, if_neg (fun z => absurd z.2 (nI_ge (b := 5) (by omega) (by decide))), if_neg (fun z => m1_nI (by omega) z.symm), if_neg (by decide)]
          · obtain ⟨j, hj, e⟩ := hex hn99
            have hpw : poW κ = opP j := by rw [e]; exact poW_at j hj
            obtain ⟨o1, o2, o3, o4, o5⟩ := opP_4 j hj
            have hj4 : 4 ≤ j := by
              rcases Nat.lt_or_ge j 4 with z | z
              · have := o1.mpr z; omega
              · exact z
            have h16 : (poW κ = 16) ↔ (nI (j + 1) = 7) := by
              rw [hpw, o3]
              exact ⟨fun z => by rw [z]; rfl, fun z => by have := nI_inj (b := 7) (by omega) (by decide) z; omega⟩
            have hlim : numB (tk b n (i + 1)) 0 (if nI (j + 1) = 7 then 2 else 5) = true := by
              by_cases hz : poW κ = 16
              · rw [if_pos hz] at hnb; rw [if_pos (h16.mp hz)]; exact hnb
              · rw [if_neg hz] at hnb; rw [if_neg (fun w => hz (h16.mpr w))]; exact hnb
            have hm5 : m ≤ 5 ∧ (j = 6 → m ≤ 2) := by
              by_cases hz : poW κ = 16
              · rw [if_pos hz] at hm2; exact ⟨by omega, fun _ => hm2⟩
              · rw [if_neg hz] at hm2; exact ⟨hm2, fun w => absurd (hpw.trans (o3.mpr w)) hz⟩
            show Wp E mX6_hasPart _ _ _ _ [.int _] _ 0 0
            refine some88 _ (i + 1 + 1) (poW κ + m) q (sLf od (nI (j + 1)) (nI m)) ((hr1.now (by omega) (by omega)).now (by omega) (by omega)) (f1.tr ((Fr.wI (by unfold rdS; omega)).tr (Fr.wI (by unfold rdS; omega)))) (by omega) (fun e => ?_) (fun _ => ?_) (fun z => by rw [hqf] at z; cases z) (fun pl => ?_)
            · rw [hqf, if_neg (by decide)]
              unfold sLf lfE
              rw [if_neg (nI_ne0 (by omega) (by omega)), hod, if_neg (by decide), if_neg (show ¬ nI (j + 1) < 5 from nI_nlt (b := 5) (by omega) (by omega)), nI_clamp (n := m) (by omega), hpw]
              rcases (by omega : j = 4 ∨ j = 5 ∨ j = 6) with z | z | z
              · subst z; rfl
              · subst z; rfl
              · subst z; rfl
            · unfold wlw
              rw [hod, if_pos rfl, hpw]
              rcases (by omega : j = 4 ∨ j = 5 ∨ j = 6) with z | z | z
              · rw [o5.mpr z]; omega
              · rw [o4.mpr z]; omega
              · rw [o3.mpr z]; have := hm5.2 z; omega
            · rw [rp, ep, po1 j hj e, if_pos ⟨Or.inl (fun z => m1_nI (by omega) z.symm), hlv⟩, if_pos ⟨hod, nI_le (a := 5) (by omega) (by omega)⟩, if_pos hlim, hm3, lN_i]
          · obtain ⟨j, hj, e⟩ := hex hn99
            have hpw : poW κ = opP j := by rw [e]; exact poW_at j hj
            obtain ⟨o1, o2, o3, o4, o5⟩ := opP_4 j hj
            have hj4 : 4 ≤ j := by
              rcases Nat.lt_or_ge j 4 with z | z
              · have := o1.mpr z; omega
              · exact z
            have hiN := hNw hn99
            have h16 : (poW κ = 16) ↔ (nI (j + 1) = 7) := by
              rw [hpw, o3]
              exact ⟨fun z => by rw [z]; rfl, fun z => by have := nI_inj (b := 7) (by omega) (by decide) z; omega⟩
            have hlim : numB (tk b n (i + 1)) 0 (if nI (j + 1) = 7 then 2 else 5) = false := by
              by_cases hz : poW κ = 16
              · rw [if_pos hz] at hnb; rw [if_pos (h16.mp hz)]; exact hnb
              · rw [if_neg hz] at hnb; rw [if_neg (fun w => hz (h16.mpr w))]; exact hnb
            show Wp E mX6_hasPart _ _ _ _ [.int _] _ 0 0
            refine none _ (i + 1) q (f1.tr (Fr.wI (by unfold rdS; omega))) hI_at (by omega) (fun pl => ?_)
            rw [rp, ep, po1 j hj e, if_pos ⟨Or.inl (fun z => m1_nI (by omega) z.symm), hlv⟩, if_pos ⟨hod, nI_le (a := 5) (by omega) (by omega)⟩, hlim, if_neg (by decide)]
        · -- laws
          have hod : od = false := by
            cases hz : od with
            | false => rfl
            | true => rw [hz] at c_72; exact absurd rfl c_72
          obtain ⟨pl1, pl2⟩ := prt_law hkr hκ hw
          have ep : prtA wl wo od (tk b n i) = ptN wl (tk b n i) 8 := by unfold prtA; rw [hod, if_neg (by decide)]
          refine r_aload_n (pc := 75) 0 dX6_hasPart_75 rfl ?_
          refine r_iload_n (pc := 76) 2 dX6_hasPart_76 rfl ?_
          refine r_callV (pc := 77) (As := [_]) mv_X6_takeLawWord ml_X6_164 (c6_takeLawWord hc1 hi1 hκ) (ca_26 hc1) rfl rfl (Nat.le_of_ble_eq_true rfl) (fr_le (by omega)) (lo_le (by decide) (by omega)) (Nat.le_of_ble_eq_true rfl) (Nat.le_of_ble_eq_true rfl) dX6_hasPart_77 (fun r h2 hp => ?_)
          rcases hp with ⟨u, hu, eu, rfl, rfl⟩ | ⟨hn8, rfl, rfl⟩
          · show Wp E mX6_hasPart _ _ _ _ [.int _] _ 0 0
            have ews : (tk b n i).2.2.1 = 1 := by
              have := (hkr.wd (show 15 + u < 27 by omega)).mp (by rw [eu]; congr 1; omega)
              exact (of_decide_eq_true this).1
            have hiN := hiw ews
            refine r_goto (pc := 80) (tgt := 88) dX6_hasPart_80 (by decide) ?_
            refine some88 _ (i + 1) u q (sLf od (nI (u + 1)) 0) (hr1.now (by omega) (by omega)) (f1.tr (Fr.wI (by unfold rdS; omega))) (by omega) (fun e => ?_) (fun _ => by unfold wlw; rw [hod, if_neg (by decide)]; exact hu) (fun z => by rw [hqf] at z; cases z) (fun pl => ?_)
            · rw [hqf, if_neg (by decide)]
              unfold sLf lfE
              rw [if_neg (nI_ne0 (by omega) (by omega)), hod, if_pos rfl, nI_clamp (by omega), Nat.add_sub_cancel]
            · rw [rp, ep, pl1 u hu eu, hdig, if_pos ⟨Or.inl (fun z => m1_nI (by omega) z.symm), hlv⟩, hod, if_neg (fun z => by cases z.1), if_neg (fun z => m1_nI (by omega) z.symm), if_neg (by decide)]
          · show Wp E mX6_hasPart _ _ _ _ [.int _] _ 0 0
            refine r_goto (pc := 80) (tgt := 88) dX6_hasPart_80 (by decide) ?_
            refine none _ i q f1 hi1 hN (fun pl => ?_)
            rw [rp, ep, pl2 hn8, hdig, if_neg (fun z => z.1.elim (fun w => w rfl) (fun w => by cases w))]
      · -- a number
        have hqt := bI_n0.mp c_54
        have h2 := hnum.mp (hq.mp hqt)
        obtain ⟨m0, hm31, hm0, -⟩ := hkr.num h2
        have eprt : prtA wl wo od (tk b n i) = -1 := by
          unfold prtA
          have hf : ∀ w : Int64, tW (tk b n i) w = false := fun w => by unfold tW; exact decide_eq_false (fun z => by rw [h2] at z; exact absurd z.1 (by decide))
          split
          · exact ptN_no 7 (fun k _ => hf _)
          · exact ptN_no 8 (fun k _ => hf _)
        have hdiff : digB (tk b n i) = true ↔ m0 ≤ 1000 := by
          unfold digB
          rw [decide_eq_true_eq, hm0]
          exact ⟨fun z => (lN_le (b := 1000) hm31 (by decide)).mp z.2, fun z => ⟨h2, (lN_le (b := 1000) hm31 (by decide)).mpr z⟩⟩
        have hnb := numB_iff (a := 0) (c := 1000) h2 hm0 hm31 (by decide) (by decide)
        refine r_aload_n (pc := 57) 0 dX6_hasPart_57 rfl ?_
        refine r_iconst (pc := 58) (0) dX6_hasPart_58 rfl ?_
        refine r_sipush (pc := 59) (1000) dX6_hasPart_59 rfl ?_
        refine r_callV (pc := 62) (As := [_, _]) mv_X6_takeNumber ml_X6_136 (c6_takeNumber (a := 0) (c := 1000) hc1 ht1 hi1 hN (by omega) (by omega)) (ca_26 hc1) rfl rfl (Nat.le_of_ble_eq_true rfl) (fr_le (by omega)) (lo_le (by decide) (by omega)) (Nat.le_of_ble_eq_true rfl) (Nat.le_of_ble_eq_true rfl) dX6_hasPart_62 (fun r h2 hp => ?_)
        rcases hp with ⟨hnt, hiN, ⟨m, -, hm2, hm3, rfl⟩, rfl⟩ | ⟨hnf, rfl, rfl⟩
        · show Wp E mX6_hasPart _ _ _ _ [.int _] _ 0 0
          have emm : m = m0 := lN_inj (by omega) (by omega) (hm3.symm.trans hm0)
          refine r_goto (pc := 65) (tgt := 88) dX6_hasPart_65 (by decide) ?_
          refine some88 _ (i + 1) m q (sLf od 0 (nI m)) (hr1.now (by omega) (by omega)) (f1.tr (Fr.wI (by unfold rdS; omega))) (by omega) (fun e => ?_) (fun z => by rw [hqt] at z; cases z) (fun _ => hm2) (fun pl => ?_)
          · rw [hqt, if_pos rfl]
            unfold sLf lfE
            rw [if_pos rfl]
          · rw [rp, eprt, if_pos ⟨Or.inr (hdiff.mpr (by omega)), hlv⟩, if_neg (fun z => absurd z.2 (by decide)), if_pos rfl, if_pos (hdiff.mpr (by omega)), hm0, lN_i, emm]
        · show Wp E mX6_hasPart _ _ _ _ [.int _] _ 0 0
          refine r_goto (pc := 65) (tgt := 88) dX6_hasPart_65 (by decide) ?_
          refine none _ i q f1 hi1 hN (fun pl => ?_)
          have hd : digB (tk b n i) = false := by
            cases hz : digB (tk b n i) with
            | false => rfl
            | true =>
              have := hnb.mpr ⟨by omega, hdiff.mp hz⟩
              rw [show (lN 0 : Int64) = 0 from rfl] at this hnf
              rw [this] at hnf; cases hnf
          rw [rp, eprt, hd, if_neg (fun z => z.1.elim (fun w => w rfl) (fun w => by cases w))]
    rw [eκ]
    refine r_iload_n (pc := 40) 2 dX6_hasPart_40 rfl ?_
    refine r_sipush (pc := 41) (300) dX6_hasPart_41 rfl ?_
    refine r_icmp_ne (pc := 44) (tgt := 51) dX6_hasPart_44 (by decide) (fun c_44 => ?_) (fun c_44 => ?_)
    · refine r_iconst (pc := 51) (0) dX6_hasPart_51 rfl ?_
      exact at53 false ⟨fun z => absurd z (by decide), fun z => absurd z c_44⟩
    · refine r_iconst (pc := 47) (1) dX6_hasPart_47 rfl ?_
      refine r_goto (pc := 48) (tgt := 52) dX6_hasPart_48 (by decide) ?_
      exact at53 true ⟨fun _ => c_44, fun _ => rfl⟩
  · have hlv : ¬ lv < 50 := fun z => c_25 (nI_lt (b := 50) z (by decide))
    refine r_iconst (pc := 28) (0) dX6_hasPart_28 rfl ?_
    refine r_zret (pc := 29) rfl (by decide) ?_ (Nat.le_of_ble_eq_true rfl) (Nat.le_of_ble_eq_true rfl) dX6_hasPart_29
    refine ⟨Fr.rf, Or.inr ⟨rfl, i, hi, hN, fl i (fun pl => ?_)⟩⟩
    rw [rp, if_neg (fun z => hlv z.2)]
end PART2
