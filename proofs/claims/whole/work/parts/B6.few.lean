/-! the class: how few lives explain what was seen -/
section FEW
variable {E : En} {h : Hp} {x p : Nat} {r : Nat → Int32}
theorem wRow_row {a : Nat} {f g : Nat → Int32} : wRow (wRow h a f) a g = wRow h a g := by
  unfold wRow
  congr 2
  funext b
  show va_up (va_up h.2.1 a f) a g b = va_up h.2.1 a g b
  by_cases hb : b = a
  · subst hb; rw [va_up_self, va_up_self]
  · rw [va_up_ne _ _ hb, va_up_ne _ _ hb, va_up_ne _ _ hb]
theorem FitI.ft {fo : Option (List Cl)} {k y li sg : Nat} (hy : y < 511) (hF : FitI h x r fo k y li sg 9 0) : FtP r fo k y li sg (hI h (x + 99)) := fun t j h1 h2 h3 => hF t j h1 h2 h3 (Or.inl (by have := pc_le8 y hy; omega))
theorem Lst.s {Q : Nat → Prop} {v : Int32} {s : Nat} (hv : Lst Q v) (hs : s ≤ 100) : Lst (fun t => Q t ∨ t = s) (if v = -1 ∨ nI s < v then nI s else v) := by
  rcases hv with ⟨e, hno⟩ | ⟨s0, h0, e, hQ, hmin⟩
  · rw [if_pos (Or.inl e)]
    exact Or.inr ⟨s, hs, rfl, Or.inr rfl, fun t ht => ht.elim (fun z => absurd z (hno t)) (fun z => by omega)⟩
  · by_cases hlt : s < s0
    · rw [if_pos (Or.inr (by rw [e]; exact nI_lt hlt (by omega)))]
      exact Or.inr ⟨s, hs, rfl, Or.inr rfl, fun t ht => ht.elim (fun z => by have := hmin t z; omega) (fun z => by omega)⟩
    · rw [if_neg (fun z => z.elim (fun w => m1_nI (n := s0) (by omega) (by rw [← w, e])) (fun w => by rw [e] at w; exact absurd w (nI_nlt (by omega) (by omega))))]
      exact Or.inr ⟨s0, h0, e, Or.inl hQ, fun t ht => ht.elim (fun z => hmin t z) (fun z => by omega)⟩
theorem Lst.cg {Q Q' : Nat → Prop} {v : Int32} (hv : Lst Q v) (hq : ∀ s, Q s ↔ Q' s) : Lst Q' v := by
  rcases hv with ⟨e, hno⟩ | ⟨s0, h0, e, hQ, hmin⟩
  · exact Or.inl ⟨e, fun s z => hno s ((hq s).mpr z)⟩
  · exact Or.inr ⟨s0, h0, e, (hq s0).mp hQ, fun t ht => hmin t ((hq t).mpr ht)⟩
theorem c8_fewestLives (hc : CS E h x) (hpx : pOf x p) (hv : PtV h p r) {n ns nl sg : Nat} (hrw : RwOK r n ns) (h3 : r 3 = nI nl) (hl6 : nl ≤ 6) {lw : Option Nat} {fo : Option (List Cl)} (hlw : LwA h p r nl lw) (hfo : FoL E h x fo lw) {k li y : Nat} (hk : k < 6) (eli : r (8 + k) = nI li) (hli : li < 9) (ey : r (14 + k) = nI y) (hy : y < 511) (hsg : r 2 = nI sg) (h8 : sg ≤ 8) : Ct E 5 0 0 mX8_fewestLives [.ref (x + 96), .ref p, .int (nI k)] h (fun v h' => v = some (.int (if sg = 0 then 0 else if exV r fo k sg = 100000000 then -1 else exV r fo k sg)) ∧ Fr (siS x) h h') := by
  have hp := pt_of hc hpx
  have hp8 := pc_le8 y hy
  refine Ct.of (by decide +kernel) (Nat.le_of_ble_eq_true rfl) ?_
  refine r_aload_n (pc := 0) 1 dX8_fewestLives_0 rfl ?_
  refine r_getI (pc := 1) fl_X8_40 (pt_is hp) dX8_fewestLives_1 ?_
  rw [pv_2 hv, hsg]
  refine r_if_ne (pc := 4) (tgt := 9) dX8_fewestLives_4 (by decide) (fun c_4 => ?_) (fun c_4 => ?_)
  · have hs0 : ¬ sg = 0 := fun z => c_4 (by rw [z]; rfl)
    refine r_aload_n (pc := 9) 1 dX8_fewestLives_9 rfl ?_
    refine r_getR (pc := 10) fl_X8_94 (pt_is hp) (pt_f2 hp) dX8_fewestLives_10 ?_
    refine r_iload_n (pc := 13) 2 dX8_fewestLives_13 rfl ?_
    refine r_iald (pc := 14) (j := k) (pt_r2 hp) rfl (by omega) (by decide) dX8_fewestLives_14 ?_
    rw [pv_ye hv hk, ey]
    refine r_istore_n (pc := 15) (lv' := [(0, _), (1, _), (2, _), (3, _)]) dX8_fewestLives_15 (Nat.le_of_ble_eq_true rfl) rfl ?_
    refine r_aload_n (pc := 16) 0 dX8_fewestLives_16 rfl ?_
    refine r_aload_n (pc := 17) 1 dX8_fewestLives_17 rfl ?_
    refine r_iload_n (pc := 18) 2 dX8_fewestLives_18 rfl ?_
    refine r_callV (pc := 19) (As := [_, _]) mv_X8_findFitting ml_X8_97 (c8_findFitting hc hpx hv hrw h3 hl6 hlw hfo hk eli hli ey hy hsg h8) (ca_96 hc) rfl rfl (Nat.le_of_ble_eq_true rfl) (Nat.le_of_ble_eq_true rfl) (Nat.le_of_ble_eq_true rfl) (Nat.le_of_ble_eq_true rfl) (Nat.le_of_ble_eq_true rfl) dX8_fewestLives_19 (fun r h2 hp => ?_)
    obtain ⟨rfl, f2, hF2⟩ := hp
    show Wp E mX8_fewestLives _ _ _ _ [] _ 0 0
    have hc2 := hc.si f2
    have hv2 := hv.si hpx f2
    have hp2 := pt_of hc2 hpx
    have hFt := FitI.ft hy hF2
    refine r_aload_n (pc := 22) 0 dX8_fewestLives_22 rfl ?_
    refine r_getR (pc := 23) fl_X8_25 (ca_96 hc2) (cf_96_4 hc2) dX8_fewestLives_23 ?_
    refine r_iconst (pc := 26) (0) dX8_fewestLives_26 rfl ?_
    refine r_dS0 (pc := 27) (As := [_, _]) ms_J7_fill_53178 ml_X8_83 (ct_fillI (cr_100 hc2) (by decide) 0) rfl rfl (Nat.le_of_ble_eq_true rfl) (Nat.le_of_ble_eq_true rfl) (Nat.le_of_ble_eq_true rfl) (Nat.le_of_ble_eq_true rfl) (Nat.le_of_ble_eq_true rfl) dX8_fewestLives_27 ?_
    have hc3 : ∀ g : Nat → Int32, CS E (wRow h2 (x + 100) g) x := fun g => hc2
    have hv3 : ∀ g : Nat → Int32, PtV (wRow h2 (x + 100) g) p r := fun g => hv.si hpx (f2.tr (Fr.wRow (fun k => Or.inr (Or.inl (by omega)))))
    have frg : ∀ g : Nat → Int32, Fr (siS x) h (wRow h2 (x + 100) g) := fun g => f2.tr (Fr.wRow (fun k => Or.inr (Or.inl (by omega))))
    have fin : ∀ (g : Nat → Int32), LaI r fo k y li sg g → ∀ T, T ≤ y + 1 → ∀ v : Int32, Lst (fun s => ∃ T', T' < T ∧ ¬ g T' = 0 ∧ s = 1 + pcN T' 9) v → Wp E mX8_fewestLives (Rm 5 0 0) (Qm E (fun v h' => v = some (.int (if sg = 0 then 0 else if exV r fo k sg = 100000000 then -1 else exV r fo k sg)) ∧ Fr (siS x) h h') 0 0) 73 [(0, .ref (x + 96)), (1, .ref p), (2, .int (nI k)), (3, .int (nI y)), (4, .int v), (5, .int (nI T))] [] (wRow h2 (x + 100) g) 0 0 := by
      intro g hL
      refine upTo (fun T hT ih => ?_) ?_
      · intro v hv4
        have hcg := hc3 g
        have hpT := pc_le9 T (by omega)
        have no : g T = 0 → ∀ v6 : Int32, Wp E mX8_fewestLives (Rm 5 0 0) (Qm E (fun v h' => v = some (.int (if sg = 0 then 0 else if exV r fo k sg = 100000000 then -1 else exV r fo k sg)) ∧ Fr (siS x) h h') 0 0) 115 [(0, .ref (x + 96)), (1, .ref p), (2, .int (nI k)), (3, .int (nI y)), (4, .int v), (5, .int (nI T)), (6, .int v6)] [] (wRow h2 (x + 100) g) 0 0 := by
          intro hz v6
          refine r_iinc (pc := 115) (v := _ + (1)) (lv' := [(0, _), (1, _), (2, _), (3, _), (4, _), (5, _), (6, _)]) 5 dX8_fewestLives_115 rfl rfl (Nat.le_of_ble_eq_true rfl) rfl ?_
          refine r_goto (pc := 118) (tgt := 73) dX8_fewestLives_118 (by decide) ?_
          refine r_sub [0, 1, 2, 3, 4, 5] rfl ?_
          rw [nI_1]
          refine ih v (hv4.cg (fun s => ⟨fun ⟨T', a1, a2⟩ => ⟨T', by omega, a2⟩, fun ⟨T', a1, a2, a3⟩ => ⟨T', ?_, a2, a3⟩⟩))
          rcases Nat.lt_or_ge T' T with z | z
          · exact z
          · exact absurd (by rw [show T' = T by omega]; exact hz) a2
        have stp : ¬ g T = 0 → ∀ w : Int32, w = (if v = -1 ∨ nI (1 + pcN T 9) < v then nI (1 + pcN T 9) else v) → Wp E mX8_fewestLives (Rm 5 0 0) (Qm E (fun v h' => v = some (.int (if sg = 0 then 0 else if exV r fo k sg = 100000000 then -1 else exV r fo k sg)) ∧ Fr (siS x) h h') 0 0) 115 [(0, .ref (x + 96)), (1, .ref p), (2, .int (nI k)), (3, .int (nI y)), (4, .int w), (5, .int (nI T)), (6, .int (nI (1 + pcN T 9)))] [] (wRow h2 (x + 100) g) 0 0 := by
          rintro hz w rfl
          refine r_iinc (pc := 115) (v := _ + (1)) (lv' := [(0, _), (1, _), (2, _), (3, _), (4, _), (5, _), (6, _)]) 5 dX8_fewestLives_115 rfl rfl (Nat.le_of_ble_eq_true rfl) rfl ?_
          refine r_goto (pc := 118) (tgt := 73) dX8_fewestLives_118 (by decide) ?_
          refine r_sub [0, 1, 2, 3, 4, 5] rfl ?_
          rw [nI_1]
          refine ih _ ((hv4.s (s := 1 + pcN T 9) (by omega)).cg (fun s => ⟨fun q => q.elim (fun ⟨T', a1, a2⟩ => ⟨T', by omega, a2⟩) (fun e => ⟨T, by omega, hz, e⟩), fun ⟨T', a1, a2, a3⟩ => ?_⟩))
          rcases Nat.lt_or_ge T' T with z | z
          · exact Or.inl ⟨T', z, a2, a3⟩
          · exact Or.inr (by rw [a3, show T' = T by omega])
        refine r_iload (pc := 73) 5 dX8_fewestLives_73 rfl ?_
        refine r_iload_n (pc := 75) 3 dX8_fewestLives_75 rfl ?_
        refine r_icmp_gt (pc := 76) (tgt := 121) dX8_fewestLives_76 (by decide) (fun c_76 => ?_) (fun c_76 => ?_)
        · exact absurd c_76 (nI_nlt (by omega) (by omega))
        · refine r_iconst (pc := 79) (1) dX8_fewestLives_79 rfl ?_
          refine r_iload (pc := 80) 5 dX8_fewestLives_80 rfl ?_
          refine r_dS (pc := 82) (As := [_]) ms_J6_bitCount_0f7a4 ml_X8_103 (ct_bitCount _) rfl rfl (Nat.le_of_ble_eq_true rfl) (Nat.le_of_ble_eq_true rfl) (Nat.le_of_ble_eq_true rfl) (Nat.le_of_ble_eq_true rfl) (Nat.le_of_ble_eq_true rfl) dX8_fewestLives_82 ?_
          rw [bcF_pc T (by omega)]
          refine r_iadd (pc := 85) dX8_fewestLives_85 ?_
          refine r_istore (pc := 86) (lv' := [(0, _), (1, _), (2, _), (3, _), (4, _), (5, _), (6, _)]) dX8_fewestLives_86 (Nat.le_of_ble_eq_true rfl) rfl ?_
          refine r_aload_n (pc := 88) 0 dX8_fewestLives_88 rfl ?_
          refine r_getR (pc := 89) fl_X8_25 (ca_96 hcg) (cf_96_4 hcg) dX8_fewestLives_89 ?_
          refine r_iload (pc := 92) 5 dX8_fewestLives_92 rfl ?_
          refine r_iald (pc := 94) (j := T) (cr_100 hcg) rfl (by omega) (by decide) dX8_fewestLives_94 ?_
          rw [wRow_at, show (1 : Int32) + nI (pcN T 9) = nI (1 + pcN T 9) from nI_add 1 _]
          refine r_if_eq (pc := 95) (tgt := 115) dX8_fewestLives_95 (by decide) (fun c_95 => ?_) (fun c_95 => ?_)
          · exact no c_95 _
          · refine r_iload (pc := 98) 4 dX8_fewestLives_98 rfl ?_
            refine r_iconst (pc := 100) (-1) dX8_fewestLives_100 rfl ?_
            refine r_icmp_eq (pc := 101) (tgt := 111) dX8_fewestLives_101 (by decide) (fun c_101 => ?_) (fun c_101 => ?_)
            · refine r_iload (pc := 111) 6 dX8_fewestLives_111 rfl ?_
              refine r_istore (pc := 113) (lv' := [(0, _), (1, _), (2, _), (3, _), (4, _), (5, _), (6, _)]) dX8_fewestLives_113 (Nat.le_of_ble_eq_true rfl) rfl ?_
              exact stp c_95 _ (by rw [if_pos (Or.inl c_101)])
            · refine r_iload (pc := 104) 6 dX8_fewestLives_104 rfl ?_
              refine r_iload (pc := 106) 4 dX8_fewestLives_106 rfl ?_
              refine r_icmp_ge (pc := 108) (tgt := 115) dX8_fewestLives_108 (by decide) (fun c_108 => ?_) (fun c_108 => ?_)
              · exact stp c_95 _ (by rw [if_neg (fun z => z.elim c_101 (fun w => absurd c_108 (Int32.not_le.mpr w)))])
              · refine r_iload (pc := 111) 6 dX8_fewestLives_111 rfl ?_
                refine r_istore (pc := 113) (lv' := [(0, _), (1, _), (2, _), (3, _), (4, _), (5, _), (6, _)]) dX8_fewestLives_113 (Nat.le_of_ble_eq_true rfl) rfl ?_
                exact stp c_95 _ (by rw [if_pos (Or.inr (Int32.not_le.mp c_108))])
      · intro v hv4
        refine r_iload (pc := 73) 5 dX8_fewestLives_73 rfl ?_
        refine r_iload_n (pc := 75) 3 dX8_fewestLives_75 rfl ?_
        refine r_icmp_gt (pc := 76) (tgt := 121) dX8_fewestLives_76 (by decide) (fun c_76 => ?_) (fun c_76 => ?_)
        · refine r_iload (pc := 121) 4 dX8_fewestLives_121 rfl ?_
          refine r_iret (pc := 123) rfl ?_ (Nat.le_of_ble_eq_true rfl) (Nat.le_of_ble_eq_true rfl) dX8_fewestLives_123
          refine ⟨?_, frg g⟩
          rw [if_neg hs0]
          congr 2
          refine hv4.eq (exV_mn hy hli eli ey (by omega)) (fun s => ⟨?_, ?_⟩)
          · rintro ⟨T, a1, a2, a3⟩
            have hsub : subN T y := Classical.byContradiction (fun z => a2 (hL.2 T (by omega) z))
            exact ⟨T, by omega, hsub, (hL.ne (by omega) hsub).mp a2, a3⟩
          · rintro ⟨T, a1, a2, a3, a4⟩
            have := sub_le a1 (by omega) a2
            exact ⟨T, by omega, (hL.ne a1 a2).mpr a3, a4⟩
        · exact absurd (nI_lt (a := y) (b := y + 1) (by omega) (by omega)) c_76
    have loop : ∀ d, ∀ j, j + 1 + d = sg → ∀ g : Nat → Int32, LaI r fo k y li (j + 1) g → Wp E mX8_fewestLives (Rm 5 0 0) (Qm E (fun v h' => v = some (.int (if sg = 0 then 0 else if exV r fo k sg = 100000000 then -1 else exV r fo k sg)) ∧ Fr (siS x) h h') 0 0) 45 [(0, .ref (x + 96)), (1, .ref p), (2, .int (nI k)), (3, .int (nI y)), (4, .int (nI (j + 1)))] [] (wRow h2 (x + 100) g) 0 0 := by
      intro d
      induction d with
      | zero =>
        intro j hj g hL
        have hvg := hv3 g
        have hpg := pt_of (hc3 g) hpx
        refine r_iload (pc := 45) 4 dX8_fewestLives_45 rfl ?_
        refine r_aload_n (pc := 47) 1 dX8_fewestLives_47 rfl ?_
        refine r_getI (pc := 48) fl_X8_40 (pt_is hpg) dX8_fewestLives_48 ?_
        rw [pv_2 hvg, hsg]
        refine r_icmp_ge (pc := 51) (tgt := 67) dX8_fewestLives_51 (by decide) (fun c_51 => ?_) (fun c_51 => ?_)
        · refine r_iconst (pc := 67) (-1) dX8_fewestLives_67 rfl ?_
          refine r_istore (pc := 68) (lv' := [(0, _), (1, _), (2, _), (3, _), (4, _)]) dX8_fewestLives_68 (Nat.le_of_ble_eq_true rfl) rfl ?_
          refine r_iconst (pc := 70) (0) dX8_fewestLives_70 rfl ?_
          refine r_istore (pc := 71) (lv' := [(0, _), (1, _), (2, _), (3, _), (4, _), (5, _)]) dX8_fewestLives_71 (Nat.le_of_ble_eq_true rfl) rfl ?_
          refine fin g (by rw [← hj]; exact hL) 0 (by omega) _ (Or.inl ⟨rfl, ?_⟩)
          rintro s ⟨T', a1, -⟩
          omega
        · exact absurd (nI_le (a := sg) (b := j + 1) (by omega) (by omega)) c_51
      | succ d IH =>
        intro j hj g hL
        have hcg := hc3 g
        have hvg := hv3 g
        have hpg := pt_of hcg hpx
        have eF : hI (wRow h2 (x + 100) g) (x + 99) = hI h2 (x + 99) := wRow_ne (by omega)
        have eg : hI (wRow h2 (x + 100) g) (x + 100) = g := wRow_at
        refine r_iload (pc := 45) 4 dX8_fewestLives_45 rfl ?_
        refine r_aload_n (pc := 47) 1 dX8_fewestLives_47 rfl ?_
        refine r_getI (pc := 48) fl_X8_40 (pt_is hpg) dX8_fewestLives_48 ?_
        rw [pv_2 hvg, hsg]
        refine r_icmp_ge (pc := 51) (tgt := 67) dX8_fewestLives_51 (by decide) (fun c_51 => ?_) (fun c_51 => ?_)
        · exact absurd c_51 (nI_ge (by omega) (by omega))
        · refine r_aload_n (pc := 54) 0 dX8_fewestLives_54 rfl ?_
          refine r_iload (pc := 55) 4 dX8_fewestLives_55 rfl ?_
          refine r_iload_n (pc := 57) 3 dX8_fewestLives_57 rfl ?_
          refine r_dV0 (pc := 58) (As := [_, _]) mv_X8_addDoing ml_X8_100 (c8_addDoing hcg hy (by omega)) (ca_96 hcg) rfl rfl (Nat.le_of_ble_eq_true rfl) (Nat.le_of_ble_eq_true rfl) (Nat.le_of_ble_eq_true rfl) (Nat.le_of_ble_eq_true rfl) (Nat.le_of_ble_eq_true rfl) dX8_fewestLives_58 ?_
          rw [eF, eg, wRow_row]
          refine r_iinc (pc := 61) (v := _ + (1)) (lv' := [(0, _), (1, _), (2, _), (3, _), (4, _)]) 4 dX8_fewestLives_61 rfl rfl (Nat.le_of_ble_eq_true rfl) rfl ?_
          refine r_goto (pc := 64) (tgt := 45) dX8_fewestLives_64 (by decide) ?_
          rw [nI_1]
          exact IH (j + 1) (by omega) _ (LaI_s hy hli (by omega) hFt hL)
    refine r_aload_n (pc := 30) 0 dX8_fewestLives_30 rfl ?_
    refine r_getR (pc := 31) fl_X8_25 (ca_96 hc2) (cf_96_4 hc2) dX8_fewestLives_31 ?_
    refine r_iconst (pc := 34) (0) dX8_fewestLives_34 rfl ?_
    refine r_aload_n (pc := 35) 0 dX8_fewestLives_35 rfl ?_
    refine r_getR (pc := 36) fl_X8_22 (ca_96 hc2) (cf_96_3 hc2) dX8_fewestLives_36 ?_
    refine r_iconst (pc := 39) (0) dX8_fewestLives_39 rfl ?_
    refine r_iald (pc := 40) (j := 0) (cr_99 hc2) rfl (by decide) (by decide) dX8_fewestLives_40 ?_
    rw [wRow_ne (by omega)]
    refine r_iast (pc := 41) (j := 0) (cr_100 hc2) rfl (by decide) (by decide) dX8_fewestLives_41 ?_
    refine r_iconst (pc := 42) (1) dX8_fewestLives_42 rfl ?_
    refine r_istore (pc := 43) (lv' := [(0, _), (1, _), (2, _), (3, _), (4, _)]) dX8_fewestLives_43 (Nat.le_of_ble_eq_true rfl) rfl ?_
    rw [wRow_w]
    refine loop (sg - 1) 0 (by omega) _ (LaI_1 hy hli (by omega) hFt (fun T hT => ?_))
    unfold flF
    rw [if_pos hT]
  · have hs0 : sg = 0 := (nI_z (by omega)).mp c_4
    refine r_iconst (pc := 7) (0) dX8_fewestLives_7 rfl ?_
    refine r_iret (pc := 8) rfl ?_ (Nat.le_of_ble_eq_true rfl) (Nat.le_of_ble_eq_true rfl) dX8_fewestLives_8
    exact ⟨by rw [if_pos hs0], Fr.rf⟩
end FEW
