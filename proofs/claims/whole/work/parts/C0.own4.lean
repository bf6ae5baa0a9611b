/-! the class's own methods: rich, passing -/
section OWN4
variable {E : En} {h : Hp} {x : Nat} {r : Nat → Int32}
theorem setE_4 {v : Int32} {k : Nat} {a b c d : Int32} : setE (va_up r 4 v) k a b c d = setE r k a b c d := by
  funext j
  unfold setE
  rw [va_up_ne _ _ (show 20 + k ≠ 4 by omega), va_up_ne _ _ (show 26 + k ≠ 4 by omega), va_up_ne _ _ (show 5 ≠ 4 by omega), va_up_ne _ _ (show 7 ≠ 4 by omega)]
theorem alive_4 {v : Int32} {k : Nat} : aliveF (va_up r 4 v) k = aliveF r k := by unfold aliveF; rw [va_up_ne _ _ (show 8 + k ≠ 4 by omega)]
theorem spent_4 {v : Int32} {k : Nat} : spentF (va_up r 4 v) k = spentF r k := by unfold spentF; rw [alive_4, va_up_ne _ _ (show 14 + k ≠ 4 by omega)]
theorem rich_4 {fo : Option (List Cl)} {v : Int32} : ∀ n, richN (va_up r 4 v) fo n = richN r fo n
  | 0 => rfl
  | n + 1 => by
    rw [richN, richN, rich_4 n, alive_4, spent_4]
    unfold earnF
    rw [setE_4, va_up_ne _ _ (show 8 + n ≠ 4 by omega), va_up_ne _ _ (show 32 + n ≠ 4 by omega)]
theorem c11_rich {nc ns nl : Nat} {lw lw' : Option Nat} {fo fo' : Option (List Cl)} (hL : Lv E h x r nc ns nl lw fo) (law : Int32) (hlw' : isLawB nl law = true → LwA h (x + 3) (va_up r 4 law) nl lw' ∧ FoL E h x fo' lw') : Ct E 3 0 0 mX11_rich [.ref x, .int law] h (pQ h x (.int (richF r fo' nc nl law))) := by
  obtain ⟨hc, hv, hrw, ⟨h3, hl6⟩, hlw, hfo⟩ := hL
  obtain ⟨hn, h6, hns, hs3, -⟩ := id hrw
  have hp := cs_pt3 hc
  have hpx : pOf x (x + 3) := Or.inl rfl
  obtain ⟨d, hd10, ed⟩ := hrw.2.2.2.2.2.2.2.2.2.1
  refine Ct.of (by decide +kernel) (Nat.le_of_ble_eq_true rfl) ?_
  have go : isLawB nl law = true → Wp E mX11_rich (Rm 3 0 0) (Qm E (pQ h x (.int (richF r fo' nc nl law))) 0 0) 18 [(0, .ref x), (1, .int law)] [] h 0 0 := by
    intro hlb
    obtain ⟨hA, hF⟩ := hlw' hlb
    unfold LwA at hA
    rw [va_up_self] at hA
    rw [richF, if_pos hlb, rich_4]
    refine r_iconst (pc := 18) (0) dX11_rich_18 rfl ?_
    refine r_istore_n (pc := 19) (lv' := [(0, _), (1, _), (2, _)]) dX11_rich_19 (Nat.le_of_ble_eq_true rfl) rfl ?_
    refine r_iconst (pc := 20) (0) dX11_rich_20 rfl ?_
    refine r_istore_n (pc := 21) (lv' := [(0, _), (1, _), (2, _), (3, _)]) dX11_rich_21 (Nat.le_of_ble_eq_true rfl) rfl ?_
    have loop : ∀ k, k ≤ nc → ∀ hh : Hp, Fr (akS x) h hh → Wp E mX11_rich (Rm 3 0 0) (Qm E (pQ h x (.int (richN r fo' nc))) 0 0) 22 [(0, .ref x), (1, .int law), (2, .int (richN r fo' k)), (3, .int (nI k))] [] hh 0 0 := by
      refine upTo (fun k hk ih => ?_) ?_
      · intro hh fr
        have hch := hc.ak fr
        have hvh := hv.ak hpx fr
        have hph := cs_pt3 hch
        have eh : hereB r nc (nI k) = aliveF r k := by unfold hereB; rw [inN_nI (by omega), decide_eq_true hk, Bool.true_and, nI_clamp (by omega)]
        refine r_iload_n (pc := 22) 3 dX11_rich_22 rfl ?_
        refine r_aload_n (pc := 23) 0 dX11_rich_23 rfl ?_
        refine r_getR (pc := 24) fl_X11_15 (nl_is hch) (nl_f0 hch) dX11_rich_24 ?_
        refine r_getI (pc := 27) fl_X11_110 (pt_is (cs_pt3 hch)) dX11_rich_27 ?_
        rw [pv_0 hvh, hn]
        refine r_icmp_ge (pc := 30) (tgt := 90) dX11_rich_30 (by decide) (fun c_30 => ?_) (fun c_30 => ?_)
        · exact absurd c_30 (nI_ge hk (by omega))
        · refine r_aload_n (pc := 33) 0 dX11_rich_33 rfl ?_
          refine r_getR (pc := 34) fl_X11_15 (nl_is hch) (nl_f0 hch) dX11_rich_34 ?_
          refine r_iload_n (pc := 37) 3 dX11_rich_37 rfl ?_
          refine r_dV (pc := 38) (As := [_]) mv_X5_isHere ml_X11_148 (c5_isHere hph hvh hn h6 _) (pt_is (cs_pt3 hch)) rfl rfl (Nat.le_of_ble_eq_true rfl) (Nat.le_of_ble_eq_true rfl) (Nat.le_of_ble_eq_true rfl) (Nat.le_of_ble_eq_true rfl) (Nat.le_of_ble_eq_true rfl) dX11_rich_38 ?_
          refine r_if_eq (pc := 41) (tgt := 84) dX11_rich_41 (by decide) (fun c_41 => ?_) (fun c_41 => ?_)
          · rw [eh] at c_41
            have e9 : richN r fo' (k + 1) = richN r fo' k := by rw [richN, if_neg (by rw [bI_0.mp c_41]; decide), Int32.add_zero]
            rw [e9] at ih
            refine r_iinc (pc := 84) (v := _ + (1)) (lv' := [(0, _), (1, _), (2, _), (3, _)]) 3 dX11_rich_84 rfl rfl (Nat.le_of_ble_eq_true rfl) rfl ?_
            refine r_goto (pc := 87) (tgt := 22) dX11_rich_87 (by decide) ?_
            rw [nI_1]; exact ih hh fr
          · rw [eh] at c_41
            have ha := bI_n0.mp c_41
            have e9 : richN r fo' (k + 1) = richN r fo' k + earnF r fo' k (r (8 + k)) (spentF r k) := by rw [richN, if_pos ha]
            rw [e9] at ih
            obtain ⟨li, y, hli, eli, hy, ey⟩ := alive_cat hrw (show k < 6 by omega) ha
            have hlwh : LwA hh (x + 3) r nl lw := hlw.si hpx (fr.mono (fun _ _ => ak_si))
            refine r_aload_n (pc := 44) 0 dX11_rich_44 rfl ?_
            refine r_getR (pc := 45) fl_X11_47 (nl_is hch) (nl_f5 hch) dX11_rich_45 ?_
            refine r_aload_n (pc := 48) 0 dX11_rich_48 rfl ?_
            refine r_getR (pc := 49) fl_X11_15 (nl_is hch) (nl_f0 hch) dX11_rich_49 ?_
            refine r_iload_n (pc := 52) 3 dX11_rich_52 rfl ?_
            refine r_callV (pc := 53) (As := [_, _]) mv_X0_about ml_X11_151 (c0_about hch hpx hvh (by omega) (by omega) ey h3 hl6 hlwh) (ca_37 hch) rfl rfl (Nat.le_of_ble_eq_true rfl) (Nat.le_of_ble_eq_true rfl) (Nat.le_of_ble_eq_true rfl) (Nat.le_of_ble_eq_true rfl) (Nat.le_of_ble_eq_true rfl) dX11_rich_53 (fun r h2 hp => ?_)
            obtain ⟨rfl, f2, ha2⟩ := hp
            show Wp E mX11_rich _ _ _ _ [] _ 0 0
            have fr2 := fr.tr f2
            have hc2 := hc.ak fr2
            have hv2 := hv.ak hpx fr2
            have hp2 := cs_pt3 hc2
            have hA2 : inN law nl = true → hR h2 (x + 3 + 9) law.toNatClampNeg = lw' := fun z => (fr2.R (by unfold akS; omega)).trans (hA.1 z)
            refine r_aload_n (pc := 56) 0 dX11_rich_56 rfl ?_
            refine r_getR (pc := 57) fl_X11_47 (nl_is hc2) (nl_f5 hc2) dX11_rich_57 ?_
            refine r_aload_n (pc := 60) 0 dX11_rich_60 rfl ?_
            refine r_getR (pc := 61) fl_X11_15 (nl_is hc2) (nl_f0 hc2) dX11_rich_61 ?_
            refine r_iload_n (pc := 64) 1 dX11_rich_64 rfl ?_
            refine r_dV (pc := 65) (As := [_]) mv_X5_lawOf ml_X11_307 (c5_lawOf hp2 hv2 h3 hl6 _ hA2 hA.2) (pt_is (cs_pt3 hc2)) rfl rfl (Nat.le_of_ble_eq_true rfl) (Nat.le_of_ble_eq_true rfl) (Nat.le_of_ble_eq_true rfl) (Nat.le_of_ble_eq_true rfl) (Nat.le_of_ble_eq_true rfl) dX11_rich_65 ?_
            refine r_putO (pc := 68) fp_X11_311 (Or.inl ⟨_, rfl⟩) (fun z => by cases z) (ca_37 hc2) dX11_rich_68 ?_
            have f3 : Fr (akS x) h2 (wR h2 (x + 37) 3 lw') := Fr.wR (by unfold akS; omega)
            have ha3 : Ask (wR h2 (x + 37) 3 lw') x (wdF r k (nI li) (spentF r k) (r (32 + k)) (r 5)) (r 6) lw' := by
              rw [← eli]
              exact ⟨ha2.1, ha2.2.1, up2_at⟩
            generalize wR h2 (x + 37) 3 lw' = h3x at f3 ha3 ⊢
            have fr3 := fr2.tr f3
            have hc3 := hc.ak fr3
            refine r_iload_n (pc := 71) 2 dX11_rich_71 rfl ?_
            refine r_aload_n (pc := 72) 0 dX11_rich_72 rfl ?_
            refine r_getR (pc := 73) fl_X11_47 (nl_is hc3) (nl_f5 hc3) dX11_rich_73 ?_
            refine r_sipush (pc := 76) (263) dX11_rich_76 rfl ?_
            refine r_callV (pc := 79) (As := [_]) mv_X0_tells ml_X11_155 (ask_at (hd := 0) (on := 0) hc3 ha3 (Int32.add_zero _).symm (hF.ak fr3) hli hd10 ed (by decide)) (ca_37 hc3) rfl rfl (Nat.le_of_ble_eq_true rfl) (Nat.le_of_ble_eq_true rfl) (Nat.le_of_ble_eq_true rfl) (Nat.le_of_ble_eq_true rfl) (Nat.le_of_ble_eq_true rfl) dX11_rich_79 (fun r h4 hp => ?_)
            obtain ⟨rfl, hr4⟩ := hp
            show Wp E mX11_rich _ _ _ _ [.int _, .int _] _ 0 0
            rw [tell_earn, ← eli]
            refine r_iadd (pc := 82) dX11_rich_82 ?_
            refine r_istore_n (pc := 83) (lv' := [(0, _), (1, _), (2, _), (3, _)]) dX11_rich_83 (Nat.le_of_ble_eq_true rfl) rfl ?_
            refine r_iinc (pc := 84) (v := _ + (1)) (lv' := [(0, _), (1, _), (2, _), (3, _)]) 3 dX11_rich_84 rfl rfl (Nat.le_of_ble_eq_true rfl) rfl ?_
            refine r_goto (pc := 87) (tgt := 22) dX11_rich_87 (by decide) ?_
            rw [nI_1]
            exact ih h4 (fr3.tr hr4.ak)
      · intro hh fr
        have hch := hc.ak fr
        have hvh := hv.ak hpx fr
        refine r_iload_n (pc := 22) 3 dX11_rich_22 rfl ?_
        refine r_aload_n (pc := 23) 0 dX11_rich_23 rfl ?_
        refine r_getR (pc := 24) fl_X11_15 (nl_is hch) (nl_f0 hch) dX11_rich_24 ?_
        refine r_getI (pc := 27) fl_X11_110 (pt_is (cs_pt3 hch)) dX11_rich_27 ?_
        rw [pv_0 hvh, hn]
        refine r_icmp_ge (pc := 30) (tgt := 90) dX11_rich_30 (by decide) (fun c_30 => ?_) (fun c_30 => ?_)
        · refine r_iload_n (pc := 90) 2 dX11_rich_90 rfl ?_
          refine r_iret (pc := 91) rfl ?_ (Nat.le_of_ble_eq_true rfl) (Nat.le_of_ble_eq_true rfl) dX11_rich_91
          exact ⟨rfl, fr.mono (fun _ _ => ak_ro)⟩
        · exact absurd (nI_le (a := nc) (b := nc) (Nat.le_refl _) (by omega)) c_30
    exact loop 0 (by omega) h Fr.rf
  refine r_iload_n (pc := 0) 1 dX11_rich_0 rfl ?_
  refine r_iconst (pc := 1) (-1) dX11_rich_1 rfl ?_
  refine r_icmp_eq (pc := 2) (tgt := 18) dX11_rich_2 (by decide) (fun c_2 => ?_) (fun c_2 => ?_)
  · exact go (by unfold isLawB; rw [decide_eq_true c_2]; rfl)
  · refine r_aload_n (pc := 5) 0 dX11_rich_5 rfl ?_
    refine r_getR (pc := 6) fl_X11_15 (nl_is hc) (nl_f0 hc) dX11_rich_6 ?_
    refine r_iload_n (pc := 9) 1 dX11_rich_9 rfl ?_
    refine r_dV (pc := 10) (As := [_]) mv_X5_hasLaw ml_X11_236 (c5_hasLaw hp hv h3 hl6 _) (pt_is (cs_pt3 hc)) rfl rfl (Nat.le_of_ble_eq_true rfl) (Nat.le_of_ble_eq_true rfl) (Nat.le_of_ble_eq_true rfl) (Nat.le_of_ble_eq_true rfl) (Nat.le_of_ble_eq_true rfl) dX11_rich_10 ?_
    refine r_if_ne (pc := 13) (tgt := 18) dX11_rich_13 (by decide) (fun c_13 => ?_) (fun c_13 => ?_)
    · exact go (by unfold isLawB; rw [bI_n0.mp c_13, Bool.or_true])
    · refine r_iconst (pc := 16) (-1) dX11_rich_16 rfl ?_
      refine r_iret (pc := 17) rfl ?_ (Nat.le_of_ble_eq_true rfl) (Nat.le_of_ble_eq_true rfl) dX11_rich_17
      exact ⟨by rw [richF, if_neg (by unfold isLawB; rw [bI_0.mp c_13, decide_eq_false c_2]; decide)], Fr.rf⟩
/-- how many twos so far; once the i-th is behind, it stays -/
theorem psB_q {fo : Option (List Cl)} {i : Int32} {a : Nat} {s : Int32 × Int32} {q : Nat} (hs : s.1 = nI q) : ∀ d, ∃ q', q ≤ q' ∧ q' ≤ q + d ∧ (psB r fo i a s d).1 = nI q'
  | 0 => ⟨q, Nat.le_refl _, Nat.le_refl _, hs⟩
  | d + 1 => by
    obtain ⟨q', h1, h2, e⟩ := psB_q (fo := fo) (i := i) (a := a) hs d
    rw [psB]
    split
    · exact ⟨q' + 1, by omega, by omega, by rw [e, nI_1]⟩
    · exact ⟨q', by omega, by omega, e⟩
theorem psB_keep {fo : Option (List Cl)} {a j q d : Nat} {s : Int32 × Int32} (hq : q + d + 20 < 2 ^ 31) (hj : j < q) (hs : (psB r fo (nI j) a s d).1 = nI q) : ∀ e, e ≤ 20 → (∃ q', q ≤ q' ∧ q' ≤ q + e ∧ (psB r fo (nI j) a s (d + e)).1 = nI q') ∧ (psB r fo (nI j) a s (d + e)).2 = (psB r fo (nI j) a s d).2
  | 0, _ => ⟨⟨q, Nat.le_refl _, Nat.le_refl _, hs⟩, rfl⟩
  | e + 1, he => by
    obtain ⟨⟨q', h1, h2, e1⟩, e2⟩ := psB_keep hq hj hs e (by omega)
    rw [show d + (e + 1) = d + e + 1 by omega, psB]
    split
    · refine ⟨⟨q' + 1, by omega, by omega, by rw [e1, nI_1]⟩, ?_⟩
      show (if _ then _ else _) = _
      rw [e1, if_neg (fun z => by have := nI_inj (by omega) (by omega) z; omega)]
      exact e2
    · exact ⟨⟨q', by omega, by omega, e1⟩, e2⟩
theorem psA_q {fo : Option (List Cl)} {i : Int32} {nc : Nat} (h6 : nc ≤ 6) : ∀ a, a ≤ nc → ∃ q, q ≤ 6 * a ∧ (psA r fo i nc a).1 = nI q
  | 0, _ => ⟨0, by omega, rfl⟩
  | a + 1, ha => by
    obtain ⟨q, h1, e⟩ := psA_q (fo := fo) (i := i) h6 a (by omega)
    obtain ⟨q', h2, h3, e'⟩ := psB_q (r := r) (fo := fo) (i := i) (a := a) e (nc - (a + 1))
    exact ⟨q', by omega, e'⟩
theorem psA_keep {fo : Option (List Cl)} {nc a j q : Nat} (h6 : nc ≤ 6) (hj : j < q) (hq : q ≤ 100) (hs : (psA r fo (nI j) nc a).1 = nI q) : ∀ e, a + e ≤ nc → (∃ q', q ≤ q' ∧ q' ≤ q + 6 * e ∧ (psA r fo (nI j) nc (a + e)).1 = nI q') ∧ (psA r fo (nI j) nc (a + e)).2 = (psA r fo (nI j) nc a).2
  | 0, _ => ⟨⟨q, Nat.le_refl _, Nat.le_refl _, hs⟩, rfl⟩
  | e + 1, he => by
    obtain ⟨⟨q', h1, h2, e1⟩, e2⟩ := psA_keep h6 hj hq hs e (by omega)
    rw [show a + (e + 1) = a + e + 1 by omega, psA]
    obtain ⟨⟨q2, h3, h4, e3⟩, e4⟩ := psB_keep (r := r) (fo := fo) (a := a + e) (j := j) (q := q') (d := 0) (s := psA r fo (nI j) nc (a + e)) (by omega) (by omega) e1 (nc - (a + e + 1)) (by omega)
    rw [Nat.zero_add] at e3 e4
    exact ⟨⟨q2, by omega, by omega, e3⟩, e4.trans e2⟩
/-- none was the i-th yet -/
theorem c11_passing {nc ns nl : Nat} {lw : Option Nat} {fo : Option (List Cl)} (hL : Lv E h x r nc ns nl lw fo) (i : Int32) : Ct E 4 0 0 mX11_passing [.ref x, .int i] h (pQ h x (.int (passingF r fo nc i))) := by
  obtain ⟨hc, hv, hrw, ⟨h3, hl6⟩, hlw, hfo⟩ := hL
  obtain ⟨hn, h6, hns, hs3, -⟩ := id hrw
  have hp := cs_pt3 hc
  have hpx : pOf x (x + 3) := Or.inl rfl
  refine Ct.of (by decide +kernel) (Nat.le_of_ble_eq_true rfl) ?_
  refine r_aload_n (pc := 0) 0 dX11_passing_0 rfl ?_
  refine r_getR (pc := 1) fl_X11_81 (nl_is hc) (nl_f9 hc) dX11_passing_1 ?_
  refine r_aload_n (pc := 4) 0 dX11_passing_4 rfl ?_
  refine r_getR (pc := 5) fl_X11_15 (nl_is hc) (nl_f0 hc) dX11_passing_5 ?_
  refine r_callV (pc := 8) (As := [_]) mv_X8_lookAhead ml_X11_299 (c8_lookAhead hc hpx hv hrw h3 hl6 hlw hfo) (ca_96 hc) rfl rfl (Nat.le_of_ble_eq_true rfl) (Nat.le_of_ble_eq_true rfl) (Nat.le_of_ble_eq_true rfl) (Nat.le_of_ble_eq_true rfl) (Nat.le_of_ble_eq_true rfl) dX11_passing_8 (fun r h2 hp => ?_)
  obtain ⟨rfl, f2, hS⟩ := hp
  show Wp E mX11_passing _ _ _ _ [] _ 0 0
  have fr2 : Fr (roS x) h h2 := f2.mono (fun _ _ => si_ro)
  have hc2 := hc.si f2
  have hv2 := hv.si hpx f2
  have outer : ∀ a, a ≤ nc → (psA r fo i nc a).2 = -1 → Wp E mX11_passing (Rm 4 0 0) (Qm E (pQ h x (.int (passingF r fo nc i))) 0 0) 15 [(0, .ref x), (1, .int i), (2, .int (psA r fo i nc a).1), (3, .int (nI a))] [] h2 0 0 := by
    refine upTo (fun a ha ih => ?_) ?_
    · intro hm1
      obtain ⟨q0, hq0, eq0⟩ := psA_q (r := r) (fo := fo) (i := i) h6 a (by omega)
      have inner : ∀ dd, dd ≤ nc - (a + 1) → (psB r fo i a (psA r fo i nc a) dd).2 = -1 → Wp E mX11_passing (Rm 4 0 0) (Qm E (pQ h x (.int (passingF r fo nc i))) 0 0) 31 [(0, .ref x), (1, .int i), (2, .int (psB r fo i a (psA r fo i nc a) dd).1), (3, .int (nI a)), (4, .int (nI (a + 1 + dd)))] [] h2 0 0 := by
        refine upTo (fun dd hdd ih2 => ?_) ?_
        · intro hm2
          obtain ⟨q, hq, hq2, eq⟩ := psB_q (r := r) (fo := fo) (i := i) (a := a) eq0 dd
          refine r_iload (pc := 31) 4 dX11_passing_31 rfl ?_
          refine r_aload_n (pc := 33) 0 dX11_passing_33 rfl ?_
          refine r_getR (pc := 34) fl_X11_15 (nl_is hc2) (nl_f0 hc2) dX11_passing_34 ?_
          refine r_getI (pc := 37) fl_X11_110 (pt_is (cs_pt3 hc2)) dX11_passing_37 ?_
          rw [pv_0 hv2, hn]
          refine r_icmp_ge (pc := 40) (tgt := 82) dX11_passing_40 (by decide) (fun c_40 => ?_) (fun c_40 => ?_)
          · exact absurd c_40 (nI_ge (by omega) (by omega))
          · refine r_aload_n (pc := 43) 0 dX11_passing_43 rfl ?_
            refine r_getR (pc := 44) fl_X11_81 (nl_is hc2) (nl_f9 hc2) dX11_passing_44 ?_
            refine r_aload_n (pc := 47) 0 dX11_passing_47 rfl ?_
            refine r_getR (pc := 48) fl_X11_15 (nl_is hc2) (nl_f0 hc2) dX11_passing_48 ?_
            refine r_iload_n (pc := 51) 3 dX11_passing_51 rfl ?_
            refine r_iload (pc := 52) 4 dX11_passing_52 rfl ?_
            refine r_dV (pc := 54) (As := [_, _, _]) mv_X8_passForOneAnother ml_X11_303 (c8_passFor hc2 hpx hv2 hrw hS (by omega) (by omega)) (ca_96 hc2) rfl rfl (Nat.le_of_ble_eq_true rfl) (Nat.le_of_ble_eq_true rfl) (Nat.le_of_ble_eq_true rfl) (Nat.le_of_ble_eq_true rfl) (Nat.le_of_ble_eq_true rfl) dX11_passing_54 ?_
            refine r_if_eq (pc := 57) (tgt := 76) dX11_passing_57 (by decide) (fun c_57 => ?_) (fun c_57 => ?_)
            · have hf := bI_0.mp c_57
              have e9 : psB r fo i a (psA r fo i nc a) (dd + 1) = psB r fo i a (psA r fo i nc a) dd := by rw [psB, if_neg (by rw [hf]; decide)]
              rw [e9] at ih2
              refine r_iinc (pc := 76) (v := _ + (1)) (lv' := [(0, _), (1, _), (2, _), (3, _), (4, _)]) 4 dX11_passing_76 rfl rfl (Nat.le_of_ble_eq_true rfl) rfl ?_
              refine r_goto (pc := 79) (tgt := 31) dX11_passing_79 (by decide) ?_
              rw [nI_1]
              exact ih2 hm2
            · have ht := bI_n0.mp c_57
              have e9 : psB r fo i a (psA r fo i nc a) (dd + 1) = ((psB r fo i a (psA r fo i nc a) dd).1 + 1, if (psB r fo i a (psA r fo i nc a) dd).1 = i then 10 * nI a + nI (a + 1 + dd) else (psB r fo i a (psA r fo i nc a) dd).2) := by rw [psB, if_pos ht]
              refine r_iload_n (pc := 60) 2 dX11_passing_60 rfl ?_
              refine r_iload_n (pc := 61) 1 dX11_passing_61 rfl ?_
              refine r_icmp_ne (pc := 62) (tgt := 73) dX11_passing_62 (by decide) (fun c_62 => ?_) (fun c_62 => ?_)
              · rw [e9] at ih2
                refine r_iinc (pc := 73) (v := _ + (1)) (lv' := [(0, _), (1, _), (2, _), (3, _), (4, _)]) 2 dX11_passing_73 rfl rfl (Nat.le_of_ble_eq_true rfl) rfl ?_
                refine r_iinc (pc := 76) (v := _ + (1)) (lv' := [(0, _), (1, _), (2, _), (3, _), (4, _)]) 4 dX11_passing_76 rfl rfl (Nat.le_of_ble_eq_true rfl) rfl ?_
                refine r_goto (pc := 79) (tgt := 31) dX11_passing_79 (by decide) ?_
                rw [nI_1]
                refine ih2 ?_
                show (if _ then _ else _) = _
                rw [if_neg c_62]; exact hm2
              · refine r_bipush (pc := 65) (10) dX11_passing_65 rfl ?_
                refine r_iload_n (pc := 67) 3 dX11_passing_67 rfl ?_
                refine r_imul (pc := 68) dX11_passing_68 ?_
                refine r_iload (pc := 69) 4 dX11_passing_69 rfl ?_
                refine r_iadd (pc := 71) dX11_passing_71 ?_
                refine r_iret (pc := 72) rfl ?_ (Nat.le_of_ble_eq_true rfl) (Nat.le_of_ble_eq_true rfl) dX11_passing_72
                refine ⟨?_, fr2⟩
                -- it is the i-th
                have ei : i = nI q := by rw [← c_62]; exact eq
                subst ei
                have hk1 : (psB r fo (nI q) a (psA r fo (nI q) nc a) (dd + 1)).1 = nI (q + 1) := by rw [e9]; show _ + 1 = _; rw [eq, nI_1]
                have hk2 : (psB r fo (nI q) a (psA r fo (nI q) nc a) (dd + 1)).2 = 10 * nI a + nI (a + 1 + dd) := by rw [e9]; show (if _ then _ else _) = _; rw [if_pos eq]
                obtain ⟨⟨q3, g1, g2, g3⟩, g4⟩ := psB_keep (r := r) (fo := fo) (a := a) (j := q) (q := q + 1) (d := dd + 1) (s := psA r fo (nI q) nc a) (by omega) (by omega) hk1 (nc - (a + 1) - (dd + 1)) (by omega)
                rw [show dd + 1 + (nc - (a + 1) - (dd + 1)) = nc - (a + 1) by omega] at g3 g4
                obtain ⟨-, g5⟩ := psA_keep (r := r) (fo := fo) (nc := nc) (a := a + 1) (j := q) (q := q3) h6 (by omega) (by omega) g3 (nc - (a + 1)) (by omega)
                rw [show a + 1 + (nc - (a + 1)) = nc by omega] at g5
                have eF : passingF r fo nc (nI q) = (psA r fo (nI q) nc nc).2 := by unfold passingF; rw [if_neg (fun z => m1_nI (by omega) z.symm)]
                rw [eF, g5]
                show _ = some (Value.int (psB r fo (nI q) a (psA r fo (nI q) nc a) (nc - (a + 1))).2)
                rw [g4, hk2]
        · intro hm2
          have ec : a + 1 + (nc - (a + 1)) = nc := by omega
          rw [ec]
          refine r_iload (pc := 31) 4 dX11_passing_31 rfl ?_
          refine r_aload_n (pc := 33) 0 dX11_passing_33 rfl ?_
          refine r_getR (pc := 34) fl_X11_15 (nl_is hc2) (nl_f0 hc2) dX11_passing_34 ?_
          refine r_getI (pc := 37) fl_X11_110 (pt_is (cs_pt3 hc2)) dX11_passing_37 ?_
          rw [pv_0 hv2, hn]
          refine r_icmp_ge (pc := 40) (tgt := 82) dX11_passing_40 (by decide) (fun c_40 => ?_) (fun c_40 => ?_)
          · refine r_iinc (pc := 82) (v := _ + (1)) (lv' := [(0, _), (1, _), (2, _), (3, _), (4, _)]) 3 dX11_passing_82 rfl rfl (Nat.le_of_ble_eq_true rfl) rfl ?_
            refine r_goto (pc := 85) (tgt := 15) dX11_passing_85 (by decide) ?_
            refine r_sub [0, 1, 2, 3] rfl ?_
            rw [nI_1]
            exact ih hm2
          · exact absurd (nI_le (a := nc) (b := nc) (Nat.le_refl _) (by omega)) c_40
      refine r_iload_n (pc := 15) 3 dX11_passing_15 rfl ?_
      refine r_aload_n (pc := 16) 0 dX11_passing_16 rfl ?_
      refine r_getR (pc := 17) fl_X11_15 (nl_is hc2) (nl_f0 hc2) dX11_passing_17 ?_
      refine r_getI (pc := 20) fl_X11_110 (pt_is (cs_pt3 hc2)) dX11_passing_20 ?_
      rw [pv_0 hv2, hn]
      refine r_icmp_ge (pc := 23) (tgt := 88) dX11_passing_23 (by decide) (fun c_23 => ?_) (fun c_23 => ?_)
      · exact absurd c_23 (nI_ge ha (by omega))
      · refine r_iload_n (pc := 26) 3 dX11_passing_26 rfl ?_
        refine r_iconst (pc := 27) (1) dX11_passing_27 rfl ?_
        refine r_iadd (pc := 28) dX11_passing_28 ?_
        refine r_istore (pc := 29) (lv' := [(0, _), (1, _), (2, _), (3, _), (4, _)]) dX11_passing_29 (Nat.le_of_ble_eq_true rfl) rfl ?_
        rw [nI_1]
        exact inner 0 (by omega) hm1
    · intro hm1
      refine r_iload_n (pc := 15) 3 dX11_passing_15 rfl ?_
      refine r_aload_n (pc := 16) 0 dX11_passing_16 rfl ?_
      refine r_getR (pc := 17) fl_X11_15 (nl_is hc2) (nl_f0 hc2) dX11_passing_17 ?_
      refine r_getI (pc := 20) fl_X11_110 (pt_is (cs_pt3 hc2)) dX11_passing_20 ?_
      rw [pv_0 hv2, hn]
      refine r_icmp_ge (pc := 23) (tgt := 88) dX11_passing_23 (by decide) (fun c_23 => ?_) (fun c_23 => ?_)
      · refine r_iload_n (pc := 88) 1 dX11_passing_88 rfl ?_
        refine r_iconst (pc := 89) (-1) dX11_passing_89 rfl ?_
        refine r_icmp_ne (pc := 90) (tgt := 97) dX11_passing_90 (by decide) (fun c_90 => ?_) (fun c_90 => ?_)
        · refine r_iconst (pc := 97) (-1) dX11_passing_97 rfl ?_
          refine r_iret (pc := 98) rfl ?_ (Nat.le_of_ble_eq_true rfl) (Nat.le_of_ble_eq_true rfl) dX11_passing_98
          exact ⟨by rw [passingF, if_neg c_90, hm1], fr2⟩
        · refine r_iload_n (pc := 93) 2 dX11_passing_93 rfl ?_
          refine r_goto (pc := 94) (tgt := 98) dX11_passing_94 (by decide) ?_
          refine r_iret (pc := 98) rfl ?_ (Nat.le_of_ble_eq_true rfl) (Nat.le_of_ble_eq_true rfl) dX11_passing_98
          exact ⟨by rw [passingF, if_pos c_90], fr2⟩
      · exact absurd (nI_le (a := nc) (b := nc) (Nat.le_refl _) (by omega)) c_23
  refine r_iconst (pc := 11) (0) dX11_passing_11 rfl ?_
  refine r_istore_n (pc := 12) (lv' := [(0, _), (1, _), (2, _)]) dX11_passing_12 (Nat.le_of_ble_eq_true rfl) rfl ?_
  refine r_iconst (pc := 13) (0) dX11_passing_13 rfl ?_
  refine r_istore_n (pc := 14) (lv' := [(0, _), (1, _), (2, _), (3, _)]) dX11_passing_14 (Nat.le_of_ble_eq_true rfl) rfl ?_
  exact outer 0 (by omega) rfl
end OWN4
