/-! the class's reader: tests -/
section TEST
variable {E : En} {x n N : Nat} {b : Nat → Int32} {od test : Bool} {wl wo : Nat → Int64}
abbrev Oo : Type := Option (Nat × Nat × Sm)
def bsP (o : Oo) (pl : List PE) : List PE := match o with
  | none => pl
  | some q => (30, q.2.2) :: pl
def toS (o : Oo) (s : Sm) : Sm := match o with
  | none => s
  | some q => sLeap 1 q.2.2 s
def opI (o : Oo) : Int32 := match o with
  | none => -1
  | some q => nI q.1
def cdO (O A : Nat → Int32) (w c c1 L : Nat) (o : Oo) (s : Sm) : Prop := match o with
  | none => CSeg O A w c c1 L s
  | some q => CSeg O A w c q.1 q.2.1 q.2.2 ∧ O q.1 = 256 ∧ q.2.1 < L ∧ CSeg O A w (q.1 + 1) c1 (L - q.2.1) s ∧ IsT q.2.2
theorem adH_26 {h : Hp} {c k : Nat} {o w : Int32} : hI (adH h x c o w) (x + 26) k = hI h (x + 26) k := by unfold adH; rw [hI_ne (by omega), hI_ne (by omega), hI_ne (by omega)]
theorem adH_34 {h : Hp} {c : Nat} {o w : Int32} : hI (adH h x c o w) (x + 34) = hI h (x + 34) := by funext k; unfold adH; rw [hI_ne (by omega), hI_ne (by omega), hI_ne (by omega)]
theorem RdH.addN {h : Hp} {i lv c : Nat} {o w : Int32} (hr : RdH E h x b n N od i lv c) (h1 : i + 1 ≤ N) : RdH E (wI (adH h x c o w) (x + 26) 6 (nI (i + 1))) x b n N od (i + 1) lv (c + 1) := by
  obtain ⟨⟨hc, ht⟩, ⟨hi, hN⟩, ⟨h7, h50⟩, h8, h6, hci⟩ := hr
  refine ⟨⟨hc, ?_⟩, ⟨hI_at, h1⟩, ⟨by rw [hI_ne (by omega), adH_26]; exact h7, h50⟩, by rw [hI_ne (by omega), adH_26]; exact h8, ?_, by omega⟩
  · unfold adH
    exact (((ht.w (Or.inr (by omega))).w (Or.inr (by omega))).w (Or.inr (by omega))).w (Or.inl ⟨rfl, by decide⟩)
  · rw [hI_ne (by omega)]; unfold adH; exact hI_at
theorem c6_addJ {h : Hp} {i lv c : Nat} (hr : RdH E h x b n N od i lv c) (h1 : i < N) (o w : Int32) : Ct E 0 0 0 mX10_add [.ref (x + 27), .int o, .int w] h (po (some (.int (nI c))) (adH h x c o w)) := c10_add (cs_tx27 hr.1.1) hr.2.2.2.2.1 (by have := hr.2.2.2.2.2; have := hr.1.2.2.1; omega) o w
theorem cdO.lt {O A : Nat → Int32} {w c c1 L : Nat} {o : Oo} {s : Sm} (hc : cdO O A w c c1 L o s) : c < c1 := by
  cases o with
  | none => exact hc.1
  | some q => have a1 := hc.1.1; have a2 := hc.2.2.2.1.1; omega
theorem cdO.cong {O A O' A' : Nat → Int32} {w c c1 L : Nat} {o : Oo} {s : Sm} (hc : cdO O A w c c1 L o s) (he : ∀ k, c ≤ k → k < c1 → O' k = O k ∧ A' k = A k) : cdO O' A' w c c1 L o s := by
  cases o with
  | none => exact CSeg_cong he hc
  | some q =>
    obtain ⟨h1, h2, h3, h4, h5⟩ := hc
    have a1 := h1.1
    have a2 := h4.1
    exact ⟨CSeg_cong (fun k k1 k2 => he k k1 (by omega)) h1, (he q.1 (by omega) (by omega)).1.trans h2, h3, CSeg_cong (fun k k1 k2 => he k (by omega) k2) h4, h5⟩
theorem cdO.and {O A : Nat → Int32} {w c c1 c3 L l3 : Nat} {o : Oo} {s s3 : Sm} (hc : cdO O A w c c1 L o s) (hO : O c1 = 257) (hA : A c1 = nI c3) (hk : c3 < 2 ^ 31) (h3 : CSeg O A w (c1 + 1) c3 l3 s3) (hT : IsT s) : cdO O A w c c3 (L + l3) o (sLeap 0 s s3) := by
  cases o with
  | none =>
    have q := CSeg_leap hc h3 (Or.inr hO) hA hk hT
    rw [hO, if_pos rfl] at q
    exact q
  | some z =>
    obtain ⟨h1, h2, h4, h5, h6⟩ := hc
    have q := CSeg_leap h5 h3 (Or.inr hO) hA hk hT
    rw [hO, if_pos rfl, show L - z.2.1 + l3 = L + l3 - z.2.1 by omega] at q
    exact ⟨h1, h2, by omega, q, h6⟩
theorem cdO.close {O A O' A' : Nat → Int32} {w c c1 L : Nat} {o : Oo} {s : Sm} (hc : cdO O A w c c1 L o s) (hk : c1 < 2 ^ 31) (hO : ∀ k, c ≤ k → k < c1 → O' k = O k) (hA : ∀ k, c ≤ k → k < c1 → (∀ q, o = some q → ¬ k = q.1) → A' k = A k) (hq : ∀ q, o = some q → A' q.1 = nI c1) : CSeg O' A' w c c1 L (toS o s) := by
  cases o with
  | none => exact CSeg_cong (fun k k1 k2 => ⟨hO k k1 k2, hA k k1 k2 (fun q e => by cases e)⟩) hc
  | some z =>
    obtain ⟨h1, h2, h4, h5, h6⟩ := hc
    have a1 := h1.1
    have a2 := h5.1
    have e1 := CSeg_cong (O' := O') (A' := A') (fun k k1 k2 => ⟨hO k k1 (by omega), hA k k1 (by omega) (fun q e => by have := Option.some.inj e; rw [← this]; omega)⟩) h1
    have e2 := CSeg_cong (O' := O') (A' := A') (fun k k1 k2 => ⟨hO k (by omega) k2, hA k (by omega) k2 (fun q e => by have := Option.some.inj e; rw [← this]; omega)⟩) h5
    have hO2 : O' z.1 = 256 := (hO z.1 (by omega) (by omega)).trans h2
    have q := CSeg_leap e1 e2 (Or.inl hO2) (hq z rfl) hk h6
    rw [hO2, if_neg (by decide), show z.2.1 + (L - z.2.1) = L by omega] at q
    exact q
theorem bsP_inn {o : Oo} {pl : List PE} : innA (bsP o pl) = innA pl := by
  cases o with
  | none => rfl
  | some q => show innA ((30, q.2.2) :: pl) = _; rw [innA, if_neg (show ¬ (31 : Int32) ≤ 30 by decide)]
theorem bsP_2 {o : Oo} {pl : List PE} (hT : Tb 1 pl) : Tb 2 (bsP o pl) := by
  cases o with
  | none => exact hT.mono (by decide)
  | some q => show bndF 30 < 2; decide
theorem bsP_1 {o : Oo} {pl : List PE} (hT : Tb 1 pl) (s : Sm) : stlA 1 (bsP o pl) s = (pl, toS o s) := by
  cases o with
  | none => exact hT.st s
  | some q =>
    show stlA 1 ((30, q.2.2) :: pl) s = _
    rw [stlA, if_neg (show ¬ bndF 30 < 1 by decide)]
    exact hT.st _
theorem toS_T {o : Oo} {s : Sm} (h1 : IsT s) (h2 : ∀ q, o = some q → IsT q.2.2) : IsT (toS o s) := by
  cases o with
  | none => exact h1
  | some q => exact (h2 q rfl).leap h1
def semE (mc : Mcf) (d i lv : Nat) : Nat → Nat → Sm → Prop := fun i' lv' s => IsT s ∧ (tW (mc.2.2.2.1 i') 1476 = false ∧ tW (mc.2.2.2.1 i') 498 = false) ∧ ∀ pl, Tb 1 pl → InB mc.2.2.2.2 pl → ∃ P s2, Gos mc (0, i, lv, d, pl, sZ) (2, i', lv', d, P, s2) ∧ stlA 1 P s2 = (pl, s) ∧ innA P = innA pl
def falE (mc : Mcf) (d i lv : Nat) : Nat → Prop := fun j => ∀ pl, Tb 1 pl → InB mc.2.2.2.2 pl → Fls mc (0, i, lv, d, pl, sZ) j
/-- an or that is open is closed -/
theorem c6_close {hh : Hp} {i1 lv1 c c1 L : Nat} {o : Oo} {s : Sm} (hr : RdH E hh x b n N od i1 lv1 c1) (hcd : cdO (hI hh (x + 31)) (hI hh (x + 32)) (wlw od) c c1 L o s) : Ct E 0 0 0 mX10_leadHere [.ref (x + 27), .int (opI o)] hh (fun v h' => v = none ∧ Fr (rdS x c) hh h' ∧ RdH E h' x b n N od i1 lv1 c1 ∧ hI h' (x + 34) = hI hh (x + 34) ∧ CSeg (hI h' (x + 31)) (hI h' (x + 32)) (wlw od) c c1 L (toS o s)) := by
  obtain ⟨⟨hc, ht⟩, ⟨hi, hN⟩, ⟨h7, h50⟩, h8, h6, hci⟩ := id hr
  have h400 := ht.2.1
  cases o with
  | none =>
    refine Ct.mono ?_ (c10_leadNo (cs_tx27 hc))
    rintro v h' ⟨rfl, rfl⟩
    exact ⟨rfl, Fr.rf, hr, rfl, hcd⟩
  | some q =>
    have a1 := hcd.1.1
    have a2 := hcd.2.2.2.1.1
    refine Ct.mono ?_ (c10_lead (cs_tx27 hc) h6 (by omega) (show q.1 < c1 by omega))
    rintro v h' ⟨rfl, rfl⟩
    refine ⟨rfl, Fr.wI (by unfold rdS; omega), ⟨⟨hc, ht.w (Or.inr (by omega))⟩, ⟨by rw [hI_ne (by omega)]; exact hi, hN⟩, ⟨by rw [hI_ne (by omega)]; exact h7, h50⟩, by rw [hI_ne (by omega)]; exact h8, by rw [hI_ne (by omega)]; exact h6, hci⟩, by funext k; exact hI_ne (by omega), ?_⟩
    refine hcd.close (by omega) (fun k _ _ => hI_ne (by omega)) (fun k k1 k2 hn => ?_) (fun z e => ?_)
    · have := hn q rfl
      exact hI_ne (by omega)
    · have e2 := Option.some.inj e
      rw [← e2]; exact hI_at
theorem c6_hasTest {D d : Nat} (hD : 3 ≤ D) (HP : CtR E x b n N od mX6_hasPlain D d (fun i lv => semL (mcO b n od test wl wo) d i lv) (fun i lv => falL (mcO b n od test wl wo) d i lv)) : CtR E x b n N od mX6_hasTest (D + 1) d (fun i lv => semE (mcO b n od test wl wo) d i lv) (fun i lv => falE (mcO b n od test wl wo) d i lv) := by
  intro h i lv c hr
  have hr0 := hr
  have hc := hr0.1.1
  refine Ct.of (by decide +kernel) (Nat.le_of_ble_eq_true rfl) ?_
  have loop : ∀ (fu : Nat) (hh : Hp) (i1 lv1 c1 : Nat) (o : Oo) (s : Sm), N - i1 < fu → Fr (rdS x c) h hh → RdH E hh x b n N od i1 lv1 c1 → i < i1 → lv < lv1 → c1 + i ≤ i1 + c → cdO (hI hh (x + 31)) (hI hh (x + 32)) (wlw od) c c1 (lv1 - lv) o s → IsT s → (∀ pl, Tb 1 pl → InB test pl → ∃ P s2, Gos (mcO b n od test wl wo) (0, i, lv, d, pl, sZ) (2, i1, lv1, d, P, s2) ∧ stlA 2 P s2 = (bsP o pl, s) ∧ stlA 1 P s2 = (pl, toS o s) ∧ innA P = innA pl) → Wp E mX6_hasTest (Rm (D + 1) 0 0) (Qm E (pRe E h x b n N od i lv c (semE (mcO b n od test wl wo) d i lv) (falE (mcO b n od test wl wo) d i lv)) 0 0) 12 [(0, .ref (x + 26)), (1, .int (nI d)), (2, .int (opI o))] [] hh 0 0 := by
    intro fu
    induction fu with
    | zero => intro hh i1 lv1 c1 o s hfu; omega
    | succ fu IH =>
      intro hh i1 lv1 c1 o s hfu fr hr1 a1 a2 a4 hcd hT hgo
      obtain ⟨⟨hc1, ht1⟩, ⟨hi1, hN1⟩, -, -, -, hci1⟩ := id hr1
      have h400 := ht1.2.1
      have hlt := hcd.lt
      have hkr := ht1.kr hN1
      have hand : tW (tk b n i1) 1476 = decide (hI hh (x + 34) i1 = 257) := hkr.wdb (j := 1) (by decide)
      have hor : tW (tk b n i1) 498 = decide (hI hh (x + 34) i1 = 256) := hkr.wdb (j := 0) (by decide)
      have hTo : ∀ q, o = some q → IsT q.2.2 := fun q e => by rw [e] at hcd; exact hcd.2.2.2.2
      have fin : ¬ hI hh (x + 34) i1 = 257 → ¬ hI hh (x + 34) i1 = 256 → Wp E mX6_hasTest (Rm (D + 1) 0 0) (Qm E (pRe E h x b n N od i lv c (semE (mcO b n od test wl wo) d i lv) (falE (mcO b n od test wl wo) d i lv)) 0 0) 134 [(0, .ref (x + 26)), (1, .int (nI d)), (2, .int (opI o))] [] hh 0 0 := by
        intro n1 n2
        refine r_aload_n (pc := 134) 0 dX6_hasTest_134 rfl ?_
        refine r_getR (pc := 135) fl_X6_14 (ca_26 hc1) (cf_26_0 hc1) dX6_hasTest_135 ?_
        refine r_iload_n (pc := 138) 2 dX6_hasTest_138 rfl ?_
        refine r_callV (pc := 139) (As := [_]) mv_X10_leadHere ml_X6_145 (c6_close hr1 hcd) (tx_is (cs_tx27 hc1)) rfl rfl (Nat.le_of_ble_eq_true rfl) (fr_le (by omega)) (lo_le (by decide) (by omega)) (Nat.le_of_ble_eq_true rfl) (Nat.le_of_ble_eq_true rfl) dX6_hasTest_139 (fun r h2 hp => ?_)
        obtain ⟨rfl, f2, hr2, -, hseg⟩ := hp
        show Wp E mX6_hasTest _ _ _ _ [] _ 0 0
        refine r_iconst (pc := 142) (1) dX6_hasTest_142 rfl ?_
        refine r_zret (pc := 143) rfl (by decide) ?_ (Nat.le_of_ble_eq_true rfl) (Nat.le_of_ble_eq_true rfl) dX6_hasTest_143
        refine ⟨fr.tr f2, Or.inl ⟨rfl, i1, lv1, c1, toS o s, hr2, a1, a2, hlt, a4, hseg, toS_T hT hTo, ⟨?_, ?_⟩, fun pl h1 h2 => ?_⟩⟩
        · show tW (tk b n i1) 1476 = false; rw [hand]; exact decide_eq_false n1
        · show tW (tk b n i1) 498 = false; rw [hor]; exact decide_eq_false n2
        · obtain ⟨P, s2, g1, -, g3, g4⟩ := hgo pl h1 h2
          exact ⟨P, s2, g1, g3, g4⟩
      -- a joint
      have joint : ∀ (h2 : Hp) (k : Int32), (k = 256 ∨ k = 257) → hI hh (x + 34) i1 = k → Fr (rdS x c) h h2 → RdH E h2 x b n N od i1 lv1 c1 → (k = 256 → CSeg (hI h2 (x + 31)) (hI h2 (x + 32)) (wlw od) c c1 (lv1 - lv) (toS o s)) → (k = 257 → cdO (hI h2 (x + 31)) (hI h2 (x + 32)) (wlw od) c c1 (lv1 - lv) o s) → Wp E mX6_hasTest (Rm (D + 1) 0 0) (Qm E (pRe E h x b n N od i lv c (semE (mcO b n od test wl wo) d i lv) (falE (mcO b n od test wl wo) d i lv)) 0 0) 78 [(0, .ref (x + 26)), (1, .int (nI d)), (2, .int (opI o)), (3, .int k)] [] h2 0 0 := by
        intro h2 k hk hki f2 hr2 hk6 hk7
        have hiN : i1 < N := by
          rcases Nat.lt_or_ge i1 N with z | z
          · exact z
          · have q1 := hkr.en.mpr ((ht1.end hN1).mpr (by omega))
            rw [q1] at hki
            rcases hk with w | w <;> rw [w] at hki <;> exact absurd hki (by decide)
        -- the pile that plain begins on
        have st : ∀ pl, Tb 1 pl → InB test pl → Gos (mcO b n od test wl wo) (0, i, lv, d, pl, sZ) (0, i1 + 1, lv1, d, (if k = 256 then (30, toS o s) :: pl else (29, s) :: bsP o pl), sZ) := by
          intro pl h1 h2
          obtain ⟨P, s2, g1, g2, g3, g4⟩ := hgo pl h1 h2
          refine g1.tr (Gos.one (by show ¬ (2 : Int32) = 4; decide) ?_)
          show btA (tk b n) i1 lv1 d P s2 = _
          unfold btA
          rw [hand, hor, hki]
          rcases hk with rfl | rfl
          · rw [if_neg (by decide), if_pos (by decide), if_pos rfl, g3]
          · rw [if_pos (by decide), if_neg (by decide), g2]
        have hT3 : ∀ pl : List PE, Tb 3 (if k = 256 then (30, toS o s) :: pl else (29, s) :: bsP o pl) := fun pl => by
          split
          · show bndF 30 < 3; decide
          · show bndF 29 < 3; decide
        have hInn : ∀ pl : List PE, innA (if k = 256 then (30, toS o s) :: pl else (29, s) :: bsP o pl) = innA pl := fun pl => by
          split
          · rw [innA, if_neg (show ¬ (31 : Int32) ≤ 30 by decide)]
          · rw [innA, if_neg (show ¬ (31 : Int32) ≤ 29 by decide), bsP_inn]
        have hc2 := hr2.1.1
        have hi2 := hr2.2.1.1
        refine r_aload_n (pc := 78) 0 dX6_hasTest_78 rfl ?_
        refine r_getR (pc := 79) fl_X6_14 (ca_26 hc2) (cf_26_0 hc2) dX6_hasTest_79 ?_
        refine r_iload_n (pc := 82) 3 dX6_hasTest_82 rfl ?_
        refine r_iconst (pc := 83) (0) dX6_hasTest_83 rfl ?_
        refine r_dV (pc := 84) (As := [_, _]) mv_X10_add ml_X6_148 (c6_addJ hr2 hiN _ _) (tx_is (cs_tx27 hc2)) rfl rfl (Nat.le_of_ble_eq_true rfl) (fr_le (by omega)) (lo_le (by decide) (by omega)) (Nat.le_of_ble_eq_true rfl) (Nat.le_of_ble_eq_true rfl) dX6_hasTest_84 ?_
        refine r_istore (pc := 87) (lv' := [(0, _), (1, _), (2, _), (3, _), (4, _)]) dX6_hasTest_87 (Nat.le_of_ble_eq_true rfl) rfl ?_
        refine r_aload_n (pc := 89) 0 dX6_hasTest_89 rfl ?_
        refine r_dup (pc := 90) dX6_hasTest_90 rfl ?_
        refine r_getI (pc := 91) fl_X6_69 (ca_26 hc2) dX6_hasTest_91 ?_
        rw [adH_26, hi2]
        refine r_iconst (pc := 94) (1) dX6_hasTest_94 rfl ?_
        refine r_iadd (pc := 95) dX6_hasTest_95 ?_
        rw [nI_1]
        refine r_putI (pc := 96) fp_X6_69 (ca_26 hc2) dX6_hasTest_96 ?_
        have hr3 := hr2.addN (o := k) (w := 0) (by omega)
        have f3 : Fr (rdS x c) h (wI (adH h2 x c1 k 0) (x + 26) 6 (nI (i1 + 1))) := (f2.tr (adH_fr.mono (fun a j z => rdS_mono (c := c) (by omega) z))).tr (Fr.wI (by unfold rdS; omega))
        have eO : hI (wI (adH h2 x c1 k 0) (x + 26) 6 (nI (i1 + 1))) (x + 31) c1 = k := by rw [hI_ne (by omega)]; exact adH_O
        have eL : ∀ j, j < c1 → hI (wI (adH h2 x c1 k 0) (x + 26) 6 (nI (i1 + 1))) (x + 31) j = hI h2 (x + 31) j ∧ hI (wI (adH h2 x c1 k 0) (x + 26) 6 (nI (i1 + 1))) (x + 32) j = hI h2 (x + 32) j := fun j hj => by
          rw [hI_ne (by omega), hI_ne (by omega)]; exact adH_lo hj
        generalize wI (adH h2 x c1 k 0) (x + 26) 6 (nI (i1 + 1)) = h3 at hr3 f3 eO eL ⊢
        have hc3 := hr3.1.1
        refine r_aload_n (pc := 99) 0 dX6_hasTest_99 rfl ?_
        refine r_iload_n (pc := 100) 1 dX6_hasTest_100 rfl ?_
        refine r_callV (pc := 101) (As := [_]) mv_X6_hasPlain ml_X6_142 (HP h3 (i1 + 1) lv1 (c1 + 1) hr3) (ca_26 hc3) rfl rfl (Nat.le_of_ble_eq_true rfl) (fr_le (by omega)) (lo_le (by decide) (by omega)) (Nat.le_of_ble_eq_true rfl) (Nat.le_of_ble_eq_true rfl) dX6_hasTest_101 (fun r h4 hp => ?_)
        obtain ⟨f4, ⟨rfl, i4, lv4, c4, s4, hr4, b1, b2, b3, b4, hseg4, hT4, hgo4⟩ | ⟨rfl, j, hj, hjN, hf⟩⟩ := hp
        · show Wp E mX6_hasTest _ _ _ _ [.int _] _ 0 0
          obtain ⟨⟨hc4, ht4⟩, ⟨hi4, hN4⟩, ⟨h74, h504⟩, h84, h64, hci4⟩ := id hr4
          have f34 : Fr (rdS x c) h h4 := f3.tr (f4.mono (fun a j z => rdS_mono (c := c) (by omega) z))
          have eO4 : hI h4 (x + 31) c1 = k := (f4.I (by unfold rdS; omega)).trans eO
          have eL4 : ∀ j, j < c1 → hI h4 (x + 31) j = hI h2 (x + 31) j ∧ hI h4 (x + 32) j = hI h2 (x + 32) j := fun j hj => by
            rw [f4.I (by unfold rdS; omega), f4.I (by unfold rdS; omega)]; exact eL j hj
          have mch : ∀ pl, Tb 1 pl → InB test pl → ∃ P s2, Gos (mcO b n od test wl wo) (0, i, lv, d, pl, sZ) (2, i4, lv4, d, P, s2) ∧ Ey 3 P s2 (if k = 256 then (30, toS o s) :: pl else (29, s) :: bsP o pl) s4 := fun pl h1 h2 => by
            obtain ⟨P, s2, g1, g2⟩ := hgo4 _ (hT3 pl) (by show InB test _; unfold InB; rw [hInn]; exact h2)
            exact ⟨P, s2, (st pl h1 h2).tr g1, g2⟩
          refine r_if_ne (pc := 104) (tgt := 109) dX6_hasTest_104 (by decide) (fun c_104 => ?_) (fun c_104 => ?_)
          · refine r_iload_n (pc := 109) 3 dX6_hasTest_109 rfl ?_
            refine r_sipush (pc := 110) (256) dX6_hasTest_110 rfl ?_
            refine r_icmp_ne (pc := 113) (tgt := 122) dX6_hasTest_113 (by decide) (fun c_113 => ?_) (fun c_113 => ?_)
            · have hk7b : k = 257 := hk.resolve_left c_113
              subst hk7b
              have hcd2 := hk7 rfl
              refine r_aload_n (pc := 122) 0 dX6_hasTest_122 rfl ?_
              refine r_getR (pc := 123) fl_X6_14 (ca_26 hc4) (cf_26_0 hc4) dX6_hasTest_123 ?_
              refine r_iload (pc := 126) 4 dX6_hasTest_126 rfl ?_
              refine r_dV0 (pc := 128) (As := [_]) mv_X10_leadHere ml_X6_145 (c10_lead (cs_tx27 hc4) h64 (by omega) (show c1 < c4 by omega)) (tx_is (cs_tx27 hc4)) rfl rfl (Nat.le_of_ble_eq_true rfl) (fr_le (by omega)) (lo_le (by decide) (by omega)) (Nat.le_of_ble_eq_true rfl) (Nat.le_of_ble_eq_true rfl) dX6_hasTest_128 ?_
              refine r_goto (pc := 131) (tgt := 12) dX6_hasTest_131 (by decide) ?_
              refine r_sub [0, 1, 2] rfl ?_
              have hr5 : RdH E (wI h4 (x + 27 + 5) c1 (nI c4)) x b n N od i4 lv4 c4 := ⟨⟨hc4, ht4.w (Or.inr (by omega))⟩, ⟨by rw [hI_ne (by omega)]; exact hi4, hN4⟩, ⟨by rw [hI_ne (by omega)]; exact h74, h504⟩, by rw [hI_ne (by omega)]; exact h84, by rw [hI_ne (by omega)]; exact h64, hci4⟩
              refine IH _ i4 lv4 c4 o (sLeap 0 s s4) (by omega) (f34.tr (Fr.wI (by unfold rdS; omega))) hr5 (by omega) (by omega) (by omega) ?_ (hT.leap hT4) (fun pl h1 h2 => ?_)
              · have e1 : cdO (hI (wI h4 (x + 27 + 5) c1 (nI c4)) (x + 31)) (hI (wI h4 (x + 27 + 5) c1 (nI c4)) (x + 32)) (wlw od) c c1 (lv1 - lv) o s := hcd2.cong (fun j j1 j2 => by rw [hI_ne (by omega), hI_ne (by omega)]; exact eL4 j j2)
                have e2 : CSeg (hI (wI h4 (x + 27 + 5) c1 (nI c4)) (x + 31)) (hI (wI h4 (x + 27 + 5) c1 (nI c4)) (x + 32)) (wlw od) (c1 + 1) c4 (lv4 - lv1) s4 := CSeg_cong (fun j j1 j2 => ⟨hI_ne (by omega), hI_ne (by omega)⟩) hseg4
                have q := e1.and (by rw [hI_ne (by omega)]; exact eO4) hI_at (by omega) e2 hT
                rw [show lv1 - lv + (lv4 - lv1) = lv4 - lv by omega] at q
                exact q
              · obtain ⟨P, s2, g1, g2⟩ := mch pl h1 h2
                rw [if_neg (by decide)] at g2
                have w2 : stlA 2 ((29, s) :: bsP o pl) s4 = stlA 2 (bsP o pl) (sLeap 0 s s4) := by rw [stlA, if_neg (show ¬ bndF 29 < 2 by decide)]; rfl
                have w1 : stlA 1 ((29, s) :: bsP o pl) s4 = stlA 1 (bsP o pl) (sLeap 0 s s4) := by rw [stlA, if_neg (show ¬ bndF 29 < 1 by decide)]; rfl
                refine ⟨P, s2, g1, ?_, ?_, ?_⟩
                · rw [g2.1 2 (by decide), w2]; exact (bsP_2 h1).st _
                · rw [g2.1 1 (by decide), w1]; exact bsP_1 h1 _
                · rw [g2.2, innA, if_neg (show ¬ (31 : Int32) ≤ 29 by decide), bsP_inn]
            · have hk6b : k = 256 := c_113
              subst hk6b
              have hcs := hk6 rfl
              refine r_iload (pc := 116) 4 dX6_hasTest_116 rfl ?_
              refine r_istore_n (pc := 118) (lv' := [(0, _), (1, _), (2, _), (3, _), (4, _)]) dX6_hasTest_118 (Nat.le_of_ble_eq_true rfl) rfl ?_
              refine r_goto (pc := 119) (tgt := 131) dX6_hasTest_119 (by decide) ?_
              refine r_goto (pc := 131) (tgt := 12) dX6_hasTest_131 (by decide) ?_
              refine r_sub [0, 1, 2] rfl ?_
              refine IH h4 i4 lv4 c4 (some (c1, lv1 - lv, toS o s)) s4 (by omega) f34 hr4 (by omega) (by omega) (by omega) ?_ hT4 (fun pl h1 h2 => ?_)
              · refine ⟨CSeg_cong (fun j j1 j2 => eL4 j j2) hcs, eO4, by show lv1 - lv < lv4 - lv; omega, ?_, toS_T hT hTo⟩
                show CSeg _ _ _ (c1 + 1) c4 (lv4 - lv - (lv1 - lv)) s4
                rw [show lv4 - lv - (lv1 - lv) = lv4 - lv1 by omega]
                exact hseg4
              · obtain ⟨P, s2, g1, g2⟩ := mch pl h1 h2
                rw [if_pos rfl] at g2
                refine ⟨P, s2, g1, ?_, ?_, ?_⟩
                · rw [g2.1 2 (by decide)]
                  exact (show Tb 2 ((30, toS o s) :: pl) from (by show bndF 30 < 2; decide)).st s4
                · rw [g2.1 1 (by decide)]
                  exact bsP_1 (o := some (c1, lv1 - lv, toS o s)) h1 s4
                · rw [g2.2, innA, if_neg (show ¬ (31 : Int32) ≤ 30 by decide)]
          · exact absurd (show (1 : Int32) = 0 from c_104) (by decide)
        · show Wp E mX6_hasTest _ _ _ _ [.int _] _ 0 0
          refine r_if_ne (pc := 104) (tgt := 109) dX6_hasTest_104 (by decide) (fun c_104 => ?_) (fun c_104 => ?_)
          · exact absurd rfl c_104
          · refine r_iconst (pc := 107) (0) dX6_hasTest_107 rfl ?_
            refine r_zret (pc := 108) rfl (by decide) ?_ (Nat.le_of_ble_eq_true rfl) (Nat.le_of_ble_eq_true rfl) dX6_hasTest_108
            exact ⟨f3.tr (f4.mono (fun a j z => rdS_mono (c := c) (by omega) z)), Or.inr ⟨rfl, j, hj, hjN, fun pl h1 h2 => (st pl h1 h2).fl (hf _ (hT3 pl) (by show InB test _; unfold InB; rw [hInn]; exact h2))⟩⟩
      have at53 : (hI hh (x + 34) i1 = 256 ∨ hI hh (x + 34) i1 = 257) → Wp E mX6_hasTest (Rm (D + 1) 0 0) (Qm E (pRe E h x b n N od i lv c (semE (mcO b n od test wl wo) d i lv) (falE (mcO b n od test wl wo) d i lv)) 0 0) 53 [(0, .ref (x + 26)), (1, .int (nI d)), (2, .int (opI o))] [] hh 0 0 := by
        intro hk
        refine r_aload_n (pc := 53) 0 dX6_hasTest_53 rfl ?_
        refine r_getR (pc := 54) fl_X6_24 (ca_26 hc1) (cf_26_2 hc1) dX6_hasTest_54 ?_
        refine r_aload_n (pc := 57) 0 dX6_hasTest_57 rfl ?_
        refine r_getI (pc := 58) fl_X6_69 (ca_26 hc1) dX6_hasTest_58 ?_
        rw [hi1]
        refine r_iald (pc := 61) (j := i1) (cr_34 hc1) rfl (by omega) (by decide) dX6_hasTest_61 ?_
        generalize hkk : hI hh (x + 34) i1 = kk at hk
        refine r_istore_n (pc := 62) (lv' := [(0, _), (1, _), (2, _), (3, _)]) dX6_hasTest_62 (Nat.le_of_ble_eq_true rfl) rfl ?_
        refine r_iload_n (pc := 63) 3 dX6_hasTest_63 rfl ?_
        refine r_sipush (pc := 64) (256) dX6_hasTest_64 rfl ?_
        refine r_icmp_ne (pc := 67) (tgt := 78) dX6_hasTest_67 (by decide) (fun c_67 => ?_) (fun c_67 => ?_)
        · have h7 : kk = 257 := hk.resolve_left c_67
          exact joint hh kk (Or.inr h7) hkk fr hr1 (fun z => absurd z c_67) (fun _ => hcd)
        · refine r_aload_n (pc := 70) 0 dX6_hasTest_70 rfl ?_
          refine r_getR (pc := 71) fl_X6_14 (ca_26 hc1) (cf_26_0 hc1) dX6_hasTest_71 ?_
          refine r_iload_n (pc := 74) 2 dX6_hasTest_74 rfl ?_
          refine r_callV (pc := 75) (As := [_]) mv_X10_leadHere ml_X6_145 (c6_close hr1 hcd) (tx_is (cs_tx27 hc1)) rfl rfl (Nat.le_of_ble_eq_true rfl) (fr_le (by omega)) (lo_le (by decide) (by omega)) (Nat.le_of_ble_eq_true rfl) (Nat.le_of_ble_eq_true rfl) dX6_hasTest_75 (fun r h2 hp => ?_)
          obtain ⟨rfl, f2, hr2, -, hseg⟩ := hp
          show Wp E mX6_hasTest _ _ _ _ [] _ 0 0
          exact joint h2 kk (Or.inl c_67) hkk (fr.tr f2) hr2 (fun _ => hseg) (fun z => by rw [z] at c_67; exact absurd c_67 (by decide))
      refine r_aload_n (pc := 12) 0 dX6_hasTest_12 rfl ?_
      refine r_getI (pc := 13) fl_X6_69 (ca_26 hc1) dX6_hasTest_13 ?_
      refine r_aload_n (pc := 16) 0 dX6_hasTest_16 rfl ?_
      refine r_getI (pc := 17) fl_X6_86 (ca_26 hc1) dX6_hasTest_17 ?_
      rw [hi1, ht1.1]
      refine r_icmp_ge (pc := 20) (tgt := 134) dX6_hasTest_20 (by decide) (fun c_20 => ?_) (fun c_20 => ?_)
      · exact absurd c_20 (nI_ge (by omega) (by omega))
      · refine r_aload_n (pc := 23) 0 dX6_hasTest_23 rfl ?_
        refine r_getR (pc := 24) fl_X6_24 (ca_26 hc1) (cf_26_2 hc1) dX6_hasTest_24 ?_
        refine r_aload_n (pc := 27) 0 dX6_hasTest_27 rfl ?_
        refine r_getI (pc := 28) fl_X6_69 (ca_26 hc1) dX6_hasTest_28 ?_
        rw [hi1]
        refine r_iald (pc := 31) (j := i1) (cr_34 hc1) rfl (by omega) (by decide) dX6_hasTest_31 ?_
        refine r_sipush (pc := 32) (257) dX6_hasTest_32 rfl ?_
        refine r_icmp_eq (pc := 35) (tgt := 53) dX6_hasTest_35 (by decide) (fun c_35 => ?_) (fun c_35 => ?_)
        · exact at53 (Or.inr c_35)
        · refine r_aload_n (pc := 38) 0 dX6_hasTest_38 rfl ?_
          refine r_getR (pc := 39) fl_X6_24 (ca_26 hc1) (cf_26_2 hc1) dX6_hasTest_39 ?_
          refine r_aload_n (pc := 42) 0 dX6_hasTest_42 rfl ?_
          refine r_getI (pc := 43) fl_X6_69 (ca_26 hc1) dX6_hasTest_43 ?_
          rw [hi1]
          refine r_iald (pc := 46) (j := i1) (cr_34 hc1) rfl (by omega) (by decide) dX6_hasTest_46 ?_
          refine r_sipush (pc := 47) (256) dX6_hasTest_47 rfl ?_
          refine r_icmp_ne (pc := 50) (tgt := 134) dX6_hasTest_50 (by decide) (fun c_50 => ?_) (fun c_50 => ?_)
          · exact fin c_35 c_50
          · exact at53 (Or.inl c_50)
  refine r_aload_n (pc := 0) 0 dX6_hasTest_0 rfl ?_
  refine r_iload_n (pc := 1) 1 dX6_hasTest_1 rfl ?_
  refine r_callV (pc := 2) (As := [_]) mv_X6_hasPlain ml_X6_142 (HP h i lv c hr0) (ca_26 hc) rfl rfl (Nat.le_of_ble_eq_true rfl) (fr_le (by omega)) (lo_le (by decide) (by omega)) (Nat.le_of_ble_eq_true rfl) (Nat.le_of_ble_eq_true rfl) dX6_hasTest_2 (fun r h1 hp => ?_)
  obtain ⟨f1, ⟨rfl, i1, lv1, c1, s1, hr1, a1, a2, a3, a4, hseg, hT, hgo⟩ | ⟨rfl, j, hj, hjN, hf⟩⟩ := hp
  · show Wp E mX6_hasTest _ _ _ _ [.int _] _ 0 0
    refine r_if_ne (pc := 5) (tgt := 10) dX6_hasTest_5 (by decide) (fun c_5 => ?_) (fun c_5 => ?_)
    · refine r_iconst (pc := 10) (-1) dX6_hasTest_10 rfl ?_
      refine r_istore_n (pc := 11) (lv' := [(0, _), (1, _), (2, _)]) dX6_hasTest_11 (Nat.le_of_ble_eq_true rfl) rfl ?_
      refine loop (N - i1 + 1) h1 i1 lv1 c1 none s1 (by omega) f1 hr1 a1 a2 a4 hseg hT (fun pl h1 h2 => ?_)
      obtain ⟨P, s2, g1, g2⟩ := hgo pl (h1.mono (by decide)) h2
      exact ⟨P, s2, g1, (g2.1 2 (by decide)).trans ((h1.mono (show (1 : Int32) ≤ 2 by decide)).st s1), (g2.1 1 (by decide)).trans (h1.st s1), g2.2⟩
    · exact absurd (show (1 : Int32) = 0 from c_5) (by decide)
  · show Wp E mX6_hasTest _ _ _ _ [.int _] _ 0 0
    refine r_if_ne (pc := 5) (tgt := 10) dX6_hasTest_5 (by decide) (fun c_5 => ?_) (fun c_5 => ?_)
    · exact absurd rfl c_5
    · refine r_iconst (pc := 8) (0) dX6_hasTest_8 rfl ?_
      refine r_zret (pc := 9) rfl (by decide) ?_ (Nat.le_of_ble_eq_true rfl) (Nat.le_of_ble_eq_true rfl) dX6_hasTest_9
      exact ⟨f1, Or.inr ⟨rfl, j, hj, hjN, fun pl h1 h2 => hf pl (h1.mono (by decide)) h2⟩⟩
end TEST
