/-! the class: what is had, and by which life next -/
section FORT3
variable {E : En} {h : Hp} {x p : Nat} {r : Nat → Int32}
theorem mostN_on {f g : Nat → Int64} {y : Nat} (hfg : ∀ k, k < 9 → y.testBit k = true → f (9 * (y - 2 ^ k) + k) = g (9 * (y - 2 ^ k) + k)) : ∀ k, k ≤ 9 → mostN f y k = mostN g y k
  | 0, _ => rfl
  | k + 1, hk => by
    rw [mostN, mostN, mostN_on hfg k (by omega)]
    by_cases hb : y.testBit k = true
    · rw [hfg k (by omega) hb]
    · rw [if_neg hb, if_neg hb]
theorem nxN_on {f g : Nat → Int64} {y : Nat} (hfg : ∀ k, k < 9 → y.testBit k = true → f (9 * (y - 2 ^ k) + k) = g (9 * (y - 2 ^ k) + k)) : ∀ k, k ≤ 9 → nxN f y k = nxN g y k
  | 0, _ => rfl
  | k + 1, hk => by
    rw [nxN, nxN, nxN_on hfg k (by omega)]
    by_cases hb : y.testBit k = true
    · rw [hfg k (by omega) hb]
    · rw [if_neg (fun z => hb z.1), if_neg (fun z => hb z.1)]
theorem sub_le {a b : Nat} (ha : a < 512) (hb : b < 512) (hs : subN a b) : a ≤ b := by
  have e : a &&& b = a := by
    apply set_ext (Nat.lt_of_le_of_lt Nat.and_le_left ha) ha
    intro i hi
    rw [Nat.testBit_and]
    cases hc : a.testBit i with
    | false => rfl
    | true => rw [hs i hi hc]; rfl
  rw [← e]; exact Nat.and_le_right
set_option maxRecDepth 100000 in
theorem pc_pos : ∀ y, y < 512 → ∀ l, l < 9 → y.testBit l = true → 1 ≤ pcN y 9 := by decide +kernel
/-- lives yet, and a life it is at, that come to pass -/
def relP (yn li yt l : Nat) : Prop := subN yt yn ∧ l < 9 ∧ (if yt = yn then 2 ^ li else dfN yn yt).testBit l = true
theorem relP_now {yn li : Nat} (hli : li < 9) : relP yn li yn li := ⟨fun _ _ z => z, hli, by rw [if_pos rfl, Nat.testBit_two_pow]; exact decide_eq_true rfl⟩
theorem relP_next {yn li yt l : Nat} (hy : yt < 512) (hs : subN yt yn) (hl : l < 9) (hb : yt.testBit l = true) : relP yn li (yt - 2 ^ l) l ∧ pcN (dfN yn (yt - 2 ^ l)) 9 = pcN (dfN yn yt) 9 + 1 := by
  have hs2 : subN (yt - 2 ^ l) yn := fun i hi z => by
    rw [sb9 yt hy l hl hb i hi] at z
    refine hs i hi ?_
    cases hc : yt.testBit i with
    | true => rfl
    | false => rw [hc] at z; cases z
  have hne : ¬ yt - 2 ^ l = yn := fun z => by
    have h1 := sb9 yt hy l hl hb l hl
    rw [z, hs l hl hb, decide_eq_true rfl, hb] at h1
    cases h1
  refine ⟨⟨hs2, hl, ?_⟩, ?_⟩
  · rw [if_neg hne, dfN_bit hl, hs l hl hb, sb9 yt hy l hl hb l hl, decide_eq_true rfl]
    cases yt.testBit l <;> rfl
  · have a1 := pc_df hs 9 (Nat.le_refl _)
    have a2 := pc_df hs2 9 (Nat.le_refl _)
    have a3 := pc_sb yt hy l hl hb
    omega
theorem relP_fill {yn li yt l : Nat} (hyn : yn < 511) (hyt : yt < 512) (hr : relP yn li yt l) : fillP li yn l (8 - pcN yt 9) := by
  obtain ⟨hs, hl, hb⟩ := hr
  unfold fillP
  by_cases he : yt = yn
  · rw [if_pos he, Nat.testBit_two_pow] at hb
    exact Or.inl ⟨(of_decide_eq_true hb).symm, by rw [he]⟩
  · rw [if_neg he] at hb
    have h1 := pc_pos _ (dfN_lt (by omega)) l hl hb
    have h2 := pc_df hs 9 (Nat.le_refl _)
    have h9 := pc_le8 yn hyn
    rw [dfN_bit hl] at hb
    refine Or.inr ⟨?_, by omega⟩
    cases hc : yn.testBit l with
    | true => rfl
    | false => rw [hc] at hb; cases hb
def hadI (e d : Nat → Int32) (yn li n yr : Nat) (f : Nat → Int64) : Prop := ∀ yt l, relP yn li yt l → yt < 512 → (yr = 0 ∨ pcN (dfN yn yt) 9 ≤ n - yr + 1) → f (9 * yt + l) = HN e d yr (9 * yt + l)
theorem hadI_s {e d e1 d1 : Nat → Int32} {yn li n yr : Nat} {f : Nat → Int64} (hyn : yn < 511) (hf : hadI e d yn li n yr f) (hyr : yr < n) (hE : ∀ l s, l < 9 → s < 9 → fillP li yn l s → e1 (9 * l + s) = e (9 * l + s) ∧ d1 (9 * l + s) = d (9 * l + s)) : hadI e d yn li n (yr + 1) (ayF e1 d1 f yn li (n - yr) 0) := by
  intro yt l hr hyt hpc
  have hpc2 : pcN (dfN yn yt) 9 ≤ n - yr := by omega
  obtain ⟨hs, hl, hb⟩ := id hr
  have hle := sub_le hyt (by omega) hs
  have q1 : (9 * yt + l) / 9 = yt := by omega
  have q2 : (9 * yt + l) % 9 = l := by omega
  unfold ayF
  rw [q1, q2, if_pos ⟨by omega, hle, ⟨(dfN_0 hyt).mpr hs, hpc2⟩, hb⟩]
  have e0 : HN e d (yr + 1) (9 * yt + l) = hadF e d (HN e d yr) (9 * yt + l) := by
    show hadS e d (fun _ => 0) (HN e d yr) (9 * yt + l) = _
    unfold hadS
    rw [if_pos (by omega)]
  rw [e0]
  unfold hadF
  rw [q1, q2]
  obtain ⟨x1, x2⟩ := hE l (8 - pcN yt 9) hl (by omega) (relP_fill (by omega) hyt hr)
  have x3 := hf yt l hr hyt (Or.inr (by omega))
  have x4 : mostN f yt 9 = mostN (HN e d yr) yt 9 := mostN_on (fun k hk hbk => by
    obtain ⟨w1, w2⟩ := relP_next (li := li) hyt hs hk hbk
    exact hf _ _ w1 (Nat.lt_of_le_of_lt (Nat.sub_le _ _) hyt) (Or.inr (by omega))) 9 (Nat.le_refl _)
  rw [x1, x2, x3, x4]
def pRy (h : Hp) (x : Nat) (r : Nat → Int32) (fo : Option (List Cl)) (k yn li n : Nat) : Option Value → Hp → Prop := fun v h' => v = none ∧ Fr (foS x) h h' ∧ hadI (eT r fo k) (dT r fo k) yn li n n (hJ h' (x + 91))
theorem c2_reckonYears (hc : CS E h x) (hpx : pOf x p) (hv : PtV h p r) {nc ns nl : Nat} (hrw : RwOK r nc ns) (h3 : r 3 = nI nl) (hl6 : nl ≤ 6) {lw : Option Nat} {fo : Option (List Cl)} (hlw : LwA h p r nl lw) (hfo : FoL E h x fo lw) {k li y n : Nat} (hk : k < 6) (eli : r (8 + k) = nI li) (hli : li < 9) (ey : r (14 + k) = nI y) (hy : y < 511) (hn : n ≤ 9) : Ct E 4 0 0 mX2_reckonYears [.ref (x + 90), .ref p, .int (nI k), .int (nI n)] h (pRy h x r fo k y li n) := by
  have hp := pt_of hc hpx
  refine Ct.of (by decide +kernel) (Nat.le_of_ble_eq_true rfl) ?_
  refine r_aload_n (pc := 0) 1 dX2_reckonYears_0 rfl ?_
  refine r_getR (pc := 1) fl_X2_36 (pt_is hp) (pt_f2 hp) dX2_reckonYears_1 ?_
  refine r_iload_n (pc := 4) 2 dX2_reckonYears_4 rfl ?_
  refine r_iald (pc := 5) (j := k) (pt_r2 hp) rfl (by omega) (by decide) dX2_reckonYears_5 ?_
  rw [pv_ye hv hk, ey]
  refine r_istore (pc := 6) (lv' := [(0, _), (1, _), (2, _), (3, _), (4, _)]) dX2_reckonYears_6 (Nat.le_of_ble_eq_true rfl) rfl ?_
  refine r_aload_n (pc := 8) 1 dX2_reckonYears_8 rfl ?_
  refine r_getR (pc := 9) fl_X2_41 (pt_is hp) (pt_f1 hp) dX2_reckonYears_9 ?_
  refine r_iload_n (pc := 12) 2 dX2_reckonYears_12 rfl ?_
  refine r_iald (pc := 13) (j := k) (pt_r1 hp) rfl (by omega) (by decide) dX2_reckonYears_13 ?_
  rw [pv_li hv hk, eli]
  refine r_istore (pc := 14) (lv' := [(0, _), (1, _), (2, _), (3, _), (4, _), (5, _)]) dX2_reckonYears_14 (Nat.le_of_ble_eq_true rfl) rfl ?_
  refine r_aload_n (pc := 16) 0 dX2_reckonYears_16 rfl ?_
  refine r_aload_n (pc := 17) 1 dX2_reckonYears_17 rfl ?_
  refine r_iload_n (pc := 18) 2 dX2_reckonYears_18 rfl ?_
  refine r_callV (pc := 19) (As := [_, _]) mv_X2_askOfLives ml_X2_50 (c2_askOfLives hc hpx hv hrw h3 hl6 hlw hfo hk eli hli ey hy) (ca_90 hc) rfl rfl (Nat.le_of_ble_eq_true rfl) (Nat.le_of_ble_eq_true rfl) (Nat.le_of_ble_eq_true rfl) (Nat.le_of_ble_eq_true rfl) (Nat.le_of_ble_eq_true rfl) dX2_reckonYears_19 (fun r h2 hp => ?_)
  obtain ⟨rfl, f2, hfd⟩ := hp
  show Wp E mX2_reckonYears _ _ _ _ [] _ 0 0
  have hc2 := hc.fo f2
  refine r_aload_n (pc := 22) 0 dX2_reckonYears_22 rfl ?_
  refine r_getR (pc := 23) fl_X2_15 (ca_90 hc2) (cf_90_1 hc2) dX2_reckonYears_23 ?_
  refine r_lconst (pc := 26) (0) dX2_reckonYears_26 rfl ?_
  refine r_dS0 (pc := 27) (As := [_, _]) ms_J7_fill_d0a16 ml_X2_54 (ct_fillJ (cr_91 hc2) (by decide) 0) rfl rfl (Nat.le_of_ble_eq_true rfl) (Nat.le_of_ble_eq_true rfl) (Nat.le_of_ble_eq_true rfl) (Nat.le_of_ble_eq_true rfl) (Nat.le_of_ble_eq_true rfl) dX2_reckonYears_27 ?_
  refine r_iconst (pc := 30) (0) dX2_reckonYears_30 rfl ?_
  refine r_istore (pc := 31) (lv' := [(0, _), (1, _), (2, _), (3, _), (4, _), (5, _), (6, _)]) dX2_reckonYears_31 (Nat.le_of_ble_eq_true rfl) rfl ?_
  have hE : ∀ l s, l < 9 → s < 9 → fillP li y l s → hI h2 (x + 92) (9 * l + s) = eT r fo k (9 * l + s) ∧ hI h2 (x + 93) (9 * l + s) = dT r fo k (9 * l + s) := by
    intro l s hl hs hf
    obtain ⟨w1, w2⟩ := hfd l s hl hs (Or.inl hl) hf
    unfold eT dT
    rw [show (9 * l + s) / 9 = l by omega, show (9 * l + s) % 9 = s by omega]
    exact ⟨w1, w2⟩
  have loop : ∀ yr, yr ≤ n → ∀ f : Nat → Int64, hadI (eT r fo k) (dT r fo k) y li n yr f → Wp E mX2_reckonYears (Rm 4 0 0) (Qm E (pRy h x r fo k y li n) 0 0) 33 [(0, .ref (x + 90)), (1, .ref p), (2, .int (nI k)), (3, .int (nI n)), (4, .int (nI y)), (5, .int (nI li)), (6, .int (nI yr))] [] (wRowJ h2 (x + 91) f) 0 0 := by
    refine upTo (fun yr hyr ih => ?_) ?_
    · intro f hf
      have hc3 : CS E (wRowJ h2 (x + 91) f) x := hc2
      have hct := c2_addYear (h := wRowJ h2 (x + 91) f) hc3 (yn := y) (ln := li) (dt := n - yr) hy hli (by omega)
      rw [wRowJ_at, wRowJ_wRowJ] at hct
      refine r_iload (pc := 33) 6 dX2_reckonYears_33 rfl ?_
      refine r_iload_n (pc := 35) 3 dX2_reckonYears_35 rfl ?_
      refine r_icmp_ge (pc := 36) (tgt := 57) dX2_reckonYears_36 (by decide) (fun c_36 => ?_) (fun c_36 => ?_)
      · exact absurd c_36 (nI_ge hyr (by omega))
      · refine r_aload_n (pc := 39) 0 dX2_reckonYears_39 rfl ?_
        refine r_iload (pc := 40) 4 dX2_reckonYears_40 rfl ?_
        refine r_iload (pc := 42) 5 dX2_reckonYears_42 rfl ?_
        refine r_iload_n (pc := 44) 3 dX2_reckonYears_44 rfl ?_
        refine r_iload (pc := 45) 6 dX2_reckonYears_45 rfl ?_
        refine r_isub (pc := 47) dX2_reckonYears_47 ?_
        rw [nI_sub (by omega)]
        refine r_dV0 (pc := 48) (As := [_, _, _]) mv_X2_addYear ml_X2_60 (hct) (ca_90 hc3) rfl rfl (Nat.le_of_ble_eq_true rfl) (Nat.le_of_ble_eq_true rfl) (Nat.le_of_ble_eq_true rfl) (Nat.le_of_ble_eq_true rfl) (Nat.le_of_ble_eq_true rfl) dX2_reckonYears_48 ?_
        refine r_iinc (pc := 51) (v := _ + (1)) (lv' := [(0, _), (1, _), (2, _), (3, _), (4, _), (5, _), (6, _)]) 6 dX2_reckonYears_51 rfl rfl (Nat.le_of_ble_eq_true rfl) rfl ?_
        refine r_goto (pc := 54) (tgt := 33) dX2_reckonYears_54 (by decide) ?_
        rw [nI_1]
        exact ih _ (hadI_s hy hf hyr hE)
    · intro f hf
      refine r_iload (pc := 33) 6 dX2_reckonYears_33 rfl ?_
      refine r_iload_n (pc := 35) 3 dX2_reckonYears_35 rfl ?_
      refine r_icmp_ge (pc := 36) (tgt := 57) dX2_reckonYears_36 (by decide) (fun c_36 => ?_) (fun c_36 => ?_)
      · refine r_vret (pc := 57) rfl ?_ (Nat.le_of_ble_eq_true rfl) (Nat.le_of_ble_eq_true rfl) dX2_reckonYears_57
        refine ⟨rfl, f2.tr (Fr.wRowJ (fun j => by unfold foS; omega)), ?_⟩
        rw [wRowJ_at]; exact hf
      · exact absurd (Int32.le_refl _) c_36
  refine loop 0 (by omega) _ (fun yt l hr hyt _ => ?_)
  have := hr.2.1
  show flF 0 _ 4608 _ = 0
  unfold flF
  rw [if_pos (by omega)]
theorem c2_hadBy (hc : CS E h x) (hpx : pOf x p) (hv : PtV h p r) {nc ns nl : Nat} (hrw : RwOK r nc ns) (h3 : r 3 = nI nl) (hl6 : nl ≤ 6) {lw : Option Nat} {fo : Option (List Cl)} (hlw : LwA h p r nl lw) (hfo : FoL E h x fo lw) {k li y n : Nat} (hk : k < 6) (eli : r (8 + k) = nI li) (hli : li < 9) (ey : r (14 + k) = nI y) (hy : y < 511) (hn : n ≤ 9) : Ct E 5 0 0 mX2_hadBy [.ref (x + 90), .ref p, .int (nI k), .int (nI n)] h (fun v h' => v = some (.long (HN (eT r fo k) (dT r fo k) n (9 * y + li))) ∧ Fr (foS x) h h') := by
  refine Ct.of (by decide +kernel) (Nat.le_of_ble_eq_true rfl) ?_
  refine r_aload_n (pc := 0) 0 dX2_hadBy_0 rfl ?_
  refine r_aload_n (pc := 1) 1 dX2_hadBy_1 rfl ?_
  refine r_iload_n (pc := 2) 2 dX2_hadBy_2 rfl ?_
  refine r_iload_n (pc := 3) 3 dX2_hadBy_3 rfl ?_
  refine r_callV (pc := 4) (As := [_, _, _]) mv_X2_reckonYears ml_X2_32 (c2_reckonYears hc hpx hv hrw h3 hl6 hlw hfo hk eli hli ey hy hn) (ca_90 hc) rfl rfl (Nat.le_of_ble_eq_true rfl) (Nat.le_of_ble_eq_true rfl) (Nat.le_of_ble_eq_true rfl) (Nat.le_of_ble_eq_true rfl) (Nat.le_of_ble_eq_true rfl) dX2_hadBy_4 (fun r h2 hp => ?_)
  obtain ⟨rfl, f2, hH⟩ := hp
  show Wp E mX2_hadBy _ _ _ _ [] _ 0 0
  have hc2 := hc.fo f2
  have hp2 := pt_of hc2 hpx
  have hv2 := hv.fo hpx f2
  refine r_aload_n (pc := 7) 0 dX2_hadBy_7 rfl ?_
  refine r_getR (pc := 8) fl_X2_15 (ca_90 hc2) (cf_90_1 hc2) dX2_hadBy_8 ?_
  refine r_aload_n (pc := 11) 1 dX2_hadBy_11 rfl ?_
  refine r_getR (pc := 12) fl_X2_36 (pt_is hp2) (pt_f2 hp2) dX2_hadBy_12 ?_
  refine r_iload_n (pc := 15) 2 dX2_hadBy_15 rfl ?_
  refine r_iald (pc := 16) (j := k) (pt_r2 hp2) rfl (by omega) (by decide) dX2_hadBy_16 ?_
  rw [pv_ye hv2 hk, ey]
  refine r_bipush (pc := 17) (9) dX2_hadBy_17 rfl ?_
  refine r_imul (pc := 19) dX2_hadBy_19 ?_
  refine r_aload_n (pc := 20) 1 dX2_hadBy_20 rfl ?_
  refine r_getR (pc := 21) fl_X2_41 (pt_is hp2) (pt_f1 hp2) dX2_hadBy_21 ?_
  refine r_iload_n (pc := 24) 2 dX2_hadBy_24 rfl ?_
  refine r_iald (pc := 25) (j := k) (pt_r1 hp2) rfl (by omega) (by decide) dX2_hadBy_25 ?_
  rw [pv_li hv2 hk, eli]
  refine r_iadd (pc := 26) dX2_hadBy_26 ?_
  refine r_lald (pc := 27) (j := y * 9 + li) (cr_91 hc2) (by simp only [fa_lit, nI_add, nI_mul]) (by omega) (by decide) dX2_hadBy_27 ?_
  refine r_lret (pc := 28) rfl ?_ (Nat.le_of_ble_eq_true rfl) (Nat.le_of_ble_eq_true rfl) dX2_hadBy_28
  refine ⟨?_, f2⟩
  rw [Nat.mul_comm y 9, hH y li (relP_now hli) (by omega) (Or.inr (by
    have := pc_df (a := y) (b := y) (fun _ _ z => z) 9 (Nat.le_refl _)
    omega))]
theorem c2_bestNext (hc : CS E h x) (hpx : pOf x p) (hv : PtV h p r) {nc ns nl : Nat} (hrw : RwOK r nc ns) (h3 : r 3 = nI nl) (hl6 : nl ≤ 6) {lw : Option Nat} {fo : Option (List Cl)} (hlw : LwA h p r nl lw) (hfo : FoL E h x fo lw) {k li y n : Nat} (hk : k < 6) (eli : r (8 + k) = nI li) (hli : li < 9) (ey : r (14 + k) = nI y) (hy : y < 511) (hn : n ≤ 9) : Ct E 5 0 0 mX2_bestNext [.ref (x + 90), .ref p, .int (nI k), .int (nI n)] h (fun v h' => v = some (.int (nxN (HN (eT r fo k) (dT r fo k) n) y 9).1) ∧ Fr (foS x) h h') := by
  refine Ct.of (by decide +kernel) (Nat.le_of_ble_eq_true rfl) ?_
  refine r_aload_n (pc := 0) 0 dX2_bestNext_0 rfl ?_
  refine r_aload_n (pc := 1) 1 dX2_bestNext_1 rfl ?_
  refine r_iload_n (pc := 2) 2 dX2_bestNext_2 rfl ?_
  refine r_iload_n (pc := 3) 3 dX2_bestNext_3 rfl ?_
  refine r_callV (pc := 4) (As := [_, _, _]) mv_X2_reckonYears ml_X2_32 (c2_reckonYears hc hpx hv hrw h3 hl6 hlw hfo hk eli hli ey hy hn) (ca_90 hc) rfl rfl (Nat.le_of_ble_eq_true rfl) (Nat.le_of_ble_eq_true rfl) (Nat.le_of_ble_eq_true rfl) (Nat.le_of_ble_eq_true rfl) (Nat.le_of_ble_eq_true rfl) dX2_bestNext_4 (fun r h2 hp => ?_)
  obtain ⟨rfl, f2, hH⟩ := hp
  show Wp E mX2_bestNext _ _ _ _ [] _ 0 0
  have hc2 := hc.fo f2
  have hp2 := pt_of hc2 hpx
  have hv2 := hv.fo hpx f2
  have e0 : nxN (hJ h2 (x + 91)) y 9 = nxN (HN (eT r fo k) (dT r fo k) n) y 9 := nxN_on (fun q hq hb => by
    obtain ⟨w1, w2⟩ := relP_next (yn := y) (li := li) (by omega) (fun _ _ z => z) hq hb
    have := pc_df (a := y) (b := y) (fun _ _ z => z) 9 (Nat.le_refl _)
    exact hH _ _ w1 (Nat.lt_of_le_of_lt (Nat.sub_le _ _) (by omega)) (Or.inr (by omega))) 9 (Nat.le_refl _)
  rw [← e0]
  generalize hf : hJ h2 (x + 91) = f
  have loop : ∀ q, q ≤ 9 → Wp E mX2_bestNext (Rm 5 0 0) (Qm E (fun v h' => v = some (.int (nxN f y 9).1) ∧ Fr (foS x) h h') 0 0) 26 [(0, .ref (x + 90)), (1, .ref p), (2, .int (nI k)), (3, .int (nI n)), (4, .int (nI y)), (5, .int (nxN f y q).1), (6, .long (nxN f y q).2), (8, .int (nI q))] [] h2 0 0 := by
    refine upTo (fun q hq ih => ?_) ?_
    · have no : ¬ (y.testBit q = true ∧ (nxN f y q).2 < f (9 * (y - 2 ^ q) + q)) → Wp E mX2_bestNext (Rm 5 0 0) (Qm E (fun v h' => v = some (.int (nxN f y 9).1) ∧ Fr (foS x) h h') 0 0) 81 [(0, .ref (x + 90)), (1, .ref p), (2, .int (nI k)), (3, .int (nI n)), (4, .int (nI y)), (5, .int (nxN f y q).1), (6, .long (nxN f y q).2), (8, .int (nI q))] [] h2 0 0 := by
        intro hno
        have e9 : nxN f y (q + 1) = nxN f y q := by rw [nxN, if_neg hno]
        rw [e9] at ih
        refine r_iinc (pc := 81) (v := _ + (1)) (lv' := [(0, _), (1, _), (2, _), (3, _), (4, _), (5, _), (6, _), (8, _)]) 7 dX2_bestNext_81 rfl rfl (Nat.le_of_ble_eq_true rfl) rfl ?_
        refine r_goto (pc := 84) (tgt := 26) dX2_bestNext_84 (by decide) ?_
        rw [nI_1]; exact ih
      refine r_iload (pc := 26) 7 dX2_bestNext_26 rfl ?_
      refine r_bipush (pc := 28) (9) dX2_bestNext_28 rfl ?_
      refine r_icmp_ge (pc := 30) (tgt := 87) dX2_bestNext_30 (by decide) (fun c_30 => ?_) (fun c_30 => ?_)
      · exact absurd c_30 (nI_ge (b := 9) hq (by decide))
      · refine r_iload (pc := 33) 4 dX2_bestNext_33 rfl ?_
        refine r_iload (pc := 35) 7 dX2_bestNext_35 rfl ?_
        refine r_dN (pc := 37) (As := [_, _]) ms_X11_hasBit mk_X2_46 (ct_hasBit _ _) rfl rfl (Nat.le_of_ble_eq_true rfl) (Nat.le_of_ble_eq_true rfl) (Nat.le_of_ble_eq_true rfl) (Nat.le_of_ble_eq_true rfl) (Nat.le_of_ble_eq_true rfl) dX2_bestNext_37 ?_
        refine r_if_eq (pc := 40) (tgt := 81) dX2_bestNext_40 (by decide) (fun c_40 => ?_) (fun c_40 => ?_)
        · rw [isB9 y (by omega) q hq] at c_40
          exact no (fun z => by rw [bI_0.mp c_40] at z; exact absurd z.1 (by decide))
        · rw [isB9 y (by omega) q hq] at c_40
          have hb := bI_n0.mp c_40
          have hle : y - 2 ^ q ≤ y := Nat.sub_le _ _
          have ef : hJ h2 (x + 91) ((y - 2 ^ q) * 9 + q) = f (9 * (y - 2 ^ q) + q) := by rw [hf, Nat.mul_comm]
          refine r_aload_n (pc := 43) 0 dX2_bestNext_43 rfl ?_
          refine r_getR (pc := 44) fl_X2_15 (ca_90 hc2) (cf_90_1 hc2) dX2_bestNext_44 ?_
          refine r_iload (pc := 47) 4 dX2_bestNext_47 rfl ?_
          refine r_iconst (pc := 49) (1) dX2_bestNext_49 rfl ?_
          refine r_iload (pc := 50) 7 dX2_bestNext_50 rfl ?_
          refine r_ishl (pc := 52) dX2_bestNext_52 ?_
          refine r_iconst (pc := 53) (-1) dX2_bestNext_53 rfl ?_
          refine r_ixor (pc := 54) dX2_bestNext_54 ?_
          refine r_iand (pc := 55) dX2_bestNext_55 ?_
          refine r_bipush (pc := 56) (9) dX2_bestNext_56 rfl ?_
          refine r_imul (pc := 58) dX2_bestNext_58 ?_
          refine r_iload (pc := 59) 7 dX2_bestNext_59 rfl ?_
          refine r_iadd (pc := 61) dX2_bestNext_61 ?_
          refine r_lald (pc := 62) (j := (y - 2 ^ q) * 9 + q) (cr_91 hc2) (by rw [and9 y (by omega) q hq, if_pos hb]; simp only [fa_lit, nI_add, nI_mul]) (by omega) (by decide) dX2_bestNext_62 ?_
          rw [ef]
          refine r_lstore (pc := 63) (lv' := [(0, _), (1, _), (2, _), (3, _), (4, _), (5, _), (6, _), (8, _), (9, _)]) dX2_bestNext_63 (Nat.le_of_ble_eq_true rfl) rfl ?_
          refine r_lload (pc := 65) 8 dX2_bestNext_65 rfl ?_
          refine r_lload (pc := 67) 6 dX2_bestNext_67 rfl ?_
          refine r_lcmp_le (pc := 69) (tgt := 81) dX2_bestNext_69 dX2_bestNext_70 (by decide) (fun c_69 => ?_) (fun c_69 => ?_)
          · refine r_sub [0, 1, 2, 3, 4, 5, 6, 7] rfl ?_
            exact no (fun z => absurd (Int64.lt_of_lt_of_le z.2 c_69) Int64.lt_irrefl)
          · have e9 : nxN f y (q + 1) = (nI q, f (9 * (y - 2 ^ q) + q)) := by rw [nxN, if_pos ⟨hb, Int64.not_le.mp c_69⟩]
            rw [e9] at ih
            refine r_lload (pc := 73) 8 dX2_bestNext_73 rfl ?_
            refine r_lstore (pc := 75) (lv' := [(0, _), (1, _), (2, _), (3, _), (4, _), (5, _), (6, _), (8, _), (9, _)]) dX2_bestNext_75 (Nat.le_of_ble_eq_true rfl) rfl ?_
            refine r_iload (pc := 77) 7 dX2_bestNext_77 rfl ?_
            refine r_istore (pc := 79) (lv' := [(0, _), (1, _), (2, _), (3, _), (4, _), (5, _), (6, _), (8, _), (9, _)]) dX2_bestNext_79 (Nat.le_of_ble_eq_true rfl) rfl ?_
            refine r_iinc (pc := 81) (v := _ + (1)) (lv' := [(0, _), (1, _), (2, _), (3, _), (4, _), (5, _), (6, _), (8, _), (9, _)]) 7 dX2_bestNext_81 rfl rfl (Nat.le_of_ble_eq_true rfl) rfl ?_
            refine r_goto (pc := 84) (tgt := 26) dX2_bestNext_84 (by decide) ?_
            refine r_sub [0, 1, 2, 3, 4, 5, 6, 7] rfl ?_
            rw [nI_1]; exact ih
    · refine r_iload (pc := 26) 7 dX2_bestNext_26 rfl ?_
      refine r_bipush (pc := 28) (9) dX2_bestNext_28 rfl ?_
      refine r_icmp_ge (pc := 30) (tgt := 87) dX2_bestNext_30 (by decide) (fun c_30 => ?_) (fun c_30 => ?_)
      · refine r_iload (pc := 87) 5 dX2_bestNext_87 rfl ?_
        refine r_iret (pc := 89) rfl ?_ (Nat.le_of_ble_eq_true rfl) (Nat.le_of_ble_eq_true rfl) dX2_bestNext_89
        exact ⟨rfl, f2⟩
      · exact absurd (show (9 : Int32) ≤ nI 9 by decide) c_30
  refine r_aload_n (pc := 7) 1 dX2_bestNext_7 rfl ?_
  refine r_getR (pc := 8) fl_X2_36 (pt_is hp2) (pt_f2 hp2) dX2_bestNext_8 ?_
  refine r_iload_n (pc := 11) 2 dX2_bestNext_11 rfl ?_
  refine r_iald (pc := 12) (j := k) (pt_r2 hp2) rfl (by omega) (by decide) dX2_bestNext_12 ?_
  rw [pv_ye hv2 hk, ey]
  refine r_istore (pc := 13) (lv' := [(0, _), (1, _), (2, _), (3, _), (4, _)]) dX2_bestNext_13 (Nat.le_of_ble_eq_true rfl) rfl ?_
  refine r_iconst (pc := 15) (-1) dX2_bestNext_15 rfl ?_
  refine r_istore (pc := 16) (lv' := [(0, _), (1, _), (2, _), (3, _), (4, _), (5, _)]) dX2_bestNext_16 (Nat.le_of_ble_eq_true rfl) rfl ?_
  refine r_ldc2_w (pc := 18) cs_X2_44 dX2_bestNext_18 ?_
  refine r_lstore (pc := 21) (lv' := [(0, _), (1, _), (2, _), (3, _), (4, _), (5, _), (6, _)]) dX2_bestNext_21 (Nat.le_of_ble_eq_true rfl) rfl ?_
  refine r_iconst (pc := 23) (0) dX2_bestNext_23 rfl ?_
  refine r_istore (pc := 24) (lv' := [(0, _), (1, _), (2, _), (3, _), (4, _), (5, _), (6, _), (8, _)]) dX2_bestNext_24 (Nat.le_of_ble_eq_true rfl) rfl ?_
  exact loop 0 (by omega)
end FORT3
