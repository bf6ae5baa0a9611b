/-! the class's reader: what a law's clause does -/
section LAWDO
variable {E : En} {x n N : Nat} {b : Nat → Int32} {od : Bool} {wl wo wh : Nat → Int64}
/-- what reading a clause writes, the q-th, with code from c on -/
def clS (x q c a k : Nat) : Prop := (a = x + 26 ∧ (k = 6 ∨ k = 7)) ∨ (a = x + 27 ∧ (k = 0 ∨ k = 6 ∨ k = 7)) ∨ ((a = x + 28 ∨ a = x + 29) ∧ q ≤ k) ∨ (a = x + 30 ∧ 3 * q < k) ∨ ((a = x + 31 ∨ a = x + 32) ∧ c ≤ k)
theorem rd_cl {q c c' a k : Nat} (hcc : c ≤ c') (hs : rdS x c' a k) : clS x q c a k := by unfold rdS at hs; unfold clS; omega
theorem csP_cl {q c a k : Nat} (hq : csP x a k) : ¬ clS x q c a k := by
  obtain ⟨t, ht, rfl, rfl⟩ := hq
  intro z
  have key : ∀ t ∈ csF, ¬ ((t.1 = 26 ∧ (t.2.1 = 6 ∨ t.2.1 = 7)) ∨ (t.1 = 27 ∧ (t.2.1 = 0 ∨ t.2.1 = 6 ∨ t.2.1 = 7)) ∨ t.1 = 28 ∨ t.1 = 29 ∨ t.1 = 30 ∨ t.1 = 31 ∨ t.1 = 32) := by decide +kernel
  exact key t ht (by unfold clS at z; omega)
theorem CS.cl {h h1 : Hp} {q c : Nat} (hc : CS E h x) (a1 : Fr (clS x q c) h h1) : CS E h1 x := hc.fr a1 (fun _ _ => csP_cl)
/-- within a clause: so many begun, so many pieces -/
def ClS (E : En) (h : Hp) (x : Nat) (b : Nat → Int32) (n N : Nat) (od : Bool) (i lv c q p : Nat) : Prop := RdH E h x b n N od i lv c ∧ hI h (x + 27) 0 = nI q ∧ hI h (x + 27) 7 = nI p
theorem ClS.rd {h h1 : Hp} {i lv c q p i' lv' c' c0 : Nat} (hs : ClS E h x b n N od i lv c q p) (f : Fr (rdS x c0) h h1) (hr : RdH E h1 x b n N od i' lv' c') : ClS E h1 x b n N od i' lv' c' q p := ⟨hr, (f.I (by unfold rdS; omega)).trans hs.2.1, (f.I (by unfold rdS; omega)).trans hs.2.2⟩
/-- a piece is ended -/
def epH (h : Hp) (x p c : Nat) : Hp := wI (wI h (x + 27) 7 (nI (p + 1))) (x + 27 + 3) (p + 1) (nI c)
theorem c6_endP {h : Hp} {i lv c q p : Nat} (hs : ClS E h x b n N od i lv c q p) (h36 : p < 36) : Ct E 0 0 0 mX10_endPiece [.ref (x + 27)] h (po none (epH h x p c)) := c10_endPiece (cs_tx27 hs.1.1.1) hs.1.2.2.2.2.1 hs.2.2 h36
theorem ClS.ep {h : Hp} {i lv c q p : Nat} (hs : ClS E h x b n N od i lv c q p) : ClS E (epH h x p c) x b n N od i lv c q (p + 1) := by
  obtain ⟨⟨⟨hc, ht⟩, ⟨hi, hN⟩, ⟨h7, h50⟩, h8, h6, hci⟩, h0, hp⟩ := hs
  unfold epH
  refine ⟨⟨⟨hc, (ht.w (Or.inr (by omega))).w (Or.inr (by omega))⟩, ⟨by rw [hI_ne (by omega), hI_ne (by omega)]; exact hi, hN⟩, ⟨by rw [hI_ne (by omega), hI_ne (by omega)]; exact h7, h50⟩, by rw [hI_ne (by omega), hI_ne (by omega)]; exact h8, by rw [hI_ne (by omega), hI_ne (by omega)]; exact h6, hci⟩, by rw [hI_ne (by omega), hI_ne (by omega)]; exact h0, by rw [hI_ne (by omega), hI_at]⟩
theorem epH_at {h : Hp} {p c : Nat} : hI (epH h x p c) (x + 30) (p + 1) = nI c := by unfold epH; exact hI_at
theorem epH_30 {h : Hp} {p c k : Nat} (hk : ¬ k = p + 1) : hI (epH h x p c) (x + 30) k = hI h (x + 30) k := by unfold epH; rw [hI_ne (by omega), hI_ne (by omega)]
theorem epH_ne {h : Hp} {p c a : Nat} (h1 : a ≠ x + 27) (h2 : a ≠ x + 30) : hI (epH h x p c) a = hI h a := by funext k; unfold epH; rw [hI_ne (by omega), hI_ne (by omega)]
theorem epH_fr {h : Hp} {p c q c0 : Nat} (hp : 3 * q ≤ p) : Fr (clS x q c0) h (epH h x p c) := (Fr.wI (by unfold clS; omega)).tr (Fr.wI (by unfold clS; omega))
/-- a clause is begun -/
def bcH (h : Hp) (x q : Nat) (k : Int32) : Hp := wI (wI (wI h (x + 27 + 1) q k) (x + 27 + 2) q 1) (x + 27) 0 (nI (q + 1))
theorem c6_begin {h : Hp} {i lv c q p : Nat} (hs : ClS E h x b n N od i lv c q p) (h12 : q < 12) (k : Int32) : Ct E 0 0 0 mX10_beginClause [.ref (x + 27), .int k] h (po none (bcH h x q k)) := c10_beginClause (cs_tx27 hs.1.1.1) hs.2.1 h12 k
theorem ClS.bc {h : Hp} {i lv c q p : Nat} {k : Int32} (hs : ClS E h x b n N od i lv c q p) : ClS E (bcH h x q k) x b n N od i lv c (q + 1) p := by
  obtain ⟨⟨⟨hc, ht⟩, ⟨hi, hN⟩, ⟨h7, h50⟩, h8, h6, hci⟩, h0, hp⟩ := hs
  unfold bcH
  refine ⟨⟨⟨hc, ((ht.w (Or.inr (by omega))).w (Or.inr (by omega))).w (Or.inr (by omega))⟩, ⟨by rw [hI_ne (by omega), hI_ne (by omega), hI_ne (by omega)]; exact hi, hN⟩, ⟨by rw [hI_ne (by omega), hI_ne (by omega), hI_ne (by omega)]; exact h7, h50⟩, by rw [hI_ne (by omega), hI_ne (by omega), hI_ne (by omega)]; exact h8, by rw [hI_ne (by omega), hI_ne (by omega), hI_ne (by omega)]; exact h6, hci⟩, hI_at, by rw [hI_ne (by omega), hI_ne (by omega), hI_ne (by omega)]; exact hp⟩
theorem bcH_28 {h : Hp} {q : Nat} {k : Int32} : hI (bcH h x q k) (x + 28) q = k := by unfold bcH; rw [hI_ne (by omega), hI_ne (by omega)]; exact hI_at
theorem bcH_29 {h : Hp} {q : Nat} {k : Int32} : hI (bcH h x q k) (x + 29) q = 1 := by unfold bcH; rw [hI_ne (by omega)]; exact hI_at
theorem bcH_ne {h : Hp} {q a : Nat} {k : Int32} (h1 : a ≠ x + 27) (h2 : a ≠ x + 28) (h3 : a ≠ x + 29) : hI (bcH h x q k) a = hI h a := by funext j; unfold bcH; rw [hI_ne (by omega), hI_ne (by omega), hI_ne (by omega)]
theorem bcH_fr {h : Hp} {q c0 : Nat} {k : Int32} : Fr (clS x q c0) h (bcH h x q k) := ((Fr.wI (by unfold clS; omega)).tr (Fr.wI (by unfold clS; omega))).tr (Fr.wI (by unfold clS; omega))
theorem ClS.now {h : Hp} {i lv c q p i' : Nat} (hs : ClS E h x b n N od i lv c q p) (h1 : i' ≤ N) (h2 : c ≤ i') : ClS E (wI h (x + 26) 6 (nI i')) x b n N od i' lv c q p := ⟨hs.1.now h1 h2, by rw [hI_ne (by omega)]; exact hs.2.1, by rw [hI_ne (by omega)]; exact hs.2.2⟩
/-- which kinds of word begin laws' clauses, orders -/
def Whs (wh : Nat → Int64) (base : Nat) : Prop := ∀ u, u < 4 → wh u = lN (vocN (base + u))
theorem hdN_hit {w : Nat → Int64} {t : Tk} {j : Nat} (hj : tW t (w j) = true) : ∀ K, j < K → (∀ k, j < k → k < K → tW t (w k) = false) → hdN w t K = nI j
  | 0, h, _ => by omega
  | K + 1, h, hn => by
    rw [hdN]
    by_cases he : K = j
    · rw [he, if_pos hj]
    · rw [hn K (by omega) (by omega), if_neg (by decide)]
      exact hdN_hit hj K (by omega) (fun k h1 h2 => hn k h1 (by omega))
theorem hdN_no {w : Nat → Int64} {t : Tk} : ∀ K, (∀ k, k < K → tW t (w k) = false) → hdN w t K = -1
  | 0, _ => rfl
  | K + 1, hn => by rw [hdN, hn K (by omega), if_neg (by decide)]; exact hdN_no K (fun k h => hn k (by omega))
theorem hd_is {base κ : Nat} {pl v : Int32} {t : Tk} (hk : KR (nI κ) pl v t) (hκ : κ ≤ 302) (hb : base + 4 ≤ 27) (hw : Whs wh base) : (∀ u, u < 4 → κ = 256 + base + u → hdN wh t 4 = nI u) ∧ ((∀ u, u < 4 → ¬ κ = 256 + base + u) → hdN wh t 4 = -1) := by
  have hq : ∀ u, u < 4 → (tW t (wh u) = true ↔ κ = 256 + base + u) := fun u hu => by
    rw [hw u hu, ← hk.wd (show base + u < 27 by omega)]
    exact ⟨fun z => by have := nI_inj (by omega) (by omega) z; omega, fun z => by rw [z]; congr 1; omega⟩
  refine ⟨fun u hu e => hdN_hit ((hq u hu).mpr e) 4 hu (fun k h1 h2 => tW_f (fun z => ?_)), fun hn => hdN_no 4 (fun k h2 => tW_f (fun z => hn k h2 ((hq k h2).mp z)))⟩
  have := (hq k h2).mp z
  omega
def pLd (E : En) (h : Hp) (x : Nat) (b : Nat → Int32) (n N : Nat) (wl wo : Nat → Int64) (i lv c q κ : Nat) : Option Value → Hp → Prop := fun v h' => Fr (clS x q c) h h' ∧ ((v = some (.int 1) ∧ ∃ hd i' lv' c' s, hd < 4 ∧ κ = 263 + hd ∧ ClS E h' x b n N false i' lv' c' (q + 1) (3 * q + 2) ∧ (i < i' ∧ lv ≤ lv' ∧ c ≤ c' ∧ c' + i + 1 ≤ i' + c) ∧ (hI h' (x + 28) q = nI (263 + hd) ∧ hI h' (x + 30) (3 * q + 1) = nI c' ∧ hI h' (x + 30) (3 * q + 2) = nI c') ∧ (if hd = 3 then i' = i + 1 ∧ lv' = lv ∧ c' = c ∧ s = sZ else CSeg (hI h' (x + 31)) (hI h' (x + 32)) 8 c c' (lv' - lv) s ∧ Bd s ∧ ExM wl wo false (tk b n) false (i + 1) lv (.inr (i', lv', s)))) ∨ (v = some (.int 0) ∧ ∃ j, hI h' (x + 26) 6 = nI j ∧ j ≤ N ∧ (((∀ u, u < 4 → ¬ κ = 263 + u) ∧ j = i) ∨ ∃ hd, hd < 3 ∧ κ = 263 + hd ∧ ExM wl wo false (tk b n) false (i + 1) lv (.inl j))))
theorem c6_hasLawDoing {h : Hp} {i lv c q κ : Nat} (hw : Wls wl wo) (hs : ClS E h x b n N false i lv c q (3 * q)) (hq : q < 12) (hκ : κ ≤ 302) (hiN : (∃ u, u < 4 ∧ κ = 263 + u) → i < N) : Ct E 39 0 0 mX6_hasLawDoing [.ref (x + 26), .int (nI κ)] h (pLd E h x b n N wl wo i lv c q κ) := by
  have hc := hs.1.1.1
  have hi := hs.1.2.1.1
  have hN := hs.1.2.1.2
  have hci := hs.1.2.2.2.2.2
  refine Ct.of (by decide +kernel) (Nat.le_of_ble_eq_true rfl) ?_
  have no : (∀ u, u < 4 → ¬ κ = 263 + u) → Wp E mX6_hasLawDoing (Rm 39 0 0) (Qm E (pLd E h x b n N wl wo i lv c q κ) 0 0) 14 [(0, .ref (x + 26)), (1, .int (nI κ))] [] h 0 0 := by
    intro hno
    refine r_iconst (pc := 14) (0) dX6_hasLawDoing_14 rfl ?_
    refine r_zret (pc := 15) rfl (by decide) ?_ (Nat.le_of_ble_eq_true rfl) (Nat.le_of_ble_eq_true rfl) dX6_hasLawDoing_15
    exact ⟨Fr.rf, Or.inr ⟨rfl, i, hi, hN, Or.inl ⟨hno, rfl⟩⟩⟩
  refine r_iload_n (pc := 0) 1 dX6_hasLawDoing_0 rfl ?_
  refine r_sipush (pc := 1) (263) dX6_hasLawDoing_1 rfl ?_
  refine r_icmp_lt (pc := 4) (tgt := 14) dX6_hasLawDoing_4 (by decide) (fun c_4 => ?_) (fun c_4 => ?_)
  · exact no (fun u hu z => absurd c_4 (nI_nlt (b := 263) (by omega) (by omega)))
  · refine r_iload_n (pc := 7) 1 dX6_hasLawDoing_7 rfl ?_
    refine r_sipush (pc := 8) (266) dX6_hasLawDoing_8 rfl ?_
    refine r_icmp_le (pc := 11) (tgt := 16) dX6_hasLawDoing_11 (by decide) (fun c_11 => ?_) (fun c_11 => ?_)
    · have h1 : 263 ≤ κ := by
        rcases Nat.lt_or_ge κ 263 with z | z
        · exact absurd (nI_lt (b := 263) z (by decide)) c_4
        · exact z
      have h2 : κ ≤ 266 := by
        rcases Nat.lt_or_ge 266 κ with z | z
        · exact absurd c_11 (nI_ge z (by omega))
        · exact z
      obtain ⟨hd, hde⟩ : ∃ hd, κ = 263 + hd := ⟨κ - 263, by omega⟩
      have hiN2 := hiN ⟨hd, by omega, hde⟩
      refine r_aload_n (pc := 16) 0 dX6_hasLawDoing_16 rfl ?_
      refine r_dup (pc := 17) dX6_hasLawDoing_17 rfl ?_
      refine r_getI (pc := 18) fl_X6_69 (ca_26 hc) dX6_hasLawDoing_18 ?_
      rw [hi]
      refine r_iconst (pc := 21) (1) dX6_hasLawDoing_21 rfl ?_
      refine r_iadd (pc := 22) dX6_hasLawDoing_22 ?_
      rw [nI_1]
      refine r_putI (pc := 23) fp_X6_69 (ca_26 hc) dX6_hasLawDoing_23 ?_
      have hs1 := hs.now (i' := i + 1) (by omega) (by omega)
      have f1 : Fr (clS x q c) h (wI h (x + 26) 6 (nI (i + 1))) := Fr.wI (by unfold clS; omega)
      generalize wI h (x + 26) 6 (nI (i + 1)) = h1 at hs1 f1 ⊢
      have hc1 := hs1.1.1.1
      refine r_aload_n (pc := 26) 0 dX6_hasLawDoing_26 rfl ?_
      refine r_getR (pc := 27) fl_X6_14 (ca_26 hc1) (cf_26_0 hc1) dX6_hasLawDoing_27 ?_
      refine r_iload_n (pc := 30) 1 dX6_hasLawDoing_30 rfl ?_
      refine r_dV0 (pc := 31) (As := [_]) mv_X10_beginClause ml_X6_127 (c6_begin hs1 hq _) (tx_is (cs_tx27 hc1)) rfl rfl (Nat.le_of_ble_eq_true rfl) (Nat.le_of_ble_eq_true rfl) (Nat.le_of_ble_eq_true rfl) (Nat.le_of_ble_eq_true rfl) (Nat.le_of_ble_eq_true rfl) dX6_hasLawDoing_31 ?_
      have hs2 := hs1.bc (k := nI κ)
      have f2 : Fr (clS x q c) h (bcH h1 x q (nI κ)) := f1.tr bcH_fr
      have e28 : hI (bcH h1 x q (nI κ)) (x + 28) q = nI κ := bcH_28
      generalize bcH h1 x q (nI κ) = h2 at hs2 f2 e28 ⊢
      have hc2 := hs2.1.1.1
      -- both pieces are ended
      have fin : ∀ (h3 : Hp) (i' lv' c' : Nat) (s : Sm), Fr (clS x q c) h h3 → ClS E h3 x b n N false i' lv' c' (q + 1) (3 * q) → (i < i' ∧ lv ≤ lv' ∧ c ≤ c' ∧ c' + i + 1 ≤ i' + c) → hI h3 (x + 28) q = nI κ → (if hd = 3 then i' = i + 1 ∧ lv' = lv ∧ c' = c ∧ s = sZ else CSeg (hI h3 (x + 31)) (hI h3 (x + 32)) 8 c c' (lv' - lv) s ∧ Bd s ∧ ExM wl wo false (tk b n) false (i + 1) lv (.inr (i', lv', s))) → Wp E mX6_hasLawDoing (Rm 39 0 0) (Qm E (pLd E h x b n N wl wo i lv c q κ) 0 0) 51 [(0, .ref (x + 26)), (1, .int (nI κ))] [] h3 0 0 := by
        intro h3 i' lv' c' s f3 hs3 ho e28 hsem
        have hc3 := hs3.1.1.1
        refine r_aload_n (pc := 51) 0 dX6_hasLawDoing_51 rfl ?_
        refine r_getR (pc := 52) fl_X6_14 (ca_26 hc3) (cf_26_0 hc3) dX6_hasLawDoing_52 ?_
        refine r_dV0 (pc := 55) (As := []) mv_X10_endPiece ml_X6_124 (c6_endP hs3 (by omega)) (tx_is (cs_tx27 hc3)) rfl rfl (Nat.le_of_ble_eq_true rfl) (Nat.le_of_ble_eq_true rfl) (Nat.le_of_ble_eq_true rfl) (Nat.le_of_ble_eq_true rfl) (Nat.le_of_ble_eq_true rfl) dX6_hasLawDoing_55 ?_
        have hs4 := hs3.ep
        have hc4 := hs4.1.1.1
        refine r_aload_n (pc := 58) 0 dX6_hasLawDoing_58 rfl ?_
        refine r_getR (pc := 59) fl_X6_14 (ca_26 hc4) (cf_26_0 hc4) dX6_hasLawDoing_59 ?_
        refine r_dV0 (pc := 62) (As := []) mv_X10_endPiece ml_X6_124 (c6_endP hs4 (by omega)) (tx_is (cs_tx27 hc4)) rfl rfl (Nat.le_of_ble_eq_true rfl) (Nat.le_of_ble_eq_true rfl) (Nat.le_of_ble_eq_true rfl) (Nat.le_of_ble_eq_true rfl) (Nat.le_of_ble_eq_true rfl) dX6_hasLawDoing_62 ?_
        refine r_iconst (pc := 65) (1) dX6_hasLawDoing_65 rfl ?_
        refine r_zret (pc := 66) rfl (by decide) ?_ (Nat.le_of_ble_eq_true rfl) (Nat.le_of_ble_eq_true rfl) dX6_hasLawDoing_66
        refine ⟨(f3.tr (epH_fr (by omega))).tr (epH_fr (by omega)), Or.inl ⟨rfl, hd, i', lv', c', s, by omega, hde, hs4.ep, ho, ⟨?_, ?_, epH_at⟩, ?_⟩⟩
        · rw [epH_ne (by omega) (by omega), epH_ne (by omega) (by omega), e28, hde]
        · rw [epH_30 (by omega)]; exact epH_at
        · have e31 : hI (epH (epH h3 x (3 * q) c') x (3 * q + 1) c') (x + 31) = hI h3 (x + 31) := (epH_ne (by omega) (by omega)).trans (epH_ne (by omega) (by omega))
          have e32 : hI (epH (epH h3 x (3 * q) c') x (3 * q + 1) c') (x + 32) = hI h3 (x + 32) := (epH_ne (by omega) (by omega)).trans (epH_ne (by omega) (by omega))
          by_cases h3q : hd = 3
          · rw [if_pos h3q] at hsem ⊢; exact hsem
          · rw [if_neg h3q] at hsem ⊢; rw [e31, e32]; exact hsem
      refine r_iload_n (pc := 34) 1 dX6_hasLawDoing_34 rfl ?_
      refine r_sipush (pc := 35) (266) dX6_hasLawDoing_35 rfl ?_
      refine r_icmp_eq (pc := 38) (tgt := 51) dX6_hasLawDoing_38 (by decide) (fun c_38 => ?_) (fun c_38 => ?_)
      · have e3 : κ = 266 := nI_inj (b := 266) (by omega) (by decide) c_38
        exact fin h2 (i + 1) lv c sZ f2 hs2 (by omega) e28 (by rw [if_pos (by omega)]; exact ⟨rfl, rfl, rfl, rfl⟩)
      · have n3 : ¬ κ = 266 := fun z => c_38 (by rw [z]; rfl)
        refine r_aload_n (pc := 41) 0 dX6_hasLawDoing_41 rfl ?_
        refine r_iconst (pc := 42) (0) dX6_hasLawDoing_42 rfl ?_
        refine r_callV (pc := 43) (As := [_]) mv_X6_hasSum ml_X6_130 ((rd_all (test := false) hw 8 0 rfl).1 h2 (i + 1) lv c hs2.1) (ca_26 hc2) rfl rfl (Nat.le_of_ble_eq_true rfl) (Nat.le_of_ble_eq_true rfl) (Nat.le_of_ble_eq_true rfl) (Nat.le_of_ble_eq_true rfl) (Nat.le_of_ble_eq_true rfl) dX6_hasLawDoing_43 (fun r h3 hp => ?_)
        obtain ⟨f3, ⟨rfl, i3, lv3, c3, s3, hr3, b1, b2, b3, b4, hseg3, hsem⟩ | ⟨rfl, j, hj, hjN, hf⟩⟩ := hp
        · show Wp E mX6_hasLawDoing _ _ _ _ [.int _] _ 0 0
          refine r_if_ne (pc := 46) (tgt := 51) dX6_hasLawDoing_46 (by decide) (fun c_46 => ?_) (fun c_46 => ?_)
          · refine fin h3 i3 lv3 c3 s3 (f2.tr (f3.mono (fun a k z => rd_cl (Nat.le_refl _) z))) (hs2.rd f3 hr3) (by omega) ((f3.I (by unfold rdS; omega)).trans e28) ?_
            rw [if_neg (by omega)]
            exact ⟨hseg3, hsem.1, ex_sum hsem⟩
          · exact absurd (show (1 : Int32) = 0 from c_46) (by decide)
        · show Wp E mX6_hasLawDoing _ _ _ _ [.int _] _ 0 0
          refine r_if_ne (pc := 46) (tgt := 51) dX6_hasLawDoing_46 (by decide) (fun c_46 => ?_) (fun c_46 => ?_)
          · exact absurd rfl c_46
          · refine r_iconst (pc := 49) (0) dX6_hasLawDoing_49 rfl ?_
            refine r_zret (pc := 50) rfl (by decide) ?_ (Nat.le_of_ble_eq_true rfl) (Nat.le_of_ble_eq_true rfl) dX6_hasLawDoing_50
            exact ⟨f2.tr (f3.mono (fun a k z => rd_cl (Nat.le_refl _) z)), Or.inr ⟨rfl, j, hj, hjN, Or.inr ⟨hd, by omega, hde, ex_sumF hf⟩⟩⟩
    · exact no (fun u hu z => c_11 (nI_le (b := 266) (by omega) (by decide)))
end LAWDO
