/-! the class's reader: orders' clauses; a whole text -/
section READT
variable {E : En} {x n N : Nat} {b : Nat → Int32} {od : Bool} {wl wo wh : Nat → Int64}
theorem OdC.fr {h h1 : Hp} {sz sz' q q2 c : Nat} {d : Od} (hl : OdC h (x + 27) sz q d) (f : Fr (clS x q2 c) h h1) (hq : q < q2) (hs : sz ≤ c) (hs' : sz ≤ sz') : OdC h1 (x + 27) sz' q d := by
  obtain ⟨hd, a0, a1, a2, a3, ⟨g1, g2, g3, g4, g5⟩, ⟨e0, e1, e2, e3⟩, ⟨l1, l2, l3, l4⟩, hsum, hif⟩ := hl
  have ec : ∀ k, k < sz → hI h1 (x + 31) k = hI h (x + 31) k ∧ hI h1 (x + 32) k = hI h (x + 32) k := fun k hk => ⟨f.I (by unfold clS; omega), f.I (by unfold clS; omega)⟩
  refine ⟨hd, a0, a1, a2, a3, ⟨g1, g2, (f.I (by unfold clS; omega)).trans g3, (f.I (by unfold clS; omega)).trans g4, g5⟩, ⟨(f.I (by unfold clS; omega)).trans e0, (f.I (by unfold clS; omega)).trans e1, (f.I (by unfold clS; omega)).trans e2, (f.I (by unfold clS; omega)).trans e3⟩, ⟨l1, l2, l3, by omega⟩, ?_, ?_⟩
  · by_cases h3 : hd = 3
    · rw [if_pos h3] at hsum ⊢; exact hsum
    · rw [if_neg h3] at hsum ⊢
      obtain ⟨⟨lf, w1, w2, w3⟩, ⟨lg, w4, w5, w6⟩⟩ := hsum
      exact ⟨⟨lf, w1, CSeg_cong (fun k _ k2 => ec k (by omega)) w2, w3⟩, ⟨lg, w4, CSeg_cong (fun k _ k2 => ec k (by omega)) w5, w6⟩⟩
  · cases hd2 : d.2.2.1 with
    | none => rw [hd2] at hif; exact hif
    | some s =>
      rw [hd2] at hif
      obtain ⟨lf, w1, w2, w3⟩ := hif
      exact ⟨lf, w1, CSeg_cong (fun k _ k2 => ec k (by omega)) w2, w3⟩
theorem c6_hasClauseO {h : Hp} {i lv c q : Nat} (hw : Wls wl wo) (hh : Whs wh 11) (hs : ClS E h x b n N true i lv c q (3 * q)) (hq : q < 12) (h30 : hI h (x + 30) (3 * q) = nI c) : Ct E 42 0 0 mX6_hasClause [.ref (x + 26)] h (pCg E h x b n N true (fun h' sz q d => OdC h' (x + 27) sz q d) (OrdCl wl wo wh (tk b n)) i lv c q) := by
  have hc := hs.1.1.1
  have ht := hs.1.1.2
  have hi := hs.1.2.1.1
  have hN := hs.1.2.1.2
  have h8 := hs.1.2.2.2.1
  have hkr := ht.kr hN
  obtain ⟨κ, hκ, eκ⟩ := hkr.nat
  rw [eκ] at hkr
  obtain ⟨hd1, hd2⟩ := hd_is hkr hκ (by omega) hh
  have hiN : (∃ u, u < 4 ∧ κ = 267 + u) → i < N := by
    rintro ⟨u, hu, e⟩
    rcases Nat.lt_or_ge i N with z | z
    · exact z
    · have q1 := (ht.end hN).mpr (by omega)
      have q2 := (hkr.wd (show 11 + u < 27 by omega)).mp (by rw [e]; congr 1; omega)
      exact absurd q1 (tW_n0 q2)
  refine Ct.of (by decide +kernel) (Nat.le_of_ble_eq_true rfl) ?_
  refine r_aload_n (pc := 0) 0 dX6_hasClause_0 rfl ?_
  refine r_dV (pc := 1) (As := []) mv_X6_kindNow ml_X6_79 (c6_kindNow hc ht hi hN) (ca_26 hc) rfl rfl (Nat.le_of_ble_eq_true rfl) (Nat.le_of_ble_eq_true rfl) (Nat.le_of_ble_eq_true rfl) (Nat.le_of_ble_eq_true rfl) (Nat.le_of_ble_eq_true rfl) dX6_hasClause_1 ?_
  rw [eκ]
  refine r_istore_n (pc := 4) (lv' := [(0, _), (1, _)]) dX6_hasClause_4 (Nat.le_of_ble_eq_true rfl) rfl ?_
  refine r_aload_n (pc := 5) 0 dX6_hasClause_5 rfl ?_
  refine r_getI (pc := 6) fl_X6_52 (ca_26 hc) dX6_hasClause_6 ?_
  rw [h8]
  refine r_if_eq (pc := 9) (tgt := 20) dX6_hasClause_9 (by decide) (fun c_9 => ?_) (fun c_9 => ?_)
  · refine r_aload_n (pc := 20) 0 dX6_hasClause_20 rfl ?_
    refine r_iload_n (pc := 21) 1 dX6_hasClause_21 rfl ?_
    refine r_callV (pc := 22) (As := [_]) mv_X6_hasOrderDoing ml_X6_118 (c6_hasOrderDoing hw hs hq hκ hiN) (ca_26 hc) rfl rfl (Nat.le_of_ble_eq_true rfl) (Nat.le_of_ble_eq_true rfl) (Nat.le_of_ble_eq_true rfl) (Nat.le_of_ble_eq_true rfl) (Nat.le_of_ble_eq_true rfl) dX6_hasClause_22 (fun r h1 hp => ?_)
    obtain ⟨f1, ⟨rfl, hd, i1, lv1, c1, c2, tm, s1, s2, hd4, ed, hs1, ⟨o1, o2, o3, o4⟩, ⟨k28, k29, k1, k2⟩, hsem, iy, hord, htim⟩ | ⟨rfl, j, hj, hjN, hf⟩⟩ := hp
    · show Wp E mX6_hasClause _ _ _ _ [.int _] _ 0 0
      have ehd := hd1 hd hd4 (by omega)
      have nm1 : ¬ (hdN wh (tk b n i) 4 = -1 ∨ ¬ q < 12) := fun z => z.elim (fun w => by rw [ehd] at w; exact m1_nI (by omega) w.symm) (fun w => w hq)
      refine r_istore_n (pc := 25) (lv' := [(0, _), (1, _), (2, _)]) dX6_hasClause_25 (Nat.le_of_ble_eq_true rfl) rfl ?_
      refine r_iload_n (pc := 26) 2 dX6_hasClause_26 rfl ?_
      refine r_if_eq (pc := 27) (tgt := 48) dX6_hasClause_27 (by decide) (fun c_27 => ?_) (fun c_27 => ?_)
      · exact absurd (show (1 : Int32) = 0 from c_27) (by decide)
      · refine wp_if hw hs1 hq (fun v h' hp2 => ?_) _
        obtain ⟨f2, ⟨rfl, i', lv', c', o, hs2, h33, hcc, hii, h50, hIf, ho⟩ | ⟨rfl, j, hj, hjN, hIf⟩⟩ := hp2
        · refine ⟨f1.tr (f2.mono (fun a k z => if_cl (by omega) z)), Or.inl ⟨rfl, i', lv', c', (nI hd, tm, o, s1, s2), ?_, ?_, by omega, by omega, ?_, ?_⟩⟩
          · rw [show 3 * (q + 1) = 3 * q + 3 by omega]; exact hs2
          · rw [show 3 * (q + 1) = 3 * q + 3 by omega]; exact h33
          · have ec : ∀ k, k < c2 → hI h' (x + 31) k = hI h1 (x + 31) k ∧ hI h' (x + 32) k = hI h1 (x + 32) k := fun k hk => ⟨f2.I (by unfold rdS; omega), f2.I (by unfold rdS; omega)⟩
            refine ⟨hd, c, c1, c2, c', ⟨hd4, rfl, (f2.I (by unfold rdS; omega)).trans k28, (f2.I (by unfold rdS; omega)).trans k29, o4⟩, ⟨((f2.I (by unfold rdS; omega)).trans (f1.I (by unfold clS; omega))).trans h30, (f2.I (by unfold rdS; omega)).trans k1, (f2.I (by unfold rdS; omega)).trans k2, h33⟩, ⟨o2, o3, hcc, Nat.le_refl _⟩, ?_, ?_⟩
            · by_cases h3 : hd = 3
              · rw [if_pos h3] at hsem ⊢; exact hsem
              · rw [if_neg h3] at hsem ⊢
                obtain ⟨⟨lf, w1, w2, w3⟩, ⟨lg, w4, w5, w6⟩⟩ := hsem
                exact ⟨⟨lf, w1, CSeg_cong (fun k _ k2 => ec k (by omega)) w2, w3⟩, ⟨lg, w4, CSeg_cong (fun k _ k2 => ec k (by omega)) w5, w6⟩⟩
            · cases o with
              | none => exact ho.symm
              | some s => exact ho
          · unfold OrdCl
            rw [if_neg nm1, ehd]
            exact ⟨.inr (iy, lv1, s1, s2), hord, .inr (i1, tm), htim, .inr (i', lv', o), hIf, rfl⟩
        · refine ⟨f1.tr (f2.mono (fun a k z => if_cl (by omega) z)), Or.inr ⟨rfl, j, hj, hjN, ht.cl (f1.tr (f2.mono (fun a k z => if_cl (by omega) z))), ?_⟩⟩
          unfold OrdCl
          rw [if_neg nm1, ehd]
          exact ⟨.inr (iy, lv1, s1, s2), hord, .inr (i1, tm), htim, .inl j, hIf, rfl⟩
    · show Wp E mX6_hasClause _ _ _ _ [.int _] _ 0 0
      refine r_istore_n (pc := 25) (lv' := [(0, _), (1, _), (2, _)]) dX6_hasClause_25 (Nat.le_of_ble_eq_true rfl) rfl ?_
      refine r_iload_n (pc := 26) 2 dX6_hasClause_26 rfl ?_
      refine r_if_eq (pc := 27) (tgt := 48) dX6_hasClause_27 (by decide) (fun c_27 => ?_) (fun c_27 => ?_)
      · refine r_iconst (pc := 48) (0) dX6_hasClause_48 rfl ?_
        refine r_zret (pc := 49) rfl (by decide) ?_ (Nat.le_of_ble_eq_true rfl) (Nat.le_of_ble_eq_true rfl) dX6_hasClause_49
        refine ⟨f1, Or.inr ⟨rfl, j, hj, hjN, ht.cl f1, ?_⟩⟩
        unfold OrdCl
        rcases hf with ⟨hn, rfl⟩ | ⟨hd, hd3, ed, hx⟩
        · rw [if_pos (Or.inl (hd2 (fun u hu z => hn u hu (by omega))))]
        · have ehd := hd1 hd (by omega) (by omega)
          rw [if_neg (fun z => z.elim (fun w => by rw [ehd] at w; exact m1_nI (by omega) w.symm) (fun w => w hq)), ehd]
          rcases hx with hx | ⟨y, hx, htm⟩
          · exact ⟨.inl j, hx, rfl⟩
          · exact ⟨.inr y, hx, .inl j, htm, rfl⟩
      · exact absurd rfl c_27
  · exact absurd (show bI (!true) = 0 from rfl) c_9
/-- a text's clauses one by one -/
def RunG {T : Type} (CR : Nat → Nat → Nat → (Nat ⊕ (Nat × Nat × T)) → Prop) (tks : Nat → Tk) : Nat → Nat → Nat → Nat → (Nat ⊕ List T) → Prop
  | 0, _, _, _, _ => False
  | N + 1, q, i, lv, R => ∃ y, CR q i lv y ∧ (match y with
    | .inl j => R = .inl j
    | .inr y => if tS (tks y.1) 59 = true then ∃ R', RunG CR tks N (q + 1) (y.1 + 1) y.2.1 R' ∧ (match R' with | .inl j => R = .inl j | .inr cs => R = .inr (y.2.2 :: cs)) else if (tks y.1).2.2.1 = 0 then R = .inr [y.2.2] else R = .inl y.1)
theorem RunG_law {tks : Nat → Tk} : ∀ (M q i lv : Nat) (R : Nat ⊕ List Cl), RunG (LawCl wl wo wh tks) tks M q i lv R → LawRun wl wo wh tks M q i lv R
  | 0, _, _, _, _, h => h
  | M + 1, q, i, lv, R, h => by
    obtain ⟨y, h1, h2⟩ := h
    refine ⟨y, h1, ?_⟩
    cases y with
    | inl j => exact h2
    | inr z =>
      simp only at h2 ⊢
      split
      · next ht =>
        rw [if_pos ht] at h2
        obtain ⟨R', g1, g2⟩ := h2
        cases R' with
        | inl j => exact ⟨.inl j, RunG_law M _ _ _ _ g1, g2⟩
        | inr cs => exact ⟨.inr cs, RunG_law M _ _ _ _ g1, g2⟩
      · next ht => rw [if_neg ht] at h2; exact h2
theorem RunG_ord {tks : Nat → Tk} : ∀ (M q i lv : Nat) (R : Nat ⊕ List Od), RunG (OrdCl wl wo wh tks) tks M q i lv R → OrdRun wl wo wh tks M q i lv R
  | 0, _, _, _, _, h => h
  | M + 1, q, i, lv, R, h => by
    obtain ⟨y, h1, h2⟩ := h
    refine ⟨y, h1, ?_⟩
    cases y with
    | inl j => exact h2
    | inr z =>
      simp only at h2 ⊢
      split
      · next ht =>
        rw [if_pos ht] at h2
        obtain ⟨R', g1, g2⟩ := h2
        cases R' with
        | inl j => exact ⟨.inl j, RunG_ord M _ _ _ _ g1, g2⟩
        | inr cs => exact ⟨.inr cs, RunG_ord M _ _ _ _ g1, g2⟩
      · next ht => rw [if_neg ht] at h2; exact h2
/-- what reading a text writes -/
def reS (x a k : Nat) : Prop := (a = x + 26 ∧ 5 ≤ k) ∨ (a = x + 24 ∧ k = 1) ∨ (a = x + 27 ∧ (k = 0 ∨ k = 6 ∨ k = 7)) ∨ a = x + 28 ∨ a = x + 29 ∨ (a = x + 30 ∧ 0 < k) ∨ a = x + 31 ∨ a = x + 32 ∨ a = x + 34 ∨ a = x + 35 ∨ a = x + 36
theorem csP_re {a k : Nat} (hq : csP x a k) : ¬ reS x a k := by
  obtain ⟨t, ht, rfl, rfl⟩ := hq
  intro z
  have key : ∀ t ∈ csF, ¬ ((t.1 = 26 ∧ 5 ≤ t.2.1) ∨ (t.1 = 24 ∧ t.2.1 = 1) ∨ (t.1 = 27 ∧ (t.2.1 = 0 ∨ t.2.1 = 6 ∨ t.2.1 = 7)) ∨ t.1 = 28 ∨ t.1 = 29 ∨ t.1 = 30 ∨ t.1 = 31 ∨ t.1 = 32 ∨ t.1 = 34 ∨ t.1 = 35 ∨ t.1 = 36) := by decide +kernel
  exact key t ht (by unfold reS at z; omega)
theorem CS.re {h h1 : Hp} (hc : CS E h x) (a1 : Fr (reS x) h h1) : CS E h1 x := hc.fr a1 (fun _ _ => csP_re)
theorem cl_re {q c a k : Nat} (hs : clS x q c a k) : reS x a k := by unfold clS at hs; unfold reS; omega
theorem sp_re {a k : Nat} (hs : spS x a k) : reS x a k := by unfold spS at hs; unfold reS; omega
def pRg {T : Type} (E : En) (h : Hp) (x : Nat) (b : Nat → Int32) (n : Nat) (CN : Hp → Nat → Nat → T → Prop) (CR : Nat → Nat → Nat → (Nat ⊕ (Nat × Nat × T)) → Prop) : Option Value → Hp → Prop := fun v h' => (Fr (reS x) h h' ∧ hI h' (x + 24) 1 = 0) ∧ ∃ R, RunG CR (tk b n) 13 0 0 0 R ∧ (match R with
  | .inl j => v = some (.int (nI (tk b n j).1))
  | .inr ds => v = some (.int (-1)) ∧ hI h' (x + 27) 0 = nI ds.length ∧ ds.length ≤ 12 ∧ ∃ sz, sz ≤ 400 ∧ hI h' (x + 27) 6 = nI sz ∧ ∀ q d, ds[q]? = some d → CN h' sz q d)
theorem c6_readG {T : Type} {h : Hp} {n : Nat} (CN : Hp → Nat → Nat → T → Prop) (CR : Nat → Nat → Nat → (Nat ⊕ (Nat × Nat × T)) → Prop) (hc : CS E h x) (hwd : WdV h x) (hn : hI h (x + 24) 1 = nI n) (h4 : n ≤ 400) (hb : hI h (x + 25) = b) (hB : ByOK b n) (h0 : hI h (x + 30) 0 = nI 0)
    (HC : ∀ (N : Nat) (h : Hp) (i lv c q : Nat), ClS E h x b n N od i lv c q (3 * q) → q < 12 → hI h (x + 30) (3 * q) = nI c → Ct E 42 0 0 mX6_hasClause [.ref (x + 26)] h (pCg E h x b n N od CN CR i lv c q))
    (HK : ∀ (h h1 : Hp) (sz sz' q q2 c : Nat) (d : T), CN h sz q d → Fr (clS x q2 c) h h1 → q < q2 → sz ≤ c → sz ≤ sz' → CN h1 sz' q d)
    (H12 : ∀ i lv, CR 12 i lv (.inl i)) : Ct E 43 0 0 mX6_read [.ref (x + 26), .ref (x + 24), .int (bI (!od))] h (pRg E h x b n CN CR) := by
  refine Ct.of (by decide +kernel) (Nat.le_of_ble_eq_true rfl) ?_
  refine r_aload_n (pc := 0) 0 dX6_read_0 rfl ?_
  refine r_iload_n (pc := 1) 2 dX6_read_1 rfl ?_
  refine r_putZ (pc := 2) fp_X6_52 (ca_26 hc) (bI_01 _) dX6_read_2 ?_
  have f1 : Fr (reS x) h (wI h (x + 26) 8 (bI (!od))) := Fr.wI (by unfold reS; omega)
  have hc1 : CS E (wI h (x + 26) 8 (bI (!od))) x := hc
  have hb1 : hI (wI h (x + 26) 8 (bI (!od))) (x + 25) = b := by rw [← hb]; funext k; exact hI_ne (by omega)
  have hsp := c6_split (h := wI h (x + 26) 8 (bI (!od))) hc1 (fun i hi => by rw [hI_ne (by omega)]; exact hwd i hi) (by rw [hI_ne (by omega)]; exact hn) h4 (by rw [hb1]; exact hB)
  rw [hb1] at hsp
  have e8 : hI (wI h (x + 26) 8 (bI (!od))) (x + 26) 8 = bI (!od) := hI_at
  have e30 : hI (wI h (x + 26) 8 (bI (!od))) (x + 30) 0 = nI 0 := by rw [hI_ne (by omega)]; exact h0
  generalize wI h (x + 26) 8 (bI (!od)) = h1 at f1 hc1 hb1 hsp e8 e30 ⊢
  refine r_aload_n (pc := 5) 0 dX6_read_5 rfl ?_
  refine r_aload_n (pc := 6) 1 dX6_read_6 rfl ?_
  refine r_callV (pc := 7) (As := [_]) mv_X6_split ml_X6_56 (hsp) (ca_26 hc1) rfl rfl (Nat.le_of_ble_eq_true rfl) (Nat.le_of_ble_eq_true rfl) (Nat.le_of_ble_eq_true rfl) (Nat.le_of_ble_eq_true rfl) (Nat.le_of_ble_eq_true rfl) dX6_read_7 (fun r h2 hp => ?_)
  obtain ⟨rfl, f2, N, ht2⟩ := hp
  show Wp E mX6_read _ _ _ _ [] _ 0 0
  have hc2 := hc1.sp f2
  have f12 := f1.tr (f2.mono (fun a k z => sp_re z))
  refine r_aload_n (pc := 10) 1 dX6_read_10 rfl ?_
  refine r_iconst (pc := 11) (0) dX6_read_11 rfl ?_
  refine r_putI (pc := 12) fp_X6_60 (ca_24 hc2) dX6_read_12 ?_
  refine r_aload_n (pc := 15) 0 dX6_read_15 rfl ?_
  refine r_getR (pc := 16) fl_X6_14 (ca_26 hc2) (cf_26_0 hc2) dX6_read_16 ?_
  refine r_dV0 (pc := 19) (As := []) mv_X10_empty ml_X6_66 (c10_empty (cs_tx27 hc2)) (tx_is (cs_tx27 hc2)) rfl rfl (Nat.le_of_ble_eq_true rfl) (Nat.le_of_ble_eq_true rfl) (Nat.le_of_ble_eq_true rfl) (Nat.le_of_ble_eq_true rfl) (Nat.le_of_ble_eq_true rfl) dX6_read_19 ?_
  refine r_aload_n (pc := 22) 0 dX6_read_22 rfl ?_
  refine r_iconst (pc := 23) (0) dX6_read_23 rfl ?_
  refine r_putI (pc := 24) fp_X6_69 (ca_26 hc2) dX6_read_24 ?_
  refine r_aload_n (pc := 27) 0 dX6_read_27 rfl ?_
  refine r_iconst (pc := 28) (0) dX6_read_28 rfl ?_
  refine r_putI (pc := 29) fp_X6_72 (ca_26 hc2) dX6_read_29 ?_
  refine r_iconst (pc := 32) (1) dX6_read_32 rfl ?_
  refine r_istore_n (pc := 33) (lv' := [(0, _), (1, _), (2, _), (3, _)]) dX6_read_33 (Nat.le_of_ble_eq_true rfl) rfl ?_
  -- at the beginning
  have hz : ∀ (h3 : Hp), h3 = wI (wI (wI (wI (wI (wI h2 (x + 24) 1 0) (x + 27) 0 0) (x + 27) 6 0) (x + 27) 7 0) (x + 26) 6 0) (x + 26) 7 0 → ClS E h3 x b n N od 0 0 0 0 (3 * 0) ∧ hI h3 (x + 30) (3 * 0) = nI 0 ∧ Fr (reS x) h h3 ∧ hI h3 (x + 24) 1 = 0 := by
    rintro h3 rfl
    refine ⟨⟨⟨⟨hc2, ((((((ht2.w (Or.inr (by omega))).w (Or.inr (by omega))).w (Or.inr (by omega))).w (Or.inr (by omega))).w (Or.inl ⟨rfl, by decide⟩)).w (Or.inl ⟨rfl, by decide⟩))⟩, ⟨by rw [hI_ne (by omega), hI_at]; rfl, by omega⟩, ⟨hI_at, by omega⟩, ?_, ?_, Nat.le_refl _⟩, ?_, ?_⟩, ?_, ?_, ?_⟩
    · rw [hI_ne (by omega), hI_ne (by omega), hI_ne (by omega), hI_ne (by omega), hI_ne (by omega), hI_ne (by omega)]; exact (f2.I (by unfold spS; omega)).trans e8
    · rw [hI_ne (by omega), hI_ne (by omega), hI_ne (by omega), hI_at]; rfl
    · rw [hI_ne (by omega), hI_ne (by omega), hI_ne (by omega), hI_ne (by omega), hI_at]; rfl
    · rw [hI_ne (by omega), hI_ne (by omega), hI_at]; rfl
    · rw [hI_ne (by omega), hI_ne (by omega), hI_ne (by omega), hI_ne (by omega), hI_ne (by omega), hI_ne (by omega)]; exact (f2.I (by unfold spS; omega)).trans e30
    · exact f12.tr ((((((Fr.wI (by unfold reS; omega)).tr (Fr.wI (by unfold reS; omega))).tr (Fr.wI (by unfold reS; omega))).tr (Fr.wI (by unfold reS; omega))).tr (Fr.wI (by unfold reS; omega))).tr (Fr.wI (by unfold reS; omega)))
    · rw [hI_ne (by omega), hI_ne (by omega), hI_ne (by omega), hI_ne (by omega), hI_ne (by omega), hI_at]
  obtain ⟨hz1, hz2, hz3, hz4⟩ := hz _ rfl
  generalize wI (wI (wI (wI (wI (wI h2 (x + 24) 1 0) (x + 27) 0 0) (x + 27) 6 0) (x + 27) 7 0) (x + 26) 6 0) (x + 26) 7 0 = h3 at hz1 hz2 hz3 hz4 ⊢
  -- a fault stands at token j
  have fail : ∀ (hh : Hp) (j : Nat) (g qq : Int32), Fr (reS x) h hh → hI hh (x + 24) 1 = 0 → TokI hh x b n N → hI hh (x + 26) 6 = nI j → j ≤ N → RunG CR (tk b n) 13 0 0 0 (.inl j) → Wp E mX6_read (Rm 43 0 0) (Qm E (pRg E h x b n CN CR) 0 0) 97 [(0, .ref (x + 26)), (1, .ref (x + 24)), (2, .int (bI (!od))), (3, .int g), (4, .int qq)] [] hh 0 0 := by
    intro hh j g qq fr h24 ht hj hjN hR
    have hch := hc.re fr
    have hkr := ht.kr hjN
    have h400 := ht.2.1
    refine r_aload_n (pc := 97) 0 dX6_read_97 rfl ?_
    refine r_getI (pc := 98) fl_X6_69 (ca_26 hch) dX6_read_98 ?_
    refine r_aload_n (pc := 101) 0 dX6_read_101 rfl ?_
    refine r_getI (pc := 102) fl_X6_86 (ca_26 hch) dX6_read_102 ?_
    rw [hj, ht.1]
    refine r_icmp_ge (pc := 105) (tgt := 120) dX6_read_105 (by decide) (fun c_105 => ?_) (fun c_105 => ?_)
    · exact absurd c_105 (nI_ge (by omega) (by omega))
    · refine r_aload_n (pc := 108) 0 dX6_read_108 rfl ?_
      refine r_getR (pc := 109) fl_X6_27 (ca_26 hch) (cf_26_3 hch) dX6_read_109 ?_
      refine r_aload_n (pc := 112) 0 dX6_read_112 rfl ?_
      refine r_getI (pc := 113) fl_X6_69 (ca_26 hch) dX6_read_113 ?_
      rw [hj]
      refine r_iald (pc := 116) (j := j) (cr_35 hch) rfl (by omega) (by decide) dX6_read_116 ?_
      refine r_goto (pc := 117) (tgt := 121) dX6_read_117 (by decide) ?_
      refine r_iret (pc := 121) rfl ?_ (Nat.le_of_ble_eq_true rfl) (Nat.le_of_ble_eq_true rfl) dX6_read_121
      exact ⟨⟨fr, h24⟩, .inl j, hR, by rw [hkr.1]⟩
  have loop : ∀ q, q ≤ 12 → ∀ (hh : Hp) (i lv c : Nat) (pre : List T), Fr (reS x) h hh → hI hh (x + 24) 1 = 0 → ClS E hh x b n N od i lv c q (3 * q) → hI hh (x + 30) (3 * q) = nI c → pre.length = q → (∀ k d, pre[k]? = some d → CN hh c k d) → (∀ R', RunG CR (tk b n) (13 - q) q i lv R' → RunG CR (tk b n) 13 0 0 0 (match R' with | .inl j => .inl j | .inr ds => .inr (pre ++ ds))) → Wp E mX6_read (Rm 43 0 0) (Qm E (pRg E h x b n CN CR) 0 0) 37 [(0, .ref (x + 26)), (1, .ref (x + 24)), (2, .int (bI (!od))), (3, .int 1), (4, .int (nI q))] [] hh 0 0 := by
    refine upTo (fun q hq ih => ?_) ?_
    · intro hh i lv c pre fr h24 hs h30 hpl hpc hcont
      have hch := hs.1.1.1
      have hci := hs.1.2.2.2.2.2
      have efu : 13 - q = (12 - q) + 1 := by omega
      rw [efu] at hcont
      refine r_iload (pc := 37) 4 dX6_read_37 rfl ?_
      refine r_bipush (pc := 39) (12) dX6_read_39 rfl ?_
      refine r_icmp_ge (pc := 41) (tgt := 97) dX6_read_41 (by decide) (fun c_41 => ?_) (fun c_41 => ?_)
      · exact absurd c_41 (nI_ge (b := 12) hq (by decide))
      · refine r_iload_n (pc := 44) 3 dX6_read_44 rfl ?_
        refine r_if_eq (pc := 45) (tgt := 97) dX6_read_45 (by decide) (fun c_45 => ?_) (fun c_45 => ?_)
        · exact absurd (show (1 : Int32) = 0 from c_45) (by decide)
        · refine r_aload_n (pc := 48) 0 dX6_read_48 rfl ?_
          refine r_callV (pc := 49) (As := []) mv_X6_hasClause ml_X6_75 (HC N hh i lv c q hs hq h30) (ca_26 hch) rfl rfl (Nat.le_of_ble_eq_true rfl) (Nat.le_of_ble_eq_true rfl) (Nat.le_of_ble_eq_true rfl) (Nat.le_of_ble_eq_true rfl) (Nat.le_of_ble_eq_true rfl) dX6_read_49 (fun r h4 hp => ?_)
          obtain ⟨f4, ⟨rfl, i4, lv4, c4, d, hs4, k30, hcc, hii, hcn, hcr⟩ | ⟨rfl, j, hj, hjN, htj, hcr⟩⟩ := hp
          · show Wp E mX6_read _ _ _ _ [.int _] _ 0 0
            have fr4 := fr.tr (f4.mono (fun a k z => cl_re z))
            have h244 : hI h4 (x + 24) 1 = 0 := (f4.I (by unfold clS; omega)).trans h24
            obtain ⟨⟨hc4, ht4⟩, ⟨hi4, hN4⟩, -, -, h64, hci4⟩ := id hs4.1
            have hkr4 := ht4.kr hN4
            have h400 := ht4.2.1
            have hpc4 : ∀ k d', (pre ++ [d])[k]? = some d' → CN h4 c4 k d' := by
              intro k d' hk
              by_cases hkq : k < q
              · rw [List.getElem?_append_left (by omega)] at hk
                exact HK hh h4 c c4 k q c d' (hpc k d' hk) f4 hkq (Nat.le_refl _) hcc
              · rw [List.getElem?_append_right (by omega)] at hk
                have hk0 : k = q := by
                  apply Classical.byContradiction
                  intro z
                  rw [List.getElem?_eq_none (by show 1 ≤ k - pre.length; omega)] at hk
                  cases hk
                rw [hk0, hpl, Nat.sub_self] at hk
                have e : d = d' := Option.some.inj hk
                rw [← e, hk0]; exact hcn
            have at71 : ¬ (tk b n i4).2.2.1 = 0 → Wp E mX6_read (Rm 43 0 0) (Qm E (pRg E h x b n CN CR) 0 0) 71 [(0, .ref (x + 26)), (1, .ref (x + 24)), (2, .int (bI (!od))), (3, .int 1), (4, .int (nI q)), (5, .int 1)] [] h4 0 0 := by
              intro hn0
              refine r_iload (pc := 71) 5 dX6_read_71 rfl ?_
              refine r_if_eq (pc := 73) (tgt := 89) dX6_read_73 (by decide) (fun c_73 => ?_) (fun c_73 => ?_)
              · exact absurd (show (1 : Int32) = 0 from c_73) (by decide)
              · refine r_aload_n (pc := 76) 0 dX6_read_76 rfl ?_
                refine r_bipush (pc := 77) (59) dX6_read_77 rfl ?_
                refine r_callV (pc := 79) (As := [_]) mv_X6_takes ml_X6_82 (c6_takes hc4 ht4 hi4 hN4 (k := nI 59) (by decide)) (ca_26 hc4) rfl rfl (Nat.le_of_ble_eq_true rfl) (Nat.le_of_ble_eq_true rfl) (Nat.le_of_ble_eq_true rfl) (Nat.le_of_ble_eq_true rfl) (Nat.le_of_ble_eq_true rfl) dX6_read_79 (fun r h5 hp => ?_)
                rcases hp with ⟨hk, hlt, rfl, rfl⟩ | ⟨hk, rfl, rfl⟩
                · show Wp E mX6_read _ _ _ _ [.int _] _ 0 0
                  have hyes : tS (tk b n i4) 59 = true := (hkr4.sg (a := 59) (by decide)).mp hk
                  refine r_if_eq (pc := 82) (tgt := 89) dX6_read_82 (by decide) (fun c_82 => ?_) (fun c_82 => ?_)
                  · exact absurd (show (1 : Int32) = 0 from c_82) (by decide)
                  · refine r_iconst (pc := 85) (1) dX6_read_85 rfl ?_
                    refine r_goto (pc := 86) (tgt := 90) dX6_read_86 (by decide) ?_
                    refine r_istore_n (pc := 90) (lv' := [(0, _), (1, _), (2, _), (3, _), (4, _), (5, _)]) dX6_read_90 (Nat.le_of_ble_eq_true rfl) rfl ?_
                    refine r_iinc (pc := 91) (v := _ + (1)) (lv' := [(0, _), (1, _), (2, _), (3, _), (4, _), (5, _)]) 4 dX6_read_91 rfl rfl (Nat.le_of_ble_eq_true rfl) rfl ?_
                    refine r_goto (pc := 94) (tgt := 37) dX6_read_94 (by decide) ?_
                    refine r_sub [0, 1, 2, 3, 4] rfl ?_
                    rw [nI_1]
                    have f5 : Fr (clS x (q + 1) c4) h4 (wI h4 (x + 26) 6 (nI (i4 + 1))) := Fr.wI (by unfold clS; omega)
                    refine ih _ (i4 + 1) lv4 c4 (pre ++ [d]) (fr4.tr (f5.mono (fun a k z => cl_re z))) (by rw [hI_ne (by omega)]; exact h244) (hs4.now (by omega) (by omega)) (by rw [hI_ne (by omega)]; exact k30) (by rw [List.length_append, hpl]; rfl) (fun k d' hk => ?_) (fun R' hR' => ?_)
                    · have hkl : k < q + 1 := by
                        rcases Nat.lt_or_ge k (q + 1) with z | z
                        · exact z
                        · rw [List.getElem?_eq_none (by rw [List.length_append, hpl]; exact z)] at hk; cases hk
                      exact HK h4 _ c4 c4 k (q + 1) c4 d' (hpc4 k d' hk) f5 hkl (Nat.le_refl _) (Nat.le_refl _)
                    · rw [show 13 - (q + 1) = 12 - q by omega] at hR'
                      cases R' with
                      | inl j =>
                        have := hcont (.inl j) ⟨.inr (i4, lv4, d), hcr, by simp only; rw [if_pos hyes]; exact ⟨.inl j, hR', rfl⟩⟩
                        exact this
                      | inr ds =>
                        have := hcont (.inr (d :: ds)) ⟨.inr (i4, lv4, d), hcr, by simp only; rw [if_pos hyes]; exact ⟨.inr ds, hR', rfl⟩⟩
                        simp only at this ⊢
                        rw [List.append_assoc]
                        exact this
                · show Wp E mX6_read _ _ _ _ [.int _] _ 0 0
                  have hnos : ¬ tS (tk b n i4) 59 = true := fun z => hk ((hkr4.sg (a := 59) (by decide)).mpr z)
                  refine r_if_eq (pc := 82) (tgt := 89) dX6_read_82 (by decide) (fun c_82 => ?_) (fun c_82 => ?_)
                  · refine r_iconst (pc := 89) (0) dX6_read_89 rfl ?_
                    refine r_istore_n (pc := 90) (lv' := [(0, _), (1, _), (2, _), (3, _), (4, _), (5, _)]) dX6_read_90 (Nat.le_of_ble_eq_true rfl) rfl ?_
                    refine r_iinc (pc := 91) (v := _ + (1)) (lv' := [(0, _), (1, _), (2, _), (3, _), (4, _), (5, _)]) 4 dX6_read_91 rfl rfl (Nat.le_of_ble_eq_true rfl) rfl ?_
                    refine r_goto (pc := 94) (tgt := 37) dX6_read_94 (by decide) ?_
                    refine r_iload (pc := 37) 4 dX6_read_37 rfl ?_
                    refine r_bipush (pc := 39) (12) dX6_read_39 rfl ?_
                    refine r_icmp_ge (pc := 41) (tgt := 97) dX6_read_41 (by decide) (fun c_41 => ?_) (fun c_41 => ?_)
                    · refine r_sub [0, 1, 2, 3, 4] rfl ?_
                      refine fail _ i4 _ _ fr4 h244 ht4 hi4 hN4 ?_
                      have := hcont (.inl i4) ⟨.inr (i4, lv4, d), hcr, by show (if _ then _ else _); rw [if_neg hnos, if_neg hn0]⟩
                      exact this
                    · refine r_iload_n (pc := 44) 3 dX6_read_44 rfl ?_
                      refine r_if_eq (pc := 45) (tgt := 97) dX6_read_45 (by decide) (fun c_45 => ?_) (fun c_45 => ?_)
                      · refine r_sub [0, 1, 2, 3, 4] rfl ?_
                        refine fail _ i4 _ _ fr4 h244 ht4 hi4 hN4 ?_
                        have := hcont (.inl i4) ⟨.inr (i4, lv4, d), hcr, by show (if _ then _ else _); rw [if_neg hnos, if_neg hn0]⟩
                        exact this
                      · exact absurd rfl c_45
                  · exact absurd rfl c_82
            refine r_istore (pc := 52) (lv' := [(0, _), (1, _), (2, _), (3, _), (4, _), (5, _)]) dX6_read_52 (Nat.le_of_ble_eq_true rfl) rfl ?_
            refine r_iload (pc := 54) 5 dX6_read_54 rfl ?_
            refine r_if_eq (pc := 56) (tgt := 71) dX6_read_56 (by decide) (fun c_56 => ?_) (fun c_56 => ?_)
            · exact absurd (show (1 : Int32) = 0 from c_56) (by decide)
            · refine r_aload_n (pc := 59) 0 dX6_read_59 rfl ?_
              refine r_dV (pc := 60) (As := []) mv_X6_kindNow ml_X6_79 (c6_kindNow hc4 ht4 hi4 hN4) (ca_26 hc4) rfl rfl (Nat.le_of_ble_eq_true rfl) (Nat.le_of_ble_eq_true rfl) (Nat.le_of_ble_eq_true rfl) (Nat.le_of_ble_eq_true rfl) (Nat.le_of_ble_eq_true rfl) dX6_read_60 ?_
              refine r_sipush (pc := 63) (301) dX6_read_63 rfl ?_
              refine r_icmp_ne (pc := 66) (tgt := 71) dX6_read_66 (by decide) (fun c_66 => ?_) (fun c_66 => ?_)
              · exact at71 (fun z => c_66 (hkr4.en.mpr z))
              · have hend := hkr4.en.mp c_66
                have hnos : ¬ tS (tk b n i4) 59 = true := fun z => tS_n0 z hend
                refine r_iconst (pc := 69) (-1) dX6_read_69 rfl ?_
                refine r_iret (pc := 70) rfl ?_ (Nat.le_of_ble_eq_true rfl) (Nat.le_of_ble_eq_true rfl) dX6_read_70
                have hR := hcont (.inr [d]) ⟨.inr (i4, lv4, d), hcr, by show (if _ then _ else _); rw [if_neg hnos, if_pos hend]⟩
                exact ⟨⟨fr4, h244⟩, .inr (pre ++ [d]), hR, rfl, by rw [List.length_append, hpl]; exact hs4.2.1, by rw [List.length_append, hpl]; show q + 1 ≤ 12; omega, c4, by omega, h64, hpc4⟩
          · show Wp E mX6_read _ _ _ _ [.int _] _ 0 0
            have fr4 := fr.tr (f4.mono (fun a k z => cl_re z))
            have h244 : hI h4 (x + 24) 1 = 0 := (f4.I (by unfold clS; omega)).trans h24
            have hRj : RunG CR (tk b n) 13 0 0 0 (.inl j) := hcont (.inl j) ⟨.inl j, hcr, rfl⟩
            refine r_istore (pc := 52) (lv' := [(0, _), (1, _), (2, _), (3, _), (4, _), (5, _)]) dX6_read_52 (Nat.le_of_ble_eq_true rfl) rfl ?_
            refine r_iload (pc := 54) 5 dX6_read_54 rfl ?_
            refine r_if_eq (pc := 56) (tgt := 71) dX6_read_56 (by decide) (fun c_56 => ?_) (fun c_56 => ?_)
            · refine r_iload (pc := 71) 5 dX6_read_71 rfl ?_
              refine r_if_eq (pc := 73) (tgt := 89) dX6_read_73 (by decide) (fun c_73 => ?_) (fun c_73 => ?_)
              · refine r_iconst (pc := 89) (0) dX6_read_89 rfl ?_
                refine r_istore_n (pc := 90) (lv' := [(0, _), (1, _), (2, _), (3, _), (4, _), (5, _)]) dX6_read_90 (Nat.le_of_ble_eq_true rfl) rfl ?_
                refine r_iinc (pc := 91) (v := _ + (1)) (lv' := [(0, _), (1, _), (2, _), (3, _), (4, _), (5, _)]) 4 dX6_read_91 rfl rfl (Nat.le_of_ble_eq_true rfl) rfl ?_
                refine r_goto (pc := 94) (tgt := 37) dX6_read_94 (by decide) ?_
                refine r_iload (pc := 37) 4 dX6_read_37 rfl ?_
                refine r_bipush (pc := 39) (12) dX6_read_39 rfl ?_
                refine r_icmp_ge (pc := 41) (tgt := 97) dX6_read_41 (by decide) (fun c_41 => ?_) (fun c_41 => ?_)
                · refine r_sub [0, 1, 2, 3, 4] rfl ?_
                  exact fail _ j _ _ fr4 h244 htj hj hjN hRj
                · refine r_iload_n (pc := 44) 3 dX6_read_44 rfl ?_
                  refine r_if_eq (pc := 45) (tgt := 97) dX6_read_45 (by decide) (fun c_45 => ?_) (fun c_45 => ?_)
                  · refine r_sub [0, 1, 2, 3, 4] rfl ?_
                    exact fail _ j _ _ fr4 h244 htj hj hjN hRj
                  · exact absurd rfl c_45
              · exact absurd rfl c_73
            · exact absurd rfl c_56
    · intro hh i lv c pre fr h24 hs h30 hpl hpc hcont
      refine r_iload (pc := 37) 4 dX6_read_37 rfl ?_
      refine r_bipush (pc := 39) (12) dX6_read_39 rfl ?_
      refine r_icmp_ge (pc := 41) (tgt := 97) dX6_read_41 (by decide) (fun c_41 => ?_) (fun c_41 => ?_)
      · refine fail hh i _ _ fr h24 hs.1.1.2 hs.1.2.1.1 hs.1.2.1.2 ?_
        exact hcont (.inl i) ⟨.inl i, H12 i lv, rfl⟩
      · exact absurd (show (12 : Int32) ≤ nI 12 by decide) c_41
  refine r_iconst (pc := 34) (0) dX6_read_34 rfl ?_
  refine r_istore (pc := 35) (lv' := [(0, _), (1, _), (2, _), (3, _), (4, _)]) dX6_read_35 (Nat.le_of_ble_eq_true rfl) rfl ?_
  refine loop 0 (by omega) h3 0 0 0 [] hz3 hz4 hz1 hz2 rfl (fun k d hk => by cases hk) (fun R' hR' => ?_)
  cases R' with
  | inl j => exact hR'
  | inr ds => exact hR'
end READT
