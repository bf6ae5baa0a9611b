/-! the class's reader: a clause of a law -/
section CLAUSEL
variable {E : En} {x n N : Nat} {b : Nat → Int32} {od : Bool} {wl wo wh : Nat → Int64}
def LcC (h : Hp) (t sz q : Nat) (d : Cl) : Prop := ∃ hd a0 a1 a2 a3 : Nat, hd < 4 ∧ d.1 = nI hd ∧ hI h (t + 1) q = nI (263 + hd) ∧ hI h (t + 3) (3 * q) = nI a0 ∧ hI h (t + 3) (3 * q + 1) = nI a1 ∧ hI h (t + 3) (3 * q + 2) = nI a2 ∧ hI h (t + 3) (3 * q + 3) = nI a3 ∧ a0 ≤ a1 ∧ a1 ≤ a2 ∧ a2 ≤ a3 ∧ a3 ≤ sz ∧ (hd ≠ 3 → ∃ lf, lf ≤ 50 ∧ CSeg (hI h (t + 4)) (hI h (t + 5)) 8 a0 a1 lf d.2.2 ∧ Bd d.2.2) ∧ (match d.2.1 with | none => a2 = a3 | some s => ∃ lf, lf ≤ 50 ∧ CSeg (hI h (t + 4)) (hI h (t + 5)) 8 a2 a3 lf s ∧ IsT s)
theorem LwT_of {h : Hp} {t nn sz : Nat} {cls : List Cl} (h1 : txS E h t nn) (h2 : nn ≤ 400) (h3 : hI h t 0 = nI cls.length) (h4 : cls.length ≤ 12) (h5 : sz ≤ nn) (h6 : hI h t 6 = nI sz) (h7 : ∀ q d, cls[q]? = some d → LcC h t sz q d) : LwT E h t nn cls := ⟨h1, h2, h3, h4, sz, h5, h6, h7⟩
theorem LcC.fr {h h1 : Hp} {sz sz' q q2 c : Nat} {d : Cl} (hl : LcC h (x + 27) sz q d) (f : Fr (clS x q2 c) h h1) (hq : q < q2) (hs : sz ≤ c) (hs' : sz ≤ sz') : LcC h1 (x + 27) sz' q d := by
  obtain ⟨hd, a0, a1, a2, a3, g1, g2, g3, e0, e1, e2, e3, l1, l2, l3, l4, hsum, hif⟩ := hl
  have ec : ∀ k, k < sz → hI h1 (x + 31) k = hI h (x + 31) k ∧ hI h1 (x + 32) k = hI h (x + 32) k := fun k hk => ⟨f.I (by unfold clS; omega), f.I (by unfold clS; omega)⟩
  refine ⟨hd, a0, a1, a2, a3, g1, g2, (f.I (by unfold clS; omega)).trans g3, (f.I (by unfold clS; omega)).trans e0, (f.I (by unfold clS; omega)).trans e1, (f.I (by unfold clS; omega)).trans e2, (f.I (by unfold clS; omega)).trans e3, l1, l2, l3, by omega, fun z => ?_, ?_⟩
  · obtain ⟨lf, w1, w2, w3⟩ := hsum z
    exact ⟨lf, w1, CSeg_cong (fun k _ k2 => ec k (by omega)) w2, w3⟩
  · cases hd2 : d.2.1 with
    | none => rw [hd2] at hif; exact hif
    | some s =>
      rw [hd2] at hif
      obtain ⟨lf, w1, w2, w3⟩ := hif
      exact ⟨lf, w1, CSeg_cong (fun k _ k2 => ec k (by omega)) w2, w3⟩
/-- what a clause comes to -/
def pCg {T : Type} (E : En) (h : Hp) (x : Nat) (b : Nat → Int32) (n N : Nat) (od : Bool) (CN : Hp → Nat → Nat → T → Prop) (CR : Nat → Nat → Nat → (Nat ⊕ (Nat × Nat × T)) → Prop) (i lv c q : Nat) : Option Value → Hp → Prop := fun v h' => Fr (clS x q c) h h' ∧ ((v = some (.int 1) ∧ ∃ i' lv' c' d, ClS E h' x b n N od i' lv' c' (q + 1) (3 * (q + 1)) ∧ hI h' (x + 30) (3 * (q + 1)) = nI c' ∧ c ≤ c' ∧ i < i' ∧ CN h' c' q d ∧ CR q i lv (.inr (i', lv', d))) ∨ (v = some (.int 0) ∧ ∃ j, hI h' (x + 26) 6 = nI j ∧ j ≤ N ∧ TokI h' x b n N ∧ CR q i lv (.inl j)))
theorem TokI.cl {h h1 : Hp} {q c : Nat} (ht : TokI h x b n N) (f : Fr (clS x q c) h h1) : TokI h1 x b n N := ht.cg (f.I (by unfold clS; omega)) (by funext k; exact f.I (by unfold clS; omega)) (by funext k; exact f.I (by unfold clS; omega)) (by funext k; exact f.I (by unfold clS; omega))
/-- the "if" of a clause, and its end -/
def IfR (od : Bool) (wl wo : Nat → Int64) (b : Nat → Int32) (n i lv : Nat) : Nat ⊕ (Nat × Nat × Option Sm) → Prop := IfM wl wo (tk b n) od i lv
def pIf (E : En) (h : Hp) (x : Nat) (b : Nat → Int32) (n N : Nat) (od : Bool) (wl wo : Nat → Int64) (i lv c q : Nat) : Option Value → Hp → Prop := fun v h' => Fr (fun a k => rdS x c a k ∨ (a = x + 27 ∧ k = 7) ∨ (a = x + 30 ∧ k = 3 * q + 3)) h h' ∧ ((v = some (.int 1) ∧ ∃ i' lv' c' o, ClS E h' x b n N od i' lv' c' (q + 1) (3 * q + 3) ∧ hI h' (x + 30) (3 * q + 3) = nI c' ∧ c ≤ c' ∧ i ≤ i' ∧ lv' ≤ 50 ∧ IfM wl wo (tk b n) od i lv (.inr (i', lv', o)) ∧ (match o with | none => c' = c | some s => ∃ lf, lf ≤ 50 ∧ CSeg (hI h' (x + 31)) (hI h' (x + 32)) (wlw od) c c' lf s ∧ IsT s)) ∨ (v = some (.int 0) ∧ ∃ j, hI h' (x + 26) 6 = nI j ∧ j ≤ N ∧ IfM wl wo (tk b n) od i lv (.inl j)))
theorem wp_if {h : Hp} {i lv c q : Nat} (hw : Wls wl wo) (hs : ClS E h x b n N od i lv c (q + 1) (3 * q + 2)) (hq : q < 12) {Q : Option Value → Hp → Prop} (hQ : ∀ v h', pIf E h x b n N od wl wo i lv c q v h' → Q v h') (k1 : Int32) : Wp E mX6_hasClause (Rm 42 0 0) (Qm E Q 0 0) 30 [(0, .ref (x + 26)), (1, .int k1), (2, .int 1)] [] h 0 0 := by
  have hc := hs.1.1.1
  have ht := hs.1.1.2
  have hi := hs.1.2.1.1
  have hN := hs.1.2.1.2
  have hci := hs.1.2.2.2.2.2
  have hkr := ht.kr hN
  have hif : tW (tk b n i) 294 = decide (hI h (x + 34) i = 259) := hkr.wdb (j := 3) (by decide)
  have fin : ∀ (h3 : Hp) (i' lv' c' : Nat) (o : Option Sm), Fr (rdS x c) h h3 → ClS E h3 x b n N od i' lv' c' (q + 1) (3 * q + 2) → c ≤ c' → i ≤ i' → IfM wl wo (tk b n) od i lv (.inr (i', lv', o)) → (match o with | none => c' = c | some s => ∃ lf, lf ≤ 50 ∧ CSeg (hI h3 (x + 31)) (hI h3 (x + 32)) (wlw od) c c' lf s ∧ IsT s) → Wp E mX6_hasClause (Rm 42 0 0) (Qm E Q 0 0) 50 [(0, .ref (x + 26)), (1, .int k1), (2, .int 1)] [] h3 0 0 := by
    intro h3 i' lv' c' o f3 hs3 hcc hii hIf ho
    have hc3 := hs3.1.1.1
    refine r_aload_n (pc := 50) 0 dX6_hasClause_50 rfl ?_
    refine r_getR (pc := 51) fl_X6_14 (ca_26 hc3) (cf_26_0 hc3) dX6_hasClause_51 ?_
    refine r_dV0 (pc := 54) (As := []) mv_X10_endPiece ml_X6_124 (c6_endP hs3 (by omega)) (tx_is (cs_tx27 hc3)) rfl rfl (Nat.le_of_ble_eq_true rfl) (Nat.le_of_ble_eq_true rfl) (Nat.le_of_ble_eq_true rfl) (Nat.le_of_ble_eq_true rfl) (Nat.le_of_ble_eq_true rfl) dX6_hasClause_54 ?_
    refine r_iconst (pc := 57) (1) dX6_hasClause_57 rfl ?_
    refine r_zret (pc := 58) rfl (by decide) ?_ (Nat.le_of_ble_eq_true rfl) (Nat.le_of_ble_eq_true rfl) dX6_hasClause_58
    refine hQ _ _ ⟨(f3.mono (fun a k z => Or.inl z)).tr ((Fr.wI (Or.inr (Or.inl ⟨rfl, rfl⟩))).tr (Fr.wI (Or.inr (Or.inr ⟨rfl, rfl⟩)))), Or.inl ⟨rfl, i', lv', c', o, hs3.ep, epH_at, hcc, hii, hs3.1.2.2.1.2, hIf, ?_⟩⟩
    cases o with
    | none => exact ho
    | some s =>
      obtain ⟨lf, w1, w2, w3⟩ := ho
      exact ⟨lf, w1, by rw [epH_ne (a := x + 31) (by omega) (by omega), epH_ne (a := x + 32) (by omega) (by omega)]; exact w2, w3⟩
  refine r_aload_n (pc := 30) 0 dX6_hasClause_30 rfl ?_
  refine r_sipush (pc := 31) (259) dX6_hasClause_31 rfl ?_
  refine r_callV (pc := 34) (As := [_]) mv_X6_takes ml_X6_82 (c6_takes hc ht hi hN (k := 259) (by decide)) (ca_26 hc) rfl rfl (Nat.le_of_ble_eq_true rfl) (Nat.le_of_ble_eq_true rfl) (Nat.le_of_ble_eq_true rfl) (Nat.le_of_ble_eq_true rfl) (Nat.le_of_ble_eq_true rfl) dX6_hasClause_34 (fun r h2 hp => ?_)
  rcases hp with ⟨hk, hlt, rfl, rfl⟩ | ⟨hk, rfl, rfl⟩
  · show Wp E mX6_hasClause _ _ _ _ [.int _] _ 0 0
    have hyes : tW (tk b n i) 294 = true := by rw [hif]; exact decide_eq_true hk
    have hs2 := hs.now (i' := i + 1) (by omega) (by omega)
    have f2 : Fr (rdS x c) h (wI h (x + 26) 6 (nI (i + 1))) := Fr.wI (by unfold rdS; omega)
    generalize wI h (x + 26) 6 (nI (i + 1)) = h2 at hs2 f2 ⊢
    have hc2 := hs2.1.1.1
    refine r_if_eq (pc := 37) (tgt := 50) dX6_hasClause_37 (by decide) (fun c_37 => ?_) (fun c_37 => ?_)
    · exact absurd (show (1 : Int32) = 0 from c_37) (by decide)
    · refine r_aload_n (pc := 40) 0 dX6_hasClause_40 rfl ?_
      refine r_iconst (pc := 41) (0) dX6_hasClause_41 rfl ?_
      refine r_callV (pc := 42) (As := [_]) mv_X6_hasTest ml_X6_121 ((rd_all (test := true) hw 8 0 rfl).2 h2 (i + 1) lv c hs2.1) (ca_26 hc2) rfl rfl (Nat.le_of_ble_eq_true rfl) (Nat.le_of_ble_eq_true rfl) (Nat.le_of_ble_eq_true rfl) (Nat.le_of_ble_eq_true rfl) (Nat.le_of_ble_eq_true rfl) dX6_hasClause_42 (fun r h3 hp => ?_)
      obtain ⟨f3, ⟨rfl, i3, lv3, c3, s3, hr3, b1, b2, b3, b4, hseg3, hsem⟩ | ⟨rfl, j, hj, hjN, hf⟩⟩ := hp
      · show Wp E mX6_hasClause _ _ _ _ [.int _] _ 0 0
        refine r_if_ne (pc := 45) (tgt := 50) dX6_hasClause_45 (by decide) (fun c_45 => ?_) (fun c_45 => ?_)
        · refine fin h3 i3 lv3 c3 (some s3) (f2.tr f3) (hs2.rd f3 hr3) (by omega) (by omega) ?_ ⟨lv3 - lv, by have := hr3.2.2.1.2; omega, hseg3, hsem.1⟩
          unfold IfM
          rw [if_pos hyes]
          exact ⟨.inr (i3, lv3, s3), ex_test hsem, rfl⟩
        · exact absurd (show (1 : Int32) = 0 from c_45) (by decide)
      · show Wp E mX6_hasClause _ _ _ _ [.int _] _ 0 0
        refine r_if_ne (pc := 45) (tgt := 50) dX6_hasClause_45 (by decide) (fun c_45 => ?_) (fun c_45 => ?_)
        · exact absurd rfl c_45
        · refine r_iconst (pc := 48) (0) dX6_hasClause_48 rfl ?_
          refine r_zret (pc := 49) rfl (by decide) ?_ (Nat.le_of_ble_eq_true rfl) (Nat.le_of_ble_eq_true rfl) dX6_hasClause_49
          refine hQ _ _ ⟨(f2.tr f3).mono (fun a k z => Or.inl z), Or.inr ⟨rfl, j, hj, hjN, ?_⟩⟩
          unfold IfM
          rw [if_pos hyes]
          exact ⟨.inl j, ex_testF hf, rfl⟩
  · show Wp E mX6_hasClause _ _ _ _ [.int _] _ 0 0
    have hno : ¬ tW (tk b n i) 294 = true := by rw [hif, decide_eq_false hk]; decide
    refine r_if_eq (pc := 37) (tgt := 50) dX6_hasClause_37 (by decide) (fun c_37 => ?_) (fun c_37 => ?_)
    · refine fin _ i lv c none Fr.rf hs (Nat.le_refl _) (Nat.le_refl _) ?_ rfl
      unfold IfM
      rw [if_neg hno]
    · exact absurd rfl c_37
theorem if_cl {q c c0 a k : Nat} (hcc : c0 ≤ c) (hs : rdS x c a k ∨ (a = x + 27 ∧ k = 7) ∨ (a = x + 30 ∧ k = 3 * q + 3)) : clS x q c0 a k := by
  rcases hs with z | z | z
  · exact rd_cl hcc z
  · unfold clS; omega
  · unfold clS; omega
theorem c6_hasClauseL {h : Hp} {i lv c q : Nat} (hw : Wls wl wo) (hh : Whs wh 7) (hs : ClS E h x b n N false i lv c q (3 * q)) (hq : q < 12) (h30 : hI h (x + 30) (3 * q) = nI c) : Ct E 42 0 0 mX6_hasClause [.ref (x + 26)] h (pCg E h x b n N false (fun h' sz q d => LcC h' (x + 27) sz q d) (LawCl wl wo wh (tk b n)) i lv c q) := by
  have hc := hs.1.1.1
  have ht := hs.1.1.2
  have hi := hs.1.2.1.1
  have hN := hs.1.2.1.2
  have h8 := hs.1.2.2.2.1
  have hkr := ht.kr hN
  obtain ⟨κ, hκ, eκ⟩ := hkr.nat
  rw [eκ] at hkr
  obtain ⟨hd1, hd2⟩ := hd_is hkr hκ (by omega) hh
  have hiN : (∃ u, u < 4 ∧ κ = 263 + u) → i < N := by
    rintro ⟨u, hu, e⟩
    rcases Nat.lt_or_ge i N with z | z
    · exact z
    · have q1 := (ht.end hN).mpr (by omega)
      have q2 := (hkr.wd (show 7 + u < 27 by omega)).mp (by rw [e]; congr 1; omega)
      exact absurd q1 (tW_n0 q2)
  refine Ct.of (by decide +kernel) (Nat.le_of_ble_eq_true rfl) ?_
  refine r_aload_n (pc := 0) 0 dX6_hasClause_0 rfl ?_
  refine r_dV (pc := 1) (As := []) mv_X6_kindNow ml_X6_79 (c6_kindNow hc ht hi hN) (ca_26 hc) rfl rfl (Nat.le_of_ble_eq_true rfl) (Nat.le_of_ble_eq_true rfl) (Nat.le_of_ble_eq_true rfl) (Nat.le_of_ble_eq_true rfl) (Nat.le_of_ble_eq_true rfl) dX6_hasClause_1 ?_
  rw [eκ]
  refine r_istore_n (pc := 4) (lv' := [(0, _), (1, _)]) dX6_hasClause_4 (Nat.le_of_ble_eq_true rfl) rfl ?_
  refine r_aload_n (pc := 5) 0 dX6_hasClause_5 rfl ?_
  refine r_getI (pc := 6) fl_X6_52 (ca_26 hc) dX6_hasClause_6 ?_
  rw [h8]
  refine r_if_eq (pc := 9) (tgt := 20) dX6_hasClause_9 (by decide) (fun c_9 => ?_) (fun c_9 => ?_)
  · exact absurd c_9 (by decide)
  · refine r_aload_n (pc := 12) 0 dX6_hasClause_12 rfl ?_
    refine r_iload_n (pc := 13) 1 dX6_hasClause_13 rfl ?_
    refine r_callV (pc := 14) (As := [_]) mv_X6_hasLawDoing ml_X6_115 (c6_hasLawDoing hw hs hq hκ hiN) (ca_26 hc) rfl rfl (Nat.le_of_ble_eq_true rfl) (Nat.le_of_ble_eq_true rfl) (Nat.le_of_ble_eq_true rfl) (Nat.le_of_ble_eq_true rfl) (Nat.le_of_ble_eq_true rfl) dX6_hasClause_14 (fun r h1 hp => ?_)
    obtain ⟨f1, ⟨rfl, hd, i1, lv1, c1, s1, hd4, ed, hs1, ⟨o1, o2, o3, o4⟩, ⟨k28, k1, k2⟩, hsem⟩ | ⟨rfl, j, hj, hjN, hf⟩⟩ := hp
    · show Wp E mX6_hasClause _ _ _ _ [.int _] _ 0 0
      have ehd := hd1 hd hd4 (by omega)
      have nm1 : ¬ (hdN wh (tk b n i) 4 = -1 ∨ ¬ q < 12) := fun z => z.elim (fun w => by rw [ehd] at w; exact m1_nI (by omega) w.symm) (fun w => w hq)
      refine r_goto (pc := 17) (tgt := 25) dX6_hasClause_17 (by decide) ?_
      refine r_istore_n (pc := 25) (lv' := [(0, _), (1, _), (2, _)]) dX6_hasClause_25 (Nat.le_of_ble_eq_true rfl) rfl ?_
      refine r_iload_n (pc := 26) 2 dX6_hasClause_26 rfl ?_
      refine r_if_eq (pc := 27) (tgt := 48) dX6_hasClause_27 (by decide) (fun c_27 => ?_) (fun c_27 => ?_)
      · exact absurd (show (1 : Int32) = 0 from c_27) (by decide)
      · refine wp_if hw hs1 hq (fun v h' hp2 => ?_) _
        obtain ⟨f2, ⟨rfl, i', lv', c', o, hs2, h33, hcc, hii, h50, hIf, ho⟩ | ⟨rfl, j, hj, hjN, hIf⟩⟩ := hp2
        · refine ⟨f1.tr (f2.mono (fun a k z => if_cl (by omega) z)), Or.inl ⟨rfl, i', lv', c', (nI hd, o, s1), ?_, ?_, by omega, by omega, ?_, ?_⟩⟩
          · rw [show 3 * (q + 1) = 3 * q + 3 by omega]; exact hs2
          · rw [show 3 * (q + 1) = 3 * q + 3 by omega]; exact h33
          · have ec : ∀ k, k < c1 → hI h' (x + 31) k = hI h1 (x + 31) k ∧ hI h' (x + 32) k = hI h1 (x + 32) k := fun k hk => ⟨f2.I (by unfold rdS; omega), f2.I (by unfold rdS; omega)⟩
            refine ⟨hd, c, c1, c1, c', hd4, rfl, (f2.I (by unfold rdS; omega)).trans k28, ((f2.I (by unfold rdS; omega)).trans (f1.I (by unfold clS; omega))).trans h30, (f2.I (by unfold rdS; omega)).trans k1, (f2.I (by unfold rdS; omega)).trans k2, h33, o3, Nat.le_refl _, hcc, Nat.le_refl _, fun z => ?_, ?_⟩
            · rw [if_neg z] at hsem
              exact ⟨lv1 - lv, by have := hs1.1.2.2.1.2; omega, CSeg_cong (fun k _ k2 => ec k k2) hsem.1, hsem.2.1⟩
            · cases o with
              | none => exact ho.symm
              | some s => exact ho
          · unfold LawCl
            rw [if_neg nm1, ehd]
            by_cases h3 : hd = 3
            · rw [if_pos h3] at hsem
              obtain ⟨e1, e2, e3, e4⟩ := hsem
              refine ⟨.inr (i + 1, lv, sZ), by rw [if_pos (by rw [h3]; rfl)], .inr (i', lv', o), ?_, by rw [e4]⟩
              rw [e1, e2] at hIf; exact hIf
            · rw [if_neg h3] at hsem
              refine ⟨.inr (i1, lv1, s1), by rw [if_neg (show ¬ nI hd = 3 from fun z => h3 (nI_inj (b := 3) (by omega) (by decide) z))]; exact hsem.2.2, .inr (i', lv', o), hIf, rfl⟩
        · refine ⟨f1.tr (f2.mono (fun a k z => if_cl (by omega) z)), Or.inr ⟨rfl, j, hj, hjN, ht.cl (f1.tr (f2.mono (fun a k z => if_cl (by omega) z))), ?_⟩⟩
          unfold LawCl
          rw [if_neg nm1, ehd]
          by_cases h3 : hd = 3
          · rw [if_pos h3] at hsem
            obtain ⟨e1, e2, e3, e4⟩ := hsem
            refine ⟨.inr (i + 1, lv, sZ), by rw [if_pos (by rw [h3]; rfl)], .inl j, ?_, rfl⟩
            rw [e1, e2] at hIf; exact hIf
          · rw [if_neg h3] at hsem
            refine ⟨.inr (i1, lv1, s1), by rw [if_neg (show ¬ nI hd = 3 from fun z => h3 (nI_inj (b := 3) (by omega) (by decide) z))]; exact hsem.2.2, .inl j, hIf, rfl⟩
    · show Wp E mX6_hasClause _ _ _ _ [.int _] _ 0 0
      refine r_goto (pc := 17) (tgt := 25) dX6_hasClause_17 (by decide) ?_
      refine r_istore_n (pc := 25) (lv' := [(0, _), (1, _), (2, _)]) dX6_hasClause_25 (Nat.le_of_ble_eq_true rfl) rfl ?_
      refine r_iload_n (pc := 26) 2 dX6_hasClause_26 rfl ?_
      refine r_if_eq (pc := 27) (tgt := 48) dX6_hasClause_27 (by decide) (fun c_27 => ?_) (fun c_27 => ?_)
      · refine r_iconst (pc := 48) (0) dX6_hasClause_48 rfl ?_
        refine r_zret (pc := 49) rfl (by decide) ?_ (Nat.le_of_ble_eq_true rfl) (Nat.le_of_ble_eq_true rfl) dX6_hasClause_49
        refine ⟨f1, Or.inr ⟨rfl, j, hj, hjN, ht.cl f1, ?_⟩⟩
        unfold LawCl
        rcases hf with ⟨hn, rfl⟩ | ⟨hd, hd3, ed, hx⟩
        · rw [if_pos (Or.inl (hd2 (fun u hu z => hn u hu (by omega))))]
        · have ehd := hd1 hd (by omega) (by omega)
          rw [if_neg (fun z => z.elim (fun w => by rw [ehd] at w; exact m1_nI (by omega) w.symm) (fun w => w hq)), ehd]
          exact ⟨.inl j, by rw [if_neg (show ¬ nI hd = 3 from fun z => by have := nI_inj (b := 3) (by omega) (by decide) z; omega)]; exact hx, rfl⟩
      · exact absurd rfl c_27
end CLAUSEL
