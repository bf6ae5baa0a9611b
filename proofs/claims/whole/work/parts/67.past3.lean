/-! the class: the past, kept and taken back -/
section PAST3
variable {E : En} {h : Hp} {p : Nat} {r : Nat → Int32}
def psW (a b k : Nat) : Prop := (b = a ∧ (k = 2 ∨ k = 3)) ∨ (a + 2 ≤ b ∧ b ≤ a + 18)
def kpF {α : Type} (K : Nat → α) (u : Nat) (v : α) : Nat → α := fun i => if u = 16 then (if i < 15 then K (i + 1) else v) else (if i < u then K i else v)
def kpU (u : Nat) : Nat := if u = 16 then 16 else u + 1
theorem RowV.cg {h1 : Hp} {a : Nat} {s : Nat → Int32} (hs : RowV h a s) (he : hI h1 a = hI h a) : RowV h1 a s := by
  obtain ⟨s0, si⟩ := hs
  exact ⟨by rw [he]; exact s0, fun i h1 h2 => by rw [he]; exact si i h1 h2⟩
theorem c4_keep {a nw u : Nat} {K : Nat → Int32} {S : Nat → Nat → Int32} (hps : psS E h a) (hpv : PsV h a nw u K S) (hp : ptS E h p) (hv : PtV h p r) (hpa : a + 18 < p ∨ p + 9 < a) (kind : Int32) : Ct E 2 0 0 mX4_keep [.ref a, .int kind, .ref p] h (fun v h' => v = none ∧ Fr (psW a) h h' ∧ PsV h' a ((nw + 1) % 16) (kpU u) (kpF K u kind) (kpF S u r)) := by
  obtain ⟨e2, e3, hnw, hu, hki⟩ := hpv
  have hnw' : (nw + 1) % 16 < 16 := Nat.mod_lt _ (by decide)
  generalize hw : (nw + 1) % 16 = nw' at hnw'
  refine Ct.of (by decide +kernel) (Nat.le_of_ble_eq_true rfl) ?_
  refine r_aload_n (pc := 0) 0 dX4_keep_0 rfl ?_
  refine r_aload_n (pc := 1) 0 dX4_keep_1 rfl ?_
  refine r_getI (pc := 2) fl_X4_26 (ps_is hps) dX4_keep_2 ?_
  refine r_iconst (pc := 5) (1) dX4_keep_5 rfl ?_
  refine r_iadd (pc := 6) dX4_keep_6 ?_
  refine r_bipush (pc := 7) (16) dX4_keep_7 rfl ?_
  refine r_irem (pc := 9) dX4_keep_9 (by decide) ?_
  rw [e2, nI_1, show nI (nw + 1) - nI (nw + 1) / 16 * 16 = nI nw' by rw [← hw]; exact nI_mod (a := nw + 1) (b := 16) (by omega) (by decide)]
  refine r_putI (pc := 10) fp_X4_26 (ps_is hps) dX4_keep_10 ?_
  refine r_aload_n (pc := 13) 0 dX4_keep_13 rfl ?_
  refine r_bipush (pc := 14) (16) dX4_keep_14 rfl ?_
  refine r_aload_n (pc := 16) 0 dX4_keep_16 rfl ?_
  refine r_getI (pc := 17) fl_X4_22 (ps_is hps) dX4_keep_17 ?_
  refine r_iconst (pc := 20) (1) dX4_keep_20 rfl ?_
  refine r_iadd (pc := 21) dX4_keep_21 ?_
  refine r_minI (pc := 22) ml_X4_29 (Nat.le_of_ble_eq_true rfl) (Nat.le_of_ble_eq_true rfl) (Nat.le_of_ble_eq_true rfl) (Nat.le_of_ble_eq_true rfl) (Nat.le_of_ble_eq_true rfl) dX4_keep_22 ?_
  rw [hI_ne (by omega), e3, nI_1]
  have emin : minI 16 (nI (u + 1)) = nI (kpU u) := by
    unfold minI kpU
    by_cases h1 : u = 16
    · rw [if_pos h1, if_neg (show ¬ nI (u + 1) < 16 from nI_nlt (a := u + 1) (b := 16) (by omega) (by omega))]; rfl
    · rw [if_neg h1]
      by_cases h2 : u + 1 < 16
      · rw [if_pos (show nI (u + 1) < 16 from nI_lt (a := u + 1) (b := 16) h2 (by decide))]
      · rw [if_neg (show ¬ nI (u + 1) < 16 from nI_nlt (a := u + 1) (b := 16) (by omega) (by omega)), show u + 1 = 16 by omega]; rfl
  rw [emin]
  refine r_putI (pc := 25) fp_X4_22 (ps_is hps) dX4_keep_25 ?_
  generalize hH2 : wI (wI h a 2 (nI nw')) a 3 (nI (kpU u)) = h2
  have w2 : hI h2 a 2 = nI nw' := by rw [← hH2, hI_ne (by omega), hI_at]
  have w3 : hI h2 a 3 = nI (kpU u) := by rw [← hH2, hI_at]
  have wo : ∀ b, b ≠ a → hI h2 b = hI h b := fun b hb => by rw [← hH2]; funext k; rw [hI_ne (by omega), hI_ne (by omega)]
  have f2 : Fr (psW a) h h2 := by rw [← hH2]; exact Fr.tr (Fr.wI (by unfold psW; omega)) (Fr.wI (by unfold psW; omega))
  have hps2 : psS E h2 a := by rw [← hH2]; exact hps
  have hp2 : ptS E h2 p := by rw [← hH2]; exact hp
  refine r_aload_n (pc := 28) 0 dX4_keep_28 rfl ?_
  refine r_getR (pc := 29) fl_X4_18 (ps_is hps2) (ps_f1 hps2) dX4_keep_29 ?_
  refine r_aload_n (pc := 32) 0 dX4_keep_32 rfl ?_
  refine r_getI (pc := 33) fl_X4_26 (ps_is hps2) dX4_keep_33 ?_
  refine r_iload_n (pc := 36) 1 dX4_keep_36 rfl ?_
  refine r_iast (pc := 37) (j := nw') (ps_r1 hps2) w2 (by omega) (by decide) dX4_keep_37 ?_
  generalize hH3 : wI h2 (a + 18) nw' kind = h3
  have u2 : hI h3 a 2 = nI nw' := by rw [← hH3, hI_ne (by omega)]; exact w2
  have u3 : hI h3 a 3 = nI (kpU u) := by rw [← hH3, hI_ne (by omega)]; exact w3
  have uo : ∀ b, b ≠ a → b ≠ a + 18 → hI h3 b = hI h b := fun b hb hc => by
    rw [← wo b hb, ← hH3]; funext k; rw [hI_ne (by omega)]
  have uk : ∀ k, hI h3 (a + 18) k = if k = nw' then kind else hI h (a + 18) k := fun k => by
    by_cases hk : k = nw'
    · rw [if_pos hk, hk, ← hH3, hI_at]
    · rw [if_neg hk, ← hH3, hI_ne (by omega), wo _ (by omega)]
  have f3 : Fr (psW a) h h3 := f2.tr (by rw [← hH3]; exact Fr.wI (by unfold psW; omega))
  have hps3 : psS E h3 a := by rw [← hH3]; exact hps2
  have hp3 : ptS E h3 p := by rw [← hH3]; exact hp2
  have hv3 : PtV h3 p r := hv.fr f3 (fun i k hi => by unfold psW; omega)
  refine r_aload_n (pc := 38) 2 dX4_keep_38 rfl ?_
  refine r_aload_n (pc := 39) 0 dX4_keep_39 rfl ?_
  refine r_getR (pc := 40) fl_X4_15 (ps_is hps3) (ps_f0 hps3) dX4_keep_40 ?_
  refine r_aload_n (pc := 43) 0 dX4_keep_43 rfl ?_
  refine r_getI (pc := 44) fl_X4_26 (ps_is hps3) dX4_keep_44 ?_
  refine r_aaldR (pc := 47) (j := nw') (ps_r0 hps3) (by decide) u2 (by omega) (by decide) (ps_e hps3 hnw') dX4_keep_47 ?_
  refine r_callV (pc := 48) (As := [_]) mv_X5_writeTo ml_X4_35 (c5_writeTo hp3 hv3 (ps_re hps3 hnw') (by omega)) (pt_is hp3) rfl rfl (Nat.le_of_ble_eq_true rfl) (Nat.le_of_ble_eq_true rfl) (Nat.le_of_ble_eq_true rfl) (Nat.le_of_ble_eq_true rfl) (Nat.le_of_ble_eq_true rfl) dX4_keep_48 (fun r h4 hp => ?_)
  obtain ⟨rfl, f, e4, hrow⟩ := hp
  show Wp E mX4_keep _ _ _ _ [] _ 0 0
  refine r_vret (pc := 51) rfl ?_ (Nat.le_of_ble_eq_true rfl) (Nat.le_of_ble_eq_true rfl) dX4_keep_51
  have hU : kpU u ≤ 16 ∧ 0 < kpU u := by unfold kpU; split <;> omega
  have v4 : ∀ b, b ≠ a + 2 + nw' → hI h4 b = hI h3 b := fun b hb => by rw [e4]; exact wRow_ne hb
  refine ⟨rfl, f3.tr (by rw [e4]; exact Fr.wRow (fun k => by unfold psW; omega)), ?_, ?_, hnw', hU.1, fun i hi => ?_⟩
  · rw [v4 a (by omega)]; exact u2
  · rw [v4 a (by omega)]; exact u3
  · rw [v4 (a + 18) (by omega), uk]
    by_cases htop : i = kpU u - 1
    · have es : slt nw' (kpU u) i = nw' := by rw [htop]; exact slt_top hnw' hU.1 hU.2
      have ek : ∀ {α : Type} (K : Nat → α) (v : α), kpF K u v i = v := by
        intro α K v
        unfold kpF
        unfold kpU at htop
        by_cases h1 : u = 16
        · rw [if_pos h1] at htop ⊢; rw [if_neg (by omega)]
        · rw [if_neg h1] at htop ⊢; rw [if_neg (by omega)]
      rw [es, if_pos rfl, ek, ek]
      exact ⟨rfl, hrow⟩
    · obtain ⟨i0, hi0, es, ek⟩ : ∃ i0, i0 < u ∧ slt nw' (kpU u) i = slt nw u i0 ∧ ∀ {α : Type} (K : Nat → α) (v : α), kpF K u v i = K i0 := by
        by_cases h1 : u = 16
        · have eU : kpU u = 16 := by unfold kpU; rw [if_pos h1]
          refine ⟨i + 1, by omega, ?_, fun {α} K v => ?_⟩
          · rw [eU, h1]; unfold slt; omega
          · unfold kpF; rw [if_pos h1, if_pos (by omega)]
        · have eU : kpU u = u + 1 := by unfold kpU; rw [if_neg h1]
          refine ⟨i, by omega, ?_, fun {α} K v => ?_⟩
          · rw [eU]; unfold slt; omega
          · unfold kpF; rw [if_neg h1, if_pos (by omega)]
      have hne : slt nw' (kpU u) i ≠ nw' := by
        intro z
        have z2 := slt_top (nw := nw') hnw' hU.1 hU.2
        exact htop (slt_inj (nw := nw') hU.1 hi (by omega) (z.trans z2.symm))
      have hlt := slt_lt nw' (kpU u) i
      rw [if_neg hne, ek, ek]
      obtain ⟨k1, k2⟩ := hki i0 hi0
      rw [← es] at k1 k2
      refine ⟨k1, k2.cg ?_⟩
      rw [v4 _ (by omega), uo _ (by omega) (by omega)]
end PAST3
