/-! the class: orders are run, wholly or not at all -/
section ORDERS2
variable {E : En} {h : Hp} {x : Nat} {μ : Mu}
theorem csP_rm {a k : Nat} (hq : csP x a k) : ¬ rmS x a k := by
  intro z
  rcases z with z | z
  · exact csP_cf (Or.inr (Or.inr rfl)) hq z
  · obtain ⟨t, ht, rfl, rfl⟩ := hq
    have key : ∀ t ∈ csF, ¬ ((t.1 = 69 ∧ (t.2.1 = 2 ∨ t.2.1 = 3)) ∨ (69 + 2 ≤ t.1 ∧ t.1 ≤ 69 + 18)) := by decide +kernel
    unfold psW at z
    exact key t ht (by omega)
theorem csP_rs {a k : Nat} (hq : csP x a k) : ¬ rsS x a k := by
  intro z
  rcases z with z | z
  · exact csP_cf (Or.inl rfl) hq z
  · exact csP_ac hq (Or.inr (Or.inr z))
theorem csP_88 {a k : Nat} (hq : csP x a k) : ¬ (a = x + 88 ∧ (k = 3 ∨ k = 4 ∨ k = 5)) := by
  obtain ⟨t, ht, rfl, rfl⟩ := hq
  have key : ∀ t ∈ csF, ¬ (t.1 = 88 ∧ (t.2.1 = 3 ∨ t.2.1 = 4 ∨ t.2.1 = 5)) := by decide +kernel
  exact fun z => key t ht (by omega)
theorem Lv.gen {S : Nat → Nat → Prop} {h1 : Hp} {r : Nat → Int32} {nc ns nl : Nat} {lw : Option Nat} {fo : Option (List Cl)} (hL : Lv E h x r nc ns nl lw fo) (f : Fr S h h1) (q1 : ∀ a k, csP x a k → ¬ S a k) (q2 : ∀ i k, i ≤ 9 → ¬ S (x + 3 + i) k) (q3 : ∀ a k, x + 135 < a → ¬ S a k) : Lv E h1 x r nc ns nl lw fo := by
  obtain ⟨hc, hv, hrw, h3, hlw, hfo⟩ := hL
  exact ⟨hc.fr f q1, hv.fr f (fun i k hi => q2 i k (by omega)), hrw, h3, ⟨fun z => by rw [f.R (q2 9 _ (by omega))]; exact hlw.1 z, hlw.2⟩, hfo.far f q3⟩
/-- what running writes, restoring too -/
def ruS (x a k : Nat) : Prop := orS x a k ∨ rmS x a k ∨ rsS x a k ∨ (a = x + 88 ∧ (k = 3 ∨ k = 4 ∨ k = 5))
def pRu (E : En) (h : Hp) (x : Nat) (μ : Mu) (nc ns nl : Nat) (lw : Option Nat) (fo : Option (List Cl)) (F : Nat ⊕ Mu) : Option Value → Hp → Prop := fun v h' => (Fr (ruS x) h h' ∧ ∀ i, i < 6 → hR h' (x + 3 + 9) i = hR h (x + 3 + 9) i) ∧ match F with
  | .inl k => v = some (.int (-3)) ∧ PtV h' (x + 3) (μ 2) ∧ PsM h' (x + 40) μ ∧ hI h' (x + 88) 5 = nI k
  | .inr β => v = some (.int (β 0 53)) ∧ Lo E h' x β nc ns nl lw fo ∧ hI h' (x + 88) 5 = -1
theorem c3_run {nc ns nl : Nat} {lw : Option Nat} {fo : Option (List Cl)} {ds : List Od} (hL : Lv E h x (μ 2) nc ns nl lw fo) (hps : PsM h (x + 40) μ) (ht : OdT h (x + 27) ds) (hlaw : ∀ i, i < 6 → ∀ t, hR h (x + 3 + 9) i = some t → isA E h t 10) : Ct E 7 0 0 mX3_run [.ref (x + 88), .ref (x + 27)] h (pRu E h x μ nc ns nl lw fo (lisF fo nc ns ds 0 (up2 (up2 μ 0 53 0) 0 54 (-1)))) := by
  have hc := hL.1
  obtain ⟨nw, hpv⟩ := hps
  generalize hF : lisF fo nc ns ds 0 (up2 (up2 μ 0 53 0) 0 54 (-1)) = F
  refine Ct.of (by decide +kernel) (Nat.le_of_ble_eq_true rfl) ?_
  refine r_aload_n (pc := 0) 0 dX3_run_0 rfl ?_
  refine r_getR (pc := 1) fl_X3_9 (ca_88 hc) (cf_88_0 hc) dX3_run_1 ?_
  refine r_callV (pc := 4) (As := []) mv_X1_remember ml_X3_27 (c1_remember hc hL.2.1 hlaw hpv) (ca_39 hc) rfl rfl (Nat.le_of_ble_eq_true rfl) (Nat.le_of_ble_eq_true rfl) (Nat.le_of_ble_eq_true rfl) (Nat.le_of_ble_eq_true rfl) (Nat.le_of_ble_eq_true rfl) dX3_run_4 (fun r h1 hp => ?_)
  obtain ⟨rfl, f1, hv1, hl1, hps1⟩ := hp
  show Wp E mX3_run _ _ _ _ [] _ 0 0
  have hc1 := hc.fr f1 (fun _ _ => csP_rm)
  have hL1 := hL.gen f1 (fun _ _ => csP_rm) (fun i k hi => by unfold rmS cfS ptW psW; omega) (fun a k ha => by unfold rmS cfS ptW psW; omega)
  have ht1 : OdT h1 (x + 27) ds := ht.fr f1 (fun i k hi => by unfold rmS cfS ptW psW; omega)
  have hps1b : PsV h1 (x + 40) nw (uF μ) (μ 6) (Sn μ) := hpv.fr f1 (by unfold rmS cfS ptW psW; omega) (by unfold rmS cfS ptW psW; omega) (fun i k h1 h2 => by unfold rmS cfS ptW psW; omega)
  refine r_aload_n (pc := 7) 0 dX3_run_7 rfl ?_
  refine r_iconst (pc := 8) (0) dX3_run_8 rfl ?_
  refine r_putI (pc := 9) fp_X3_32 (ca_88 hc1) dX3_run_9 ?_
  refine r_aload_n (pc := 12) 0 dX3_run_12 rfl ?_
  refine r_iconst (pc := 13) (-1) dX3_run_13 rfl ?_
  refine r_putI (pc := 14) fp_X3_35 (ca_88 hc1) dX3_run_14 ?_
  refine r_aload_n (pc := 17) 0 dX3_run_17 rfl ?_
  refine r_iconst (pc := 18) (-1) dX3_run_18 rfl ?_
  refine r_putI (pc := 19) fp_X3_23 (ca_88 hc1) dX3_run_19 ?_
  refine r_iconst (pc := 22) (0) dX3_run_22 rfl ?_
  refine r_istore_n (pc := 23) (lv' := [(0, _), (1, _), (2, _)]) dX3_run_23 (Nat.le_of_ble_eq_true rfl) rfl ?_
  have f2 : Fr (fun a k => a = x + 88 ∧ (k = 3 ∨ k = 4 ∨ k = 5)) h1 (wI (wI (wI h1 (x + 88) 3 0) (x + 88) 4 (-1)) (x + 88) 5 (-1)) := Fr.tr (Fr.tr (Fr.wI ⟨rfl, Or.inl rfl⟩) (Fr.wI ⟨rfl, Or.inr (Or.inl rfl)⟩)) (Fr.wI ⟨rfl, Or.inr (Or.inr rfl)⟩)
  have e53 : hI (wI (wI (wI h1 (x + 88) 3 0) (x + 88) 4 (-1)) (x + 88) 5 (-1)) (x + 88) 3 = 0 := by rw [hI_ne (by omega), hI_ne (by omega), hI_at]
  have e54 : hI (wI (wI (wI h1 (x + 88) 3 0) (x + 88) 4 (-1)) (x + 88) 5 (-1)) (x + 88) 4 = -1 := by rw [hI_ne (by omega), hI_at]
  have e55 : hI (wI (wI (wI h1 (x + 88) 3 0) (x + 88) 4 (-1)) (x + 88) 5 (-1)) (x + 88) 5 = -1 := hI_at
  generalize wI (wI (wI h1 (x + 88) 3 0) (x + 88) 4 (-1)) (x + 88) 5 (-1) = h0 at f2 e53 e54 e55 ⊢
  have hc0 := hc1.fr f2 (fun _ _ => csP_88)
  have hL0 := hL1.gen f2 (fun _ _ => csP_88) (fun i k hi => by omega) (fun a k ha => by omega)
  have ht0 := ht1.fr f2 (fun i k hi => by omega)
  have hv0 : PtV h0 (x + 59) (μ 2) := hv1.fr f2 (fun i k hi => by omega)
  have hps0 : PsV h0 (x + 69) nw (uF μ) (μ 6) (Sn μ) := hps1.fr f2 (by omega) (by omega) (fun i k h1 h2 => by omega)
  have hps0b : PsV h0 (x + 40) nw (uF μ) (μ 6) (Sn μ) := hps1b.fr f2 (by omega) (by omega) (fun i k h1 h2 => by omega)
  have f0 : Fr (ruS x) h h0 := (f1.mono (fun a k z => (Or.inr (Or.inl z) : ruS x a k))).tr (f2.mono (fun a k z => (Or.inr (Or.inr (Or.inr z)) : ruS x a k)))
  have r0 : ∀ i, i < 6 → hR h0 (x + 3 + 9) i = hR h (x + 3 + 9) i := fun i hi => (f2.R (by omega)).trans (f1.R (by unfold rmS cfS ptW psW; omega))
  have r59 : ∀ i, i < 6 → hR h0 (x + 59 + 9) i = hR h (x + 3 + 9) i := fun i hi => (f2.R (by omega)).trans (hl1 i hi)
  have hA0 : ∀ {t ci : Nat}, isA E h t ci → isA E h0 t ci := fun ha => ha.fr f0
  have hLo : Lo E h0 x (up2 (up2 μ 0 53 0) 0 54 (-1)) nc ns nl lw fo := by
    refine ⟨?_, ⟨nw, ?_⟩, by rw [up2_ne (by decide), up2_at]; exact e53, by rw [up2_at]; exact e54⟩
    · rw [up2_other (by decide), up2_other (by decide)]; exact hL0
    · have eu : uF (up2 (up2 μ 0 53 0) 0 54 (-1)) = uF μ := by unfold uF; rw [up2_ne (by decide), up2_ne (by decide)]
      rw [eu]
      exact hps0b.cg (fun i hi => by rw [up2_other (by decide), up2_other (by decide)]) (fun i hi j hj => by show up2 _ 0 54 _ 5 _ = _; rw [up2_ne (by omega), up2_ne (by omega)]; rfl)
  have outer : ∀ (rest : List Od) (q : Nat) (ν : Mu) (hh : Hp), ds.drop q = rest → q ≤ ds.length → Fr (orS x) h0 hh → Lo E hh x ν nc ns nl lw fo → lisF fo nc ns rest q ν = F → Wp E mX3_run (Rm 7 0 0) (Qm E (pRu E h x μ nc ns nl lw fo F) 0 0) 24 [(0, .ref (x + 88)), (1, .ref (x + 27)), (2, .int (nI q))] [] hh 0 0 := by
    intro rest
    induction rest with
    | nil =>
      intro q ν hh hdr hqle fr hLh hl
      have hch := hLh.1.1
      have hth := ht0.fr fr (fun i k hi => orS_27 hi)
      have hq : ds.length ≤ q := List.drop_eq_nil_iff.mp hdr
      have hql : q = ds.length := by omega
      refine r_iload_n (pc := 24) 2 dX3_run_24 rfl ?_
      refine r_aload_n (pc := 25) 1 dX3_run_25 rfl ?_
      refine r_getI (pc := 26) fl_X3_38 (tx_is (cs_tx27 hch)) dX3_run_26 ?_
      rw [hth.1]
      refine r_icmp_ge (pc := 29) (tgt := 80) dX3_run_29 (by decide) (fun c_29 => ?_) (fun c_29 => ?_)
      · refine r_aload_n (pc := 80) 0 dX3_run_80 rfl ?_
        refine r_getI (pc := 81) fl_X3_32 (ca_88 hch) dX3_run_81 ?_
        refine r_iret (pc := 84) rfl ?_ (Nat.le_of_ble_eq_true rfl) (Nat.le_of_ble_eq_true rfl) dX3_run_84
        refine ⟨⟨f0.tr (fr.mono (fun a k z => (Or.inl z : ruS x a k))), fun i hi => (fr.R (by unfold orS acS akS ptW psW; omega)).trans (r0 i hi)⟩, ?_⟩
        have hl2 : (Sum.inr ν : Nat ⊕ Mu) = F := hl
        rw [← hl2]
        exact ⟨by rw [hLh.2.2.1], hLh, (fr.I (by unfold orS acS akS ptW psW; omega)).trans e55⟩
      · exact absurd (by rw [hql]; exact Int32.le_refl _) c_29
    | cons d rest IH =>
      intro q ν hh hdr hqle fr hLh hl
      have hdq : ds[q]? = some d := by
        have h1 := List.getElem?_drop (xs := ds) (i := q) (j := 0)
        rw [hdr, Nat.add_zero] at h1
        exact h1.symm
      have hdr2 : ds.drop (q + 1) = rest := by rw [← List.tail_drop, hdr]; rfl
      have hqlt : q < ds.length := by
        rcases Nat.lt_or_ge q ds.length with z | z
        · exact z
        · rw [List.getElem?_eq_none z] at hdq; cases hdq
      have h12 := ht0.2.1
      have hl2 : (match repF d fo nc ns d.2.1 ν with | none => Sum.inl q | some μ' => lisF fo nc ns rest (q + 1) μ') = F := hl
      obtain ⟨-, -, sz, hsz, -, hcl⟩ := id ht0
      obtain ⟨hd, a0, a1, a2, a3, ⟨g1, g2, g3, g4, g5⟩, -⟩ := hcl q d hdq
      have inner : ∀ t, t ≤ d.2.1 → ∀ (ν : Mu) (hh : Hp), Fr (orS x) h0 hh → Lo E hh x ν nc ns nl lw fo → (match repF d fo nc ns (d.2.1 - t) ν with | none => Sum.inl q | some μ' => lisF fo nc ns rest (q + 1) μ') = F → Wp E mX3_run (Rm 7 0 0) (Qm E (pRu E h x μ nc ns nl lw fo F) 0 0) 34 [(0, .ref (x + 88)), (1, .ref (x + 27)), (2, .int (nI q)), (3, .int (nI t))] [] hh 0 0 := by
        refine upTo (fun t htt ih => ?_) ?_
        · intro ν hh fr hLh hl3
          have hch := hLh.1.1
          have hth := ht0.fr fr (fun i k hi => orS_27 hi)
          have e4 : hI hh (x + 27 + 2) q = nI d.2.1 := (fr.I (orS_27 (by omega))).trans g4
          refine r_iload_n (pc := 34) 3 dX3_run_34 rfl ?_
          refine r_aload_n (pc := 35) 1 dX3_run_35 rfl ?_
          refine r_getR (pc := 36) fl_X3_43 (tx_is (cs_tx27 hch)) (tx_f2 (cs_tx27 hch)) dX3_run_36 ?_
          refine r_iload_n (pc := 39) 2 dX3_run_39 rfl ?_
          refine r_iald (pc := 40) (j := q) (tx_r2 (cs_tx27 hch)) rfl (by omega) (by decide) dX3_run_40 ?_
          rw [e4]
          refine r_icmp_ge (pc := 41) (tgt := 74) dX3_run_41 (by decide) (fun c_41 => ?_) (fun c_41 => ?_)
          · exact absurd c_41 (nI_ge htt (by omega))
          · refine r_aload_n (pc := 44) 0 dX3_run_44 rfl ?_
            refine r_aload_n (pc := 45) 1 dX3_run_45 rfl ?_
            refine r_iload_n (pc := 46) 2 dX3_run_46 rfl ?_
            refine r_callV (pc := 47) (As := [_, _]) mv_X3_ranOnce ml_X3_46 (c3_ranOnce hLh hth hdq) (ca_88 hch) rfl rfl (Nat.le_of_ble_eq_true rfl) (Nat.le_of_ble_eq_true rfl) (Nat.le_of_ble_eq_true rfl) (Nat.le_of_ble_eq_true rfl) (Nat.le_of_ble_eq_true rfl) dX3_run_47 (fun r h3 hp => ?_)
            obtain ⟨rfl, f3, hL3⟩ := hp
            have fr3 := fr.tr f3
            have hc3 := hch.orr f3
            show Wp E mX3_run _ _ _ _ [.int _] _ 0 0
            have erep : repF d fo nc ns (d.2.1 - t) ν = if (ordF d fo nc ns ν).1 < 0 then none else repF d fo nc ns (d.2.1 - (t + 1)) (ordF d fo nc ns ν).2 := by
              rw [show d.2.1 - t = (d.2.1 - (t + 1)) + 1 by omega, repF]
            rw [erep] at hl3
            refine r_if_ne (pc := 50) (tgt := 68) dX3_run_50 (by decide) (fun c_50 => ?_) (fun c_50 => ?_)
            · have hpos : 0 ≤ (ordF d fo nc ns ν).1 := of_decide_eq_true (bI_n0.mp c_50)
              rw [if_neg (fun z => absurd (Int32.lt_of_le_of_lt hpos z) Int32.lt_irrefl)] at hl3
              refine r_iinc (pc := 68) (v := _ + (1)) (lv' := [(0, _), (1, _), (2, _), (3, _)]) 3 dX3_run_68 rfl rfl (Nat.le_of_ble_eq_true rfl) rfl ?_
              refine r_goto (pc := 71) (tgt := 34) dX3_run_71 (by decide) ?_
              rw [nI_1]
              exact ih _ h3 fr3 (hL3 hpos) hl3
            · have hz : bI (decide (0 ≤ (ordF d fo nc ns ν).1)) = 0 := c_50
              have hneg : ¬ 0 ≤ (ordF d fo nc ns ν).1 := of_decide_eq_false (bI_0.mp hz)
              rw [if_pos (Int32.not_le.mp hneg)] at hl3
              have hl4 : (Sum.inl q : Nat ⊕ Mu) = F := hl3
              have hvh : PtV h3 (x + 59) (μ 2) := hv0.fr fr3 (fun i k hi => by unfold orS acS akS ptW psW; omega)
              have hpsh : PsV h3 (x + 69) nw (uF μ) (μ 6) (Sn μ) := hps0.fr fr3 (by unfold orS acS akS ptW psW; omega) (by unfold orS acS akS ptW psW; omega) (fun i k h1 h2 => by unfold orS acS akS ptW psW; omega)
              have r3 : ∀ i, i < 6 → hR h3 (x + 59 + 9) i = hR h (x + 3 + 9) i := fun i hi => (fr3.R (by unfold orS acS akS ptW psW; omega)).trans (r59 i hi)
              refine r_aload_n (pc := 53) 0 dX3_run_53 rfl ?_
              refine r_getR (pc := 54) fl_X3_9 (ca_88 hc3) (cf_88_0 hc3) dX3_run_54 ?_
              refine r_callV (pc := 57) (As := []) mv_X1_restore ml_X3_50 (c1_restore hc3 hvh (fun i hi t htt => (hA0 (hlaw i hi t (by rw [← r3 i hi]; exact htt))).fr fr3) hpsh) (ca_39 hc3) rfl rfl (Nat.le_of_ble_eq_true rfl) (Nat.le_of_ble_eq_true rfl) (Nat.le_of_ble_eq_true rfl) (Nat.le_of_ble_eq_true rfl) (Nat.le_of_ble_eq_true rfl) dX3_run_57 (fun r h4 hp => ?_)
              obtain ⟨rfl, f4, hv4, hl5, hps4⟩ := hp
              show Wp E mX3_run _ _ _ _ [] _ 0 0
              have hc4 := hc3.fr f4 (fun _ _ => csP_rs)
              refine r_aload_n (pc := 60) 0 dX3_run_60 rfl ?_
              refine r_iload_n (pc := 61) 2 dX3_run_61 rfl ?_
              refine r_putI (pc := 62) fp_X3_23 (ca_88 hc4) dX3_run_62 ?_
              refine r_bipush (pc := 65) (-3) dX3_run_65 rfl ?_
              refine r_iret (pc := 67) rfl ?_ (Nat.le_of_ble_eq_true rfl) (Nat.le_of_ble_eq_true rfl) dX3_run_67
              have f5 : Fr (fun a k => a = x + 88 ∧ (k = 3 ∨ k = 4 ∨ k = 5)) h4 (wI h4 (x + 88) 5 (nI q)) := Fr.wI ⟨rfl, Or.inr (Or.inr rfl)⟩
              refine ⟨⟨f0.tr ((fr3.mono (fun a k z => (Or.inl z : ruS x a k))).tr ((f4.mono (fun a k z => (Or.inr (Or.inr (Or.inl z)) : ruS x a k))).tr (f5.mono (fun a k z => (Or.inr (Or.inr (Or.inr z)) : ruS x a k))))), fun i hi => ?_⟩, ?_⟩
              · rw [f5.R (by omega), hl5 i hi]; exact r3 i hi
              · rw [← hl4]
                exact ⟨rfl, hv4.fr f5 (fun i k hi => by omega), ⟨nw, hps4.fr f5 (by omega) (by omega) (fun i k h1 h2 => by omega)⟩, hI_at⟩
        · intro ν hh fr hLh hl3
          have hch := hLh.1.1
          have e4 : hI hh (x + 27 + 2) q = nI d.2.1 := (fr.I (orS_27 (by omega))).trans g4
          refine r_iload_n (pc := 34) 3 dX3_run_34 rfl ?_
          refine r_aload_n (pc := 35) 1 dX3_run_35 rfl ?_
          refine r_getR (pc := 36) fl_X3_43 (tx_is (cs_tx27 hch)) (tx_f2 (cs_tx27 hch)) dX3_run_36 ?_
          refine r_iload_n (pc := 39) 2 dX3_run_39 rfl ?_
          refine r_iald (pc := 40) (j := q) (tx_r2 (cs_tx27 hch)) rfl (by omega) (by decide) dX3_run_40 ?_
          rw [e4]
          rw [Nat.sub_self] at hl3
          have hl4 : lisF fo nc ns rest (q + 1) ν = F := hl3
          refine r_icmp_ge (pc := 41) (tgt := 74) dX3_run_41 (by decide) (fun c_41 => ?_) (fun c_41 => ?_)
          · refine r_iinc (pc := 74) (v := _ + (1)) (lv' := [(0, _), (1, _), (2, _), (3, _)]) 2 dX3_run_74 rfl rfl (Nat.le_of_ble_eq_true rfl) rfl ?_
            refine r_goto (pc := 77) (tgt := 24) dX3_run_77 (by decide) ?_
            rw [nI_1]
            refine r_sub [0, 1, 2] rfl ?_
            exact IH (q + 1) ν hh hdr2 (by omega) fr hLh hl4
          · exact absurd (Int32.le_refl _) c_41
      have hch := hLh.1.1
      have hth := ht0.fr fr (fun i k hi => orS_27 hi)
      refine r_iload_n (pc := 24) 2 dX3_run_24 rfl ?_
      refine r_aload_n (pc := 25) 1 dX3_run_25 rfl ?_
      refine r_getI (pc := 26) fl_X3_38 (tx_is (cs_tx27 hch)) dX3_run_26 ?_
      rw [hth.1]
      refine r_icmp_ge (pc := 29) (tgt := 80) dX3_run_29 (by decide) (fun c_29 => ?_) (fun c_29 => ?_)
      · exact absurd c_29 (nI_ge hqlt (by omega))
      · refine r_iconst (pc := 32) (0) dX3_run_32 rfl ?_
        refine r_istore_n (pc := 33) (lv' := [(0, _), (1, _), (2, _), (3, _)]) dX3_run_33 (Nat.le_of_ble_eq_true rfl) rfl ?_
        exact inner 0 (by omega) ν hh fr hLh hl2
  exact outer ds 0 _ h0 rfl (by omega) Fr.rf hLo hF
end ORDERS2
