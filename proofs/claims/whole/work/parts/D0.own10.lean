/-! the class's own methods: row() -/
section OWN10
variable {E : En} {h h1 h2 : Hp} {x : Nat} {μ : Mu}
/-- the memory while a row is read: the tape's size stands, and what was kept is forgotten -/
def rwV (ν : Mu) (t : Nat) : Mu := up2 (up2 ν 0 13 (nI t)) 0 8 0
theorem rwV_ne {ν : Mu} {t o j : Nat} (hq : ¬ (o = 0 ∧ (j = 13 ∨ j = 8))) : rwV ν t o j = ν o j := by unfold rwV; rw [up2_ne (by omega), up2_ne (by omega)]
theorem rwV_o {ν : Mu} {t o : Nat} (ho : o ≠ 0) : rwV ν t o = ν o := by funext j; exact rwV_ne (by omega)
theorem come_ne {ν : Mu} {n : Nat} {a b c : Int32} {o j : Nat} (ho : o ≠ 2) : comeM ν n a b c o j = ν o j := by
  unfold comeM
  split
  · rw [up2_ne (by omega), up2_ne (by omega), up2_ne (by omega), up2_ne (by omega), up2_ne (by omega), up2_ne (by omega)]
  · rfl
theorem come_2 {ν ν' : Mu} {n : Nat} {a b c : Int32} (h2 : ν' 2 = ν 2) : comeM ν' n a b c 2 = comeM ν n a b c 2 := by
  unfold comeM
  split
  · funext j
    unfold up2
    simp only [true_and]
    rw [h2]
  · exact h2
theorem c11_row {nc ns nl sg t : Nat} (hr : CR E h x μ) (hg : GM μ nc ns nl sg) (ht : μ 0 13 = nI t) (h4 : t ≤ 400) : Ct E 2 0 0 mX11_row [.ref x] h (pCr E h x (.int (rowM μ t).1) (rowM μ t).2) := by
  have hc := hr.1
  have hsz := hr.sz ht
  refine Ct.of (by decide +kernel) (Nat.le_of_ble_eq_true rfl) ?_
  refine r_aload_n (pc := 0) 0 dX11_row_0 rfl ?_
  refine r_getR (pc := 1) fl_X11_31 (nl_is hc) (nl_f3 hc) dX11_row_1 ?_
  refine r_getI (pc := 4) fl_X11_194 (ca_24 hc) dX11_row_4 ?_
  rw [hsz]
  refine r_if_ne (pc := 7) (tgt := 17) dX11_row_7 (by decide) (fun c_7 => ?_) (fun c_7 => ?_)
  · have ht0 : ¬ t = 0 := fun z => c_7 (by rw [z]; rfl)
    rw [rowM, if_neg ht0]
    generalize hs0 : ((0 : Int32), up2 (up2 (up2 μ 0 0 0) 0 13 0) 0 11 0) = s0
    have hr0 : CR E (wI (wI h (x + 40) 3 0) x 11 0) x (rwV s0.2 t) := (hr.past0.cnt (Or.inl ⟨rfl, rfl⟩) 0).mu (fun o j hq => by
      rw [← hs0]
      dsimp only
      unfold rwV
      by_cases e1 : o = 0 ∧ j = 8
      · obtain ⟨rfl, rfl⟩ := e1; rw [up2_at, up2_ne (by omega), up2_at]
      · rw [up2_ne e1]
        by_cases e2 : o = 0 ∧ j = 13
        · obtain ⟨rfl, rfl⟩ := e2; rw [up2_at, up2_ne (by omega), up2_ne (by omega)]; exact ht.symm
        · rw [up2_ne e2]
          by_cases e3 : o = 0 ∧ j = 11
          · obtain ⟨rfl, rfl⟩ := e3; rw [up2_at, up2_at]
          · rw [up2_ne e3, up2_ne e3, up2_ne e1, up2_ne e2, up2_ne (by unfold obI at hq; omega)])
    have kp0 : Kp x h (wI (wI h (x + 40) 3 0) x 11 0) := (kp_wI (by omega)).tr (kp_wI (by omega))
    have hs01 : s0.1 = 0 := by rw [← hs0]
    have hgs : ∀ {hh : Hp} {ν : Mu}, CR E hh x (rwV ν t) → ∃ nc ns nl sg, GM (rwV ν t) nc ns nl sg ∧ cntF ν = nc := fun hq => by
      obtain ⟨a, b, c, d, g⟩ := hq.gm
      refine ⟨a, b, c, d, g, ?_⟩
      have e := g.1.1.1
      rw [rwV_o (by decide)] at e
      exact cnt_of e g.1.1.2.1
    refine r_aload_n (pc := 17) 0 dX11_row_17 rfl ?_
    refine r_getR (pc := 18) fl_X11_56 (nl_is hc) (nl_f6 hc) dX11_row_18 ?_
    refine r_dV0 (pc := 21) (As := []) mv_X1_forgetPast ml_X11_113 (c1_forgetPast hc) (ca_39 hc) rfl rfl (Nat.le_of_ble_eq_true rfl) (Nat.le_of_ble_eq_true rfl) (Nat.le_of_ble_eq_true rfl) (Nat.le_of_ble_eq_true rfl) (Nat.le_of_ble_eq_true rfl) dX11_row_21 ?_
    have hcp := hr.past0.1
    refine r_iconst (pc := 24) (0) dX11_row_24 rfl ?_
    refine r_istore_n (pc := 25) (lv' := [(0, _), (1, _)]) dX11_row_25 (Nat.le_of_ble_eq_true rfl) rfl ?_
    refine r_aload_n (pc := 26) 0 dX11_row_26 rfl ?_
    refine r_iconst (pc := 27) (0) dX11_row_27 rfl ?_
    refine r_putI (pc := 28) fp_X11_89 (nl_is hcp) dX11_row_28 ?_
    refine r_iconst (pc := 31) (0) dX11_row_31 rfl ?_
    refine r_istore_n (pc := 32) (lv' := [(0, _), (1, _), (2, _)]) dX11_row_32 (Nat.le_of_ble_eq_true rfl) rfl ?_
    generalize wI (wI h (x + 40) 3 0) x 11 0 = h0 at hr0 kp0 ⊢
    have fin : ∀ hh : Hp, CR E hh x (rwV (rowN t s0 ((t + 2) / 3)).2 t) → Kp x h hh → ∀ pl : Int32, Wp E mX11_row (Rm 2 0 0) (Qm E (pCr E h x (.int (rowN t s0 ((t + 2) / 3)).1) (settledM (rowN t s0 ((t + 2) / 3)).2 (rowN t s0 ((t + 2) / 3)).1)) 0 0) 74 [(0, .ref x), (1, .int (rowN t s0 ((t + 2) / 3)).1), (2, .int pl)] [] hh 0 0 := by
      intro hh hq kp pl
      have hch := hq.1
      have hcs := (hq.size (t := 0) (by omega)).1
      obtain ⟨hcnt, q, hq1, eq1⟩ := rowN_ok (t := t) (s := s0) (by
        obtain ⟨a, b, c, d, g, -⟩ := hgs hr0
        have e := g.1.1.1
        rw [rwV_o (by decide)] at e
        exact ⟨a, g.1.1.2.1, e⟩) hs01 ((t + 2) / 3)
      have h13 : (rowN t s0 ((t + 2) / 3)).2 0 13 = 0 := by
        have key : ∀ n, (rowN t s0 n).2 0 13 = 0 := by
          intro n
          induction n with
          | zero => show s0.2 0 13 = 0; rw [← hs0]; show up2 (up2 (up2 μ 0 0 0) 0 13 0) 0 11 0 0 13 = 0; rw [up2_ne (by omega), up2_at]
          | succ n ih =>
            show (rowS t n (rowN t s0 n)).2 0 13 = 0
            unfold rowS
            split
            · dsimp only; rw [come_ne (by decide)]; exact ih
            · dsimp only; rw [up2_ne (by omega)]; exact ih
        exact key _
      have hst : CR E (wI hh (x + 24) 1 0) x (up2 (rowN t s0 ((t + 2) / 3)).2 0 8 0) := (hq.size (t := 0) (by omega)).mu (fun o j _ => by
        unfold rwV
        by_cases e1 : o = 0 ∧ j = 8
        · obtain ⟨rfl, rfl⟩ := e1; rw [up2_at, up2_ne (by omega), up2_at]
        · rw [up2_ne e1]
          by_cases e2 : o = 0 ∧ j = 13
          · obtain ⟨rfl, rfl⟩ := e2; rw [up2_at, h13]; rfl
          · rw [up2_ne e2, up2_ne e1, up2_ne e2])
      refine r_aload_n (pc := 74) 0 dX11_row_74 rfl ?_
      refine r_getR (pc := 75) fl_X11_31 (nl_is hch) (nl_f3 hch) dX11_row_75 ?_
      refine r_iconst (pc := 78) (0) dX11_row_78 rfl ?_
      refine r_putI (pc := 79) fp_X11_194 (ca_24 hch) dX11_row_79 ?_
      have hc8 := hst.1
      refine r_aload_n (pc := 82) 0 dX11_row_82 rfl ?_
      refine r_iload_n (pc := 83) 1 dX11_row_83 rfl ?_
      refine r_dV (pc := 84) (As := [_]) mv_X11_allowed ml_X11_120 (c11_allowed hc8 _) (nl_is hc8) rfl rfl (Nat.le_of_ble_eq_true rfl) (Nat.le_of_ble_eq_true rfl) (Nat.le_of_ble_eq_true rfl) (Nat.le_of_ble_eq_true rfl) (Nat.le_of_ble_eq_true rfl) dX11_row_84 ?_
      refine r_iret (pc := 87) rfl ?_ (Nat.le_of_ble_eq_true rfl) (Nat.le_of_ble_eq_true rfl) dX11_row_87
      rw [eq1] at ⊢
      have hlen : q ≤ 200 := by omega
      rw [settledM, if_neg (Int32.not_lt.mpr (nI_pos' (by omega)))]
      have htl := hst.tell (nI q) (t_p (nI_pos' (by omega)))
      rw [toH_p (Int32.not_lt.mpr (nI_pos' (by omega)))] at htl
      exact ⟨rfl, htl, (kp.tr (kp_wI (by omega))).tr (kp_wI (by omega))⟩
    have loop : ∀ i, i ≤ (t + 2) / 3 → ∀ hh : Hp, CR E hh x (rwV (rowN t s0 i).2 t) → Kp x h hh → Wp E mX11_row (Rm 2 0 0) (Qm E (pCr E h x (.int (rowN t s0 ((t + 2) / 3)).1) (settledM (rowN t s0 ((t + 2) / 3)).2 (rowN t s0 ((t + 2) / 3)).1)) 0 0) 33 [(0, .ref x), (1, .int (rowN t s0 i).1), (2, .int (nI (3 * i)))] [] hh 0 0 := by
      refine upTo (fun i hi ih => ?_) ?_
      · intro hh hq kp
        have hch := hq.1
        have hszh : hI hh (x + 24) 1 = nI t := hq.sz (by unfold rwV; rw [up2_ne (by omega), up2_at])
        obtain ⟨nc1, ns1, nl1, sg1, hg1, ecn⟩ := hgs hq
        have e9 := rwV_o (ν := (rowN t s0 i).2) (t := t) (o := 9) (by decide)
        have e13 : rwV (rowN t s0 i).2 t 0 13 = nI t := by unfold rwV; rw [up2_ne (by omega), up2_at]
        refine r_iload_n (pc := 33) 2 dX11_row_33 rfl ?_
        refine r_aload_n (pc := 34) 0 dX11_row_34 rfl ?_
        refine r_getR (pc := 35) fl_X11_31 (nl_is hch) (nl_f3 hch) dX11_row_35 ?_
        refine r_getI (pc := 38) fl_X11_194 (ca_24 hch) dX11_row_38 ?_
        rw [hszh]
        refine r_icmp_ge (pc := 41) (tgt := 74) dX11_row_41 (by decide) (fun c_41 => ?_) (fun c_41 => ?_)
        · exact absurd c_41 (nI_ge (by omega) (by omega))
        · refine r_aload_n (pc := 44) 0 dX11_row_44 rfl ?_
          refine r_iload_n (pc := 45) 2 dX11_row_45 rfl ?_
          refine r_callV (pc := 46) (As := [_]) mv_X11_cameFrom ml_X11_197 (c11_cameFrom hq hg1 e13 h4 (by omega)) (nl_is hch) rfl rfl (Nat.le_of_ble_eq_true rfl) (Nat.le_of_ble_eq_true rfl) (Nat.le_of_ble_eq_true rfl) (Nat.le_of_ble_eq_true rfl) (Nat.le_of_ble_eq_true rfl) dX11_row_46 (fun r h3 hp => ?_)
          obtain ⟨b, eb, rfl, hr3, kp3⟩ := hp
          show Wp E mX11_row _ _ _ _ [.int _] _ 0 0
          rw [e9] at eb hr3
          have hc3 := hr3.1
          cases b with
          | true =>
            have hcond := of_decide_eq_true eb.symm
            have eS : rowN t s0 (i + 1) = ((rowN t s0 i).1 + 1, comeM (rowN t s0 i).2 nc1 ((rowN t s0 i).2 9 (3 * i)) ((rowN t s0 i).2 9 (3 * i + 1)) ((rowN t s0 i).2 9 (3 * i + 2))) := by
              show rowS t i (rowN t s0 i) = _
              unfold rowS
              rw [ecn, if_pos hcond]
            rw [eS] at ih
            rw [if_pos rfl] at hr3
            refine r_if_eq (pc := 49) (tgt := 58) dX11_row_49 (by decide) (fun c_49 => ?_) (fun c_49 => ?_)
            · exact absurd (show (1 : Int32) = 0 from c_49) (by decide)
            · refine r_iinc (pc := 52) (v := _ + (1)) (lv' := [(0, _), (1, _), (2, _)]) 1 dX11_row_52 rfl rfl (Nat.le_of_ble_eq_true rfl) rfl ?_
              refine r_goto (pc := 55) (tgt := 68) dX11_row_55 (by decide) ?_
              refine r_iinc (pc := 68) (v := _ + (3)) (lv' := [(0, _), (1, _), (2, _)]) 2 dX11_row_68 rfl rfl (Nat.le_of_ble_eq_true rfl) rfl ?_
              refine r_goto (pc := 71) (tgt := 33) dX11_row_71 (by decide) ?_
              rw [show nI (3 * i) + 3 = nI (3 * (i + 1)) from by rw [show 3 * (i + 1) = 3 * i + 3 by omega]; exact nI_add _ 3]
              refine ih h3 (hr3.mu (fun o j _ => ?_)) (kp.tr kp3)
              by_cases h2 : o = 2
              · subst h2
                rw [rwV_ne (by omega)]
                exact congrFun (come_2 (rwV_o (by decide))).symm j
              · rw [come_ne h2]
                dsimp only
                unfold rwV
                unfold up2
                rw [come_ne h2]
          | false =>
            have hcond := of_decide_eq_false eb.symm
            have eS : rowN t s0 (i + 1) = ((rowN t s0 i).1, up2 (rowN t s0 i).2 0 11 ((rowN t s0 i).2 0 11 + 1)) := by
              show rowS t i (rowN t s0 i) = _
              unfold rowS
              rw [ecn, if_neg hcond]
            rw [eS] at ih
            rw [if_neg (by decide)] at hr3
            have e11 : hI h3 x 11 = (rowN t s0 i).2 0 11 := by
              have := hr3.2.2.2.2.2.1.1.1
              rw [rwV_ne (by omega)] at this; exact this
            refine r_if_eq (pc := 49) (tgt := 58) dX11_row_49 (by decide) (fun c_49 => ?_) (fun c_49 => ?_)
            · refine r_aload_n (pc := 58) 0 dX11_row_58 rfl ?_
              refine r_dup (pc := 59) dX11_row_59 rfl ?_
              refine r_getI (pc := 60) fl_X11_89 (nl_is hc3) dX11_row_60 ?_
              rw [e11]
              refine r_iconst (pc := 63) (1) dX11_row_63 rfl ?_
              refine r_iadd (pc := 64) dX11_row_64 ?_
              refine r_putI (pc := 65) fp_X11_89 (nl_is hc3) dX11_row_65 ?_
              refine r_iinc (pc := 68) (v := _ + (3)) (lv' := [(0, _), (1, _), (2, _)]) 2 dX11_row_68 rfl rfl (Nat.le_of_ble_eq_true rfl) rfl ?_
              refine r_goto (pc := 71) (tgt := 33) dX11_row_71 (by decide) ?_
              rw [show nI (3 * i) + 3 = nI (3 * (i + 1)) from by rw [show 3 * (i + 1) = 3 * i + 3 by omega]; exact nI_add _ 3]
              refine ih _ ((hr3.cnt (Or.inl ⟨rfl, rfl⟩) _).mu (fun o j _ => ?_)) ((kp.tr kp3).tr (kp_wI (by omega)))
              dsimp only
              unfold rwV
              by_cases e3 : o = 0 ∧ j = 11
              · obtain ⟨rfl, rfl⟩ := e3; rw [up2_at, up2_ne (by omega), up2_ne (by omega), up2_at]
              · rw [up2_ne (a := 0) (k := 11) e3]
                unfold up2
                rw [if_neg e3]
            · exact absurd rfl c_49
      · intro hh hq kp
        have hch := hq.1
        have hszh : hI hh (x + 24) 1 = nI t := hq.sz (by unfold rwV; rw [up2_ne (by omega), up2_at])
        refine r_iload_n (pc := 33) 2 dX11_row_33 rfl ?_
        refine r_aload_n (pc := 34) 0 dX11_row_34 rfl ?_
        refine r_getR (pc := 35) fl_X11_31 (nl_is hch) (nl_f3 hch) dX11_row_35 ?_
        refine r_getI (pc := 38) fl_X11_194 (ca_24 hch) dX11_row_38 ?_
        rw [hszh]
        refine r_icmp_ge (pc := 41) (tgt := 74) dX11_row_41 (by decide) (fun c_41 => ?_) (fun c_41 => ?_)
        · exact fin hh hq kp _
        · exact absurd (nI_le (a := t) (b := 3 * ((t + 2) / 3)) (by omega) (by omega)) c_41
    have h00 := loop 0 (by omega) h0 hr0 kp0
    rw [show (rowN t s0 0).1 = 0 from hs01] at h00
    exact h00
  · have ht0 : t = 0 := (nI_z (by omega)).mp c_7
    rw [rowM, if_pos ht0]
    refine r_aload_n (pc := 10) 0 dX11_row_10 rfl ?_
    refine r_bipush (pc := 11) (-6) dX11_row_11 rfl ?_
    refine r_dV (pc := 13) (As := [_]) mv_X11_refused ml_X11_106 (c11_refused hc (-6) (j := 6) (by decide) (by decide) (by decide)) (nl_is hc) rfl rfl (Nat.le_of_ble_eq_true rfl) (Nat.le_of_ble_eq_true rfl) (Nat.le_of_ble_eq_true rfl) (Nat.le_of_ble_eq_true rfl) (Nat.le_of_ble_eq_true rfl) dX11_row_13 ?_
    refine r_iret (pc := 16) rfl ?_ (Nat.le_of_ble_eq_true rfl) (Nat.le_of_ble_eq_true rfl) dX11_row_16
    refine ⟨rfl, ?_, kp_to⟩
    have hz : CR E h x (up2 (up2 μ 0 0 0) 0 13 0) := hr.th.mu (fun o j _ => by
      by_cases e2 : o = 0 ∧ j = 13
      · obtain ⟨rfl, rfl⟩ := e2; rw [up2_at, up2_ne (by omega), ht, ht0]; rfl
      · rw [up2_ne e2])
    exact hz.tell _ t_6
end OWN10
