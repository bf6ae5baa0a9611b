/-! the reference: one order, once -/
section RUN12B
variable {E : En} {h : Hp} {m : Nat} {μ : Mu} {l : La}
def ifO (s : Option Sm) (e : Nat → Int64) : Bool := match s with
  | none => true
  | some s => match s e with
    | none => false
    | some v => decide (¬ v.toInt32 = 0)
def runA (d : Od) (fo : Option (List Cl)) (nc ns : Nat) (μ : Mu) (a b : Int32) : Int32 × Mu := if actV (μ 2) fo nc ns d.1 a b < 0 then (-3, actM μ fo nc ns d.1 a b) else (0, up2 (up2 (actM μ fo nc ns d.1 a b) 0 54 (if d.1 = 1 then actV (μ 2) fo nc ns d.1 a b else μ 0 54)) 0 53 (μ 0 53 + 1))
def ordF (d : Od) (fo : Option (List Cl)) (nc ns : Nat) (μ : Mu) : Int32 × Mu :=
  if ifO d.2.2.1 (ordE (μ 2) (μ 0 53) (μ 0 54) nc ns) = true then
    (if d.1 = 3 then runA d fo nc ns μ (-1) (-1) else match d.2.2.2.1 (ordE (μ 2) (μ 0 53) (μ 0 54) nc ns) with
      | none => (-3, μ)
      | some x => match d.2.2.2.2 (ordE (μ 2) (μ 0 53) (μ 0 54) nc ns) with
        | none => (-3, μ)
        | some y => runA d fo nc ns μ x.toInt32 y.toInt32)
  else (0, μ)
theorem uF_sw {μ' : Mu} {l' : La} (hS : Sw μ l μ' l') : uF μ' = uF μ := by unfold uF; rw [hS.f (by decide) (by decide) (by decide)]
theorem Sw.act {μ' : Mu} {l' : La} (hS : Sw μ l μ' l') (fo : Option (List Cl)) (nc ns : Nat) (k a b : Int32) : Sw (actM μ fo nc ns k a b) l (actM μ' fo nc ns k a b) l' := by
  unfold actM
  rw [uF_sw hS, hS.row]
  split
  · unfold signM
    split
    · exact Sw.up (Sw.rem hS _ _) _ _ _
    · exact hS
  · split
    · unfold dieM
      split
      · exact Sw.dieIt (Sw.rem hS _ _) _ _
      · exact hS
    · split
      · unfold clipM
        split
        · exact Sw.up (Sw.rem hS _ _) _ _ _
        · exact hS
      · split
        · exact hS
        · exact Sw.cR (Sw.rem hS _ _) _
theorem Mx_row {μ' : Mu} {fo : Option (List Cl)} {nc ns : Nat} (hx : Mx μ fo nc ns) (h20 : μ' 0 20 = μ 0 20) (hr : ∀ j, (j < 5 ∨ 50 ≤ j) → μ' 2 j = μ 2 j) : Mx μ' fo nc ns := by
  obtain ⟨h1, h2, h3, h4, h5, h6⟩ := hx
  exact ⟨h20.trans h1, FoOK_cong (hr 4 (by omega)) (fun j hj => hr j (Or.inr hj)) h2, (hr 0 (by omega)).trans h3, h4, (hr 1 (by omega)).trans h5, h6⟩
theorem JR_sw {μ' : Mu} {l' : La} {fo : Option (List Cl)} {nc ns : Nat} (hJ : JR μ fo nc ns) (hS : Sw μ l μ' l') : JR μ' fo nc ns := by
  obtain ⟨hx, hu, he⟩ := hJ
  refine ⟨Mx_row hx (hS.f (by decide) (by decide) (by decide)) (fun j _ => by rw [hS.row]), ?_, fun k hk => by rw [hS.row]; exact he k hk⟩
  rw [uF_sw hS, hS.f (by decide) (by decide) (by decide)]
  exact hu
/-- what an act leaves alone -/
theorem rem_keep {u : Nat} {s : Int32} (h16 : u ≤ 16) {o j : Nat} (hq : (o = 0 ∧ j ≠ 8) ∨ (o = 5 ∧ 528 ≤ j) ∨ (o = 6 ∧ 16 ≤ j) ∨ (o ≠ 0 ∧ o ≠ 5 ∧ o ≠ 6)) : remM μ u s o j = μ o j := by
  have hU : remU u ≤ 15 := by unfold remU; split <;> omega
  unfold remM
  rw [up2_ne (by omega), up2_ne (by omega)]
  unfold keepN
  rw [if_neg (by omega)]
  unfold remA
  split
  · rw [up2_ne (by omega)]; unfold shK; rw [if_neg (by omega)]; unfold shN; rw [if_neg (by omega)]
  · rfl
theorem sign_c {r : Nat → Int32} {fo : Option (List Cl)} {nc ns : Nat} {a b : Int32} (h6 : nc ≤ 6) (hv : 0 ≤ signV r fo nc ns a b) : a.toNatClampNeg < nc := by
  unfold signV at hv
  split at hv
  · next hc =>
    obtain ⟨k, hk, rfl⟩ := inN_of (by omega) hc.1
    rw [nI_clamp (by omega)]; exact hk
  · exact absurd hv (by decide)
theorem die_c {r : Nat → Int32} {nc : Nat} {a b : Int32} (h6 : nc ≤ 6) (hv : 0 ≤ dieV r nc a b) : a.toNatClampNeg < nc := by
  unfold dieV at hv
  split at hv
  · split at hv
    · next hc =>
      obtain ⟨k, hk, rfl⟩ := inN_of (by omega) hc
      rw [nI_clamp (by omega)]; exact hk
    · exact absurd hv (by decide)
  · exact absurd hv (by decide)
theorem clip_c {r : Nat → Int32} {nc : Nat} {a b : Int32} (h6 : nc ≤ 6) (hv : 0 ≤ clipV r nc a b) : a.toNatClampNeg < nc ∧ 0 ≤ b := by
  unfold clipV at hv
  split at hv
  · next hb =>
    obtain ⟨x, hx, rfl⟩ := inN_of (by omega) hb
    split at hv
    · next hc =>
      obtain ⟨k, hk, rfl⟩ := inN_of (by omega) hc
      rw [nI_clamp (by omega)]; exact ⟨hk, nI_pos' (by omega)⟩
    · exact absurd hv (by decide)
  · exact absurd hv (by decide)
theorem act_keep {fo : Option (List Cl)} {nc ns : Nat} {k a b : Int32} (h16 : uF μ ≤ 16) (h6 : nc ≤ 6) {o j : Nat} (hq : (o = 0 ∧ j ≠ 8) ∨ (o = 5 ∧ 528 ≤ j) ∨ (o = 6 ∧ 16 ≤ j) ∨ (o = 2 ∧ (j < 5 ∨ 38 ≤ j)) ∨ (o ≠ 0 ∧ o ≠ 2 ∧ o ≠ 5 ∧ o ≠ 6)) : actM μ fo nc ns k a b o j = μ o j := by
  unfold actM
  split
  · unfold signM
    split
    · next hv => have := sign_c h6 hv; rw [up2_ne (by omega)]; exact rem_keep h16 (by omega)
    · rfl
  · split
    · unfold dieM
      split
      · next hv =>
        have := die_c h6 hv
        unfold dieItM
        rw [up2_ne (by omega), up2_ne (by omega), up2_ne (by omega)]; exact rem_keep h16 (by omega)
      · rfl
    · split
      · unfold clipM
        split
        · next hv => have := (clip_c h6 hv).1; rw [up2_ne (by omega)]; exact rem_keep h16 (by omega)
        · rfl
      · split
        · rfl
        · by_cases h2 : o = 2
          · subst h2
            rw [setR_2]
            unfold passR passK
            rw [va_up_ne _ _ (by omega), if_neg (by omega)]
          · rw [setR_ne h2]; exact rem_keep h16 (by omega)
theorem rem_u {u : Nat} {s : Int32} (h16 : u ≤ 16) : uF (remM μ u s) = remU u + 1 ∧ remM μ u s 0 8 = nI (remU u + 1) ∧ remU u + 1 ≤ 16 := by
  have hU : remU u ≤ 15 := by unfold remU; split <;> omega
  have e8 : remM μ u s 0 8 = nI (remU u + 1) := by unfold remM; exact up2_at
  exact ⟨by unfold uF; rw [e8, nI_clamp (by omega)], e8, by omega⟩
theorem act_u {fo : Option (List Cl)} {nc ns : Nat} {k a b : Int32} (h8 : μ 0 8 = nI (uF μ)) (h16 : uF μ ≤ 16) : actM μ fo nc ns k a b 0 8 = nI (uF (actM μ fo nc ns k a b)) ∧ uF (actM μ fo nc ns k a b) ≤ 16 := by
  have key : ∀ (ρ : Mu) (s : Int32), ρ 0 8 = remM μ (uF μ) s 0 8 → ρ 0 8 = nI (uF ρ) ∧ uF ρ ≤ 16 := by
    intro ρ s e
    obtain ⟨_, g2, g3⟩ := rem_u (μ := μ) (s := s) h16
    rw [g2] at e
    have : uF ρ = remU (uF μ) + 1 := by show (ρ 0 8).toNatClampNeg = _; rw [e, nI_clamp (by omega)]
    rw [this]; exact ⟨e, g3⟩
  unfold actM
  split
  · unfold signM
    split
    · exact key _ 0 (up2_ne (by omega))
    · exact ⟨h8, h16⟩
  · split
    · unfold dieM
      split
      · refine key _ 1 ?_
        unfold dieItM
        rw [up2_ne (by omega), up2_ne (by omega), up2_ne (by omega)]
      · exact ⟨h8, h16⟩
    · split
      · unfold clipM
        split
        · exact key _ 2 (up2_ne (by omega))
        · exact ⟨h8, h16⟩
      · split
        · exact ⟨h8, h16⟩
        · exact key _ 3 (by rw [setR_ne (by decide)])
theorem JR_act {fo : Option (List Cl)} {nc ns : Nat} {k a b : Int32} (hJ : JR μ fo nc ns) : JR (actM μ fo nc ns k a b) fo nc ns := by
  obtain ⟨hx, hu, he⟩ := hJ
  have h6 := hx.2.2.2.1
  refine ⟨Mx_row hx (act_keep hu.2 h6 (by omega)) (fun j hj => act_keep hu.2 h6 (by omega)), act_u hu.1 hu.2, fun c hc => ?_⟩
  have hr : ∀ s, remM μ (uF μ) s 2 = μ 2 := fun s => remM_2 _ _ _
  unfold actM
  split
  · unfold signM
    split
    · next hv => have := sign_c h6 hv; rw [up2_ne (by omega), hr]; exact he c hc
    · exact he c hc
  · split
    · unfold dieM
      split
      · next hv =>
        have := die_c h6 hv
        unfold dieItM
        rw [up2_ne (by omega), up2_ne (by omega), up2_ne (by omega), hr]; exact he c hc
      · exact he c hc
    · split
      · unfold clipM
        split
        · next hv =>
          obtain ⟨z1, z2⟩ := clip_c h6 hv
          by_cases hcc : c = a.toNatClampNeg
          · rw [hcc, up2_at]; exact z2
          · rw [up2_ne (by omega), hr]; exact he c hc
        · exact he c hc
      · split
        · exact he c hc
        · rw [setR_2]
          unfold passR passK
          rw [va_up_ne _ _ (by omega), if_neg (by omega)]; exact he c hc
/-- the four words of orders that are laid ahead -/
def nowL (r : Nat → Int32) (done latest : Int32) (nc : Nat) (l : La) : La := up2 (up2 (up2 (up2 l 19 1 (r 5).toInt64) 19 2 done.toInt64) 19 3 latest.toInt64) 19 4 (onesN (aliveN r nc) 9).toInt64
theorem nowL_sw (r : Nat → Int32) (done latest : Int32) (nc : Nat) : Sw μ l μ (nowL r done latest nc l) := ⟨fun _ _ _ => rfl, fun o j hq => by
  have h19 : o ≠ 19 := fun z => hq (Or.inr (Or.inl z))
  unfold nowL
  rw [up2_ne (by omega), up2_ne (by omega), up2_ne (by omega), up2_ne (by omega)]⟩
theorem nowL_OK (r : Nat → Int32) (done latest : Int32) (nc ns : Nat) : LfOK true (ordE r done latest nc ns) (lfO r (nowL r done latest nc l 19) nc ns) := by
  refine lfO_OK ?_ ?_ ?_ ?_
  · unfold nowL; rw [up2_ne (by omega), up2_ne (by omega), up2_ne (by omega), up2_at]
  · unfold nowL; rw [up2_ne (by omega), up2_ne (by omega), up2_at]
  · unfold nowL; rw [up2_ne (by omega), up2_at]
  · unfold nowL; rw [up2_at]
theorem ct_run (hm : Md E h m) {fo : Option (List Cl)} {nc ns q hi : Nat} (hJ : JR μ fo nc ns) {d : Od} (hd : NOr (μ 32) (μ 11) (μ 12) q d hi) (hhi : hi ≤ 400) (hq : q < 12) : Ct E 9 0 0 mX12_run [.ref m, .int (nI (8 * q))] (mH h m μ l) (pW h m (ordF d fo nc ns μ).2 l (some (.int (ordF d fo nc ns μ).1))) := by
  have hJ0 := hJ
  obtain ⟨⟨h20, hfo, hnc, h6, hns, h3⟩, hu, hear⟩ := hJ
  obtain ⟨a1, b1, a3, b3, a5, b5, g1, g2, g3, g4, g5, g6, ⟨kk, hk4, hdk⟩, e0, e1, e2, e3, e4, e5, e6, e7, ht20, hif, hsm, hps⟩ := hd
  refine Ct.of (by decide +kernel) (Nat.le_of_ble_eq_true rfl) ?_
  generalize hee : ordE (μ 2) (μ 0 53) (μ 0 54) nc ns = e
  generalize hl1 : nowL (μ 2) (μ 0 53) (μ 0 54) nc l = l1
  have hlf : LfOK true e (lfO (μ 2) (l1 19) nc ns) := by rw [← hee, ← hl1]; exact nowL_OK _ _ _ _ _
  have at121 : ∀ (ν : Mu) (κ : La) (a b : Int32), Sw μ l ν κ → ordF d fo nc ns μ = runA d fo nc ns μ a b → Wp E mX12_run (Rm 9 0 0) (Qm E (pW h m (ordF d fo nc ns μ).2 l (some (.int (ordF d fo nc ns μ).1))) 0 0) 121 [(0, .ref m), (1, .int (nI (8 * q))), (2, .int a), (3, .int b)] [] (mH h m ν κ) 0 0 := by
    intro ν κ a b hS hrun
    rw [hrun]
    unfold runA
    have hJν := JR_sw hJ0 hS
    have e32 : ν 32 = μ 32 := hS.cell (by unfold isScr; omega)
    refine r_aload_n (pc := 121) 0 dX12_run_121 rfl ?_
    refine r_aload_n (pc := 122) 0 dX12_run_122 rfl ?_
    refine q_getR (pc := 123) fl_X12_149 hm (md_f52 hm) dX12_run_123 ?_
    refine r_iload_n (pc := 126) 1 dX12_run_126 rfl ?_
    refine q_iald (pc := 127) (j := 8 * q) (md_r52 hm) (by decide) rfl (by omega) (by decide) dX12_run_127 ?_
    refine r_iload_n (pc := 128) 2 dX12_run_128 rfl ?_
    refine r_iload_n (pc := 129) 3 dX12_run_129 rfl ?_
    rw [e32, e0, hdk]
    refine r_callV (pc := 130) (As := [_, _, _]) mv_X12_act ml_X12_516 (ct_act hm hJν hk4 a b) (q_is hm) rfl rfl (Nat.le_of_ble_eq_true rfl) (Nat.le_of_ble_eq_true rfl) (Nat.le_of_ble_eq_true rfl) (Nat.le_of_ble_eq_true rfl) (Nat.le_of_ble_eq_true rfl) dX12_run_130 (fun r h1 hp => ?_)
    obtain ⟨ν2, κ2, hS2, rfl, rfl⟩ := hp
    rw [← hdk] at hS2 ⊢
    have hS3 := (Sw.act hS fo nc ns d.1 a b).tr hS2
    rw [hS.row]
    generalize hv : actV (μ 2) fo nc ns d.1 a b = v at hS3 ⊢
    show Wp E mX12_run _ _ _ _ [.int _] _ 0 0
    refine r_istore (pc := 133) (lv' := [(0, _), (1, _), (2, _), (3, _), (4, _)]) dX12_run_133 (Nat.le_of_ble_eq_true rfl) rfl ?_
    refine r_iload (pc := 135) 4 dX12_run_135 rfl ?_
    refine r_if_ge (pc := 137) (tgt := 143) dX12_run_137 (by decide) (fun c_137 => ?_) (fun c_137 => ?_)
    · rw [if_neg (Int32.not_lt.mpr c_137)]
      have fin : ∀ w : Int32, w = (if d.1 = 1 then v else μ 0 54) → Wp E mX12_run (Rm 9 0 0) (Qm E (pW h m (ordF d fo nc ns μ).2 l (some (.int (ordF d fo nc ns μ).1))) 0 0) 163 [(0, .ref m), (1, .int (nI (8 * q))), (2, .int a), (3, .int b), (4, .int v)] [.int w, .ref m] (mH h m ν2 κ2) 0 0 := by
        rintro w rfl
        rw [hrun]
        unfold runA
        rw [hv, if_neg (Int32.not_lt.mpr c_137)]
        refine q_putI (pc := 163) fp_X12_510 hm dX12_run_163 ?_
        refine r_aload_n (pc := 166) 0 dX12_run_166 rfl ?_
        refine r_dup (pc := 167) dX12_run_167 rfl ?_
        refine q_getI (pc := 168) fl_X12_507 hm dX12_run_168 ?_
        refine r_iconst (pc := 171) (1) dX12_run_171 rfl ?_
        refine r_iadd (pc := 172) dX12_run_172 ?_
        refine q_putI (pc := 173) fp_X12_507 hm dX12_run_173 ?_
        refine r_iconst (pc := 176) (0) dX12_run_176 rfl ?_
        refine r_iret (pc := 177) rfl ?_ (Nat.le_of_ble_eq_true rfl) (Nat.le_of_ble_eq_true rfl) dX12_run_177
        refine ⟨_, κ2, ?_, rfl, rfl⟩
        have e53 : ν2 0 53 = μ 0 53 := by
          rw [hS3.f (by decide) (by decide) (by decide)]
          exact act_keep hu.2 h6 (by omega)
        rw [up2_ne (by omega), e53]
        exact Sw.up (Sw.up hS3 _ _ _) _ _ _
      have e54 : ν2 0 54 = μ 0 54 := by
        rw [hS3.f (by decide) (by decide) (by decide)]
        exact act_keep hu.2 h6 (by omega)
      have f32 : ν2 32 = μ 32 := by
        funext j
        rw [hS3.cell (by unfold isScr; omega)]
        exact act_keep hu.2 h6 (by omega)
      rw [hrun] at fin
      unfold runA at fin
      rw [hv, if_neg (Int32.not_lt.mpr c_137)] at fin
      refine r_aload_n (pc := 143) 0 dX12_run_143 rfl ?_
      refine r_aload_n (pc := 144) 0 dX12_run_144 rfl ?_
      refine q_getR (pc := 145) fl_X12_149 hm (md_f52 hm) dX12_run_145 ?_
      refine r_iload_n (pc := 148) 1 dX12_run_148 rfl ?_
      refine q_iald (pc := 149) (j := 8 * q) (md_r52 hm) (by decide) rfl (by omega) (by decide) dX12_run_149 ?_
      refine r_iconst (pc := 150) (1) dX12_run_150 rfl ?_
      refine r_icmp_ne (pc := 151) (tgt := 159) dX12_run_151 (by decide) (fun c_151 => ?_) (fun c_151 => ?_)
      · rw [f32, e0] at c_151
        refine r_aload_n (pc := 159) 0 dX12_run_159 rfl ?_
        refine q_getI (pc := 160) fl_X12_510 hm dX12_run_160 ?_
        exact fin _ (by rw [if_neg c_151]; exact e54)
      · rw [f32, e0] at c_151
        refine r_iload (pc := 154) 4 dX12_run_154 rfl ?_
        refine r_goto (pc := 156) (tgt := 163) dX12_run_156 (by decide) ?_
        exact fin _ (by rw [if_pos c_151])
    · rw [if_pos (Int32.not_le.mp c_137)]
      refine r_bipush (pc := 140) (-3) dX12_run_140 rfl ?_
      refine r_iret (pc := 142) rfl ?_ (Nat.le_of_ble_eq_true rfl) (Nat.le_of_ble_eq_true rfl) dX12_run_142
      exact ⟨ν2, κ2, hS3, rfl, rfl⟩
  have e82 : nI (8 * q) + 1 = nI (8 * q + 1) := nI_1 _
  have e83 : nI (8 * q) + 3 = nI (8 * q + 3) := by simp only [fa_lit, nI_add]
  have at111 : ∀ (ν : Mu) (κ : La) (a b : Int32), Sw μ l ν κ → ¬ ν 0 56 = 0 → ordF d fo nc ns μ = (-3, μ) → Wp E mX12_run (Rm 9 0 0) (Qm E (pW h m (ordF d fo nc ns μ).2 l (some (.int (ordF d fo nc ns μ).1))) 0 0) 111 [(0, .ref m), (1, .int (nI (8 * q))), (2, .int a), (3, .int b)] [] (mH h m ν κ) 0 0 := by
    intro ν κ a b hS h56 hrun
    rw [hrun]
    refine r_aload_n (pc := 111) 0 dX12_run_111 rfl ?_
    refine q_getI (pc := 112) fl_X12_504 hm dX12_run_112 ?_
    refine r_if_eq (pc := 115) (tgt := 121) dX12_run_115 (by decide) (fun c_115 => ?_) (fun c_115 => ?_)
    · exact absurd c_115 h56
    · refine r_bipush (pc := 118) (-3) dX12_run_118 rfl ?_
      refine r_iret (pc := 120) rfl ?_ (Nat.le_of_ble_eq_true rfl) (Nat.le_of_ble_eq_true rfl) dX12_run_120
      exact ⟨ν, κ, hS, rfl, rfl⟩
  have go111 : ∀ (ν : Mu) (κ : La) (a b : Int32), Sw μ l ν κ → ν 0 56 = 0 → ordF d fo nc ns μ = runA d fo nc ns μ a b → Wp E mX12_run (Rm 9 0 0) (Qm E (pW h m (ordF d fo nc ns μ).2 l (some (.int (ordF d fo nc ns μ).1))) 0 0) 111 [(0, .ref m), (1, .int (nI (8 * q))), (2, .int a), (3, .int b)] [] (mH h m ν κ) 0 0 := by
    intro ν κ a b hS h56 hrun
    have h121 := at121 ν κ a b hS hrun
    refine r_aload_n (pc := 111) 0 dX12_run_111 rfl ?_
    refine q_getI (pc := 112) fl_X12_504 hm dX12_run_112 ?_
    refine r_if_eq (pc := 115) (tgt := 121) dX12_run_115 (by decide) (fun c_115 => ?_) (fun c_115 => ?_)
    · exact h121
    · exact absurd h56 c_115
  have at95 : ∀ (ν : Mu) (κ : La), Sw μ l ν κ → κ 19 = l1 19 → ν 0 56 = 0 → ifO d.2.2.1 e = true → Wp E mX12_run (Rm 9 0 0) (Qm E (pW h m (ordF d fo nc ns μ).2 l (some (.int (ordF d fo nc ns μ).1))) 0 0) 95 [(0, .ref m), (1, .int (nI (8 * q)))] [] (mH h m ν κ) 0 0 := by
    intro ν κ hS h19 h56 hyes
    have e32 : ν 32 = μ 32 := hS.cell (by unfold isScr; omega)
    have e11 : ν 11 = μ 11 := hS.cell (by unfold isScr; omega)
    have e12 : ν 12 = μ 12 := hS.cell (by unfold isScr; omega)
    have n20 : ν 0 20 = 0 := (hS.f (by decide) (by decide) (by decide)).trans h20
    by_cases hd3 : d.1 = 3
    · have hrun : ordF d fo nc ns μ = runA d fo nc ns μ (-1) (-1) := by unfold ordF; rw [hee, if_pos hyes, if_pos hd3]
      obtain ⟨p1, p3⟩ := hps hd3
      refine r_aload_n (pc := 95) 0 dX12_run_95 rfl ?_
      refine r_iload_n (pc := 96) 1 dX12_run_96 rfl ?_
      refine r_iconst (pc := 97) (1) dX12_run_97 rfl ?_
      refine r_iadd (pc := 98) dX12_run_98 ?_
      rw [e82]
      refine r_dV (pc := 99) (As := [_]) mv_X12_sumOf ml_X12_513 (ct_sumNo hm (show 8 * q + 1 + 1 < 96 by omega) (by rw [e32, e1, show 8 * q + 1 + 1 = 8 * q + 2 by omega, e2, p1])) (q_is hm) rfl rfl (Nat.le_of_ble_eq_true rfl) (Nat.le_of_ble_eq_true rfl) (Nat.le_of_ble_eq_true rfl) (Nat.le_of_ble_eq_true rfl) (Nat.le_of_ble_eq_true rfl) dX12_run_99 ?_
      refine r_istore_n (pc := 102) (lv' := [(0, _), (1, _), (2, _)]) dX12_run_102 (Nat.le_of_ble_eq_true rfl) rfl ?_
      refine r_aload_n (pc := 103) 0 dX12_run_103 rfl ?_
      refine r_iload_n (pc := 104) 1 dX12_run_104 rfl ?_
      refine r_iconst (pc := 105) (3) dX12_run_105 rfl ?_
      refine r_iadd (pc := 106) dX12_run_106 ?_
      rw [e83]
      refine r_dV (pc := 107) (As := [_]) mv_X12_sumOf ml_X12_513 (ct_sumNo hm (show 8 * q + 3 + 1 < 96 by omega) (by rw [e32, e3, show 8 * q + 3 + 1 = 8 * q + 4 by omega, e4, p3])) (q_is hm) rfl rfl (Nat.le_of_ble_eq_true rfl) (Nat.le_of_ble_eq_true rfl) (Nat.le_of_ble_eq_true rfl) (Nat.le_of_ble_eq_true rfl) (Nat.le_of_ble_eq_true rfl) dX12_run_107 ?_
      refine r_istore_n (pc := 110) (lv' := [(0, _), (1, _), (2, _), (3, _)]) dX12_run_110 (Nat.le_of_ble_eq_true rfl) rfl ?_
      exact go111 ν κ _ _ hS h56 hrun
    · obtain ⟨sg1, sg3⟩ := hsm hd3
      refine r_aload_n (pc := 95) 0 dX12_run_95 rfl ?_
      refine r_iload_n (pc := 96) 1 dX12_run_96 rfl ?_
      refine r_iconst (pc := 97) (1) dX12_run_97 rfl ?_
      refine r_iadd (pc := 98) dX12_run_98 ?_
      rw [e82]
      refine r_callV (pc := 99) (As := [_]) mv_X12_sumOf ml_X12_513 (ct_sumOf hm n20 h56 (show 8 * q + 1 + 1 < 96 by omega) (by rw [hS.row]; exact hnc) h6 (by rw [hS.row]; exact hns) h3 (by rw [e32]; exact e1) (by rw [e32]; exact e2) (by omega) (by rw [e11, e12]; exact sg1) (by rw [hS.row, h19]; exact hlf)) (q_is hm) rfl rfl (Nat.le_of_ble_eq_true rfl) (Nat.le_of_ble_eq_true rfl) (Nat.le_of_ble_eq_true rfl) (Nat.le_of_ble_eq_true rfl) (Nat.le_of_ble_eq_true rfl) dX12_run_99 (fun r h1 hp => ?_)
      obtain ⟨ν1, κ1, x1, rfl, rfl, hS1, h191, h561, hx1⟩ := hp
      have hT := hS.tr hS1
      have f32 : ν1 32 = μ 32 := hT.cell (by unfold isScr; omega)
      show Wp E mX12_run _ _ _ _ [.int _] _ 0 0
      refine r_istore_n (pc := 102) (lv' := [(0, _), (1, _), (2, _)]) dX12_run_102 (Nat.le_of_ble_eq_true rfl) rfl ?_
      refine r_aload_n (pc := 103) 0 dX12_run_103 rfl ?_
      refine r_iload_n (pc := 104) 1 dX12_run_104 rfl ?_
      refine r_iconst (pc := 105) (3) dX12_run_105 rfl ?_
      refine r_iadd (pc := 106) dX12_run_106 ?_
      rw [e83]
      cases hs1 : d.2.2.2.1 e with
      | none =>
        rw [hs1] at h561
        have h56n : ¬ ν1 0 56 = 0 := by rw [h561]; decide
        refine r_dV (pc := 107) (As := [_]) mv_X12_sumOf ml_X12_513 (ct_sumOff hm h56n) (q_is hm) rfl rfl (Nat.le_of_ble_eq_true rfl) (Nat.le_of_ble_eq_true rfl) (Nat.le_of_ble_eq_true rfl) (Nat.le_of_ble_eq_true rfl) (Nat.le_of_ble_eq_true rfl) dX12_run_107 ?_
        refine r_istore_n (pc := 110) (lv' := [(0, _), (1, _), (2, _), (3, _)]) dX12_run_110 (Nat.le_of_ble_eq_true rfl) rfl ?_
        exact at111 ν1 κ1 _ _ hT h56n (by unfold ordF; rw [hee, if_pos hyes, if_neg hd3, hs1])
      | some y1 =>
        rw [hs1] at h561
        have f11 : ν1 11 = μ 11 := hT.cell (by unfold isScr; omega)
        have f12 : ν1 12 = μ 12 := hT.cell (by unfold isScr; omega)
        have m20 : ν1 0 20 = 0 := (hT.f (by decide) (by decide) (by decide)).trans h20
        refine r_callV (pc := 107) (As := [_]) mv_X12_sumOf ml_X12_513 (ct_sumOf hm m20 h561 (show 8 * q + 3 + 1 < 96 by omega) (by rw [hT.row]; exact hnc) h6 (by rw [hT.row]; exact hns) h3 (by rw [f32]; exact e3) (by rw [f32]; exact e4) (by omega) (by rw [f11, f12]; exact sg3) (by rw [hT.row, h191, h19]; exact hlf)) (q_is hm) rfl rfl (Nat.le_of_ble_eq_true rfl) (Nat.le_of_ble_eq_true rfl) (Nat.le_of_ble_eq_true rfl) (Nat.le_of_ble_eq_true rfl) (Nat.le_of_ble_eq_true rfl) dX12_run_107 (fun r h1 hp => ?_)
        obtain ⟨ν2, κ2, x2, rfl, rfl, hS2, h192, h562, hx2⟩ := hp
        have hT2 := hT.tr hS2
        show Wp E mX12_run _ _ _ _ [.int _] _ 0 0
        refine r_istore_n (pc := 110) (lv' := [(0, _), (1, _), (2, _), (3, _)]) dX12_run_110 (Nat.le_of_ble_eq_true rfl) rfl ?_
        cases hs2 : d.2.2.2.2 e with
        | none =>
          rw [hs2] at h562
          exact at111 ν2 κ2 _ _ hT2 (by rw [h562]; decide) (by unfold ordF; rw [hee, if_pos hyes, if_neg hd3, hs1]; simp only [hs2])
        | some y2 =>
          rw [hs2] at h562
          rw [hx1 y1 hs1, hx2 y2 hs2]
          exact go111 ν2 κ2 _ _ hT2 h562 (by unfold ordF; rw [hee, if_pos hyes, if_neg hd3, hs1]; simp only [hs2])
  have no : ifO d.2.2.1 e = false → ordF d fo nc ns μ = (0, μ) := fun hno => by unfold ordF; rw [hee, if_neg (by rw [hno]; decide)]
  have hS0 : Sw μ l (up2 μ 0 56 0) l1 := by
    rw [← hl1]
    refine Sw.tr ⟨fun o j hq => up2_ne (fun z => hq (Or.inr ⟨z.1, Or.inr (Or.inr z.2)⟩)), fun _ _ _ => rfl⟩ (nowL_sw _ _ _ _)
  have u32 : up2 μ 0 56 0 32 = μ 32 := by funext j; exact up2_ne (by omega)
  refine r_aload_n (pc := 0) 0 dX12_run_0 rfl ?_
  refine q_getR (pc := 1) fl_X12_102 hm (md_f36 hm) dX12_run_1 ?_
  refine r_iconst (pc := 4) (1) dX12_run_4 rfl ?_
  refine r_aload_n (pc := 5) 0 dX12_run_5 rfl ?_
  refine q_getR (pc := 6) fl_X12_13 hm (md_f3 hm) dX12_run_6 ?_
  refine r_iconst (pc := 9) (5) dX12_run_9 rfl ?_
  refine q_iald (pc := 10) (j := 5) (md_r3 hm) (by decide) rfl (by decide) (by decide) dX12_run_10 ?_
  refine r_i2l (pc := 11) dX12_run_11 ?_
  refine q_last (pc := 12) (j := 1) (md_r36 hm) (by decide) rfl (by decide) (by decide) dX12_run_12 ?_
  refine r_aload_n (pc := 13) 0 dX12_run_13 rfl ?_
  refine q_getR (pc := 14) fl_X12_102 hm (md_f36 hm) dX12_run_14 ?_
  refine r_iconst (pc := 17) (2) dX12_run_17 rfl ?_
  refine r_aload_n (pc := 18) 0 dX12_run_18 rfl ?_
  refine q_getI (pc := 19) fl_X12_507 hm dX12_run_19 ?_
  refine r_i2l (pc := 22) dX12_run_22 ?_
  refine q_last (pc := 23) (j := 2) (md_r36 hm) (by decide) rfl (by decide) (by decide) dX12_run_23 ?_
  refine r_aload_n (pc := 24) 0 dX12_run_24 rfl ?_
  refine q_getR (pc := 25) fl_X12_102 hm (md_f36 hm) dX12_run_25 ?_
  refine r_iconst (pc := 28) (3) dX12_run_28 rfl ?_
  refine r_aload_n (pc := 29) 0 dX12_run_29 rfl ?_
  refine q_getI (pc := 30) fl_X12_510 hm dX12_run_30 ?_
  refine r_i2l (pc := 33) dX12_run_33 ?_
  refine q_last (pc := 34) (j := 3) (md_r36 hm) (by decide) rfl (by decide) (by decide) dX12_run_34 ?_
  refine r_aload_n (pc := 35) 0 dX12_run_35 rfl ?_
  refine q_getR (pc := 36) fl_X12_102 hm (md_f36 hm) dX12_run_36 ?_
  refine r_iconst (pc := 39) (4) dX12_run_39 rfl ?_
  refine r_aload_n (pc := 40) 0 dX12_run_40 rfl ?_
  refine r_dV (pc := 41) (As := []) mv_X12_aliveOnes ml_X12_489 (ct_aliveOnes hm hnc h6) (q_is hm) rfl rfl (Nat.le_of_ble_eq_true rfl) (Nat.le_of_ble_eq_true rfl) (Nat.le_of_ble_eq_true rfl) (Nat.le_of_ble_eq_true rfl) (Nat.le_of_ble_eq_true rfl) dX12_run_41 ?_
  refine r_dS (pc := 44) (As := [_]) ms_X12_ones ml_X12_190 (ct_ones _) rfl rfl (Nat.le_of_ble_eq_true rfl) (Nat.le_of_ble_eq_true rfl) (Nat.le_of_ble_eq_true rfl) (Nat.le_of_ble_eq_true rfl) (Nat.le_of_ble_eq_true rfl) dX12_run_44 ?_
  refine r_i2l (pc := 47) dX12_run_47 ?_
  refine q_last (pc := 48) (j := 4) (md_r36 hm) (by decide) rfl (by decide) (by decide) dX12_run_48 ?_
  refine r_aload_n (pc := 49) 0 dX12_run_49 rfl ?_
  refine r_iconst (pc := 50) (0) dX12_run_50 rfl ?_
  refine q_putZ (pc := 51) fp_X12_504 hm (by decide) dX12_run_51 ?_
  rw [show up2 (up2 (up2 (up2 l 19 1 (μ 2 5).toInt64) 19 2 (μ 0 53).toInt64) 19 3 (μ 0 54).toInt64) 19 4 (onesN (aliveN (μ 2) nc) 9).toInt64 = l1 from hl1]
  have e85 : nI (8 * q) + 5 = nI (8 * q + 5) := by simp only [fa_lit, nI_add]
  refine r_aload_n (pc := 54) 0 dX12_run_54 rfl ?_
  refine q_getR (pc := 55) fl_X12_149 hm (md_f52 hm) dX12_run_55 ?_
  refine r_iload_n (pc := 58) 1 dX12_run_58 rfl ?_
  refine r_iconst (pc := 59) (5) dX12_run_59 rfl ?_
  refine r_iadd (pc := 60) dX12_run_60 ?_
  refine q_iald (pc := 61) (j := 8 * q + 5) (md_r52 hm) (by decide) (by simp only [fa_lit, nI_add, nI_mul]) (by omega) (by decide) dX12_run_61 ?_
  refine r_aload_n (pc := 62) 0 dX12_run_62 rfl ?_
  refine q_getR (pc := 63) fl_X12_149 hm (md_f52 hm) dX12_run_63 ?_
  refine r_iload_n (pc := 66) 1 dX12_run_66 rfl ?_
  refine r_bipush (pc := 67) (6) dX12_run_67 rfl ?_
  refine r_iadd (pc := 69) dX12_run_69 ?_
  refine q_iald (pc := 70) (j := 8 * q + 6) (md_r52 hm) (by decide) (by simp only [fa_lit, nI_add, nI_mul]) (by omega) (by decide) dX12_run_70 ?_
  refine r_icmp_ge (pc := 71) (tgt := 95) dX12_run_71 (by decide) (fun c_71 => ?_) (fun c_71 => ?_)
  · rw [u32, e5, e6] at c_71
    cases hd2 : d.2.2.1 with
    | none => exact at95 _ l1 hS0 rfl up2_at (by rw [hd2]; rfl)
    | some s =>
      rw [hd2] at hif
      have := hif.1
      exact absurd c_71 (nI_ge (by omega) (by omega))
  · rw [u32, e5, e6] at c_71
    cases hd2 : d.2.2.1 with
    | none =>
      rw [hd2] at hif
      exact absurd (nI_le hif (by omega)) c_71
    | some s =>
      rw [hd2] at hif
      refine r_aload_n (pc := 74) 0 dX12_run_74 rfl ?_
      refine r_iload_n (pc := 75) 1 dX12_run_75 rfl ?_
      refine r_iconst (pc := 76) (5) dX12_run_76 rfl ?_
      refine r_iadd (pc := 77) dX12_run_77 ?_
      rw [e85]
      have u11 : up2 μ 0 56 0 11 = μ 11 := by funext j; exact up2_ne (by omega)
      have u12 : up2 μ 0 56 0 12 = μ 12 := by funext j; exact up2_ne (by omega)
      have u2 : up2 μ 0 56 0 2 = μ 2 := by funext j; exact up2_ne (by omega)
      refine r_callV (pc := 78) (As := [_]) mv_X12_sumOf ml_X12_513 (ct_sumOf hm (by rw [up2_ne (by omega)]; exact h20) up2_at (show 8 * q + 5 + 1 < 96 by omega) (by rw [u2]; exact hnc) h6 (by rw [u2]; exact hns) h3 (by rw [u32]; exact e5) (by rw [u32]; exact e6) (by omega) (by rw [u11, u12]; exact hif) (by rw [u2]; exact hlf)) (q_is hm) rfl rfl (Nat.le_of_ble_eq_true rfl) (Nat.le_of_ble_eq_true rfl) (Nat.le_of_ble_eq_true rfl) (Nat.le_of_ble_eq_true rfl) (Nat.le_of_ble_eq_true rfl) dX12_run_78 (fun r h1 hp => ?_)
      obtain ⟨ν1, κ1, x1, rfl, rfl, hS1, h191, h561, hx1⟩ := hp
      have hT := hS0.tr hS1
      show Wp E mX12_run _ _ _ _ [.int _] _ 0 0
      cases hs : s e with
      | none =>
        rw [hs] at h561
        have hrun := no (by rw [hd2]; unfold ifO; simp only [hs])
        rw [hrun]
        refine r_istore_n (pc := 81) (lv' := [(0, _), (1, _), (2, _)]) dX12_run_81 (Nat.le_of_ble_eq_true rfl) rfl ?_
        refine r_aload_n (pc := 82) 0 dX12_run_82 rfl ?_
        refine q_getI (pc := 83) fl_X12_504 hm dX12_run_83 ?_
        refine r_if_ne (pc := 86) (tgt := 93) dX12_run_86 (by decide) (fun c_86 => ?_) (fun c_86 => ?_)
        · refine r_iconst (pc := 93) (0) dX12_run_93 rfl ?_
          refine r_iret (pc := 94) rfl ?_ (Nat.le_of_ble_eq_true rfl) (Nat.le_of_ble_eq_true rfl) dX12_run_94
          exact ⟨ν1, κ1, hT, rfl, rfl⟩
        · rw [h561] at c_86; exact absurd c_86 (by decide)
      | some y =>
        rw [hs] at h561
        have h0 := hx1 y hs
        refine r_istore_n (pc := 81) (lv' := [(0, _), (1, _), (2, _)]) dX12_run_81 (Nat.le_of_ble_eq_true rfl) rfl ?_
        refine r_aload_n (pc := 82) 0 dX12_run_82 rfl ?_
        refine q_getI (pc := 83) fl_X12_504 hm dX12_run_83 ?_
        refine r_if_ne (pc := 86) (tgt := 93) dX12_run_86 (by decide) (fun c_86 => ?_) (fun c_86 => ?_)
        · rw [h561] at c_86; exact absurd (show bI false = 0 from rfl) c_86
        · refine r_iload_n (pc := 89) 2 dX12_run_89 rfl ?_
          refine r_if_ne (pc := 90) (tgt := 95) dX12_run_90 (by decide) (fun c_90 => ?_) (fun c_90 => ?_)
          · have h95 := at95 ν1 κ1 hT h191 h561 (by rw [hd2]; unfold ifO; simp only [hs]; exact decide_eq_true (by rw [← h0]; exact c_90))
            refine r_sub [0, 1] rfl ?_
            exact h95
          · have hrun := no (by rw [hd2]; unfold ifO; simp only [hs]; exact decide_eq_false (fun z => z (by rw [← h0]; exact c_90)))
            rw [hrun]
            refine r_iconst (pc := 93) (0) dX12_run_93 rfl ?_
            refine r_iret (pc := 94) rfl ?_ (Nat.le_of_ble_eq_true rfl) (Nat.le_of_ble_eq_true rfl) dX12_run_94
            exact ⟨ν1, κ1, hT, rfl, rfl⟩
end RUN12B
