/-! the reference: orders(), walked -/
section ORDERS12B
variable {E : En} {h : Hp} {m : Nat} {μ : Mu} {l : La} {n : Nat}
def cpU (μ : Mu) (i : Nat) : Mu := fun o j => if o = 7 ∧ j < i then μ 5 j else μ o j
def cpS (μ : Mu) (i : Nat) : Mu := fun o j => if o = 8 ∧ j < i then μ 6 j else μ o j
theorem cpU_s (μ : Mu) (i : Nat) : up2 (cpU μ i) 7 i (cpU μ i 5 i) = cpU μ (i + 1) := by
  funext o j
  by_cases h1 : o = 7 ∧ j = i
  · obtain ⟨rfl, rfl⟩ := h1; rw [up2_at]; unfold cpU; rw [if_neg (by omega), if_pos (by omega)]
  · rw [up2_ne h1]; unfold cpU
    by_cases h2 : o = 7 ∧ j < i
    · rw [if_pos h2, if_pos (by omega)]
    · rw [if_neg h2, if_neg (by omega)]
theorem cpS_s (μ : Mu) (i : Nat) : up2 (cpS μ i) 8 i (cpS μ i 6 i) = cpS μ (i + 1) := by
  funext o j
  by_cases h1 : o = 8 ∧ j = i
  · obtain ⟨rfl, rfl⟩ := h1; rw [up2_at]; unfold cpS; rw [if_neg (by omega), if_pos (by omega)]
  · rw [up2_ne h1]; unfold cpS
    by_cases h2 : o = 8 ∧ j < i
    · rw [if_pos h2, if_pos (by omega)]
    · rw [if_neg h2, if_neg (by omega)]
theorem cpU_0 (μ : Mu) : cpU μ 0 = μ := by funext o j; unfold cpU; rw [if_neg (by omega)]
theorem cpS_0 (μ : Mu) : cpS μ 0 = μ := by funext o j; unfold cpS; rw [if_neg (by omega)]
/-- the memory as orders begin to run -/
def begM (X : Mu) : Mu := up2 (up2 (cpS (cpU (keepN X 17 33) 528) 16) 0 53 0) 0 54 (-1)
theorem begM_ne {X : Mu} {o j : Nat} (hq : ¬ ((o = 5 ∧ 561 ≤ j ∧ j < 594) ∨ (o = 7 ∧ j < 528) ∨ (o = 8 ∧ j < 16) ∨ (o = 0 ∧ (j = 53 ∨ j = 54)))) : begM X o j = X o j := by
  unfold begM
  rw [up2_ne (by omega), up2_ne (by omega)]
  unfold cpS
  rw [if_neg (by omega)]
  unfold cpU
  rw [if_neg (by omega)]
  unfold keepN
  rw [if_neg (by omega)]
theorem begM_5 {X : Mu} {i : Nat} (hi : i < 33) : begM X 5 (561 + i) = X 2 (5 + i) := by
  unfold begM
  rw [up2_ne (by omega), up2_ne (by omega)]
  unfold cpS
  rw [if_neg (by omega)]
  unfold cpU
  rw [if_neg (by omega)]
  unfold keepN
  rw [if_pos (by omega), show 561 + i - 33 * 17 = i by omega]
theorem begM_7 {X : Mu} {j : Nat} (hj : j < 528) : begM X 7 j = X 5 j := by
  unfold begM
  rw [up2_ne (by omega), up2_ne (by omega)]
  unfold cpS
  rw [if_neg (by omega)]
  unfold cpU
  rw [if_pos ⟨rfl, hj⟩]
  unfold keepN
  rw [if_neg (by omega)]
theorem begM_8 {X : Mu} {j : Nat} (hj : j < 16) : begM X 8 j = X 6 j := by
  unfold begM
  rw [up2_ne (by omega), up2_ne (by omega)]
  unfold cpS
  rw [if_pos ⟨rfl, hj⟩]
  unfold cpU
  rw [if_neg (by omega)]
  unfold keepN
  rw [if_neg (by omega)]
/-- given back -/
theorem give_ob {X ν : Mu} {κ κX : La} {k : Int32} (hK : Kq (begM X) κX ν κ) : Ob (up2 X 0 55 k) κX (up2 (giveM ν (X 0 8)) 0 55 k) κ := by
  refine Ob.up ?_ _ _ _
  rw [Ob.pt]
  refine ⟨fun o j hq => ?_, hK.2⟩
  unfold giveM
  by_cases h08 : o = 0 ∧ j = 8
  · obtain ⟨rfl, rfl⟩ := h08; rw [up2_at]
  rw [up2_ne h08]
  unfold gbS
  by_cases h6 : o = 6 ∧ j < 16
  · obtain ⟨rfl, hj⟩ := h6
    rw [if_pos ⟨rfl, hj⟩]
    unfold gbU
    rw [if_neg (by omega)]
    unfold backN
    rw [if_neg (by omega), hK.1 8 j (by unfold kqI; omega), begM_8 hj]
  rw [if_neg h6]
  unfold gbU
  by_cases h5 : o = 5 ∧ j < 528
  · obtain ⟨rfl, hj⟩ := h5
    rw [if_pos ⟨rfl, hj⟩]
    unfold backN
    rw [if_neg (by omega), hK.1 7 j (by unfold kqI; omega), begM_7 hj]
  rw [if_neg h5]
  unfold backN
  by_cases h2 : o = 2 ∧ 5 ≤ j ∧ j < 5 + 33
  · obtain ⟨rfl, h2a, h2b⟩ := h2
    rw [if_pos ⟨rfl, h2a, h2b⟩, hK.1 5 _ (by unfold kqI; omega), show 33 * 17 + (j - 5) = 561 + (j - 5) by omega, begM_5 (by omega), show 5 + (j - 5) = j by omega]
  rw [if_neg h2, hK.1 o j (by unfold obI at hq; unfold kqI; omega), begM_ne (by unfold obI at hq; omega)]
def pOr (h : Hp) (m : Nat) (μ : Mu) (l : La) (n nc ns : Nat) (fo : Option (List Cl)) (R : Nat ⊕ List Od) : Option Value → Hp → Prop := fun v h' => match R with
  | .inl j => ∃ ν κ, Ob (up2 (up2 (up2 μ 0 55 (-1)) 0 13 0) 0 18 (nI (tk (μ 9) n j).1)) l ν κ ∧ h' = mH h m (tellM ν (-6)) κ ∧ v = some (.int (-6))
  | .inr ds => match lisF fo nc ns ds 0 (up2 (up2 (up2 (up2 (up2 μ 0 55 (-1)) 0 13 0) 0 18 (-1)) 0 53 0) 0 54 (-1)) with
    | .inl k => ∃ ν κ, Ob (up2 (up2 (up2 (up2 μ 0 55 (-1)) 0 13 0) 0 18 (-1)) 0 55 (nI k)) l ν κ ∧ h' = mH h m (tellM ν (-3)) κ ∧ v = some (.int (-3))
    | .inr β => ∃ ν κ, Ob β l ν κ ∧ h' = mH h m (tellM ν (β 0 53)) κ ∧ v = some (.int (β 0 53))
def pRs (h : Hp) (m : Nat) (μ : Mu) (l : La) (F : Nat ⊕ Mu) : Option Value → Hp → Prop := fun v h' => match F with
  | .inl k => ∃ ν κ, Ob (up2 μ 0 55 (nI k)) l ν κ ∧ h' = mH h m (tellM ν (-3)) κ ∧ v = some (.int (-3))
  | .inr β => ∃ ν κ, Ob β l ν κ ∧ h' = mH h m (tellM ν (β 0 53)) κ ∧ v = some (.int (β 0 53))
/-- the running, from the place where all is read -/
theorem wp_orders (hm : Md E h m) {fo : Option (List Cl)} {nc ns : Nat} {X : Mu} {κX : La} (hJ : JR X fo nc ns) {ds : List Od} {hi : Nat} (h21 : X 0 21 = nI ds.length) (h12 : ds.length ≤ 12) (hhi : hi ≤ 400) (hds : ∀ q d, ds[q]? = some d → NOr (X 32) (X 11) (X 12) q d hi) {β0 : Mu} (hβ : Ob β0 l X κX) {F : Nat ⊕ Mu} (hF : lisF fo nc ns ds 0 (up2 (up2 β0 0 53 0) 0 54 (-1)) = F) : Wp E mX12_orders (Rm 10 0 0) (Qm E (pRs h m β0 l F) 0 0) 64 [(0, .ref m)] [] (mH h m X κX) 0 0 := by
  have h6 := hJ.1.2.2.2.1
  have hu := hJ.2.1
  have hJB : JR (begM X) fo nc ns := by
    obtain ⟨hx, hu, he⟩ := hJ
    refine ⟨Mx_row hx (begM_ne (by omega)) (fun j _ => begM_ne (by omega)), ?_, fun k hk => by rw [begM_ne (by omega)]; exact he k hk⟩
    unfold uF
    rw [begM_ne (by omega)]; exact hu
  have cell : ∀ o, o ≠ 0 → o ≠ 5 → o ≠ 7 → o ≠ 8 → begM X o = X o := fun o h1 h2 h3 h4 => by funext j; exact begM_ne (by omega)
  have inner : ∀ (k : Nat) (d : Od) (rest : List Od), ds[k]? = some d → k < 12 → (∀ (β ν : Mu) (κ : La) (x : Nat), Oc β l ν κ → Kq (begM X) κX ν κ → JR ν fo nc ns → ν 0 53 = nI x → x ≤ 20 * (k + 1) → lisF fo nc ns rest (k + 1) β = F → Wp E mX12_orders (Rm 10 0 0) (Qm E (pRs h m β0 l F) 0 0) 140 [(0, .ref m), (1, .int (X 0 8)), (2, .int (nI (k + 1)))] [] (mH h m ν κ) 0 0) → ∀ (rem t : Nat), t + rem = d.2.1 → ∀ (β ν : Mu) (κ : La) (x : Nat), Oc β l ν κ → Kq (begM X) κX ν κ → JR ν fo nc ns → ν 0 53 = nI x → x ≤ 20 * k + t → (match repF d fo nc ns rem β with | none => .inl k | some μ' => lisF fo nc ns rest (k + 1) μ') = F → Wp E mX12_orders (Rm 10 0 0) (Qm E (pRs h m β0 l F) 0 0) 150 [(0, .ref m), (1, .int (X 0 8)), (2, .int (nI k)), (3, .int (nI t))] [] (mH h m ν κ) 0 0 := by
    intro k d rest hk hk12 next rem
    have hN := hds k d hk
    induction rem with
    | zero =>
      intro t ht β ν κ x hO hK hJν h53 hx hres
      have hN' := hN
      obtain ⟨a1, b1, a3, b3, a5, b5, g1, g2, g3, g4, g5, g6, gk, e0, e1, e2, e3, e4, e5, e6, e7, ht20, -⟩ := hN'
      have f7 : ν 32 (8 * k + 7) = nI d.2.1 := by rw [hK.1 32 _ (by unfold kqI; omega), cell 32 (by decide) (by decide) (by decide) (by decide)]; exact e7
      refine r_iload_n (pc := 150) 3 dX12_orders_150 rfl ?_
      refine r_aload_n (pc := 151) 0 dX12_orders_151 rfl ?_
      refine q_getR (pc := 152) fl_X12_149 hm (md_f52 hm) dX12_orders_152 ?_
      refine r_bipush (pc := 155) (8) dX12_orders_155 rfl ?_
      refine r_iload_n (pc := 157) 2 dX12_orders_157 rfl ?_
      refine r_imul (pc := 158) dX12_orders_158 ?_
      refine r_bipush (pc := 159) (7) dX12_orders_159 rfl ?_
      refine r_iadd (pc := 161) dX12_orders_161 ?_
      refine q_iald (pc := 162) (j := 8 * k + 7) (md_r52 hm) (by decide) (by simp only [fa_lit, nI_add, nI_mul]) (by omega) (by decide) dX12_orders_162 ?_
      refine r_icmp_ge (pc := 163) (tgt := 200) dX12_orders_163 (by decide) (fun c_163 => ?_) (fun c_163 => ?_)
      · refine r_iinc (pc := 200) (v := _ + (1)) (lv' := [(0, _), (1, _), (2, _), (3, _)]) 2 dX12_orders_200 rfl rfl (Nat.le_of_ble_eq_true rfl) rfl ?_
        refine r_goto (pc := 203) (tgt := 140) dX12_orders_203 (by decide) ?_
        rw [nI_1]
        refine r_sub [0, 1, 2] rfl ?_
        exact next β ν κ x hO hK hJν h53 (by omega) hres
      · rw [f7] at c_163
        exact absurd (nI_le (by omega) (by omega)) c_163
    | succ rem IH =>
      intro t ht β ν κ x hO hK hJν h53 hx hres
      have hN' := hN
      obtain ⟨a1, b1, a3, b3, a5, b5, g1, g2, g3, g4, g5, g6, gk, e0, e1, e2, e3, e4, e5, e6, e7, ht20, -⟩ := hN'
      have f32 : ν 32 = X 32 := by funext j; rw [hK.1 32 j (by unfold kqI; omega), cell 32 (by decide) (by decide) (by decide) (by decide)]
      have f11 : ν 11 = X 11 := by funext j; rw [hK.1 11 j (by unfold kqI; omega), cell 11 (by decide) (by decide) (by decide) (by decide)]
      have f12 : ν 12 = X 12 := by funext j; rw [hK.1 12 j (by unfold kqI; omega), cell 12 (by decide) (by decide) (by decide) (by decide)]
      have huν := hJν.2.1.2
      have eu : uF β = uF ν := by unfold uF; rw [hO.1.f8]
      obtain ⟨o1, o2⟩ := hO.ord d fo nc ns h6 (by rw [eu]; exact huν)
      rw [repF] at hres
      refine r_iload_n (pc := 150) 3 dX12_orders_150 rfl ?_
      refine r_aload_n (pc := 151) 0 dX12_orders_151 rfl ?_
      refine q_getR (pc := 152) fl_X12_149 hm (md_f52 hm) dX12_orders_152 ?_
      refine r_bipush (pc := 155) (8) dX12_orders_155 rfl ?_
      refine r_iload_n (pc := 157) 2 dX12_orders_157 rfl ?_
      refine r_imul (pc := 158) dX12_orders_158 ?_
      refine r_bipush (pc := 159) (7) dX12_orders_159 rfl ?_
      refine r_iadd (pc := 161) dX12_orders_161 ?_
      refine q_iald (pc := 162) (j := 8 * k + 7) (md_r52 hm) (by decide) (by simp only [fa_lit, nI_add, nI_mul]) (by omega) (by decide) dX12_orders_162 ?_
      refine r_icmp_ge (pc := 163) (tgt := 200) dX12_orders_163 (by decide) (fun c_163 => ?_) (fun c_163 => ?_)
      · rw [f32, e7] at c_163
        exact absurd c_163 (nI_ge (by omega) (by omega))
      · refine r_aload_n (pc := 166) 0 dX12_orders_166 rfl ?_
        refine r_bipush (pc := 167) (8) dX12_orders_167 rfl ?_
        refine r_iload_n (pc := 169) 2 dX12_orders_169 rfl ?_
        refine r_imul (pc := 170) dX12_orders_170 ?_
        rw [show (8 : Int32) * nI k = nI (8 * k) from nI_mul 8 k]
        refine r_callV (pc := 171) (As := [_]) mv_X12_run ml_X12_522 (ct_run hm hJν (by rw [f32, f11, f12]; exact hN) hhi hk12) (q_is hm) rfl rfl (Nat.le_of_ble_eq_true rfl) (Nat.le_of_ble_eq_true rfl) (Nat.le_of_ble_eq_true rfl) (Nat.le_of_ble_eq_true rfl) (Nat.le_of_ble_eq_true rfl) dX12_orders_171 (fun r h1 hp => ?_)
        obtain ⟨ν2, κ2, hS, rfl, rfl⟩ := hp
        have hO2 := o2.tr hS.oc
        have hK2 := (hK.ord d fo nc ns h6 huν).sw hS
        have hJ2 := JR_sw (JR_ord (d := d) hJν) hS
        show Wp E mX12_orders _ _ _ _ [.int _] _ 0 0
        refine r_if_ge (pc := 174) (tgt := 194) dX12_orders_174 (by decide) (fun c_174 => ?_) (fun c_174 => ?_)
        · rw [o1] at c_174
          rw [if_neg (Int32.not_lt.mpr c_174)] at hres
          obtain ⟨y, hy, ey⟩ := ord_53 (d := d) (fo := fo) (nc := nc) (ns := ns) h6 huν h53
          refine r_iinc (pc := 194) (v := _ + (1)) (lv' := [(0, _), (1, _), (2, _), (3, _)]) 3 dX12_orders_194 rfl rfl (Nat.le_of_ble_eq_true rfl) rfl ?_
          refine r_goto (pc := 197) (tgt := 150) dX12_orders_197 (by decide) ?_
          rw [nI_1]
          exact IH (t + 1) (by omega) _ ν2 κ2 y hO2 hK2 hJ2 ((hS.f (by decide) (by decide) (by decide)).trans ey) (by omega) hres
        · rw [o1] at c_174
          rw [if_pos (Int32.not_le.mp c_174)] at hres
          simp only at hres
          subst hres
          refine r_aload_n (pc := 177) 0 dX12_orders_177 rfl ?_
          refine r_iload_n (pc := 178) 1 dX12_orders_178 rfl ?_
          refine r_dV0 (pc := 179) (As := [_]) mv_X12_giveBack ml_X12_525 (ct_giveBack hm _) (q_is hm) rfl rfl (Nat.le_of_ble_eq_true rfl) (Nat.le_of_ble_eq_true rfl) (Nat.le_of_ble_eq_true rfl) (Nat.le_of_ble_eq_true rfl) (Nat.le_of_ble_eq_true rfl) dX12_orders_179 ?_
          refine r_aload_n (pc := 182) 0 dX12_orders_182 rfl ?_
          refine r_iload_n (pc := 183) 2 dX12_orders_183 rfl ?_
          refine q_putI (pc := 184) fp_X12_152 hm dX12_orders_184 ?_
          refine r_aload_n (pc := 187) 0 dX12_orders_187 rfl ?_
          refine r_bipush (pc := 188) (-3) dX12_orders_188 rfl ?_
          refine r_dV (pc := 190) (As := [_]) mv_X12_tell ml_X12_170 (ct_tell hm _ t_3) (q_is hm) rfl rfl (Nat.le_of_ble_eq_true rfl) (Nat.le_of_ble_eq_true rfl) (Nat.le_of_ble_eq_true rfl) (Nat.le_of_ble_eq_true rfl) (Nat.le_of_ble_eq_true rfl) dX12_orders_190 ?_
          refine r_iret (pc := 193) rfl ?_ (Nat.le_of_ble_eq_true rfl) (Nat.le_of_ble_eq_true rfl) dX12_orders_193
          exact ⟨_, κ2, (Ob.up hβ 0 55 (nI k)).tr (give_ob hK2), rfl, rfl⟩
  have outer : ∀ (rest : List Od) (k : Nat), k + rest.length = ds.length → (∀ q d, rest[q]? = some d → ds[k + q]? = some d) → ∀ (β ν : Mu) (κ : La) (x : Nat), Oc β l ν κ → Kq (begM X) κX ν κ → JR ν fo nc ns → ν 0 53 = nI x → x ≤ 20 * k → lisF fo nc ns rest k β = F → Wp E mX12_orders (Rm 10 0 0) (Qm E (pRs h m β0 l F) 0 0) 140 [(0, .ref m), (1, .int (X 0 8)), (2, .int (nI k))] [] (mH h m ν κ) 0 0 := by
    intro rest
    induction rest with
    | nil =>
      intro k hk hq β ν κ x hO hK hJν h53 hx hres
      subst hres
      have f21 : ν 0 21 = nI ds.length := by rw [hK.1 0 21 (by unfold kqI; omega), begM_ne (by omega)]; exact h21
      have hk' : k = ds.length := hk
      refine r_iload_n (pc := 140) 2 dX12_orders_140 rfl ?_
      refine r_aload_n (pc := 141) 0 dX12_orders_141 rfl ?_
      refine q_getI (pc := 142) fl_X12_393 hm dX12_orders_142 ?_
      refine r_icmp_ge (pc := 145) (tgt := 206) dX12_orders_145 (by decide) (fun c_145 => ?_) (fun c_145 => ?_)
      · refine r_aload_n (pc := 206) 0 dX12_orders_206 rfl ?_
        refine r_aload_n (pc := 207) 0 dX12_orders_207 rfl ?_
        refine q_getI (pc := 208) fl_X12_507 hm dX12_orders_208 ?_
        rw [hO.2.1]
        refine r_dV (pc := 211) (As := [_]) mv_X12_tell ml_X12_170 (ct_tell hm _ (t_p (by rw [← hO.2.1, h53]; exact nI_pos' (by omega)))) (q_is hm) rfl rfl (Nat.le_of_ble_eq_true rfl) (Nat.le_of_ble_eq_true rfl) (Nat.le_of_ble_eq_true rfl) (Nat.le_of_ble_eq_true rfl) (Nat.le_of_ble_eq_true rfl) dX12_orders_211 ?_
        refine r_iret (pc := 214) rfl ?_ (Nat.le_of_ble_eq_true rfl) (Nat.le_of_ble_eq_true rfl) dX12_orders_214
        exact ⟨ν, κ, hO.1, rfl, rfl⟩
      · rw [f21, ← hk'] at c_145
        exact absurd (Int32.le_refl _) c_145
    | cons d rest IH =>
      intro k hk hq β ν κ x hO hK hJν h53 hx hres
      have f21 : ν 0 21 = nI ds.length := by rw [hK.1 0 21 (by unfold kqI; omega), begM_ne (by omega)]; exact h21
      rw [List.length_cons] at hk
      have hkd : ds[k]? = some d := hq 0 d rfl
      refine r_iload_n (pc := 140) 2 dX12_orders_140 rfl ?_
      refine r_aload_n (pc := 141) 0 dX12_orders_141 rfl ?_
      refine q_getI (pc := 142) fl_X12_393 hm dX12_orders_142 ?_
      refine r_icmp_ge (pc := 145) (tgt := 206) dX12_orders_145 (by decide) (fun c_145 => ?_) (fun c_145 => ?_)
      · rw [f21] at c_145
        exact absurd c_145 (nI_ge (by omega) (by omega))
      · refine r_iconst (pc := 148) (0) dX12_orders_148 rfl ?_
        refine r_istore_n (pc := 149) (lv' := [(0, _), (1, _), (2, _), (3, _)]) dX12_orders_149 (Nat.le_of_ble_eq_true rfl) rfl ?_
        exact inner k d rest hkd (by omega) (fun β ν κ x a1 a2 a3 a4 a5 a6 => IH (k + 1) (by omega) (fun q e he => by rw [show k + 1 + q = k + (q + 1) by omega]; exact hq (q + 1) e he) β ν κ x a1 a2 a3 a4 a5 a6) d.2.1 0 (by omega) β ν κ x hO hK hJν h53 (by omega) hres
  have hOB : Oc (up2 (up2 β0 0 53 0) 0 54 (-1)) l (begM X) κX := by
    refine ⟨?_, ?_, ?_⟩
    · refine Ob.up (Ob.up (hβ.tr ?_) _ _ _) _ _ _
      rw [Ob.pt]
      refine ⟨fun o j hq => ?_, fun _ _ => rfl⟩
      unfold cpS
      rw [if_neg (by unfold obI at hq; omega)]
      unfold cpU
      rw [if_neg (by unfold obI at hq; omega)]
      unfold keepN
      rw [if_neg (by unfold obI at hq; omega)]
    · unfold begM; rw [up2_ne (by omega), up2_at, up2_ne (by omega), up2_at]
    · unfold begM; rw [up2_at, up2_at]
  have at128 : ∀ k : Int32, Wp E mX12_orders (Rm 10 0 0) (Qm E (pRs h m β0 l F) 0 0) 128 [(0, .ref m), (1, .int (X 0 8)), (2, .int k)] [] (mH h m (cpS (cpU (keepN X 17 33) 528) 16) κX) 0 0 := by
    intro k
    refine r_aload_n (pc := 128) 0 dX12_orders_128 rfl ?_
    refine r_iconst (pc := 129) (0) dX12_orders_129 rfl ?_
    refine q_putI (pc := 130) fp_X12_507 hm dX12_orders_130 ?_
    refine r_aload_n (pc := 133) 0 dX12_orders_133 rfl ?_
    refine r_iconst (pc := 134) (-1) dX12_orders_134 rfl ?_
    refine q_putI (pc := 135) fp_X12_510 hm dX12_orders_135 ?_
    refine r_iconst (pc := 138) (0) dX12_orders_138 rfl ?_
    refine r_istore_n (pc := 139) (lv' := [(0, _), (1, _), (2, _)]) dX12_orders_139 (Nat.le_of_ble_eq_true rfl) rfl ?_
    exact outer ds 0 (by omega) (fun q d hq => by rw [Nat.zero_add]; exact hq) _ (begM X) κX 0 hOB ⟨fun _ _ _ => rfl, fun _ _ => rfl⟩ hJB (by unfold begM; rw [up2_ne (by omega), up2_at]; rfl) (by omega) hF
  have loop2 : ∀ i, i ≤ 16 → Wp E mX12_orders (Rm 10 0 0) (Qm E (pRs h m β0 l F) 0 0) 104 [(0, .ref m), (1, .int (X 0 8)), (2, .int (nI i))] [] (mH h m (cpS (cpU (keepN X 17 33) 528) i) κX) 0 0 := by
    refine upTo (fun i hi ih => ?_) ?_
    · refine r_iload_n (pc := 104) 2 dX12_orders_104 rfl ?_
      refine r_bipush (pc := 105) (16) dX12_orders_105 rfl ?_
      refine r_icmp_ge (pc := 107) (tgt := 128) dX12_orders_107 (by decide) (fun c_107 => ?_) (fun c_107 => ?_)
      · exact absurd c_107 (nI_ge (b := 16) hi (by decide))
      · refine r_aload_n (pc := 110) 0 dX12_orders_110 rfl ?_
        refine q_getR (pc := 111) fl_X12_32 hm (md_f10 hm) dX12_orders_111 ?_
        refine r_iload_n (pc := 114) 2 dX12_orders_114 rfl ?_
        refine r_aload_n (pc := 115) 0 dX12_orders_115 rfl ?_
        refine q_getR (pc := 116) fl_X12_26 hm (md_f7 hm) dX12_orders_116 ?_
        refine r_iload_n (pc := 119) 2 dX12_orders_119 rfl ?_
        refine q_iald (pc := 120) (j := i) (md_r7 hm) (by decide) rfl (by omega) (by decide) dX12_orders_120 ?_
        refine q_iast (pc := 121) (j := i) (md_r10 hm) (by decide) rfl (by omega) (by decide) dX12_orders_121 ?_
        refine r_iinc (pc := 122) (v := _ + (1)) (lv' := [(0, _), (1, _), (2, _)]) 2 dX12_orders_122 rfl rfl (Nat.le_of_ble_eq_true rfl) rfl ?_
        refine r_goto (pc := 125) (tgt := 104) dX12_orders_125 (by decide) ?_
        rw [cpS_s, nI_1]
        exact ih
    · refine r_iload_n (pc := 104) 2 dX12_orders_104 rfl ?_
      refine r_bipush (pc := 105) (16) dX12_orders_105 rfl ?_
      refine r_icmp_ge (pc := 107) (tgt := 128) dX12_orders_107 (by decide) (fun c_107 => ?_) (fun c_107 => ?_)
      · exact at128 _
      · exact absurd (show (16 : Int32) ≤ nI 16 by decide) c_107
  have loop1 : ∀ i, i ≤ 528 → Wp E mX12_orders (Rm 10 0 0) (Qm E (pRs h m β0 l F) 0 0) 77 [(0, .ref m), (1, .int (X 0 8)), (2, .int (nI i))] [] (mH h m (cpU (keepN X 17 33) i) κX) 0 0 := by
    refine upTo (fun i hi ih => ?_) ?_
    · refine r_iload_n (pc := 77) 2 dX12_orders_77 rfl ?_
      refine r_sipush (pc := 78) (528) dX12_orders_78 rfl ?_
      refine r_icmp_ge (pc := 81) (tgt := 102) dX12_orders_81 (by decide) (fun c_81 => ?_) (fun c_81 => ?_)
      · exact absurd c_81 (nI_ge (b := 528) hi (by decide))
      · refine r_aload_n (pc := 84) 0 dX12_orders_84 rfl ?_
        refine q_getR (pc := 85) fl_X12_29 hm (md_f9 hm) dX12_orders_85 ?_
        refine r_iload_n (pc := 88) 2 dX12_orders_88 rfl ?_
        refine r_aload_n (pc := 89) 0 dX12_orders_89 rfl ?_
        refine q_getR (pc := 90) fl_X12_23 hm (md_f6 hm) dX12_orders_90 ?_
        refine r_iload_n (pc := 93) 2 dX12_orders_93 rfl ?_
        refine q_iald (pc := 94) (j := i) (md_r6 hm) (by decide) rfl (by omega) (by decide) dX12_orders_94 ?_
        refine q_iast (pc := 95) (j := i) (md_r9 hm) (by decide) rfl (by omega) (by decide) dX12_orders_95 ?_
        refine r_iinc (pc := 96) (v := _ + (1)) (lv' := [(0, _), (1, _), (2, _)]) 2 dX12_orders_96 rfl rfl (Nat.le_of_ble_eq_true rfl) rfl ?_
        refine r_goto (pc := 99) (tgt := 77) dX12_orders_99 (by decide) ?_
        rw [cpU_s, nI_1]
        exact ih
    · refine r_iload_n (pc := 77) 2 dX12_orders_77 rfl ?_
      refine r_sipush (pc := 78) (528) dX12_orders_78 rfl ?_
      refine r_icmp_ge (pc := 81) (tgt := 102) dX12_orders_81 (by decide) (fun c_81 => ?_) (fun c_81 => ?_)
      · refine r_iconst (pc := 102) (0) dX12_orders_102 rfl ?_
        refine r_istore_n (pc := 103) (lv' := [(0, _), (1, _), (2, _)]) dX12_orders_103 (Nat.le_of_ble_eq_true rfl) rfl ?_
        have h0 := loop2 0 (by omega)
        rw [cpS_0] at h0
        exact h0
      · exact absurd (show (528 : Int32) ≤ nI 528 by decide) c_81
  refine r_aload_n (pc := 64) 0 dX12_orders_64 rfl ?_
  refine r_bipush (pc := 65) (17) dX12_orders_65 rfl ?_
  refine r_dV0 (pc := 67) (As := [_]) mv_X12_keepAll ml_X12_174 (ct_keepAll hm 17 (by decide)) (q_is hm) rfl rfl (Nat.le_of_ble_eq_true rfl) (Nat.le_of_ble_eq_true rfl) (Nat.le_of_ble_eq_true rfl) (Nat.le_of_ble_eq_true rfl) (Nat.le_of_ble_eq_true rfl) dX12_orders_67 ?_
  refine r_aload_n (pc := 70) 0 dX12_orders_70 rfl ?_
  refine q_getI (pc := 71) fl_X12_167 hm dX12_orders_71 ?_
  have e08 : keepN X 17 33 0 8 = X 0 8 := by unfold keepN; rw [if_neg (by omega)]
  rw [e08]
  refine r_istore_n (pc := 74) (lv' := [(0, _), (1, _)]) dX12_orders_74 (Nat.le_of_ble_eq_true rfl) rfl ?_
  refine r_iconst (pc := 75) (0) dX12_orders_75 rfl ?_
  refine r_istore_n (pc := 76) (lv' := [(0, _), (1, _), (2, _)]) dX12_orders_76 (Nat.le_of_ble_eq_true rfl) rfl ?_
  have h0 := loop1 0 (by omega)
  rw [cpU_0] at h0
  exact h0
end ORDERS12B
