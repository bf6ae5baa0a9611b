/-! the reference: one order run -/
section RUN12
variable {E : En} {h : Hp} {m : Nat} {μ : Mu} {l : La}
/-- what a reckoning of orders may leave behind -/
def swI (o j : Nat) : Prop := (isScr o ∧ o ≠ 0) ∨ (o = 0 ∧ (j = 34 ∨ j = 38 ∨ j = 56))
def swL (o j : Nat) : Prop := (isScL o ∧ o ≠ 0) ∨ o = 19 ∨ (o = 0 ∧ (j = 39 ∨ j = 40))
def Sw (μ : Mu) (l : La) (μ' : Mu) (l' : La) : Prop := (∀ o j, ¬ swI o j → μ' o j = μ o j) ∧ (∀ o j, ¬ swL o j → l' o j = l o j)
theorem Sw.rf : Sw μ l μ l := ⟨fun _ _ _ => rfl, fun _ _ _ => rfl⟩
theorem Sw.tr {μ1 μ2 : Mu} {l1 l2 : La} (h1 : Sw μ l μ1 l1) (h2 : Sw μ1 l1 μ2 l2) : Sw μ l μ2 l2 := ⟨fun o j hq => (h2.1 o j hq).trans (h1.1 o j hq), fun o j hq => (h2.2 o j hq).trans (h1.2 o j hq)⟩
theorem Sx.w {μ' : Mu} {l' : La} (hS : Sx μ l μ' l') : Sw μ l μ' l' := by
  refine ⟨fun o j hq => ?_, fun o j hq => ?_⟩
  · by_cases h0 : o = 0
    · subst h0; exact hS.2.1 j (fun z => hq (Or.inr ⟨rfl, Or.inl z⟩)) (fun z => hq (Or.inr ⟨rfl, Or.inr (Or.inl z)⟩))
    · exact congrFun (hS.1 o (fun z => hq (Or.inl ⟨z, h0⟩))) j
  · by_cases h0 : o = 0
    · subst h0; exact hS.2.2.2 j (fun z => hq (Or.inr (Or.inr ⟨rfl, Or.inl z⟩))) (fun z => hq (Or.inr (Or.inr ⟨rfl, Or.inr z⟩)))
    · exact congrFun (hS.2.2.1 o (fun z => hq (Or.inl ⟨z, h0⟩))) j
theorem sw_row (o : Nat) (ho : ¬ isScr o) (j : Nat) : ¬ swI o j := fun z => by
  rcases z with z | z
  · exact ho z.1
  · exact ho (Or.inl z.1)
theorem Sw.cell {μ' : Mu} {l' : La} (hS : Sw μ l μ' l') {o : Nat} (ho : ¬ isScr o) : μ' o = μ o := by funext j; exact hS.1 o j (sw_row o ho j)
theorem Sw.row {μ' : Mu} {l' : La} (hS : Sw μ l μ' l') : μ' 2 = μ 2 := hS.cell (by unfold isScr; omega)
theorem Sw.f {μ' : Mu} {l' : La} (hS : Sw μ l μ' l') {j : Nat} (h1 : j ≠ 34) (h2 : j ≠ 38) (h3 : j ≠ 56) : μ' 0 j = μ 0 j := hS.1 0 j (fun z => by unfold swI at z; omega)
theorem Sw.ob {μ' : Mu} {l' : La} (hS : Sw μ l μ' l') : Ob μ l μ' l' := by
  refine ⟨fun o ho => hS.cell ?_, fun j _ => hS.1 5 j (sw_row 5 (by unfold isScr; omega) j), fun j hj => hS.f ?_ ?_ ?_, fun o ho => ?_⟩
  · simp only [List.mem_cons, List.not_mem_nil, or_false] at ho; unfold isScr; omega
  · simp only [List.mem_cons, List.not_mem_nil, or_false] at hj; omega
  · simp only [List.mem_cons, List.not_mem_nil, or_false] at hj; omega
  · simp only [List.mem_cons, List.not_mem_nil, or_false] at hj; omega
  · simp only [List.mem_cons, List.not_mem_nil, or_false] at ho
    funext j; exact hS.2 o j (fun z => by unfold swL isScL at z; omega)
/-- functions of the memory that look at nothing that a reckoning leaves behind -/
def SwC (G : Mu → Mu) : Prop := ∀ (μ : Mu) (l : La) (ν : Mu) (κ : La), Sw μ l ν κ → Sw (G μ) l (G ν) κ
theorem SwC.up {o j : Nat} {v : Int32} : SwC (fun μ => up2 μ o j v) := fun μ l ν κ hS => ⟨fun a b hq => by
  show up2 ν o j v a b = up2 μ o j v a b
  by_cases he : a = o ∧ b = j
  · obtain ⟨rfl, rfl⟩ := he; rw [up2_at, up2_at]
  · rw [up2_ne he, up2_ne he]; exact hS.1 a b hq, hS.2⟩
theorem Sw.up {μ' : Mu} {l' : La} (hS : Sw μ l μ' l') (o j : Nat) (v : Int32) : Sw (up2 μ o j v) l (up2 μ' o j v) l' := SwC.up μ l μ' l' hS
theorem Sw.keep {μ' : Mu} {l' : La} (hS : Sw μ l μ' l') (q i : Nat) : Sw (keepN μ q i) l (keepN μ' q i) l' := ⟨fun a b hq => by
  unfold keepN
  split
  · exact hS.1 2 _ (sw_row 2 (by unfold isScr; omega) _)
  · exact hS.1 a b hq, hS.2⟩
theorem Sw.cShN {μ' : Mu} {l' : La} (hS : Sw μ l μ' l') (i : Nat) : Sw (shN μ i) l (shN μ' i) l' := ⟨fun a b hq => by
  unfold shN
  split
  · exact hS.1 5 _ (sw_row 5 (by unfold isScr; omega) _)
  · exact hS.1 a b hq, hS.2⟩
theorem Sw.cShK {μ' : Mu} {l' : La} (hS : Sw μ l μ' l') (i : Nat) : Sw (shK μ i) l (shK μ' i) l' := ⟨fun a b hq => by
  unfold shK
  split
  · exact hS.1 6 _ (sw_row 6 (by unfold isScr; omega) _)
  · exact hS.1 a b hq, hS.2⟩
theorem Sw.rem {μ' : Mu} {l' : La} (hS : Sw μ l μ' l') (u : Nat) (s : Int32) : Sw (remM μ u s) l (remM μ' u s) l' := by
  unfold remM
  refine Sw.up (Sw.up (Sw.keep ?_ _ _) _ _ _) _ _ _
  unfold remA
  split
  · exact Sw.up (Sw.cShK (Sw.cShN hS _) _) _ _ _
  · exact hS
theorem Sw.cR {μ' : Mu} {l' : La} (hS : Sw μ l μ' l') (r : Nat → Int32) : Sw (setR μ r) l (setR μ' r) l' := ⟨fun a b hq => by
  unfold setR
  split
  · rfl
  · exact hS.1 a b hq, hS.2⟩
theorem Sw.dieIt {μ' : Mu} {l' : La} (hS : Sw μ l μ' l') (k : Nat) (life : Int32) : Sw (dieItM μ k life) l (dieItM μ' k life) l' := by
  unfold dieItM
  rw [hS.row]
  exact Sw.up (Sw.up (Sw.up hS _ _ _) _ _ _) _ _ _
/-- what an act tells and does -/
def actV (r : Nat → Int32) (fo : Option (List Cl)) (nc ns : Nat) (k a b : Int32) : Int32 := if k = 0 then signV r fo nc ns a b else if k = 1 then dieV r nc a b else if k = 2 then clipV r nc a b else passV r
def uF (μ : Mu) : Nat := (μ 0 8).toNatClampNeg
def actM (μ : Mu) (fo : Option (List Cl)) (nc ns : Nat) (k a b : Int32) : Mu := if k = 0 then signM (signV (μ 2) fo nc ns a b) (uF μ) a b μ else if k = 1 then dieM (dieV (μ 2) nc a b) (uF μ) a b μ else if k = 2 then clipM (clipV (μ 2) nc a b) (uF μ) a b μ else if μ 2 5 = 999 then μ else setR (remM μ (uF μ) 3) (passR (μ 2) fo nc)
def pW (h : Hp) (m : Nat) (μ : Mu) (l : La) (v : Option Value) : Option Value → Hp → Prop := fun r h' => ∃ ν κ, Sw μ l ν κ ∧ h' = mH h m ν κ ∧ r = v
/-- what stands while orders are run -/
def JR (μ : Mu) (fo : Option (List Cl)) (nc ns : Nat) : Prop := Mx μ fo nc ns ∧ (μ 0 8 = nI (uF μ) ∧ uF μ ≤ 16) ∧ ∀ k, k < nc → 0 ≤ μ 2 (20 + k)
theorem ct_act (hm : Md E h m) {fo : Option (List Cl)} {nc ns : Nat} (hJ : JR μ fo nc ns) {k : Nat} (hk : k < 4) (a b : Int32) : Ct E 8 0 0 mX12_act [.ref m, .int (nI k), .int a, .int b] (mH h m μ l) (pW h m (actM μ fo nc ns (nI k) a b) l (some (.int (actV (μ 2) fo nc ns (nI k) a b)))) := by
  obtain ⟨hx, ⟨hu, h16⟩, hear⟩ := hJ
  refine Ct.of (by decide +kernel) (Nat.le_of_ble_eq_true rfl) ?_
  rcases (by omega : k = 0 ∨ k = 1 ∨ k = 2 ∨ k = 3) with rfl | rfl | rfl | rfl
  · have e1 : actM μ fo nc ns (nI 0) a b = signM (signV (μ 2) fo nc ns a b) (uF μ) a b μ := rfl
    have e2 : actV (μ 2) fo nc ns (nI 0) a b = signV (μ 2) fo nc ns a b := rfl
    rw [e1, e2]
    refine r_iload_n (pc := 0) 1 dX12_act_0 rfl ?_
    refine r_tableIn (pc := 1) (off := 27) (tgt := 28) dX12_act_1 (by decide) (by decide) (by decide +kernel) (by decide) ?_
    refine r_aload_n (pc := 28) 0 dX12_act_28 rfl ?_
    refine r_iload_n (pc := 29) 2 dX12_act_29 rfl ?_
    refine r_iload_n (pc := 30) 3 dX12_act_30 rfl ?_
    refine r_callV (pc := 31) (As := [_, _]) mv_X12_signNow ml_X12_453 (ct_signNow hm hx hu h16 a b) (q_is hm) rfl rfl (Nat.le_of_ble_eq_true rfl) (Nat.le_of_ble_eq_true rfl) (Nat.le_of_ble_eq_true rfl) (Nat.le_of_ble_eq_true rfl) (Nat.le_of_ble_eq_true rfl) dX12_act_31 (fun r h1 hp => ?_)
    obtain ⟨ν, κ, hS, rfl, rfl⟩ := hp
    show Wp E mX12_act _ _ _ _ [.int _] _ 0 0
    refine r_iret (pc := 34) rfl ?_ (Nat.le_of_ble_eq_true rfl) (Nat.le_of_ble_eq_true rfl) dX12_act_34
    refine ⟨_, κ, ?_, rfl, rfl⟩
    unfold signM
    split
    · exact Sw.up (Sw.rem hS.w _ _) _ _ _
    · exact hS.w
  · have e1 : actM μ fo nc ns (nI 1) a b = dieM (dieV (μ 2) nc a b) (uF μ) a b μ := rfl
    have e2 : actV (μ 2) fo nc ns (nI 1) a b = dieV (μ 2) nc a b := rfl
    rw [e1, e2]
    refine r_iload_n (pc := 0) 1 dX12_act_0 rfl ?_
    refine r_tableIn (pc := 1) (off := 34) (tgt := 35) dX12_act_1 (by decide) (by decide) (by decide +kernel) (by decide) ?_
    refine r_aload_n (pc := 35) 0 dX12_act_35 rfl ?_
    refine r_iload_n (pc := 36) 2 dX12_act_36 rfl ?_
    refine r_iload_n (pc := 37) 3 dX12_act_37 rfl ?_
    refine r_dV (pc := 38) (As := [_, _]) mv_X12_dieNow ml_X12_459 (ct_dieNow hm hx.2.2.1 hx.2.2.2.1 hu h16 a b) (q_is hm) rfl rfl (Nat.le_of_ble_eq_true rfl) (Nat.le_of_ble_eq_true rfl) (Nat.le_of_ble_eq_true rfl) (Nat.le_of_ble_eq_true rfl) (Nat.le_of_ble_eq_true rfl) dX12_act_38 ?_
    refine r_iret (pc := 41) rfl ?_ (Nat.le_of_ble_eq_true rfl) (Nat.le_of_ble_eq_true rfl) dX12_act_41
    exact ⟨_, l, Sw.rf, rfl, rfl⟩
  · have e1 : actM μ fo nc ns (nI 2) a b = clipM (clipV (μ 2) nc a b) (uF μ) a b μ := rfl
    have e2 : actV (μ 2) fo nc ns (nI 2) a b = clipV (μ 2) nc a b := rfl
    rw [e1, e2]
    refine r_iload_n (pc := 0) 1 dX12_act_0 rfl ?_
    refine r_tableIn (pc := 1) (off := 41) (tgt := 42) dX12_act_1 (by decide) (by decide) (by decide +kernel) (by decide) ?_
    refine r_aload_n (pc := 42) 0 dX12_act_42 rfl ?_
    refine r_iload_n (pc := 43) 2 dX12_act_43 rfl ?_
    refine r_iload_n (pc := 44) 3 dX12_act_44 rfl ?_
    refine r_dV (pc := 45) (As := [_, _]) mv_X12_clipNow ml_X12_462 (ct_clipNow hm hx.2.2.1 hx.2.2.2.1 hu h16 hear a b) (q_is hm) rfl rfl (Nat.le_of_ble_eq_true rfl) (Nat.le_of_ble_eq_true rfl) (Nat.le_of_ble_eq_true rfl) (Nat.le_of_ble_eq_true rfl) (Nat.le_of_ble_eq_true rfl) dX12_act_45 ?_
    refine r_iret (pc := 48) rfl ?_ (Nat.le_of_ble_eq_true rfl) (Nat.le_of_ble_eq_true rfl) dX12_act_48
    exact ⟨_, l, Sw.rf, rfl, rfl⟩
  · have e1 : actM μ fo nc ns (nI 3) a b = (if μ 2 5 = 999 then μ else setR (remM μ (uF μ) 3) (passR (μ 2) fo nc)) := rfl
    have e2 : actV (μ 2) fo nc ns (nI 3) a b = passV (μ 2) := rfl
    rw [e1, e2]
    refine r_iload_n (pc := 0) 1 dX12_act_0 rfl ?_
    refine r_tableOut (pc := 1) (tgt := 49) dX12_act_1 ((by decide)) (by decide) ?_
    refine r_aload_n (pc := 49) 0 dX12_act_49 rfl ?_
    refine r_callV (pc := 50) (As := []) mv_X12_passNow ml_X12_468 (ct_passNow hm hx hu h16) (q_is hm) rfl rfl (Nat.le_of_ble_eq_true rfl) (Nat.le_of_ble_eq_true rfl) (Nat.le_of_ble_eq_true rfl) (Nat.le_of_ble_eq_true rfl) (Nat.le_of_ble_eq_true rfl) dX12_act_50 (fun r h1 hp => ?_)
    obtain ⟨ν, κ, hS, rfl, rfl⟩ := hp
    show Wp E mX12_act _ _ _ _ [.int _] _ 0 0
    refine r_iret (pc := 53) rfl ?_ (Nat.le_of_ble_eq_true rfl) (Nat.le_of_ble_eq_true rfl) dX12_act_53
    refine ⟨_, κ, ?_, rfl, rfl⟩
    unfold passM
    split
    · next h9 => rw [if_pos h9] at hS; exact hS.w
    · next h9 => rw [if_neg h9] at hS; exact Sw.cR hS.w _
/-- what the words of orders are -/
def ordE (r : Nat → Int32) (done latest : Int32) (nc ns : Nat) : Nat → Int64 := fun j => if j = 0 then (r 5).toInt64 else if j = 1 then done.toInt64 else if j = 2 then latest.toInt64 else if j = 3 then (onesN (aliveN r nc) 9).toInt64 else if j < 10 then (if j - 4 < nc then (r (8 + (j - 4))).toInt64 else -1) else if j < 16 then (if j - 10 < nc then (r (26 + (j - 10))).toInt64 else -1) else if j - 16 < ns then (onesN (crewN r (nI (j - 16)) nc) 9).toInt64 else -1
theorem ordE_4 {r : Nat → Int32} {done latest : Int32} {nc ns a : Nat} (ha : a < 6) : ordE r done latest nc ns (4 + a) = if a < nc then (r (8 + a)).toInt64 else -1 := by
  unfold ordE
  rw [if_neg (by omega), if_neg (by omega), if_neg (by omega), if_neg (by omega), if_pos (by omega), show 4 + a - 4 = a by omega]
theorem ordE_10 {r : Nat → Int32} {done latest : Int32} {nc ns a : Nat} (ha : a < 6) : ordE r done latest nc ns (10 + a) = if a < nc then (r (26 + a)).toInt64 else -1 := by
  unfold ordE
  rw [if_neg (by omega), if_neg (by omega), if_neg (by omega), if_neg (by omega), if_neg (by omega), if_pos (by omega), show 10 + a - 10 = a by omega]
theorem ordE_16 {r : Nat → Int32} {done latest : Int32} {nc ns a : Nat} : ordE r done latest nc ns (16 + a) = if a < ns then (onesN (crewN r (nI a) nc) 9).toInt64 else -1 := by
  unfold ordE
  rw [if_neg (by omega), if_neg (by omega), if_neg (by omega), if_neg (by omega), if_neg (by omega), if_neg (by omega), show 16 + a - 16 = a by omega]
theorem lfO_OK {r : Nat → Int32} {nw : Nat → Int64} {done latest : Int32} {nc ns : Nat} (h1 : nw 1 = (r 5).toInt64) (h2 : nw 2 = done.toInt64) (h3 : nw 3 = latest.toInt64) (h4 : nw 4 = (onesN (aliveN r nc) 9).toInt64) : LfOK true (ordE r done latest nc ns) (lfO r nw nc ns) := by
  intro op arg hl
  rcases hl with rfl | ⟨z, _⟩ | ⟨_, k, k1, k2, rfl, k5⟩
  · rfl
  · cases z
  · rcases (by omega : k = 1 ∨ k = 2 ∨ k = 3 ∨ k = 4 ∨ k = 5 ∨ k = 6 ∨ k = 7) with rfl | rfl | rfl | rfl | rfl | rfl | rfl
    · show some (nw 1) = _; rw [h1]; rfl
    · show some (nw 2) = _; rw [h2]; rfl
    · show some (nw 3) = _; rw [h3]; rfl
    · show some (nw 4) = _; rw [h4]; rfl
    · obtain ⟨a, rfl, ha, -⟩ := k5 (by omega)
      show (if inN (nI a) nc = true then some (r (8 + (nI a).toNatClampNeg)).toInt64 else some (-1)) = some (ordE r done latest nc ns (4 + (nI a).toNatClampNeg))
      rw [inN_nI (by omega), nI_clamp (by omega), ordE_4 ha]
      by_cases hn : a < nc
      · rw [decide_eq_true hn, if_pos rfl, if_pos hn]
      · rw [decide_eq_false hn, if_neg (by decide), if_neg hn]
    · obtain ⟨a, rfl, ha, -⟩ := k5 (by omega)
      show (if inN (nI a) nc = true then some (r (26 + (nI a).toNatClampNeg)).toInt64 else some (-1)) = some (ordE r done latest nc ns (10 + (nI a).toNatClampNeg))
      rw [inN_nI (by omega), nI_clamp (by omega), ordE_10 ha]
      by_cases hn : a < nc
      · rw [decide_eq_true hn, if_pos rfl, if_pos hn]
      · rw [decide_eq_false hn, if_neg (by decide), if_neg hn]
    · obtain ⟨a, rfl, ha, ha3⟩ := k5 (by omega)
      show some (if inN (nI a) ns = true then onesN (crewN r (nI a) nc) 9 else -1).toInt64 = some (ordE r done latest nc ns (16 + (nI a).toNatClampNeg))
      rw [inN_nI (by omega), nI_clamp (by omega), ordE_16]
      by_cases hn : a < ns
      · rw [decide_eq_true hn, if_pos rfl, if_pos hn]
      · rw [decide_eq_false hn, if_neg (by decide), if_neg hn]; rfl
/-- a sum reckoned -/
def pSu (h : Hp) (m : Nat) (μ : Mu) (l : La) (q : Option Int64) : Option Value → Hp → Prop := fun v h' => ∃ ν κ x, v = some (.int x) ∧ h' = mH h m ν κ ∧ Sw μ l ν κ ∧ κ 19 = l 19 ∧ ν 0 56 = bI q.isNone ∧ ∀ y, q = some y → x = y.toInt32
theorem ct_sumOf (hm : Md E h m) (h20 : μ 0 20 = 0) (h56 : μ 0 56 = 0) {nc ns k a b : Nat} (hk : k + 1 < 96) (hnc : μ 2 0 = nI nc) (h6 : nc ≤ 6) (hns : μ 2 1 = nI ns) (h3 : ns ≤ 3) (ha : μ 32 k = nI a) (hb : μ 32 (k + 1) = nI b) (hb4 : b ≤ 400) {s : Sm} (hs : Seg (μ 11) (μ 12) true a b s) {e : Nat → Int64} (he : LfOK true e (lfO (μ 2) (l 19) nc ns)) : Ct E 3 0 0 mX12_sumOf [.ref m, .int (nI k)] (mH h m μ l) (pSu h m μ l (s e)) := by
  have hab := hs.1
  obtain ⟨N, bk, n', f', hN, hr⟩ := Seg_mEv hs hb4 he (l 20)
  refine Ct.of (by decide +kernel) (Nat.le_of_ble_eq_true rfl) ?_
  refine r_aload_n (pc := 0) 0 dX12_sumOf_0 rfl ?_
  refine q_getI (pc := 1) fl_X12_504 hm dX12_sumOf_1 ?_
  refine r_if_ne (pc := 4) (tgt := 24) dX12_sumOf_4 (by decide) (fun c_4 => ?_) (fun c_4 => ?_)
  · exact absurd h56 c_4
  · refine r_aload_n (pc := 7) 0 dX12_sumOf_7 rfl ?_
    refine q_getR (pc := 8) fl_X12_149 hm (md_f52 hm) dX12_sumOf_8 ?_
    refine r_iload_n (pc := 11) 1 dX12_sumOf_11 rfl ?_
    refine q_iald (pc := 12) (j := k) (md_r52 hm) (by decide) rfl (by omega) (by decide) dX12_sumOf_12 ?_
    refine r_aload_n (pc := 13) 0 dX12_sumOf_13 rfl ?_
    refine q_getR (pc := 14) fl_X12_149 hm (md_f52 hm) dX12_sumOf_14 ?_
    refine r_iload_n (pc := 17) 1 dX12_sumOf_17 rfl ?_
    refine r_iconst (pc := 18) (1) dX12_sumOf_18 rfl ?_
    refine r_iadd (pc := 19) dX12_sumOf_19 ?_
    refine q_iald (pc := 20) (j := k + 1) (md_r52 hm) (by decide) (by simp only [fa_lit, nI_add, nI_mul]) (by omega) (by decide) dX12_sumOf_20 ?_
    refine r_icmp_ne (pc := 21) (tgt := 26) dX12_sumOf_21 (by decide) (fun c_21 => ?_) (fun c_21 => ?_)
    · refine r_aload_n (pc := 26) 0 dX12_sumOf_26 rfl ?_
      refine r_iconst (pc := 27) (1) dX12_sumOf_27 rfl ?_
      refine q_putZ (pc := 28) fp_X12_337 hm (by decide) dX12_sumOf_28 ?_
      refine r_aload_n (pc := 31) 0 dX12_sumOf_31 rfl ?_
      refine r_aload_n (pc := 32) 0 dX12_sumOf_32 rfl ?_
      refine q_getR (pc := 33) fl_X12_149 hm (md_f52 hm) dX12_sumOf_33 ?_
      refine r_iload_n (pc := 36) 1 dX12_sumOf_36 rfl ?_
      refine q_iald (pc := 37) (j := k) (md_r52 hm) (by decide) rfl (by omega) (by decide) dX12_sumOf_37 ?_
      refine r_aload_n (pc := 38) 0 dX12_sumOf_38 rfl ?_
      refine q_getR (pc := 39) fl_X12_149 hm (md_f52 hm) dX12_sumOf_39 ?_
      refine r_iload_n (pc := 42) 1 dX12_sumOf_42 rfl ?_
      refine r_iconst (pc := 43) (1) dX12_sumOf_43 rfl ?_
      refine r_iadd (pc := 44) dX12_sumOf_44 ?_
      refine q_iald (pc := 45) (j := k + 1) (md_r52 hm) (by decide) (by simp only [fa_lit, nI_add, nI_mul]) (by omega) (by decide) dX12_sumOf_45 ?_
      have e32 : up2 μ 0 20 1 32 = μ 32 := by funext j; exact up2_ne (by omega)
      have e2 : up2 μ 0 20 1 2 = μ 2 := by funext j; exact up2_ne (by omega)
      have e11 : up2 μ 0 20 1 11 = μ 11 := by funext j; exact up2_ne (by omega)
      have e12 : up2 μ 0 20 1 12 = μ 12 := by funext j; exact up2_ne (by omega)
      rw [e32, ha, hb]
      have hrk := ct_reckonAll (μ := up2 μ 0 20 1) (l := l) hm (od := true) up2_at (ops := μ 11) (args := μ 12) (lf := lfO (μ 2) (l 19) nc ns) (nc := nc) (ns := ns) (L := 0) (fun _ => ⟨e11.symm, e12.symm, by rw [e2]⟩) (fun z => by cases z) (by rw [e2]; exact hnc) h6 (by rw [e2]; exact hns) h3 (by omega) hb4 hN
      refine r_dV0 (pc := 46) (As := [_, _]) mv_X12_reckonAll ml_X12_430 (hrk) (q_is hm) rfl rfl (Nat.le_of_ble_eq_true rfl) (Nat.le_of_ble_eq_true rfl) (Nat.le_of_ble_eq_true rfl) (Nat.le_of_ble_eq_true rfl) (Nat.le_of_ble_eq_true rfl) dX12_sumOf_46 ?_
      refine r_aload_n (pc := 49) 0 dX12_sumOf_49 rfl ?_
      refine r_iconst (pc := 50) (0) dX12_sumOf_50 rfl ?_
      refine q_putZ (pc := 51) fp_X12_337 hm (by decide) dX12_sumOf_51 ?_
      refine r_aload_n (pc := 54) 0 dX12_sumOf_54 rfl ?_
      refine r_aload_n (pc := 55) 0 dX12_sumOf_55 rfl ?_
      refine q_getI (pc := 56) fl_X12_413 hm dX12_sumOf_56 ?_
      refine q_putZ (pc := 59) fp_X12_504 hm ((by rw [up2_ne (by omega), up2_at]; exact bI_01 bk)) dX12_sumOf_59 ?_
      refine r_aload_n (pc := 62) 0 dX12_sumOf_62 rfl ?_
      refine q_getJ (pc := 63) fl_X12_427 hm dX12_sumOf_63 ?_
      refine r_l2i (pc := 66) dX12_sumOf_66 ?_
      refine r_iret (pc := 67) rfl ?_ (Nat.le_of_ble_eq_true rfl) (Nat.le_of_ble_eq_true rfl) dX12_sumOf_67
      refine ⟨_, _, _, rfl, rfl, ⟨fun o j hq => ?_, fun o j hq => ?_⟩, ?_, ?_, fun y hy => ?_⟩
      · have n1 : ¬ (o = 0 ∧ j = 56) := fun z => hq (Or.inr ⟨z.1, Or.inr (Or.inr z.2)⟩)
        have n2 : ¬ (o = 0 ∧ j = 38) := fun z => hq (Or.inr ⟨z.1, Or.inr (Or.inl z.2)⟩)
        rw [up2_ne n1]
        by_cases h0 : o = 0 ∧ j = 20
        · obtain ⟨rfl, rfl⟩ := h0; rw [up2_at]; exact h20.symm
        · rw [up2_ne h0, up2_ne n2, up2_ne h0]
      · have n1 : ¬ (o = 0 ∧ j = 39) := fun z => hq (Or.inr (Or.inr ⟨z.1, Or.inl z.2⟩))
        rw [up2_ne n1, rsL_ne (fun z => hq (Or.inl ⟨by rw [z]; unfold isScL; omega, by rw [z]; decide⟩))]
      · funext j; rw [up2_ne (by omega), rsL_ne (by decide)]
      · rw [up2_at, up2_ne (by omega), up2_at, hr]
        cases bk
        · rfl
        · rfl
      · rw [hr] at hy
        cases bk with
        | true => cases hy
        | false =>
          rw [if_neg (by decide)] at hy
          rw [up2_at]
          exact congrArg Int64.toInt32 (Option.some.inj hy)
    · rw [ha, hb] at c_21
      have := (nI_eq (by omega) (by omega)).mp c_21
      omega
theorem ct_sumOff (hm : Md E h m) {k : Nat} (h56 : ¬ μ 0 56 = 0) : Ct E 3 0 0 mX12_sumOf [.ref m, .int (nI k)] (mH h m μ l) (po (some (.int (-1))) (mH h m μ l)) := by
  refine Ct.of (by decide +kernel) (Nat.le_of_ble_eq_true rfl) ?_
  refine r_aload_n (pc := 0) 0 dX12_sumOf_0 rfl ?_
  refine q_getI (pc := 1) fl_X12_504 hm dX12_sumOf_1 ?_
  refine r_if_ne (pc := 4) (tgt := 24) dX12_sumOf_4 (by decide) (fun c_4 => ?_) (fun c_4 => ?_)
  · refine r_iconst (pc := 24) (-1) dX12_sumOf_24 rfl ?_
    refine r_iret (pc := 25) rfl ?_ (Nat.le_of_ble_eq_true rfl) (Nat.le_of_ble_eq_true rfl) dX12_sumOf_25
    exact ⟨rfl, rfl⟩
  · exact absurd c_4 h56
theorem ct_sumNo (hm : Md E h m) {k : Nat} (hk : k + 1 < 96) (he : μ 32 k = μ 32 (k + 1)) : Ct E 3 0 0 mX12_sumOf [.ref m, .int (nI k)] (mH h m μ l) (po (some (.int (-1))) (mH h m μ l)) := by
  refine Ct.of (by decide +kernel) (Nat.le_of_ble_eq_true rfl) ?_
  refine r_aload_n (pc := 0) 0 dX12_sumOf_0 rfl ?_
  refine q_getI (pc := 1) fl_X12_504 hm dX12_sumOf_1 ?_
  refine r_if_ne (pc := 4) (tgt := 24) dX12_sumOf_4 (by decide) (fun c_4 => ?_) (fun c_4 => ?_)
  · refine r_iconst (pc := 24) (-1) dX12_sumOf_24 rfl ?_
    refine r_iret (pc := 25) rfl ?_ (Nat.le_of_ble_eq_true rfl) (Nat.le_of_ble_eq_true rfl) dX12_sumOf_25
    exact ⟨rfl, rfl⟩
  · refine r_aload_n (pc := 7) 0 dX12_sumOf_7 rfl ?_
    refine q_getR (pc := 8) fl_X12_149 hm (md_f52 hm) dX12_sumOf_8 ?_
    refine r_iload_n (pc := 11) 1 dX12_sumOf_11 rfl ?_
    refine q_iald (pc := 12) (j := k) (md_r52 hm) (by decide) rfl (by omega) (by decide) dX12_sumOf_12 ?_
    refine r_aload_n (pc := 13) 0 dX12_sumOf_13 rfl ?_
    refine q_getR (pc := 14) fl_X12_149 hm (md_f52 hm) dX12_sumOf_14 ?_
    refine r_iload_n (pc := 17) 1 dX12_sumOf_17 rfl ?_
    refine r_iconst (pc := 18) (1) dX12_sumOf_18 rfl ?_
    refine r_iadd (pc := 19) dX12_sumOf_19 ?_
    refine q_iald (pc := 20) (j := k + 1) (md_r52 hm) (by decide) (by simp only [fa_lit, nI_add, nI_mul]) (by omega) (by decide) dX12_sumOf_20 ?_
    refine r_icmp_ne (pc := 21) (tgt := 26) dX12_sumOf_21 (by decide) (fun c_21 => ?_) (fun c_21 => ?_)
    · exact absurd he c_21
    · refine r_iconst (pc := 24) (-1) dX12_sumOf_24 rfl ?_
      refine r_iret (pc := 25) rfl ?_ (Nat.le_of_ble_eq_true rfl) (Nat.le_of_ble_eq_true rfl) dX12_sumOf_25
      exact ⟨rfl, rfl⟩
end RUN12
