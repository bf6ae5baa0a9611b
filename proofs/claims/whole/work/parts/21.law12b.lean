/-! the reference: earns, dares, shows, bars -/
section LAW12B
variable {E : En} {h : Hp} {m : Nat} {μ : Mu} {l : La}
/-- what reckoning of laws needs of the memory -/
def Mx (μ : Mu) (fo : Option (List Cl)) (nc ns : Nat) : Prop := μ 0 20 = 0 ∧ FoOK (μ 2) fo ∧ μ 2 0 = nI nc ∧ nc ≤ 6 ∧ μ 2 1 = nI ns ∧ ns ≤ 3
theorem Mx.s2 {μ' : Mu} {l' : La} {fo : Option (List Cl)} {nc ns : Nat} (hx : Mx μ fo nc ns) (hS : S2 μ l μ' l') : Mx μ' fo nc ns := by
  obtain ⟨h1, h2, h3, h4, h5, h6⟩ := hx
  have e2 : μ' 2 = μ 2 := hS.1 2 (by decide)
  refine ⟨(hS.2.1 20 (by decide) (by decide)).trans h1, ?_, ?_, h4, ?_, h6⟩
  · rw [e2]; exact h2
  · rw [e2]; exact h3
  · rw [e2]; exact h5
def withinF (v : Int64) (a b : Int32) : Int32 := if v < a.toInt64 then a else if b.toInt64 < v then b else v.toInt32
def earnF (r : Nat → Int32) (fo : Option (List Cl)) (k : Nat) (life spent : Int32) : Int32 := withinF (toldF fo 0 (setE r k life spent (r (32 + k)) 0) (life + 1).toInt64) 0 99
def dareF (r : Nat → Int32) (fo : Option (List Cl)) (k : Nat) (life spent : Int32) : Int32 := withinF (toldF fo 1 (setE r k life spent (r (32 + k)) 0) (r 6).toInt64) 0 10
def showF (r : Nat → Int32) (fo : Option (List Cl)) (k : Nat) (life spent on : Int32) : Int32 := withinF (toldF fo 2 (setE r k life spent (r (32 + k)) on) life.toInt64) 0 9
def barF (r : Nat → Int32) (fo : Option (List Cl)) (k : Nat) (ship : Int32) : Bool := decide (toldF fo 3 (setE r k (r (8 + k)) (spentF r k) ship 0) 0 = 1)
/-- an answer, and nothing but reckoning's own cells written -/
def pS (h : Hp) (m : Nat) (μ : Mu) (l : La) (v : Value) : Option Value → Hp → Prop := fun r h' => ∃ μ' l', h' = mH h m μ' l' ∧ S2 μ l μ' l' ∧ r = some v
theorem ct_earnsOf (hm : Md E h m) {fo : Option (List Cl)} {nc ns : Nat} (hx : Mx μ fo nc ns) {k : Nat} (hk : k < 6) (life spent : Int32) : Ct E 5 0 0 mX12_earnsOf [.ref m, .int (nI k), .int life, .int spent] (mH h m μ l) (pS h m μ l (.int (earnF (μ 2) fo k life spent))) := by
  obtain ⟨h1, h2, h3, h4, h5, h6⟩ := id hx
  refine Ct.of (by decide +kernel) (Nat.le_of_ble_eq_true rfl) ?_
  refine r_aload_n (pc := 0) 0 dX12_earnsOf_0 rfl ?_
  refine r_iconst (pc := 1) (0) dX12_earnsOf_1 rfl ?_
  refine r_iload_n (pc := 2) 1 dX12_earnsOf_2 rfl ?_
  refine r_iload_n (pc := 3) 2 dX12_earnsOf_3 rfl ?_
  refine r_iload_n (pc := 4) 3 dX12_earnsOf_4 rfl ?_
  refine r_aload_n (pc := 5) 0 dX12_earnsOf_5 rfl ?_
  refine q_getR (pc := 6) fl_X12_13 hm (md_f3 hm) dX12_earnsOf_6 ?_
  refine r_bipush (pc := 9) (32) dX12_earnsOf_9 rfl ?_
  refine r_iload_n (pc := 11) 1 dX12_earnsOf_11 rfl ?_
  refine r_iadd (pc := 12) dX12_earnsOf_12 ?_
  refine q_iald (pc := 13) (j := 32 + k) (md_r3 hm) (by decide) (by simp only [fa_lit, nI_add, nI_mul]) (by omega) (by decide) dX12_earnsOf_13 ?_
  refine r_iconst (pc := 14) (0) dX12_earnsOf_14 rfl ?_
  refine r_iload_n (pc := 15) 2 dX12_earnsOf_15 rfl ?_
  refine r_iconst (pc := 16) (1) dX12_earnsOf_16 rfl ?_
  refine r_iadd (pc := 17) dX12_earnsOf_17 ?_
  refine r_i2l (pc := 18) dX12_earnsOf_18 ?_
  refine r_callV (pc := 19) (As := [_, _, _, _, _, _, _]) mv_X12_tells ml_X12_439 (ct_tells hm h1 h2 h3 h4 h5 h6 0 hk life spent _ _ _) (q_is hm) rfl rfl (Nat.le_of_ble_eq_true rfl) (Nat.le_of_ble_eq_true rfl) (Nat.le_of_ble_eq_true rfl) (Nat.le_of_ble_eq_true rfl) (Nat.le_of_ble_eq_true rfl) dX12_earnsOf_19 (fun r h1 hp => ?_)
  obtain ⟨ν, κ, rfl, hS, rfl⟩ := hp
  show Wp E mX12_earnsOf _ _ _ _ [.long _] _ 0 0
  refine r_iconst (pc := 22) (0) dX12_earnsOf_22 rfl ?_
  refine r_bipush (pc := 23) (99) dX12_earnsOf_23 rfl ?_
  refine r_dS (pc := 25) (As := [_, _, _]) ms_X12_within ml_X12_443 (ct_within _ _ _) rfl rfl (Nat.le_of_ble_eq_true rfl) (Nat.le_of_ble_eq_true rfl) (Nat.le_of_ble_eq_true rfl) (Nat.le_of_ble_eq_true rfl) (Nat.le_of_ble_eq_true rfl) dX12_earnsOf_25 ?_
  refine r_iret (pc := 28) rfl ?_ (Nat.le_of_ble_eq_true rfl) (Nat.le_of_ble_eq_true rfl) dX12_earnsOf_28
  exact ⟨ν, κ, rfl, hS, rfl⟩
theorem ct_daresOf (hm : Md E h m) {fo : Option (List Cl)} {nc ns : Nat} (hx : Mx μ fo nc ns) {k : Nat} (hk : k < 6) (life spent : Int32) : Ct E 5 0 0 mX12_daresOf [.ref m, .int (nI k), .int life, .int spent] (mH h m μ l) (pS h m μ l (.int (dareF (μ 2) fo k life spent))) := by
  obtain ⟨h1, h2, h3, h4, h5, h6⟩ := id hx
  refine Ct.of (by decide +kernel) (Nat.le_of_ble_eq_true rfl) ?_
  refine r_aload_n (pc := 0) 0 dX12_daresOf_0 rfl ?_
  refine r_iconst (pc := 1) (1) dX12_daresOf_1 rfl ?_
  refine r_iload_n (pc := 2) 1 dX12_daresOf_2 rfl ?_
  refine r_iload_n (pc := 3) 2 dX12_daresOf_3 rfl ?_
  refine r_iload_n (pc := 4) 3 dX12_daresOf_4 rfl ?_
  refine r_aload_n (pc := 5) 0 dX12_daresOf_5 rfl ?_
  refine q_getR (pc := 6) fl_X12_13 hm (md_f3 hm) dX12_daresOf_6 ?_
  refine r_bipush (pc := 9) (32) dX12_daresOf_9 rfl ?_
  refine r_iload_n (pc := 11) 1 dX12_daresOf_11 rfl ?_
  refine r_iadd (pc := 12) dX12_daresOf_12 ?_
  refine q_iald (pc := 13) (j := 32 + k) (md_r3 hm) (by decide) (by simp only [fa_lit, nI_add, nI_mul]) (by omega) (by decide) dX12_daresOf_13 ?_
  refine r_iconst (pc := 14) (0) dX12_daresOf_14 rfl ?_
  refine r_aload_n (pc := 15) 0 dX12_daresOf_15 rfl ?_
  refine q_getR (pc := 16) fl_X12_13 hm (md_f3 hm) dX12_daresOf_16 ?_
  refine r_bipush (pc := 19) (6) dX12_daresOf_19 rfl ?_
  refine q_iald (pc := 21) (j := 6) (md_r3 hm) (by decide) rfl (by decide) (by decide) dX12_daresOf_21 ?_
  refine r_i2l (pc := 22) dX12_daresOf_22 ?_
  refine r_callV (pc := 23) (As := [_, _, _, _, _, _, _]) mv_X12_tells ml_X12_439 (ct_tells hm h1 h2 h3 h4 h5 h6 1 hk life spent _ _ _) (q_is hm) rfl rfl (Nat.le_of_ble_eq_true rfl) (Nat.le_of_ble_eq_true rfl) (Nat.le_of_ble_eq_true rfl) (Nat.le_of_ble_eq_true rfl) (Nat.le_of_ble_eq_true rfl) dX12_daresOf_23 (fun r h1 hp => ?_)
  obtain ⟨ν, κ, rfl, hS, rfl⟩ := hp
  show Wp E mX12_daresOf _ _ _ _ [.long _] _ 0 0
  refine r_iconst (pc := 26) (0) dX12_daresOf_26 rfl ?_
  refine r_bipush (pc := 27) (10) dX12_daresOf_27 rfl ?_
  refine r_dS (pc := 29) (As := [_, _, _]) ms_X12_within ml_X12_443 (ct_within _ _ _) rfl rfl (Nat.le_of_ble_eq_true rfl) (Nat.le_of_ble_eq_true rfl) (Nat.le_of_ble_eq_true rfl) (Nat.le_of_ble_eq_true rfl) (Nat.le_of_ble_eq_true rfl) dX12_daresOf_29 ?_
  refine r_iret (pc := 32) rfl ?_ (Nat.le_of_ble_eq_true rfl) (Nat.le_of_ble_eq_true rfl) dX12_daresOf_32
  exact ⟨ν, κ, rfl, hS, rfl⟩
theorem ct_showsOf (hm : Md E h m) {fo : Option (List Cl)} {nc ns : Nat} (hx : Mx μ fo nc ns) {k : Nat} (hk : k < 6) (life spent on : Int32) : Ct E 5 0 0 mX12_showsOf [.ref m, .int (nI k), .int life, .int spent, .int on] (mH h m μ l) (pS h m μ l (.int (showF (μ 2) fo k life spent on))) := by
  obtain ⟨h1, h2, h3, h4, h5, h6⟩ := id hx
  refine Ct.of (by decide +kernel) (Nat.le_of_ble_eq_true rfl) ?_
  refine r_aload_n (pc := 0) 0 dX12_showsOf_0 rfl ?_
  refine r_iconst (pc := 1) (2) dX12_showsOf_1 rfl ?_
  refine r_iload_n (pc := 2) 1 dX12_showsOf_2 rfl ?_
  refine r_iload_n (pc := 3) 2 dX12_showsOf_3 rfl ?_
  refine r_iload_n (pc := 4) 3 dX12_showsOf_4 rfl ?_
  refine r_aload_n (pc := 5) 0 dX12_showsOf_5 rfl ?_
  refine q_getR (pc := 6) fl_X12_13 hm (md_f3 hm) dX12_showsOf_6 ?_
  refine r_bipush (pc := 9) (32) dX12_showsOf_9 rfl ?_
  refine r_iload_n (pc := 11) 1 dX12_showsOf_11 rfl ?_
  refine r_iadd (pc := 12) dX12_showsOf_12 ?_
  refine q_iald (pc := 13) (j := 32 + k) (md_r3 hm) (by decide) (by simp only [fa_lit, nI_add, nI_mul]) (by omega) (by decide) dX12_showsOf_13 ?_
  refine r_iload (pc := 14) 4 dX12_showsOf_14 rfl ?_
  refine r_iload_n (pc := 16) 2 dX12_showsOf_16 rfl ?_
  refine r_i2l (pc := 17) dX12_showsOf_17 ?_
  refine r_callV (pc := 18) (As := [_, _, _, _, _, _, _]) mv_X12_tells ml_X12_439 (ct_tells hm h1 h2 h3 h4 h5 h6 2 hk life spent _ _ _) (q_is hm) rfl rfl (Nat.le_of_ble_eq_true rfl) (Nat.le_of_ble_eq_true rfl) (Nat.le_of_ble_eq_true rfl) (Nat.le_of_ble_eq_true rfl) (Nat.le_of_ble_eq_true rfl) dX12_showsOf_18 (fun r h1 hp => ?_)
  obtain ⟨ν, κ, rfl, hS, rfl⟩ := hp
  show Wp E mX12_showsOf _ _ _ _ [.long _] _ 0 0
  refine r_iconst (pc := 21) (0) dX12_showsOf_21 rfl ?_
  refine r_bipush (pc := 22) (9) dX12_showsOf_22 rfl ?_
  refine r_dS (pc := 24) (As := [_, _, _]) ms_X12_within ml_X12_443 (ct_within _ _ _) rfl rfl (Nat.le_of_ble_eq_true rfl) (Nat.le_of_ble_eq_true rfl) (Nat.le_of_ble_eq_true rfl) (Nat.le_of_ble_eq_true rfl) (Nat.le_of_ble_eq_true rfl) dX12_showsOf_24 ?_
  refine r_iret (pc := 27) rfl ?_ (Nat.le_of_ble_eq_true rfl) (Nat.le_of_ble_eq_true rfl) dX12_showsOf_27
  exact ⟨ν, κ, rfl, hS, rfl⟩
theorem ct_isBarred (hm : Md E h m) {fo : Option (List Cl)} {nc ns : Nat} (hx : Mx μ fo nc ns) {k : Nat} (hk : k < 6) (ship : Int32) : Ct E 5 0 0 mX12_isBarred [.ref m, .int (nI k), .int ship] (mH h m μ l) (pS h m μ l (.int (bI (barF (μ 2) fo k ship)))) := by
  obtain ⟨h1, h2, h3, h4, h5, h6⟩ := id hx
  refine Ct.of (by decide +kernel) (Nat.le_of_ble_eq_true rfl) ?_
  refine r_aload_n (pc := 0) 0 dX12_isBarred_0 rfl ?_
  refine r_iconst (pc := 1) (3) dX12_isBarred_1 rfl ?_
  refine r_iload_n (pc := 2) 1 dX12_isBarred_2 rfl ?_
  refine r_aload_n (pc := 3) 0 dX12_isBarred_3 rfl ?_
  refine q_getR (pc := 4) fl_X12_13 hm (md_f3 hm) dX12_isBarred_4 ?_
  refine r_bipush (pc := 7) (8) dX12_isBarred_7 rfl ?_
  refine r_iload_n (pc := 9) 1 dX12_isBarred_9 rfl ?_
  refine r_iadd (pc := 10) dX12_isBarred_10 ?_
  refine q_iald (pc := 11) (j := 8 + k) (md_r3 hm) (by decide) (by simp only [fa_lit, nI_add, nI_mul]) (by omega) (by decide) dX12_isBarred_11 ?_
  refine r_aload_n (pc := 12) 0 dX12_isBarred_12 rfl ?_
  refine r_iload_n (pc := 13) 1 dX12_isBarred_13 rfl ?_
  refine r_dV (pc := 14) (As := [_]) mv_X12_spentOf ml_X12_213 (ct_spentOf hm k hk) (q_is hm) rfl rfl (Nat.le_of_ble_eq_true rfl) (Nat.le_of_ble_eq_true rfl) (Nat.le_of_ble_eq_true rfl) (Nat.le_of_ble_eq_true rfl) (Nat.le_of_ble_eq_true rfl) dX12_isBarred_14 ?_
  refine r_iload_n (pc := 17) 2 dX12_isBarred_17 rfl ?_
  refine r_iconst (pc := 18) (0) dX12_isBarred_18 rfl ?_
  refine r_lconst (pc := 19) (0) dX12_isBarred_19 rfl ?_
  refine r_callV (pc := 20) (As := [_, _, _, _, _, _, _]) mv_X12_tells ml_X12_439 (ct_tells hm h1 h2 h3 h4 h5 h6 3 hk _ _ _ _ _) (q_is hm) rfl rfl (Nat.le_of_ble_eq_true rfl) (Nat.le_of_ble_eq_true rfl) (Nat.le_of_ble_eq_true rfl) (Nat.le_of_ble_eq_true rfl) (Nat.le_of_ble_eq_true rfl) dX12_isBarred_20 (fun r h1 hp => ?_)
  obtain ⟨ν, κ, rfl, hS, rfl⟩ := hp
  show Wp E mX12_isBarred _ _ _ _ [.long _] _ 0 0
  refine r_lconst (pc := 23) (1) dX12_isBarred_23 rfl ?_
  refine r_lcmp_ne (pc := 24) (tgt := 32) dX12_isBarred_24 dX12_isBarred_25 (by decide) (fun c_24 => ?_) (fun c_24 => ?_)
  · refine r_iconst (pc := 32) (0) dX12_isBarred_32 rfl ?_
    refine r_zret (pc := 33) rfl (by decide) ?_ (Nat.le_of_ble_eq_true rfl) (Nat.le_of_ble_eq_true rfl) dX12_isBarred_33
    exact ⟨ν, κ, rfl, hS, pz0 c_24⟩
  · refine r_iconst (pc := 28) (1) dX12_isBarred_28 rfl ?_
    refine r_goto (pc := 29) (tgt := 33) dX12_isBarred_29 (by decide) ?_
    refine r_zret (pc := 33) rfl (by decide) ?_ (Nat.le_of_ble_eq_true rfl) (Nat.le_of_ble_eq_true rfl) dX12_isBarred_33
    exact ⟨ν, κ, rfl, hS, pz1 c_24⟩
def barN (r : Nat → Int32) (fo : Option (List Cl)) (ship : Int32) : Nat → Int32
  | 0 => 0
  | k + 1 => barN r fo ship k ||| (if aliveF r k = true ∧ barF r fo k ship = true then 1 <<< (nI k &&& 31) else 0)
theorem ct_barredFrom (hm : Md E h m) {fo : Option (List Cl)} {nc ns : Nat} (hx : Mx μ fo nc ns) (ship : Int32) : Ct E 6 0 0 mX12_barredFrom [.ref m, .int ship] (mH h m μ l) (pS h m μ l (.int (barN (μ 2) fo ship nc))) := by
  refine Ct.of (by decide +kernel) (Nat.le_of_ble_eq_true rfl) ?_
  refine r_iconst (pc := 0) (0) dX12_barredFrom_0 rfl ?_
  refine r_istore_n (pc := 1) (lv' := [(0, _), (1, _), (2, _)]) dX12_barredFrom_1 (Nat.le_of_ble_eq_true rfl) rfl ?_
  refine r_iconst (pc := 2) (0) dX12_barredFrom_2 rfl ?_
  refine r_istore_n (pc := 3) (lv' := [(0, _), (1, _), (2, _), (3, _)]) dX12_barredFrom_3 (Nat.le_of_ble_eq_true rfl) rfl ?_
  have loop : ∀ k, k ≤ nc → ∀ ν κ, S2 μ l ν κ → Wp E mX12_barredFrom (Rm 6 0 0) (Qm E (pS h m μ l (.int (barN (μ 2) fo ship nc))) 0 0) 4 [(0, .ref m), (1, .int ship), (2, .int (barN (μ 2) fo ship k)), (3, .int (nI k))] [] (mH h m ν κ) 0 0 := by
    refine upTo (fun k hk ih => ?_) ?_
    · intro ν κ hS
      have hx1 := hx.s2 hS
      have e2 : ν 2 = μ 2 := hS.1 2 (by decide)
      have h6 := hx.2.2.2.1
      have fin : ∀ (v : Int32) ν κ, S2 μ l ν κ → v = (if aliveF (μ 2) k = true ∧ barF (μ 2) fo k ship = true then 1 <<< (nI k &&& 31) else 0) → Wp E mX12_barredFrom (Rm 6 0 0) (Qm E (pS h m μ l (.int (barN (μ 2) fo ship nc))) 0 0) 39 [(0, .ref m), (1, .int ship), (2, .int (barN (μ 2) fo ship k)), (3, .int (nI k))] [.int v, .int (barN (μ 2) fo ship k)] (mH h m ν κ) 0 0 := by
        rintro v ν κ hS rfl
        refine r_ior (pc := 39) dX12_barredFrom_39 ?_
        refine r_istore_n (pc := 40) (lv' := [(0, _), (1, _), (2, _), (3, _)]) dX12_barredFrom_40 (Nat.le_of_ble_eq_true rfl) rfl ?_
        refine r_iinc (pc := 41) (v := _ + (1)) (lv' := [(0, _), (1, _), (2, _), (3, _)]) 3 dX12_barredFrom_41 rfl rfl (Nat.le_of_ble_eq_true rfl) rfl ?_
        refine r_goto (pc := 44) (tgt := 4) dX12_barredFrom_44 (by decide) ?_
        rw [nI_1]
        exact ih ν κ hS
      refine r_iload_n (pc := 4) 3 dX12_barredFrom_4 rfl ?_
      refine r_aload_n (pc := 5) 0 dX12_barredFrom_5 rfl ?_
      refine q_getR (pc := 6) fl_X12_13 hm (md_f3 hm) dX12_barredFrom_6 ?_
      refine r_iconst (pc := 9) (0) dX12_barredFrom_9 rfl ?_
      refine q_iald (pc := 10) (j := 0) (md_r3 hm) (by decide) rfl (by decide) (by decide) dX12_barredFrom_10 ?_
      refine r_icmp_ge (pc := 11) (tgt := 47) dX12_barredFrom_11 (by decide) (fun c_11 => ?_) (fun c_11 => ?_)
      · rw [e2, hx.2.2.1] at c_11
        exact absurd c_11 (nI_ge hk (by omega))
      · refine r_iload_n (pc := 14) 2 dX12_barredFrom_14 rfl ?_
        refine r_aload_n (pc := 15) 0 dX12_barredFrom_15 rfl ?_
        refine r_iload_n (pc := 16) 3 dX12_barredFrom_16 rfl ?_
        refine r_dV (pc := 17) (As := [_]) mv_X12_isAlive ml_X12_193 (ct_isAlive hm k (by omega)) (q_is hm) rfl rfl (Nat.le_of_ble_eq_true rfl) (Nat.le_of_ble_eq_true rfl) (Nat.le_of_ble_eq_true rfl) (Nat.le_of_ble_eq_true rfl) (Nat.le_of_ble_eq_true rfl) dX12_barredFrom_17 ?_
        refine r_if_eq (pc := 20) (tgt := 38) dX12_barredFrom_20 (by decide) (fun c_20 => ?_) (fun c_20 => ?_)
        · rw [e2] at c_20
          refine r_iconst (pc := 38) (0) dX12_barredFrom_38 rfl ?_
          refine fin _ ν κ hS ?_
          rw [if_neg (fun z => by rw [bI_0.mp c_20] at z; exact absurd z.1 (by decide))]
        · rw [e2] at c_20
          refine r_aload_n (pc := 23) 0 dX12_barredFrom_23 rfl ?_
          refine r_iload_n (pc := 24) 3 dX12_barredFrom_24 rfl ?_
          refine r_iload_n (pc := 25) 1 dX12_barredFrom_25 rfl ?_
          refine r_callV (pc := 26) (As := [_, _]) mv_X12_isBarred ml_X12_447 (ct_isBarred hm hx1 (by omega) ship) (q_is hm) rfl rfl (Nat.le_of_ble_eq_true rfl) (Nat.le_of_ble_eq_true rfl) (Nat.le_of_ble_eq_true rfl) (Nat.le_of_ble_eq_true rfl) (Nat.le_of_ble_eq_true rfl) dX12_barredFrom_26 (fun r h1 hp => ?_)
          obtain ⟨ν2, κ2, rfl, hS2, rfl⟩ := hp
          rw [e2]
          show Wp E mX12_barredFrom _ _ _ _ [.int _, .int _] _ 0 0
          refine r_if_eq (pc := 29) (tgt := 38) dX12_barredFrom_29 (by decide) (fun c_29 => ?_) (fun c_29 => ?_)
          · refine r_iconst (pc := 38) (0) dX12_barredFrom_38 rfl ?_
            refine fin _ _ _ (hS.tr hS2) ?_
            rw [if_neg (fun z => by rw [bI_0.mp c_29] at z; exact absurd z.2 (by decide))]
          · refine r_iconst (pc := 32) (1) dX12_barredFrom_32 rfl ?_
            refine r_iload_n (pc := 33) 3 dX12_barredFrom_33 rfl ?_
            refine r_ishl (pc := 34) dX12_barredFrom_34 ?_
            refine r_goto (pc := 35) (tgt := 39) dX12_barredFrom_35 (by decide) ?_
            refine fin _ _ _ (hS.tr hS2) ?_
            rw [if_pos ⟨bI_n0.mp c_20, bI_n0.mp c_29⟩]
    · intro ν κ hS
      refine r_iload_n (pc := 4) 3 dX12_barredFrom_4 rfl ?_
      refine r_aload_n (pc := 5) 0 dX12_barredFrom_5 rfl ?_
      refine q_getR (pc := 6) fl_X12_13 hm (md_f3 hm) dX12_barredFrom_6 ?_
      refine r_iconst (pc := 9) (0) dX12_barredFrom_9 rfl ?_
      refine q_iald (pc := 10) (j := 0) (md_r3 hm) (by decide) rfl (by decide) (by decide) dX12_barredFrom_10 ?_
      refine r_icmp_ge (pc := 11) (tgt := 47) dX12_barredFrom_11 (by decide) (fun c_11 => ?_) (fun c_11 => ?_)
      · refine r_iload_n (pc := 47) 2 dX12_barredFrom_47 rfl ?_
        refine r_iret (pc := 48) rfl ?_ (Nat.le_of_ble_eq_true rfl) (Nat.le_of_ble_eq_true rfl) dX12_barredFrom_48
        exact ⟨ν, κ, rfl, hS, rfl⟩
      · exact absurd (by rw [hS.1 2 (by decide), hx.2.2.1]; exact Int32.le_refl _) c_11
  exact loop 0 (by omega) μ l S2.rf
end LAW12B
