/-! the class: what a port tells -/
theorem mk_X5_65 : Cond.methodLinkNest RX5 65 yX11_hasBit "NineLives" ∈ nws := List.mem_of_getElem? (i := 0) rfl
theorem mk_X1_85 : Cond.methodLinkNest RX1 85 yX11_isLife "NineLives" ∈ nws := List.mem_of_getElem? (i := 1) rfl
theorem mk_X1_91 : Cond.methodLinkNest RX1 91 yX11_hasBit "NineLives" ∈ nws := List.mem_of_getElem? (i := 2) rfl
theorem mk_X2_46 : Cond.methodLinkNest RX2 46 yX11_hasBit "NineLives" ∈ nws := List.mem_of_getElem? (i := 3) rfl
theorem mk_X8_55 : Cond.methodLinkNest RX8 55 yX11_hasBit "NineLives" ∈ nws := List.mem_of_getElem? (i := 4) rfl
theorem mk_X2_127 : Cond.methodLinkNest RX2 127 yX11_lowestOf "NineLives" ∈ nws := List.mem_of_getElem? (i := 5) rfl
section PORT
variable {E : En} {h : Hp} {p : Nat} {r : Nat → Int32}
/-- a port's cells hold the row r -/
def PtV (h : Hp) (p : Nat) (r : Nat → Int32) : Prop := (hI h p 0 = r 0 ∧ hI h p 6 = r 1 ∧ hI h p 8 = r 2 ∧ hI h p 11 = r 3 ∧ hI h p 13 = r 4) ∧ (∀ k, k < 3 → hI h (p + 8) k = r (5 + k)) ∧ (∀ k, k < 6 → hI h (p + 1) k = r (8 + k)) ∧ (∀ k, k < 6 → hI h (p + 2) k = r (14 + k)) ∧ (∀ k, k < 6 → hI h (p + 3) k = r (20 + k)) ∧ (∀ k, k < 6 → hI h (p + 4) k = r (26 + k)) ∧ (∀ k, k < 6 → hI h (p + 5) k = r (32 + k)) ∧ (∀ k, k < 3 → hI h (p + 6) k = r (38 + k)) ∧ ∀ k, k < 8 → hI h (p + 7) k = r (41 + k)
theorem pv_0 (hv : PtV h p r) : hI h p 0 = r 0 := hv.1.1
theorem pv_1 (hv : PtV h p r) : hI h p 6 = r 1 := hv.1.2.1
theorem pv_2 (hv : PtV h p r) : hI h p 8 = r 2 := hv.1.2.2.1
theorem pv_3 (hv : PtV h p r) : hI h p 11 = r 3 := hv.1.2.2.2.1
theorem pv_4 (hv : PtV h p r) : hI h p 13 = r 4 := hv.1.2.2.2.2
theorem pv_te (hv : PtV h p r) {k : Nat} (hk : k < 3) : hI h (p + 8) k = r (5 + k) := hv.2.1 k hk
theorem pv_li (hv : PtV h p r) {k : Nat} (hk : k < 6) : hI h (p + 1) k = r (8 + k) := hv.2.2.1 k hk
theorem pv_ye (hv : PtV h p r) {k : Nat} (hk : k < 6) : hI h (p + 2) k = r (14 + k) := hv.2.2.2.1 k hk
theorem pv_ea (hv : PtV h p r) {k : Nat} (hk : k < 6) : hI h (p + 3) k = r (20 + k) := hv.2.2.2.2.1 k hk
theorem pv_go (hv : PtV h p r) {k : Nat} (hk : k < 6) : hI h (p + 4) k = r (26 + k) := hv.2.2.2.2.2.1 k hk
theorem pv_sh (hv : PtV h p r) {k : Nat} (hk : k < 6) : hI h (p + 5) k = r (32 + k) := hv.2.2.2.2.2.2.1 k hk
theorem pv_ne (hv : PtV h p r) {k : Nat} (hk : k < 3) : hI h (p + 6) k = r (38 + k) := hv.2.2.2.2.2.2.2.1 k hk
theorem pv_se (hv : PtV h p r) {k : Nat} (hk : k < 8) : hI h (p + 7) k = r (41 + k) := hv.2.2.2.2.2.2.2.2 k hk
/-- what a row keeps to -/
def RwOK (r : Nat → Int32) (nc ns : Nat) : Prop := r 0 = nI nc ∧ nc ≤ 6 ∧ r 1 = nI ns ∧ ns ≤ 3 ∧ (∀ k, k < 6 → CatOK r k) ∧ (∀ k, k < 6 → ∃ e, e ≤ 9 ∧ r (20 + k) = nI e) ∧ (∀ k, k < 6 → ∃ g, g ≤ 9999 ∧ r (26 + k) = nI g) ∧ (∀ k, k < 6 → r (32 + k) = -1 ∨ ∃ s, s < 3 ∧ r (32 + k) = nI s) ∧ (∃ y, y ≤ 999 ∧ r 5 = nI y) ∧ (∃ d, d ≤ 10 ∧ r 6 = nI d) ∧ (∃ d, d ≤ 9 ∧ r 7 = nI d) ∧ (∀ k, k < 3 → ∃ n, n < 512 ∧ r (38 + k) = nI n)
theorem rw_y {nc ns : Nat} (hr : RwOK r nc ns) {k : Nat} (hk : k < 6) : ∃ y, y < 512 ∧ r (14 + k) = nI y := by
  obtain ⟨_, y, hy, e, _⟩ := hr.2.2.2.2.1 k hk
  exact ⟨y, hy, e⟩
theorem c5_hasCat (hp : ptS E h p) (hv : PtV h p r) {n : Nat} (hn : r 0 = nI n) (h6 : n ≤ 6) (c : Int32) : Ct E 0 0 0 mX5_hasCat [.ref p, .int c] h (po (some (.int (bI (inN c n)))) h) := by
  refine Ct.of (by decide +kernel) (Nat.le_of_ble_eq_true rfl) ?_
  rw [inN_lt (by omega)]
  refine r_iload_n (pc := 0) 1 dX5_hasCat_0 rfl ?_
  refine r_if_lt (pc := 1) (tgt := 16) dX5_hasCat_1 (by decide) (fun c_1 => ?_) (fun c_1 => ?_)
  · refine r_iconst (pc := 16) (0) dX5_hasCat_16 rfl ?_
    refine r_zret (pc := 17) rfl (by decide) ?_ (Nat.le_of_ble_eq_true rfl) (Nat.le_of_ble_eq_true rfl) dX5_hasCat_17
    exact ⟨pz0 (fun z => z.1 c_1), rfl⟩
  · refine r_iload_n (pc := 4) 1 dX5_hasCat_4 rfl ?_
    refine r_aload_n (pc := 5) 0 dX5_hasCat_5 rfl ?_
    refine r_getI (pc := 6) fl_X5_46 (pt_is hp) dX5_hasCat_6 ?_
    refine r_icmp_ge (pc := 9) (tgt := 16) dX5_hasCat_9 (by decide) (fun c_9 => ?_) (fun c_9 => ?_)
    · rw [pv_0 hv, hn] at c_9
      refine r_iconst (pc := 16) (0) dX5_hasCat_16 rfl ?_
      refine r_zret (pc := 17) rfl (by decide) ?_ (Nat.le_of_ble_eq_true rfl) (Nat.le_of_ble_eq_true rfl) dX5_hasCat_17
      exact ⟨pz0 (fun z => z.2 c_9), rfl⟩
    · rw [pv_0 hv, hn] at c_9
      refine r_iconst (pc := 12) (1) dX5_hasCat_12 rfl ?_
      refine r_goto (pc := 13) (tgt := 17) dX5_hasCat_13 (by decide) ?_
      refine r_zret (pc := 17) rfl (by decide) ?_ (Nat.le_of_ble_eq_true rfl) (Nat.le_of_ble_eq_true rfl) dX5_hasCat_17
      exact ⟨pz1 ⟨c_1, c_9⟩, rfl⟩
theorem c5_hasShip (hp : ptS E h p) (hv : PtV h p r) {n : Nat} (hn : r 1 = nI n) (h3 : n ≤ 3) (c : Int32) : Ct E 0 0 0 mX5_hasShip [.ref p, .int c] h (po (some (.int (bI (inN c n)))) h) := by
  refine Ct.of (by decide +kernel) (Nat.le_of_ble_eq_true rfl) ?_
  rw [inN_lt (by omega)]
  refine r_iload_n (pc := 0) 1 dX5_hasShip_0 rfl ?_
  refine r_if_lt (pc := 1) (tgt := 16) dX5_hasShip_1 (by decide) (fun c_1 => ?_) (fun c_1 => ?_)
  · refine r_iconst (pc := 16) (0) dX5_hasShip_16 rfl ?_
    refine r_zret (pc := 17) rfl (by decide) ?_ (Nat.le_of_ble_eq_true rfl) (Nat.le_of_ble_eq_true rfl) dX5_hasShip_17
    exact ⟨pz0 (fun z => z.1 c_1), rfl⟩
  · refine r_iload_n (pc := 4) 1 dX5_hasShip_4 rfl ?_
    refine r_aload_n (pc := 5) 0 dX5_hasShip_5 rfl ?_
    refine r_getI (pc := 6) fl_X5_53 (pt_is hp) dX5_hasShip_6 ?_
    refine r_icmp_ge (pc := 9) (tgt := 16) dX5_hasShip_9 (by decide) (fun c_9 => ?_) (fun c_9 => ?_)
    · rw [pv_1 hv, hn] at c_9
      refine r_iconst (pc := 16) (0) dX5_hasShip_16 rfl ?_
      refine r_zret (pc := 17) rfl (by decide) ?_ (Nat.le_of_ble_eq_true rfl) (Nat.le_of_ble_eq_true rfl) dX5_hasShip_17
      exact ⟨pz0 (fun z => z.2 c_9), rfl⟩
    · rw [pv_1 hv, hn] at c_9
      refine r_iconst (pc := 12) (1) dX5_hasShip_12 rfl ?_
      refine r_goto (pc := 13) (tgt := 17) dX5_hasShip_13 (by decide) ?_
      refine r_zret (pc := 17) rfl (by decide) ?_ (Nat.le_of_ble_eq_true rfl) (Nat.le_of_ble_eq_true rfl) dX5_hasShip_17
      exact ⟨pz1 ⟨c_1, c_9⟩, rfl⟩
theorem c5_hasLaw (hp : ptS E h p) (hv : PtV h p r) {n : Nat} (hn : r 3 = nI n) (h6 : n ≤ 6) (c : Int32) : Ct E 0 0 0 mX5_hasLaw [.ref p, .int c] h (po (some (.int (bI (inN c n)))) h) := by
  refine Ct.of (by decide +kernel) (Nat.le_of_ble_eq_true rfl) ?_
  rw [inN_lt (by omega)]
  refine r_iload_n (pc := 0) 1 dX5_hasLaw_0 rfl ?_
  refine r_if_lt (pc := 1) (tgt := 16) dX5_hasLaw_1 (by decide) (fun c_1 => ?_) (fun c_1 => ?_)
  · refine r_iconst (pc := 16) (0) dX5_hasLaw_16 rfl ?_
    refine r_zret (pc := 17) rfl (by decide) ?_ (Nat.le_of_ble_eq_true rfl) (Nat.le_of_ble_eq_true rfl) dX5_hasLaw_17
    exact ⟨pz0 (fun z => z.1 c_1), rfl⟩
  · refine r_iload_n (pc := 4) 1 dX5_hasLaw_4 rfl ?_
    refine r_aload_n (pc := 5) 0 dX5_hasLaw_5 rfl ?_
    refine r_getI (pc := 6) fl_X5_56 (pt_is hp) dX5_hasLaw_6 ?_
    refine r_icmp_ge (pc := 9) (tgt := 16) dX5_hasLaw_9 (by decide) (fun c_9 => ?_) (fun c_9 => ?_)
    · rw [pv_3 hv, hn] at c_9
      refine r_iconst (pc := 16) (0) dX5_hasLaw_16 rfl ?_
      refine r_zret (pc := 17) rfl (by decide) ?_ (Nat.le_of_ble_eq_true rfl) (Nat.le_of_ble_eq_true rfl) dX5_hasLaw_17
      exact ⟨pz0 (fun z => z.2 c_9), rfl⟩
    · rw [pv_3 hv, hn] at c_9
      refine r_iconst (pc := 12) (1) dX5_hasLaw_12 rfl ?_
      refine r_goto (pc := 13) (tgt := 17) dX5_hasLaw_13 (by decide) ?_
      refine r_zret (pc := 17) rfl (by decide) ?_ (Nat.le_of_ble_eq_true rfl) (Nat.le_of_ble_eq_true rfl) dX5_hasLaw_17
      exact ⟨pz1 ⟨c_1, c_9⟩, rfl⟩
def hereB (r : Nat → Int32) (n : Nat) (c : Int32) : Bool := inN c n && aliveF r c.toNatClampNeg
theorem c5_isHere (hp : ptS E h p) (hv : PtV h p r) {n : Nat} (hn : r 0 = nI n) (h6 : n ≤ 6) (c : Int32) : Ct E 1 0 0 mX5_isHere [.ref p, .int c] h (po (some (.int (bI (hereB r n c)))) h) := by
  refine Ct.of (by decide +kernel) (Nat.le_of_ble_eq_true rfl) ?_
  refine r_aload_n (pc := 0) 0 dX5_isHere_0 rfl ?_
  refine r_iload_n (pc := 1) 1 dX5_isHere_1 rfl ?_
  refine r_dV (pc := 2) (As := [_]) mv_X5_hasCat ml_X5_49 (c5_hasCat hp hv hn h6 _) (pt_is hp) rfl rfl (Nat.le_of_ble_eq_true rfl) (Nat.le_of_ble_eq_true rfl) (Nat.le_of_ble_eq_true rfl) (Nat.le_of_ble_eq_true rfl) (Nat.le_of_ble_eq_true rfl) dX5_isHere_2 ?_
  refine r_if_eq (pc := 5) (tgt := 22) dX5_isHere_5 (by decide) (fun c_5 => ?_) (fun c_5 => ?_)
  · refine r_iconst (pc := 22) (0) dX5_isHere_22 rfl ?_
    refine r_zret (pc := 23) rfl (by decide) ?_ (Nat.le_of_ble_eq_true rfl) (Nat.le_of_ble_eq_true rfl) dX5_isHere_23
    exact ⟨by rw [hereB, bI_0.mp c_5]; rfl, rfl⟩
  · have hc := bI_n0.mp c_5
    obtain ⟨k, hk, rfl⟩ := inN_of (by omega) hc
    refine r_aload_n (pc := 8) 0 dX5_isHere_8 rfl ?_
    refine r_getR (pc := 9) fl_X5_9 (pt_is hp) (pt_f1 hp) dX5_isHere_9 ?_
    refine r_iload_n (pc := 12) 1 dX5_isHere_12 rfl ?_
    refine r_iald (pc := 13) (j := k) (pt_r1 hp) rfl (by omega) (by decide) dX5_isHere_13 ?_
    refine r_iconst (pc := 14) (-1) dX5_isHere_14 rfl ?_
    refine r_icmp_eq (pc := 15) (tgt := 22) dX5_isHere_15 (by decide) (fun c_15 => ?_) (fun c_15 => ?_)
    · rw [pv_li hv (by omega)] at c_15
      refine r_iconst (pc := 22) (0) dX5_isHere_22 rfl ?_
      refine r_zret (pc := 23) rfl (by decide) ?_ (Nat.le_of_ble_eq_true rfl) (Nat.le_of_ble_eq_true rfl) dX5_isHere_23
      exact ⟨by rw [hereB, hc, nI_clamp (by omega), aliveF, decide_eq_false (fun z => z c_15)]; rfl, rfl⟩
    · rw [pv_li hv (by omega)] at c_15
      refine r_iconst (pc := 18) (1) dX5_isHere_18 rfl ?_
      refine r_goto (pc := 19) (tgt := 23) dX5_isHere_19 (by decide) ?_
      refine r_zret (pc := 23) rfl (by decide) ?_ (Nat.le_of_ble_eq_true rfl) (Nat.le_of_ble_eq_true rfl) dX5_isHere_23
      exact ⟨by rw [hereB, hc, nI_clamp (by omega), aliveF, decide_eq_true c_15]; rfl, rfl⟩
theorem c5_spentBy (hp : ptS E h p) (hv : PtV h p r) {k y : Nat} (hk : k < 6) (hy : y < 512) (ey : r (14 + k) = nI y) : Ct E 1 0 0 mX5_spentBy [.ref p, .int (nI k)] h (po (some (.int (spentF r k))) h) := by
  refine Ct.of (by decide +kernel) (Nat.le_of_ble_eq_true rfl) ?_
  have fin : ∀ g : Bool, g = aliveF r k → Wp E mX5_spentBy (Rm 1 0 0) (Qm E (po (some (.int (spentF r k))) h) 0 0) 15 [(0, .ref p), (1, .int (nI k))] [.int (bI g)] h 0 0 := by
    rintro g rfl
    refine r_istore_n (pc := 15) (lv' := [(0, _), (1, _), (2, _)]) dX5_spentBy_15 (Nat.le_of_ble_eq_true rfl) rfl ?_
    refine r_bipush (pc := 16) (9) dX5_spentBy_16 rfl ?_
    refine r_aload_n (pc := 18) 0 dX5_spentBy_18 rfl ?_
    refine r_getR (pc := 19) fl_X5_15 (pt_is hp) (pt_f2 hp) dX5_spentBy_19 ?_
    refine r_iload_n (pc := 22) 1 dX5_spentBy_22 rfl ?_
    refine r_iald (pc := 23) (j := k) (pt_r2 hp) rfl (by omega) (by decide) dX5_spentBy_23 ?_
    refine r_dS (pc := 24) (As := [_]) ms_J6_bitCount_0f7a4 ml_X5_59 (ct_bitCount _) rfl rfl (Nat.le_of_ble_eq_true rfl) (Nat.le_of_ble_eq_true rfl) (Nat.le_of_ble_eq_true rfl) (Nat.le_of_ble_eq_true rfl) (Nat.le_of_ble_eq_true rfl) dX5_spentBy_24 ?_
    refine r_isub (pc := 27) dX5_spentBy_27 ?_
    refine r_iload_n (pc := 28) 2 dX5_spentBy_28 rfl ?_
    refine r_isub (pc := 29) dX5_spentBy_29 ?_
    refine r_iret (pc := 30) rfl ?_ (Nat.le_of_ble_eq_true rfl) (Nat.le_of_ble_eq_true rfl) dX5_spentBy_30
    refine ⟨?_, rfl⟩
    rw [pv_ye hv hk, ey, bcF_ones hy, ← ey]; rfl
  refine r_aload_n (pc := 0) 0 dX5_spentBy_0 rfl ?_
  refine r_getR (pc := 1) fl_X5_9 (pt_is hp) (pt_f1 hp) dX5_spentBy_1 ?_
  refine r_iload_n (pc := 4) 1 dX5_spentBy_4 rfl ?_
  refine r_iald (pc := 5) (j := k) (pt_r1 hp) rfl (by omega) (by decide) dX5_spentBy_5 ?_
  refine r_iconst (pc := 6) (-1) dX5_spentBy_6 rfl ?_
  refine r_icmp_ne (pc := 7) (tgt := 14) dX5_spentBy_7 (by decide) (fun c_7 => ?_) (fun c_7 => ?_)
  · rw [pv_li hv hk] at c_7
    refine r_iconst (pc := 14) (1) dX5_spentBy_14 rfl ?_
    exact fin true (by rw [aliveF, decide_eq_true c_7])
  · rw [pv_li hv hk] at c_7
    refine r_iconst (pc := 10) (0) dX5_spentBy_10 rfl ?_
    refine r_goto (pc := 11) (tgt := 15) dX5_spentBy_11 (by decide) ?_
    exact fin false (by rw [aliveF, decide_eq_false (fun z => z c_7)])
def cntA (r : Nat → Int32) : Nat → Nat
  | 0 => 0
  | k + 1 => cntA r k + (if aliveF r k = true then 1 else 0)
theorem cntA_le (r : Nat → Int32) : ∀ n, cntA r n ≤ n
  | 0 => Nat.le_refl _
  | n + 1 => by rw [cntA]; have := cntA_le r n; split <;> omega
theorem c5_howManyAlive (hp : ptS E h p) (hv : PtV h p r) {n : Nat} (hn : r 0 = nI n) (h6 : n ≤ 6) : Ct E 0 0 0 mX5_howManyAlive [.ref p] h (po (some (.int (nI (cntA r n)))) h) := by
  refine Ct.of (by decide +kernel) (Nat.le_of_ble_eq_true rfl) ?_
  refine r_iconst (pc := 0) (0) dX5_howManyAlive_0 rfl ?_
  refine r_istore_n (pc := 1) (lv' := [(0, _), (1, _)]) dX5_howManyAlive_1 (Nat.le_of_ble_eq_true rfl) rfl ?_
  refine r_iconst (pc := 2) (0) dX5_howManyAlive_2 rfl ?_
  refine r_istore_n (pc := 3) (lv' := [(0, _), (1, _), (2, _)]) dX5_howManyAlive_3 (Nat.le_of_ble_eq_true rfl) rfl ?_
  have loop : ∀ k, k ≤ n → Wp E mX5_howManyAlive (Rm 0 0 0) (Qm E (po (some (.int (nI (cntA r n)))) h) 0 0) 4 [(0, .ref p), (1, .int (nI (cntA r k))), (2, .int (nI k))] [] h 0 0 := by
    refine upTo (fun k hk ih => ?_) ?_
    · refine r_iload_n (pc := 4) 2 dX5_howManyAlive_4 rfl ?_
      refine r_aload_n (pc := 5) 0 dX5_howManyAlive_5 rfl ?_
      refine r_getI (pc := 6) fl_X5_46 (pt_is hp) dX5_howManyAlive_6 ?_
      refine r_icmp_ge (pc := 9) (tgt := 31) dX5_howManyAlive_9 (by decide) (fun c_9 => ?_) (fun c_9 => ?_)
      · rw [pv_0 hv, hn] at c_9; exact absurd c_9 (nI_ge hk (by omega))
      · refine r_aload_n (pc := 12) 0 dX5_howManyAlive_12 rfl ?_
        refine r_getR (pc := 13) fl_X5_9 (pt_is hp) (pt_f1 hp) dX5_howManyAlive_13 ?_
        refine r_iload_n (pc := 16) 2 dX5_howManyAlive_16 rfl ?_
        refine r_iald (pc := 17) (j := k) (pt_r1 hp) rfl (by omega) (by decide) dX5_howManyAlive_17 ?_
        refine r_iconst (pc := 18) (-1) dX5_howManyAlive_18 rfl ?_
        refine r_icmp_eq (pc := 19) (tgt := 25) dX5_howManyAlive_19 (by decide) (fun c_19 => ?_) (fun c_19 => ?_)
        · rw [pv_li hv (by omega)] at c_19
          have e9 : cntA r (k + 1) = cntA r k := by rw [cntA, if_neg (by rw [aliveF, decide_eq_false (fun z => z c_19)]; decide), Nat.add_zero]
          rw [e9] at ih
          refine r_iinc (pc := 25) (v := _ + (1)) (lv' := [(0, _), (1, _), (2, _)]) 2 dX5_howManyAlive_25 rfl rfl (Nat.le_of_ble_eq_true rfl) rfl ?_
          refine r_goto (pc := 28) (tgt := 4) dX5_howManyAlive_28 (by decide) ?_
          rw [nI_1]; exact ih
        · rw [pv_li hv (by omega)] at c_19
          have e9 : cntA r (k + 1) = cntA r k + 1 := by rw [cntA, if_pos (by rw [aliveF, decide_eq_true c_19])]
          rw [e9] at ih
          refine r_iinc (pc := 22) (v := _ + (1)) (lv' := [(0, _), (1, _), (2, _)]) 1 dX5_howManyAlive_22 rfl rfl (Nat.le_of_ble_eq_true rfl) rfl ?_
          refine r_iinc (pc := 25) (v := _ + (1)) (lv' := [(0, _), (1, _), (2, _)]) 2 dX5_howManyAlive_25 rfl rfl (Nat.le_of_ble_eq_true rfl) rfl ?_
          refine r_goto (pc := 28) (tgt := 4) dX5_howManyAlive_28 (by decide) ?_
          rw [nI_1, nI_1]; exact ih
    · refine r_iload_n (pc := 4) 2 dX5_howManyAlive_4 rfl ?_
      refine r_aload_n (pc := 5) 0 dX5_howManyAlive_5 rfl ?_
      refine r_getI (pc := 6) fl_X5_46 (pt_is hp) dX5_howManyAlive_6 ?_
      refine r_icmp_ge (pc := 9) (tgt := 31) dX5_howManyAlive_9 (by decide) (fun c_9 => ?_) (fun c_9 => ?_)
      · refine r_iload_n (pc := 31) 1 dX5_howManyAlive_31 rfl ?_
        refine r_iret (pc := 32) rfl ?_ (Nat.le_of_ble_eq_true rfl) (Nat.le_of_ble_eq_true rfl) dX5_howManyAlive_32
        exact ⟨rfl, rfl⟩
      · rw [pv_0 hv, hn] at c_9; exact absurd (Int32.le_refl _) c_9
  exact loop 0 (by omega)
theorem c5_allGold (hp : ptS E h p) (hv : PtV h p r) {n : Nat} (hn : r 0 = nI n) (h6 : n ≤ 6) : Ct E 0 0 0 mX5_allGold [.ref p] h (po (some (.int (goldN r n))) h) := by
  refine Ct.of (by decide +kernel) (Nat.le_of_ble_eq_true rfl) ?_
  refine r_iconst (pc := 0) (0) dX5_allGold_0 rfl ?_
  refine r_istore_n (pc := 1) (lv' := [(0, _), (1, _)]) dX5_allGold_1 (Nat.le_of_ble_eq_true rfl) rfl ?_
  refine r_iconst (pc := 2) (0) dX5_allGold_2 rfl ?_
  refine r_istore_n (pc := 3) (lv' := [(0, _), (1, _), (2, _)]) dX5_allGold_3 (Nat.le_of_ble_eq_true rfl) rfl ?_
  have loop : ∀ k, k ≤ n → Wp E mX5_allGold (Rm 0 0 0) (Qm E (po (some (.int (goldN r n))) h) 0 0) 4 [(0, .ref p), (1, .int (goldN r k)), (2, .int (nI k))] [] h 0 0 := by
    refine upTo (fun k hk ih => ?_) ?_
    · refine r_iload_n (pc := 4) 2 dX5_allGold_4 rfl ?_
      refine r_aload_n (pc := 5) 0 dX5_allGold_5 rfl ?_
      refine r_getI (pc := 6) fl_X5_46 (pt_is hp) dX5_allGold_6 ?_
      refine r_icmp_ge (pc := 9) (tgt := 27) dX5_allGold_9 (by decide) (fun c_9 => ?_) (fun c_9 => ?_)
      · rw [pv_0 hv, hn] at c_9; exact absurd c_9 (nI_ge hk (by omega))
      · refine r_iload_n (pc := 12) 1 dX5_allGold_12 rfl ?_
        refine r_aload_n (pc := 13) 0 dX5_allGold_13 rfl ?_
        refine r_getR (pc := 14) fl_X5_21 (pt_is hp) (pt_f4 hp) dX5_allGold_14 ?_
        refine r_iload_n (pc := 17) 2 dX5_allGold_17 rfl ?_
        refine r_iald (pc := 18) (j := k) (pt_r4 hp) rfl (by omega) (by decide) dX5_allGold_18 ?_
        refine r_iadd (pc := 19) dX5_allGold_19 ?_
        refine r_istore_n (pc := 20) (lv' := [(0, _), (1, _), (2, _)]) dX5_allGold_20 (Nat.le_of_ble_eq_true rfl) rfl ?_
        refine r_iinc (pc := 21) (v := _ + (1)) (lv' := [(0, _), (1, _), (2, _)]) 2 dX5_allGold_21 rfl rfl (Nat.le_of_ble_eq_true rfl) rfl ?_
        refine r_goto (pc := 24) (tgt := 4) dX5_allGold_24 (by decide) ?_
        rw [pv_go hv (by omega), nI_1]; exact ih
    · refine r_iload_n (pc := 4) 2 dX5_allGold_4 rfl ?_
      refine r_aload_n (pc := 5) 0 dX5_allGold_5 rfl ?_
      refine r_getI (pc := 6) fl_X5_46 (pt_is hp) dX5_allGold_6 ?_
      refine r_icmp_ge (pc := 9) (tgt := 27) dX5_allGold_9 (by decide) (fun c_9 => ?_) (fun c_9 => ?_)
      · refine r_iload_n (pc := 27) 1 dX5_allGold_27 rfl ?_
        refine r_iret (pc := 28) rfl ?_ (Nat.le_of_ble_eq_true rfl) (Nat.le_of_ble_eq_true rfl) dX5_allGold_28
        exact ⟨rfl, rfl⟩
      · rw [pv_0 hv, hn] at c_9; exact absurd (Int32.le_refl _) c_9
  exact loop 0 (by omega)
theorem c5_crewOf (hp : ptS E h p) (hv : PtV h p r) {n : Nat} (hn : r 0 = nI n) (h6 : n ≤ 6) (s : Int32) : Ct E 0 0 0 mX5_crewOf [.ref p, .int s] h (po (some (.int (crewN r s n))) h) := by
  refine Ct.of (by decide +kernel) (Nat.le_of_ble_eq_true rfl) ?_
  refine r_iconst (pc := 0) (0) dX5_crewOf_0 rfl ?_
  refine r_istore_n (pc := 1) (lv' := [(0, _), (1, _), (2, _)]) dX5_crewOf_1 (Nat.le_of_ble_eq_true rfl) rfl ?_
  refine r_iconst (pc := 2) (0) dX5_crewOf_2 rfl ?_
  refine r_istore_n (pc := 3) (lv' := [(0, _), (1, _), (2, _), (3, _)]) dX5_crewOf_3 (Nat.le_of_ble_eq_true rfl) rfl ?_
  have loop : ∀ k, k ≤ n → Wp E mX5_crewOf (Rm 0 0 0) (Qm E (po (some (.int (crewN r s n))) h) 0 0) 4 [(0, .ref p), (1, .int s), (2, .int (crewN r s k)), (3, .int (nI k))] [] h 0 0 := by
    refine upTo (fun k hk ih => ?_) ?_
    · refine r_iload_n (pc := 4) 3 dX5_crewOf_4 rfl ?_
      refine r_aload_n (pc := 5) 0 dX5_crewOf_5 rfl ?_
      refine r_getI (pc := 6) fl_X5_46 (pt_is hp) dX5_crewOf_6 ?_
      refine r_icmp_ge (pc := 9) (tgt := 34) dX5_crewOf_9 (by decide) (fun c_9 => ?_) (fun c_9 => ?_)
      · rw [pv_0 hv, hn] at c_9; exact absurd c_9 (nI_ge hk (by omega))
      · refine r_aload_n (pc := 12) 0 dX5_crewOf_12 rfl ?_
        refine r_getR (pc := 13) fl_X5_24 (pt_is hp) (pt_f5 hp) dX5_crewOf_13 ?_
        refine r_iload_n (pc := 16) 3 dX5_crewOf_16 rfl ?_
        refine r_iald (pc := 17) (j := k) (pt_r5 hp) rfl (by omega) (by decide) dX5_crewOf_17 ?_
        refine r_iload_n (pc := 18) 1 dX5_crewOf_18 rfl ?_
        refine r_icmp_ne (pc := 19) (tgt := 28) dX5_crewOf_19 (by decide) (fun c_19 => ?_) (fun c_19 => ?_)
        · rw [pv_sh hv (by omega)] at c_19
          have e9 : crewN r s (k + 1) = crewN r s k := by rw [crewN, if_neg c_19, Int32.or_zero]
          rw [e9] at ih
          refine r_iinc (pc := 28) (v := _ + (1)) (lv' := [(0, _), (1, _), (2, _), (3, _)]) 3 dX5_crewOf_28 rfl rfl (Nat.le_of_ble_eq_true rfl) rfl ?_
          refine r_goto (pc := 31) (tgt := 4) dX5_crewOf_31 (by decide) ?_
          rw [nI_1]; exact ih
        · rw [pv_sh hv (by omega)] at c_19
          have e9 : crewN r s (k + 1) = crewN r s k ||| 1 <<< (nI k &&& 31) := by rw [crewN, if_pos c_19]
          rw [e9] at ih
          refine r_iload_n (pc := 22) 2 dX5_crewOf_22 rfl ?_
          refine r_iconst (pc := 23) (1) dX5_crewOf_23 rfl ?_
          refine r_iload_n (pc := 24) 3 dX5_crewOf_24 rfl ?_
          refine r_ishl (pc := 25) dX5_crewOf_25 ?_
          refine r_ior (pc := 26) dX5_crewOf_26 ?_
          refine r_istore_n (pc := 27) (lv' := [(0, _), (1, _), (2, _), (3, _)]) dX5_crewOf_27 (Nat.le_of_ble_eq_true rfl) rfl ?_
          refine r_iinc (pc := 28) (v := _ + (1)) (lv' := [(0, _), (1, _), (2, _), (3, _)]) 3 dX5_crewOf_28 rfl rfl (Nat.le_of_ble_eq_true rfl) rfl ?_
          refine r_goto (pc := 31) (tgt := 4) dX5_crewOf_31 (by decide) ?_
          rw [nI_1]; exact ih
    · refine r_iload_n (pc := 4) 3 dX5_crewOf_4 rfl ?_
      refine r_aload_n (pc := 5) 0 dX5_crewOf_5 rfl ?_
      refine r_getI (pc := 6) fl_X5_46 (pt_is hp) dX5_crewOf_6 ?_
      refine r_icmp_ge (pc := 9) (tgt := 34) dX5_crewOf_9 (by decide) (fun c_9 => ?_) (fun c_9 => ?_)
      · refine r_iload_n (pc := 34) 2 dX5_crewOf_34 rfl ?_
        refine r_iret (pc := 35) rfl ?_ (Nat.le_of_ble_eq_true rfl) (Nat.le_of_ble_eq_true rfl) dX5_crewOf_35
        exact ⟨rfl, rfl⟩
      · rw [pv_0 hv, hn] at c_9; exact absurd (Int32.le_refl _) c_9
  exact loop 0 (by omega)
def woN (r : Nat → Int32) : Nat → Int32
  | 0 => 0
  | k + 1 => woN r k ||| (if aliveF r k = true ∧ r (32 + k) = -1 then 1 <<< (nI k &&& 31) else 0)
theorem c5_withoutShip (hp : ptS E h p) (hv : PtV h p r) {n : Nat} (hn : r 0 = nI n) (h6 : n ≤ 6) : Ct E 0 0 0 mX5_withoutShip [.ref p] h (po (some (.int (woN r n))) h) := by
  refine Ct.of (by decide +kernel) (Nat.le_of_ble_eq_true rfl) ?_
  refine r_iconst (pc := 0) (0) dX5_withoutShip_0 rfl ?_
  refine r_istore_n (pc := 1) (lv' := [(0, _), (1, _)]) dX5_withoutShip_1 (Nat.le_of_ble_eq_true rfl) rfl ?_
  refine r_iconst (pc := 2) (0) dX5_withoutShip_2 rfl ?_
  refine r_istore_n (pc := 3) (lv' := [(0, _), (1, _), (2, _)]) dX5_withoutShip_3 (Nat.le_of_ble_eq_true rfl) rfl ?_
  have loop : ∀ k, k ≤ n → Wp E mX5_withoutShip (Rm 0 0 0) (Qm E (po (some (.int (woN r n))) h) 0 0) 4 [(0, .ref p), (1, .int (woN r k)), (2, .int (nI k))] [] h 0 0 := by
    refine upTo (fun k hk ih => ?_) ?_
    · have no : ¬ (aliveF r k = true ∧ r (32 + k) = -1) → Wp E mX5_withoutShip (Rm 0 0 0) (Qm E (po (some (.int (woN r n))) h) 0 0) 38 [(0, .ref p), (1, .int (woN r k)), (2, .int (nI k))] [] h 0 0 := by
        intro hno
        have e9 : woN r (k + 1) = woN r k := by rw [woN, if_neg hno, Int32.or_zero]
        rw [e9] at ih
        refine r_iinc (pc := 38) (v := _ + (1)) (lv' := [(0, _), (1, _), (2, _)]) 2 dX5_withoutShip_38 rfl rfl (Nat.le_of_ble_eq_true rfl) rfl ?_
        refine r_goto (pc := 41) (tgt := 4) dX5_withoutShip_41 (by decide) ?_
        rw [nI_1]; exact ih
      refine r_iload_n (pc := 4) 2 dX5_withoutShip_4 rfl ?_
      refine r_aload_n (pc := 5) 0 dX5_withoutShip_5 rfl ?_
      refine r_getI (pc := 6) fl_X5_46 (pt_is hp) dX5_withoutShip_6 ?_
      refine r_icmp_ge (pc := 9) (tgt := 44) dX5_withoutShip_9 (by decide) (fun c_9 => ?_) (fun c_9 => ?_)
      · rw [pv_0 hv, hn] at c_9; exact absurd c_9 (nI_ge hk (by omega))
      · refine r_aload_n (pc := 12) 0 dX5_withoutShip_12 rfl ?_
        refine r_getR (pc := 13) fl_X5_9 (pt_is hp) (pt_f1 hp) dX5_withoutShip_13 ?_
        refine r_iload_n (pc := 16) 2 dX5_withoutShip_16 rfl ?_
        refine r_iald (pc := 17) (j := k) (pt_r1 hp) rfl (by omega) (by decide) dX5_withoutShip_17 ?_
        refine r_iconst (pc := 18) (-1) dX5_withoutShip_18 rfl ?_
        refine r_icmp_eq (pc := 19) (tgt := 38) dX5_withoutShip_19 (by decide) (fun c_19 => ?_) (fun c_19 => ?_)
        · rw [pv_li hv (by omega)] at c_19
          exact no (fun z => by rw [aliveF, decide_eq_false (fun y => y c_19)] at z; exact absurd z.1 (by decide))
        · rw [pv_li hv (by omega)] at c_19
          refine r_aload_n (pc := 22) 0 dX5_withoutShip_22 rfl ?_
          refine r_getR (pc := 23) fl_X5_24 (pt_is hp) (pt_f5 hp) dX5_withoutShip_23 ?_
          refine r_iload_n (pc := 26) 2 dX5_withoutShip_26 rfl ?_
          refine r_iald (pc := 27) (j := k) (pt_r5 hp) rfl (by omega) (by decide) dX5_withoutShip_27 ?_
          refine r_iconst (pc := 28) (-1) dX5_withoutShip_28 rfl ?_
          refine r_icmp_ne (pc := 29) (tgt := 38) dX5_withoutShip_29 (by decide) (fun c_29 => ?_) (fun c_29 => ?_)
          · rw [pv_sh hv (by omega)] at c_29
            exact no (fun z => c_29 z.2)
          · rw [pv_sh hv (by omega)] at c_29
            have e9 : woN r (k + 1) = woN r k ||| 1 <<< (nI k &&& 31) := by rw [woN, if_pos ⟨by rw [aliveF, decide_eq_true c_19], c_29⟩]
            rw [e9] at ih
            refine r_iload_n (pc := 32) 1 dX5_withoutShip_32 rfl ?_
            refine r_iconst (pc := 33) (1) dX5_withoutShip_33 rfl ?_
            refine r_iload_n (pc := 34) 2 dX5_withoutShip_34 rfl ?_
            refine r_ishl (pc := 35) dX5_withoutShip_35 ?_
            refine r_ior (pc := 36) dX5_withoutShip_36 ?_
            refine r_istore_n (pc := 37) (lv' := [(0, _), (1, _), (2, _)]) dX5_withoutShip_37 (Nat.le_of_ble_eq_true rfl) rfl ?_
            refine r_iinc (pc := 38) (v := _ + (1)) (lv' := [(0, _), (1, _), (2, _)]) 2 dX5_withoutShip_38 rfl rfl (Nat.le_of_ble_eq_true rfl) rfl ?_
            refine r_goto (pc := 41) (tgt := 4) dX5_withoutShip_41 (by decide) ?_
            rw [nI_1]; exact ih
    · refine r_iload_n (pc := 4) 2 dX5_withoutShip_4 rfl ?_
      refine r_aload_n (pc := 5) 0 dX5_withoutShip_5 rfl ?_
      refine r_getI (pc := 6) fl_X5_46 (pt_is hp) dX5_withoutShip_6 ?_
      refine r_icmp_ge (pc := 9) (tgt := 44) dX5_withoutShip_9 (by decide) (fun c_9 => ?_) (fun c_9 => ?_)
      · refine r_iload_n (pc := 44) 1 dX5_withoutShip_44 rfl ?_
        refine r_iret (pc := 45) rfl ?_ (Nat.le_of_ble_eq_true rfl) (Nat.le_of_ble_eq_true rfl) dX5_withoutShip_45
        exact ⟨rfl, rfl⟩
      · rw [pv_0 hv, hn] at c_9; exact absurd (Int32.le_refl _) c_9
  exact loop 0 (by omega)
theorem c5_livesOf (hp : ptS E h p) (hv : PtV h p r) {n : Nat} (hn : r 0 = nI n) (h6 : n ≤ 6) (s : Int32) : Ct E 1 0 0 mX5_livesOf [.ref p, .int s] h (po (some (.int (livesN r s n))) h) := by
  refine Ct.of (by decide +kernel) (Nat.le_of_ble_eq_true rfl) ?_
  refine r_iconst (pc := 0) (0) dX5_livesOf_0 rfl ?_
  refine r_istore_n (pc := 1) (lv' := [(0, _), (1, _), (2, _)]) dX5_livesOf_1 (Nat.le_of_ble_eq_true rfl) rfl ?_
  refine r_iconst (pc := 2) (0) dX5_livesOf_2 rfl ?_
  refine r_istore_n (pc := 3) (lv' := [(0, _), (1, _), (2, _), (3, _)]) dX5_livesOf_3 (Nat.le_of_ble_eq_true rfl) rfl ?_
  have loop : ∀ k, k ≤ n → Wp E mX5_livesOf (Rm 1 0 0) (Qm E (po (some (.int (livesN r s n))) h) 0 0) 4 [(0, .ref p), (1, .int s), (2, .int (livesN r s k)), (3, .int (nI k))] [] h 0 0 := by
    refine upTo (fun k hk ih => ?_) ?_
    · have no : ¬ (isB s (nI k) = true ∧ aliveF r k = true) → Wp E mX5_livesOf (Rm 1 0 0) (Qm E (po (some (.int (livesN r s n))) h) 0 0) 41 [(0, .ref p), (1, .int s), (2, .int (livesN r s k)), (3, .int (nI k))] [] h 0 0 := by
        intro hno
        have e9 : livesN r s (k + 1) = livesN r s k := by rw [livesN, if_neg hno, Int32.or_zero]
        rw [e9] at ih
        refine r_iinc (pc := 41) (v := _ + (1)) (lv' := [(0, _), (1, _), (2, _), (3, _)]) 3 dX5_livesOf_41 rfl rfl (Nat.le_of_ble_eq_true rfl) rfl ?_
        refine r_goto (pc := 44) (tgt := 4) dX5_livesOf_44 (by decide) ?_
        rw [nI_1]; exact ih
      refine r_iload_n (pc := 4) 3 dX5_livesOf_4 rfl ?_
      refine r_aload_n (pc := 5) 0 dX5_livesOf_5 rfl ?_
      refine r_getI (pc := 6) fl_X5_46 (pt_is hp) dX5_livesOf_6 ?_
      refine r_icmp_ge (pc := 9) (tgt := 47) dX5_livesOf_9 (by decide) (fun c_9 => ?_) (fun c_9 => ?_)
      · rw [pv_0 hv, hn] at c_9; exact absurd c_9 (nI_ge hk (by omega))
      · refine r_iload_n (pc := 12) 1 dX5_livesOf_12 rfl ?_
        refine r_iload_n (pc := 13) 3 dX5_livesOf_13 rfl ?_
        refine r_dN (pc := 14) (As := [_, _]) ms_X11_hasBit mk_X5_65 (ct_hasBit _ _) rfl rfl (Nat.le_of_ble_eq_true rfl) (Nat.le_of_ble_eq_true rfl) (Nat.le_of_ble_eq_true rfl) (Nat.le_of_ble_eq_true rfl) (Nat.le_of_ble_eq_true rfl) dX5_livesOf_14 ?_
        refine r_if_eq (pc := 17) (tgt := 41) dX5_livesOf_17 (by decide) (fun c_17 => ?_) (fun c_17 => ?_)
        · exact no (fun z => by rw [bI_0.mp c_17] at z; exact absurd z.1 (by decide))
        · refine r_aload_n (pc := 20) 0 dX5_livesOf_20 rfl ?_
          refine r_getR (pc := 21) fl_X5_9 (pt_is hp) (pt_f1 hp) dX5_livesOf_21 ?_
          refine r_iload_n (pc := 24) 3 dX5_livesOf_24 rfl ?_
          refine r_iald (pc := 25) (j := k) (pt_r1 hp) rfl (by omega) (by decide) dX5_livesOf_25 ?_
          refine r_iconst (pc := 26) (-1) dX5_livesOf_26 rfl ?_
          refine r_icmp_eq (pc := 27) (tgt := 41) dX5_livesOf_27 (by decide) (fun c_27 => ?_) (fun c_27 => ?_)
          · rw [pv_li hv (by omega)] at c_27
            exact no (fun z => by rw [aliveF, decide_eq_false (fun y => y c_27)] at z; exact absurd z.2 (by decide))
          · rw [pv_li hv (by omega)] at c_27
            have e9 : livesN r s (k + 1) = livesN r s k ||| 1 <<< (r (8 + k) &&& 31) := by rw [livesN, if_pos ⟨bI_n0.mp c_17, by rw [aliveF, decide_eq_true c_27]⟩]
            rw [e9] at ih
            refine r_iload_n (pc := 30) 2 dX5_livesOf_30 rfl ?_
            refine r_iconst (pc := 31) (1) dX5_livesOf_31 rfl ?_
            refine r_aload_n (pc := 32) 0 dX5_livesOf_32 rfl ?_
            refine r_getR (pc := 33) fl_X5_9 (pt_is hp) (pt_f1 hp) dX5_livesOf_33 ?_
            refine r_iload_n (pc := 36) 3 dX5_livesOf_36 rfl ?_
            refine r_iald (pc := 37) (j := k) (pt_r1 hp) rfl (by omega) (by decide) dX5_livesOf_37 ?_
            refine r_ishl (pc := 38) dX5_livesOf_38 ?_
            refine r_ior (pc := 39) dX5_livesOf_39 ?_
            refine r_istore_n (pc := 40) (lv' := [(0, _), (1, _), (2, _), (3, _)]) dX5_livesOf_40 (Nat.le_of_ble_eq_true rfl) rfl ?_
            refine r_iinc (pc := 41) (v := _ + (1)) (lv' := [(0, _), (1, _), (2, _), (3, _)]) 3 dX5_livesOf_41 rfl rfl (Nat.le_of_ble_eq_true rfl) rfl ?_
            refine r_goto (pc := 44) (tgt := 4) dX5_livesOf_44 (by decide) ?_
            rw [pv_li hv (by omega), nI_1]; exact ih
    · refine r_iload_n (pc := 4) 3 dX5_livesOf_4 rfl ?_
      refine r_aload_n (pc := 5) 0 dX5_livesOf_5 rfl ?_
      refine r_getI (pc := 6) fl_X5_46 (pt_is hp) dX5_livesOf_6 ?_
      refine r_icmp_ge (pc := 9) (tgt := 47) dX5_livesOf_9 (by decide) (fun c_9 => ?_) (fun c_9 => ?_)
      · refine r_iload_n (pc := 47) 2 dX5_livesOf_47 rfl ?_
        refine r_iret (pc := 48) rfl ?_ (Nat.le_of_ble_eq_true rfl) (Nat.le_of_ble_eq_true rfl) dX5_livesOf_48
        exact ⟨rfl, rfl⟩
      · rw [pv_0 hv, hn] at c_9; exact absurd (Int32.le_refl _) c_9
  exact loop 0 (by omega)
theorem c5_missingOn (hp : ptS E h p) (hv : PtV h p r) {n k : Nat} (hn : r 0 = nI n) (h6 : n ≤ 6) (hk : k < 3) : Ct E 2 0 0 mX5_missingOn [.ref p, .int (nI k)] h (po (some (.int (r (38 + k) &&& (livesN r (crewN r (nI k) n) n ^^^ -1)))) h) := by
  refine Ct.of (by decide +kernel) (Nat.le_of_ble_eq_true rfl) ?_
  refine r_aload_n (pc := 0) 0 dX5_missingOn_0 rfl ?_
  refine r_getR (pc := 1) fl_X5_27 (pt_is hp) (pt_f7 hp) dX5_missingOn_1 ?_
  refine r_iload_n (pc := 4) 1 dX5_missingOn_4 rfl ?_
  refine r_iald (pc := 5) (j := k) (pt_r7 hp) rfl (by omega) (by decide) dX5_missingOn_5 ?_
  refine r_aload_n (pc := 6) 0 dX5_missingOn_6 rfl ?_
  refine r_aload_n (pc := 7) 0 dX5_missingOn_7 rfl ?_
  refine r_iload_n (pc := 8) 1 dX5_missingOn_8 rfl ?_
  refine r_dV (pc := 9) (As := [_]) mv_X5_crewOf ml_X5_69 (c5_crewOf hp hv hn h6 _) (pt_is hp) rfl rfl (Nat.le_of_ble_eq_true rfl) (Nat.le_of_ble_eq_true rfl) (Nat.le_of_ble_eq_true rfl) (Nat.le_of_ble_eq_true rfl) (Nat.le_of_ble_eq_true rfl) dX5_missingOn_9 ?_
  refine r_dV (pc := 12) (As := [_]) mv_X5_livesOf ml_X5_72 (c5_livesOf hp hv hn h6 _) (pt_is hp) rfl rfl (Nat.le_of_ble_eq_true rfl) (Nat.le_of_ble_eq_true rfl) (Nat.le_of_ble_eq_true rfl) (Nat.le_of_ble_eq_true rfl) (Nat.le_of_ble_eq_true rfl) dX5_missingOn_12 ?_
  refine r_iconst (pc := 15) (-1) dX5_missingOn_15 rfl ?_
  refine r_ixor (pc := 16) dX5_missingOn_16 ?_
  refine r_iand (pc := 17) dX5_missingOn_17 ?_
  refine r_iret (pc := 18) rfl ?_ (Nat.le_of_ble_eq_true rfl) (Nat.le_of_ble_eq_true rfl) dX5_missingOn_18
  exact ⟨by rw [pv_ne hv hk], rfl⟩
end PORT
