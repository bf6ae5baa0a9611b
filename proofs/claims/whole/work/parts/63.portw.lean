/-! the class: a port is written -/
section PORTW
variable {E : En} {h : Hp} {p : Nat} {r : Nat → Int32}
/-- where a row's place lies in a port -/
def pA (j : Nat) : Nat := if j < 5 then 0 else if j < 8 then 8 else if j < 14 then 1 else if j < 20 then 2 else if j < 26 then 3 else if j < 32 then 4 else if j < 38 then 5 else if j < 41 then 6 else 7
def pK (j : Nat) : Nat := if j = 0 then 0 else if j = 1 then 6 else if j = 2 then 8 else if j = 3 then 11 else if j = 4 then 13 else if j < 8 then j - 5 else if j < 14 then j - 8 else if j < 20 then j - 14 else if j < 26 then j - 20 else if j < 32 then j - 26 else if j < 38 then j - 32 else if j < 41 then j - 38 else j - 41
theorem pAK_inj : ∀ j, j < 49 → ∀ i, i < 49 → pA i = pA j → pK i = pK j → i = j := by decide +kernel
theorem pAK_5 : ∀ k, k < 3 → pA (5 + k) = 8 ∧ pK (5 + k) = k := by decide +kernel
theorem pAK_8 : ∀ k, k < 6 → (pA (8 + k) = 1 ∧ pK (8 + k) = k) ∧ (pA (14 + k) = 2 ∧ pK (14 + k) = k) ∧ (pA (20 + k) = 3 ∧ pK (20 + k) = k) ∧ (pA (26 + k) = 4 ∧ pK (26 + k) = k) ∧ (pA (32 + k) = 5 ∧ pK (32 + k) = k) := by decide +kernel
theorem pAK_38 : ∀ k, k < 3 → pA (38 + k) = 6 ∧ pK (38 + k) = k := by decide +kernel
theorem pAK_41 : ∀ k, k < 8 → pA (41 + k) = 7 ∧ pK (41 + k) = k := by decide +kernel
theorem PtV_iff : PtV h p r ↔ ∀ j, j < 49 → hI h (p + pA j) (pK j) = r j := by
  constructor
  · intro hv j hj
    by_cases h0 : j < 5
    · rcases (by omega : j = 0 ∨ j = 1 ∨ j = 2 ∨ j = 3 ∨ j = 4) with rfl | rfl | rfl | rfl | rfl
      · exact pv_0 hv
      · exact pv_1 hv
      · exact pv_2 hv
      · exact pv_3 hv
      · exact pv_4 hv
    · by_cases h1 : j < 8
      · obtain ⟨k, rfl⟩ : ∃ k, j = 5 + k := ⟨j - 5, by omega⟩
        rw [(pAK_5 k (by omega)).1, (pAK_5 k (by omega)).2]; exact pv_te hv (by omega)
      · by_cases h2 : j < 14
        · obtain ⟨k, rfl⟩ : ∃ k, j = 8 + k := ⟨j - 8, by omega⟩
          rw [(pAK_8 k (by omega)).1.1, (pAK_8 k (by omega)).1.2]; exact pv_li hv (by omega)
        · by_cases h3 : j < 20
          · obtain ⟨k, rfl⟩ : ∃ k, j = 14 + k := ⟨j - 14, by omega⟩
            rw [(pAK_8 k (by omega)).2.1.1, (pAK_8 k (by omega)).2.1.2]; exact pv_ye hv (by omega)
          · by_cases h4 : j < 26
            · obtain ⟨k, rfl⟩ : ∃ k, j = 20 + k := ⟨j - 20, by omega⟩
              rw [(pAK_8 k (by omega)).2.2.1.1, (pAK_8 k (by omega)).2.2.1.2]; exact pv_ea hv (by omega)
            · by_cases h5 : j < 32
              · obtain ⟨k, rfl⟩ : ∃ k, j = 26 + k := ⟨j - 26, by omega⟩
                rw [(pAK_8 k (by omega)).2.2.2.1.1, (pAK_8 k (by omega)).2.2.2.1.2]; exact pv_go hv (by omega)
              · by_cases h6 : j < 38
                · obtain ⟨k, rfl⟩ : ∃ k, j = 32 + k := ⟨j - 32, by omega⟩
                  rw [(pAK_8 k (by omega)).2.2.2.2.1, (pAK_8 k (by omega)).2.2.2.2.2]; exact pv_sh hv (by omega)
                · by_cases h7 : j < 41
                  · obtain ⟨k, rfl⟩ : ∃ k, j = 38 + k := ⟨j - 38, by omega⟩
                    rw [(pAK_38 k (by omega)).1, (pAK_38 k (by omega)).2]; exact pv_ne hv (by omega)
                  · obtain ⟨k, rfl⟩ : ∃ k, j = 41 + k := ⟨j - 41, by omega⟩
                    rw [(pAK_41 k (by omega)).1, (pAK_41 k (by omega)).2]; exact pv_se hv (by omega)
  · intro ha
    refine ⟨⟨ha 0 (by decide), ha 1 (by decide), ha 2 (by decide), ha 3 (by decide), ha 4 (by decide)⟩, fun k hk => ?_, fun k hk => ?_, fun k hk => ?_, fun k hk => ?_, fun k hk => ?_, fun k hk => ?_, fun k hk => ?_, fun k hk => ?_⟩
    · have := ha (5 + k) (by omega); rw [(pAK_5 k hk).1, (pAK_5 k hk).2] at this; exact this
    · have := ha (8 + k) (by omega); rw [(pAK_8 k hk).1.1, (pAK_8 k hk).1.2] at this; exact this
    · have := ha (14 + k) (by omega); rw [(pAK_8 k hk).2.1.1, (pAK_8 k hk).2.1.2] at this; exact this
    · have := ha (20 + k) (by omega); rw [(pAK_8 k hk).2.2.1.1, (pAK_8 k hk).2.2.1.2] at this; exact this
    · have := ha (26 + k) (by omega); rw [(pAK_8 k hk).2.2.2.1.1, (pAK_8 k hk).2.2.2.1.2] at this; exact this
    · have := ha (32 + k) (by omega); rw [(pAK_8 k hk).2.2.2.2.1, (pAK_8 k hk).2.2.2.2.2] at this; exact this
    · have := ha (38 + k) (by omega); rw [(pAK_38 k hk).1, (pAK_38 k hk).2] at this; exact this
    · have := ha (41 + k) (by omega); rw [(pAK_41 k hk).1, (pAK_41 k hk).2] at this; exact this
theorem PtV.put (hv : PtV h p r) {j : Nat} (hj : j < 49) (v : Int32) : PtV (wI h (p + pA j) (pK j) v) p (va_up r j v) := by
  rw [PtV_iff] at hv ⊢
  intro i hi
  by_cases hij : i = j
  · subst hij; rw [hI_at, va_up_self]
  · rw [va_up_ne _ _ hij, hI_ne (fun z => hij (pAK_inj j hj i hi (by omega) z.2))]; exact hv i hi
theorem PtV.c0 (hv : PtV h p r) (v : Int32) : PtV (wI h p 0 v) p (va_up r 0 v) := hv.put (j := 0) (by decide) v
theorem PtV.c1 (hv : PtV h p r) (v : Int32) : PtV (wI h p 6 v) p (va_up r 1 v) := hv.put (j := 1) (by decide) v
theorem PtV.c2 (hv : PtV h p r) (v : Int32) : PtV (wI h p 8 v) p (va_up r 2 v) := hv.put (j := 2) (by decide) v
theorem PtV.c3 (hv : PtV h p r) (v : Int32) : PtV (wI h p 11 v) p (va_up r 3 v) := hv.put (j := 3) (by decide) v
theorem PtV.c4 (hv : PtV h p r) (v : Int32) : PtV (wI h p 13 v) p (va_up r 4 v) := hv.put (j := 4) (by decide) v
theorem PtV.te (hv : PtV h p r) {k : Nat} (hk : k < 3) (v : Int32) : PtV (wI h (p + 8) k v) p (va_up r (5 + k) v) := by
  have := hv.put (j := 5 + k) (by omega) v; rw [(pAK_5 k hk).1, (pAK_5 k hk).2] at this; exact this
theorem PtV.li (hv : PtV h p r) {k : Nat} (hk : k < 6) (v : Int32) : PtV (wI h (p + 1) k v) p (va_up r (8 + k) v) := by
  have := hv.put (j := 8 + k) (by omega) v; rw [(pAK_8 k hk).1.1, (pAK_8 k hk).1.2] at this; exact this
theorem PtV.ye (hv : PtV h p r) {k : Nat} (hk : k < 6) (v : Int32) : PtV (wI h (p + 2) k v) p (va_up r (14 + k) v) := by
  have := hv.put (j := 14 + k) (by omega) v; rw [(pAK_8 k hk).2.1.1, (pAK_8 k hk).2.1.2] at this; exact this
theorem PtV.ea (hv : PtV h p r) {k : Nat} (hk : k < 6) (v : Int32) : PtV (wI h (p + 3) k v) p (va_up r (20 + k) v) := by
  have := hv.put (j := 20 + k) (by omega) v; rw [(pAK_8 k hk).2.2.1.1, (pAK_8 k hk).2.2.1.2] at this; exact this
theorem PtV.go (hv : PtV h p r) {k : Nat} (hk : k < 6) (v : Int32) : PtV (wI h (p + 4) k v) p (va_up r (26 + k) v) := by
  have := hv.put (j := 26 + k) (by omega) v; rw [(pAK_8 k hk).2.2.2.1.1, (pAK_8 k hk).2.2.2.1.2] at this; exact this
theorem PtV.sh (hv : PtV h p r) {k : Nat} (hk : k < 6) (v : Int32) : PtV (wI h (p + 5) k v) p (va_up r (32 + k) v) := by
  have := hv.put (j := 32 + k) (by omega) v; rw [(pAK_8 k hk).2.2.2.2.1, (pAK_8 k hk).2.2.2.2.2] at this; exact this
theorem PtV.ne (hv : PtV h p r) {k : Nat} (hk : k < 3) (v : Int32) : PtV (wI h (p + 6) k v) p (va_up r (38 + k) v) := by
  have := hv.put (j := 38 + k) (by omega) v; rw [(pAK_38 k hk).1, (pAK_38 k hk).2] at this; exact this
theorem PtV.se (hv : PtV h p r) {k : Nat} (hk : k < 8) (v : Int32) : PtV (wI h (p + 7) k v) p (va_up r (41 + k) v) := by
  have := hv.put (j := 41 + k) (by omega) v; rw [(pAK_41 k hk).1, (pAK_41 k hk).2] at this; exact this
/-- the places of a port's numbers -/
def ptW (p a k : Nat) : Prop := (a = p ∧ (k = 0 ∨ k = 6 ∨ k = 8 ∨ k = 11 ∨ k = 13)) ∨ (p + 1 ≤ a ∧ a ≤ p + 8)
theorem c5_addCat (hp : ptS E h p) (hv : PtV h p r) {n : Nat} (hn : r 0 = nI n) (h6 : n < 6) (li ye ea : Int32) : Ct E 0 0 0 mX5_addCat [.ref p, .int li, .int ye, .int ea] h (fun v h' => v = some (.int (nI n)) ∧ Fr (ptW p) h h' ∧ PtV h' p (va_up (va_up (va_up (va_up (va_up (va_up r 0 (nI (n + 1))) (8 + n) li) (14 + n) ye) (20 + n) ea) (26 + n) 0) (32 + n) (-1))) := by
  refine Ct.of (by decide +kernel) (Nat.le_of_ble_eq_true rfl) ?_
  refine r_aload_n (pc := 0) 0 dX5_addCat_0 rfl ?_
  refine r_getI (pc := 1) fl_X5_46 (pt_is hp) dX5_addCat_1 ?_
  refine r_istore (pc := 4) (lv' := [(0, _), (1, _), (2, _), (3, _), (4, _)]) dX5_addCat_4 (Nat.le_of_ble_eq_true rfl) rfl ?_
  refine r_aload_n (pc := 6) 0 dX5_addCat_6 rfl ?_
  refine r_dup (pc := 7) dX5_addCat_7 rfl ?_
  refine r_getI (pc := 8) fl_X5_46 (pt_is hp) dX5_addCat_8 ?_
  refine r_iconst (pc := 11) (1) dX5_addCat_11 rfl ?_
  refine r_iadd (pc := 12) dX5_addCat_12 ?_
  refine r_putI (pc := 13) fp_X5_46 (pt_is hp) dX5_addCat_13 ?_
  rw [pv_0 hv, hn, nI_1]
  refine r_aload_n (pc := 16) 0 dX5_addCat_16 rfl ?_
  refine r_getR (pc := 17) fl_X5_9 (pt_is hp) (pt_f1 hp) dX5_addCat_17 ?_
  refine r_iload (pc := 20) 4 dX5_addCat_20 rfl ?_
  refine r_iload_n (pc := 22) 1 dX5_addCat_22 rfl ?_
  refine r_iast (pc := 23) (j := n) (pt_r1 hp) rfl (by omega) (by decide) dX5_addCat_23 ?_
  refine r_aload_n (pc := 24) 0 dX5_addCat_24 rfl ?_
  refine r_getR (pc := 25) fl_X5_15 (pt_is hp) (pt_f2 hp) dX5_addCat_25 ?_
  refine r_iload (pc := 28) 4 dX5_addCat_28 rfl ?_
  refine r_iload_n (pc := 30) 2 dX5_addCat_30 rfl ?_
  refine r_iast (pc := 31) (j := n) (pt_r2 hp) rfl (by omega) (by decide) dX5_addCat_31 ?_
  refine r_aload_n (pc := 32) 0 dX5_addCat_32 rfl ?_
  refine r_getR (pc := 33) fl_X5_18 (pt_is hp) (pt_f3 hp) dX5_addCat_33 ?_
  refine r_iload (pc := 36) 4 dX5_addCat_36 rfl ?_
  refine r_iload_n (pc := 38) 3 dX5_addCat_38 rfl ?_
  refine r_iast (pc := 39) (j := n) (pt_r3 hp) rfl (by omega) (by decide) dX5_addCat_39 ?_
  refine r_aload_n (pc := 40) 0 dX5_addCat_40 rfl ?_
  refine r_getR (pc := 41) fl_X5_21 (pt_is hp) (pt_f4 hp) dX5_addCat_41 ?_
  refine r_iload (pc := 44) 4 dX5_addCat_44 rfl ?_
  refine r_iconst (pc := 46) (0) dX5_addCat_46 rfl ?_
  refine r_iast (pc := 47) (j := n) (pt_r4 hp) rfl (by omega) (by decide) dX5_addCat_47 ?_
  refine r_aload_n (pc := 48) 0 dX5_addCat_48 rfl ?_
  refine r_getR (pc := 49) fl_X5_24 (pt_is hp) (pt_f5 hp) dX5_addCat_49 ?_
  refine r_iload (pc := 52) 4 dX5_addCat_52 rfl ?_
  refine r_iconst (pc := 54) (-1) dX5_addCat_54 rfl ?_
  refine r_iast (pc := 55) (j := n) (pt_r5 hp) rfl (by omega) (by decide) dX5_addCat_55 ?_
  refine r_iload (pc := 56) 4 dX5_addCat_56 rfl ?_
  refine r_iret (pc := 58) rfl ?_ (Nat.le_of_ble_eq_true rfl) (Nat.le_of_ble_eq_true rfl) dX5_addCat_58
  refine ⟨rfl, ?_, ?_⟩
  · exact Fr.tr (Fr.tr (Fr.tr (Fr.tr (Fr.tr (Fr.wI (by unfold ptW; omega)) (Fr.wI (by unfold ptW; omega))) (Fr.wI (by unfold ptW; omega))) (Fr.wI (by unfold ptW; omega))) (Fr.wI (by unfold ptW; omega))) (Fr.wI (by unfold ptW; omega))
  · exact (((((hv.c0 _).li h6 _).ye h6 _).ea h6 _).go h6 _).sh h6 _
theorem c5_addShip (hp : ptS E h p) (hv : PtV h p r) {n : Nat} (hn : r 1 = nI n) (h3 : n < 3) (ne : Int32) : Ct E 0 0 0 mX5_addShip [.ref p, .int ne] h (fun v h' => v = some (.int (nI n)) ∧ Fr (ptW p) h h' ∧ PtV h' p (va_up (va_up r 1 (nI (n + 1))) (38 + n) ne)) := by
  refine Ct.of (by decide +kernel) (Nat.le_of_ble_eq_true rfl) ?_
  refine r_aload_n (pc := 0) 0 dX5_addShip_0 rfl ?_
  refine r_getI (pc := 1) fl_X5_53 (pt_is hp) dX5_addShip_1 ?_
  refine r_istore_n (pc := 4) (lv' := [(0, _), (1, _), (2, _)]) dX5_addShip_4 (Nat.le_of_ble_eq_true rfl) rfl ?_
  refine r_aload_n (pc := 5) 0 dX5_addShip_5 rfl ?_
  refine r_dup (pc := 6) dX5_addShip_6 rfl ?_
  refine r_getI (pc := 7) fl_X5_53 (pt_is hp) dX5_addShip_7 ?_
  refine r_iconst (pc := 10) (1) dX5_addShip_10 rfl ?_
  refine r_iadd (pc := 11) dX5_addShip_11 ?_
  refine r_putI (pc := 12) fp_X5_53 (pt_is hp) dX5_addShip_12 ?_
  rw [pv_1 hv, hn, nI_1]
  refine r_aload_n (pc := 15) 0 dX5_addShip_15 rfl ?_
  refine r_getR (pc := 16) fl_X5_27 (pt_is hp) (pt_f7 hp) dX5_addShip_16 ?_
  refine r_iload_n (pc := 19) 2 dX5_addShip_19 rfl ?_
  refine r_iload_n (pc := 20) 1 dX5_addShip_20 rfl ?_
  refine r_iast (pc := 21) (j := n) (pt_r7 hp) rfl (by omega) (by decide) dX5_addShip_21 ?_
  refine r_iload_n (pc := 22) 2 dX5_addShip_22 rfl ?_
  refine r_iret (pc := 23) rfl ?_ (Nat.le_of_ble_eq_true rfl) (Nat.le_of_ble_eq_true rfl) dX5_addShip_23
  exact ⟨rfl, Fr.tr (Fr.wI (by unfold ptW; omega)) (Fr.wI (by unfold ptW; omega)), (hv.c1 _).ne h3 _⟩
theorem c5_endLife (hp : ptS E h p) (hv : PtV h p r) {k : Nat} (hk : k < 6) (life : Int32) : Ct E 0 0 0 mX5_endLife [.ref p, .int (nI k), .int life] h (fun v h' => v = none ∧ Fr (ptW p) h h' ∧ PtV h' p (if r (14 + k) = 0 then va_up (va_up r (8 + k) (-1)) (32 + k) (-1) else va_up (va_up r (8 + k) life) (14 + k) (r (14 + k) &&& ((1 : Int32) <<< (life &&& 31) ^^^ -1)))) := by
  refine Ct.of (by decide +kernel) (Nat.le_of_ble_eq_true rfl) ?_
  refine r_aload_n (pc := 0) 0 dX5_endLife_0 rfl ?_
  refine r_getR (pc := 1) fl_X5_15 (pt_is hp) (pt_f2 hp) dX5_endLife_1 ?_
  refine r_iload_n (pc := 4) 1 dX5_endLife_4 rfl ?_
  refine r_iald (pc := 5) (j := k) (pt_r2 hp) rfl (by omega) (by decide) dX5_endLife_5 ?_
  refine r_if_ne (pc := 6) (tgt := 26) dX5_endLife_6 (by decide) (fun c_6 => ?_) (fun c_6 => ?_)
  · rw [pv_ye hv hk] at c_6
    rw [if_neg c_6]
    refine r_aload_n (pc := 26) 0 dX5_endLife_26 rfl ?_
    refine r_getR (pc := 27) fl_X5_9 (pt_is hp) (pt_f1 hp) dX5_endLife_27 ?_
    refine r_iload_n (pc := 30) 1 dX5_endLife_30 rfl ?_
    refine r_iload_n (pc := 31) 2 dX5_endLife_31 rfl ?_
    refine r_iast (pc := 32) (j := k) (pt_r1 hp) rfl (by omega) (by decide) dX5_endLife_32 ?_
    refine r_aload_n (pc := 33) 0 dX5_endLife_33 rfl ?_
    refine r_getR (pc := 34) fl_X5_15 (pt_is hp) (pt_f2 hp) dX5_endLife_34 ?_
    refine r_iload_n (pc := 37) 1 dX5_endLife_37 rfl ?_
    refine r_dup2_11 (pc := 38) dX5_endLife_38 rfl rfl ?_
    refine r_iald (pc := 39) (j := k) (pt_r2 hp) rfl (by omega) (by decide) dX5_endLife_39 ?_
    rw [pv_ye (hv.li hk life) hk, va_up_ne _ _ (by omega)]
    refine r_iconst (pc := 40) (1) dX5_endLife_40 rfl ?_
    refine r_iload_n (pc := 41) 2 dX5_endLife_41 rfl ?_
    refine r_ishl (pc := 42) dX5_endLife_42 ?_
    refine r_iconst (pc := 43) (-1) dX5_endLife_43 rfl ?_
    refine r_ixor (pc := 44) dX5_endLife_44 ?_
    refine r_iand (pc := 45) dX5_endLife_45 ?_
    refine r_iast (pc := 46) (j := k) (pt_r2 hp) rfl (by omega) (by decide) dX5_endLife_46 ?_
    refine r_vret (pc := 47) rfl ?_ (Nat.le_of_ble_eq_true rfl) (Nat.le_of_ble_eq_true rfl) dX5_endLife_47
    exact ⟨rfl, Fr.tr (Fr.wI (by unfold ptW; omega)) (Fr.wI (by unfold ptW; omega)), (hv.li hk _).ye hk _⟩
  · rw [pv_ye hv hk] at c_6
    rw [if_pos c_6]
    refine r_aload_n (pc := 9) 0 dX5_endLife_9 rfl ?_
    refine r_getR (pc := 10) fl_X5_9 (pt_is hp) (pt_f1 hp) dX5_endLife_10 ?_
    refine r_iload_n (pc := 13) 1 dX5_endLife_13 rfl ?_
    refine r_iconst (pc := 14) (-1) dX5_endLife_14 rfl ?_
    refine r_iast (pc := 15) (j := k) (pt_r1 hp) rfl (by omega) (by decide) dX5_endLife_15 ?_
    refine r_aload_n (pc := 16) 0 dX5_endLife_16 rfl ?_
    refine r_getR (pc := 17) fl_X5_24 (pt_is hp) (pt_f5 hp) dX5_endLife_17 ?_
    refine r_iload_n (pc := 20) 1 dX5_endLife_20 rfl ?_
    refine r_iconst (pc := 21) (-1) dX5_endLife_21 rfl ?_
    refine r_iast (pc := 22) (j := k) (pt_r5 hp) rfl (by omega) (by decide) dX5_endLife_22 ?_
    refine r_goto (pc := 23) (tgt := 47) dX5_endLife_23 (by decide) ?_
    refine r_vret (pc := 47) rfl ?_ (Nat.le_of_ble_eq_true rfl) (Nat.le_of_ble_eq_true rfl) dX5_endLife_47
    exact ⟨rfl, Fr.tr (Fr.wI (by unfold ptW; omega)) (Fr.wI (by unfold ptW; omega)), (hv.li hk _).sh hk _⟩
end PORTW
