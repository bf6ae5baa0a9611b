/-! the reference's reader: its memory as a state, and its small steps -/
section READ12
variable {E : En} {h : Hp} {m : Nat} {μ : Mu} {l : La}
/-- where the search for token i begins -/
def tP (b : Nat → Int32) (n : Nat) : Nat → Nat
  | 0 => 0
  | i + 1 => (scan b n (tP b n i)).2.1
def tk (b : Nat → Int32) (n i : Nat) : Tk := scan b n (tP b n i)
theorem scan_ok {b : Nat → Int32} {n p : Nat} (hp : p ≤ n) : p ≤ (scan b n p).1 ∧ (scan b n p).1 ≤ (scan b n p).2.1 ∧ (scan b n p).2.1 ≤ n ∧ (¬ (scan b n p).2.2.1 = 0 → (scan b n p).1 < (scan b n p).2.1) := by
  unfold scan
  have g := runE_ge (q := isBl) (b := b) hp
  have l1 := runE_le (q := isBl) (b := b) hp
  generalize runE isBl b n p = f at g l1 ⊢
  unfold scanF
  split
  · exact ⟨g, Nat.le_refl _, l1, fun z => absurd rfl z⟩
  · next hn =>
    have hlt : f < n := by omega
    split
    · next hs =>
      have e := runE_y (q := isSm) (b := b) hlt hs
      have g2 := runE_ge (q := isSm) (b := b) (show f + 1 ≤ n by omega)
      have l2 := runE_le (q := isSm) (b := b) (show f + 1 ≤ n by omega)
      exact ⟨g, show f ≤ runE isSm b n f by omega, show runE isSm b n f ≤ n by omega, fun _ => show f < runE isSm b n f by omega⟩
    · split
      · next hs =>
        have e := runE_y (q := isDg) (b := b) hlt hs
        have g2 := runE_ge (q := isDg) (b := b) (show f + 1 ≤ n by omega)
        have l2 := runE_le (q := isDg) (b := b) (show f + 1 ≤ n by omega)
        exact ⟨g, show f ≤ runE isDg b n f by omega, show runE isDg b n f ≤ n by omega, fun _ => show f < runE isDg b n f by omega⟩
      · exact ⟨g, Nat.le_succ f, hlt, fun _ => Nat.lt_succ_self f⟩
theorem tP_le (b : Nat → Int32) (n : Nat) : ∀ i, tP b n i ≤ n
  | 0 => Nat.zero_le _
  | i + 1 => (scan_ok (tP_le b n i)).2.2.1
theorem tk_to (b : Nat → Int32) (n i : Nat) : (tk b n i).2.1 ≤ n := (scan_ok (tP_le b n i)).2.2.1
theorem tk_from (b : Nat → Int32) (n i : Nat) : (tk b n i).1 ≤ n := Nat.le_trans (scan_ok (tP_le b n i)).2.1 (tk_to b n i)
/-- a step over a token that is one -/
theorem tk_next {b : Nat → Int32} {n i : Nat} (hi : i ≤ (tk b n i).1) (hs : ¬ (tk b n i).2.2.1 = 0) : i + 1 ≤ (tk b n (i + 1)).1 := by
  have h1 := (scan_ok (tP_le b n i)).2.2.2 hs
  have h2 := (scan_ok (b := b) (tP_le b n (i + 1))).1
  show i + 1 ≤ (scan b n (tP b n (i + 1))).1
  have h3 : tP b n (i + 1) = (scan b n (tP b n i)).2.1 := rfl
  unfold tk at hi
  omega
/-- the reader's memory -/
def rM (μ : Mu) (n i : Nat) (bd : Bool) (c lv p op : Int32) (O A P T : Nat → Int32) : Mu := fun o j =>
  if o = 0 then (if j = 14 then nI (tk (μ 9) n i).1 else if j = 15 then nI (tk (μ 9) n i).2.1 else if j = 16 then (tk (μ 9) n i).2.2.1 else if j = 18 then (if bd = true then nI (tk (μ 9) n i).1 else -1) else if j = 19 then bI bd else if j = 23 then c else if j = 26 then lv else if j = 29 then p else if j = 30 then op else μ 0 j)
  else if o = 11 then O j else if o = 12 then A j else if o = 13 then P j else if o = 14 then T j else μ o j
def rL (μ : Mu) (l : La) (n i : Nat) : La := tkW l (tk (μ 9) n i).2.2.2
section RM
variable {n i : Nat} {bd : Bool} {c lv p op : Int32} {O A P T : Nat → Int32}
theorem rM_14 : rM μ n i bd c lv p op O A P T 0 14 = nI (tk (μ 9) n i).1 := rfl
theorem rM_15 : rM μ n i bd c lv p op O A P T 0 15 = nI (tk (μ 9) n i).2.1 := rfl
theorem rM_16 : rM μ n i bd c lv p op O A P T 0 16 = (tk (μ 9) n i).2.2.1 := rfl
theorem rM_19 : rM μ n i bd c lv p op O A P T 0 19 = bI bd := rfl
theorem rM_23 : rM μ n i bd c lv p op O A P T 0 23 = c := rfl
theorem rM_26 : rM μ n i bd c lv p op O A P T 0 26 = lv := rfl
theorem rM_29 : rM μ n i bd c lv p op O A P T 0 29 = p := rfl
theorem rM_30 : rM μ n i bd c lv p op O A P T 0 30 = op := rfl
theorem rM_9 : rM μ n i bd c lv p op O A P T 9 = μ 9 := rfl
theorem rM_O : rM μ n i bd c lv p op O A P T 11 = O := rfl
theorem rM_A : rM μ n i bd c lv p op O A P T 12 = A := rfl
theorem rM_P : rM μ n i bd c lv p op O A P T 13 = P := rfl
theorem rM_T : rM μ n i bd c lv p op O A P T 14 = T := rfl
theorem rM_n : rM μ n i bd c lv p op O A P T 0 13 = μ 0 13 := rfl
theorem rM_od : rM μ n i bd c lv p op O A P T 0 20 = μ 0 20 := rfl
theorem rL_w : rL μ l n i 0 17 = (tk (μ 9) n i).2.2.2 := by unfold rL tkW; exact up2_at
theorem rL_o {o : Nat} (ho : o ≠ 0) : rL μ l n i o = l o := by funext j; unfold rL tkW; exact up2_ne (by omega)
theorem rM_uc {v : Int32} : up2 (rM μ n i bd c lv p op O A P T) 0 23 v = rM μ n i bd v lv p op O A P T := by
  funext o j; unfold up2 rM; by_cases h1 : o = 0 <;> by_cases h2 : j = 23 <;> simp [h1, h2]
theorem rM_ul {v : Int32} : up2 (rM μ n i bd c lv p op O A P T) 0 26 v = rM μ n i bd c v p op O A P T := by
  funext o j; unfold up2 rM; by_cases h1 : o = 0 <;> by_cases h2 : j = 26 <;> simp [h1, h2]
theorem rM_up {v : Int32} : up2 (rM μ n i bd c lv p op O A P T) 0 29 v = rM μ n i bd c lv v op O A P T := by
  funext o j; unfold up2 rM; by_cases h1 : o = 0 <;> by_cases h2 : j = 29 <;> simp [h1, h2]
theorem rM_uo {v : Int32} : up2 (rM μ n i bd c lv p op O A P T) 0 30 v = rM μ n i bd c lv p v O A P T := by
  funext o j; unfold up2 rM; by_cases h1 : o = 0 <;> by_cases h2 : j = 30 <;> simp [h1, h2]
theorem rM_uO {k : Nat} {v : Int32} : up2 (rM μ n i bd c lv p op O A P T) 11 k v = rM μ n i bd c lv p op (va_up O k v) A P T := by
  funext o j; unfold up2 rM va_up; by_cases h1 : o = 11 <;> by_cases h2 : j = k <;> simp [h1, h2]
theorem rM_uA {k : Nat} {v : Int32} : up2 (rM μ n i bd c lv p op O A P T) 12 k v = rM μ n i bd c lv p op O (va_up A k v) P T := by
  funext o j; unfold up2 rM va_up; by_cases h1 : o = 12 <;> by_cases h2 : j = k <;> simp [h1, h2]
theorem rM_uP {k : Nat} {v : Int32} : up2 (rM μ n i bd c lv p op O A P T) 13 k v = rM μ n i bd c lv p op O A (va_up P k v) T := by
  funext o j; unfold up2 rM va_up; by_cases h1 : o = 13 <;> by_cases h2 : j = k <;> simp [h1, h2]
theorem rM_uT {k : Nat} {v : Int32} : up2 (rM μ n i bd c lv p op O A P T) 14 k v = rM μ n i bd c lv p op O A P (va_up T k v) := by
  funext o j; unfold up2 rM va_up; by_cases h1 : o = 14 <;> by_cases h2 : j = k <;> simp [h1, h2]
theorem rM_bad : up2 (up2 (rM μ n i false c lv p op O A P T) 0 19 1) 0 18 (nI (tk (μ 9) n i).1) = rM μ n i true c lv p op O A P T := by
  funext o j; unfold up2 rM; by_cases h1 : o = 0 <;> by_cases h2 : j = 18 <;> by_cases h3 : j = 19 <;> simp [h1, h2, h3, bI]
theorem rM_next : tkM (rM μ n i false c lv p op O A P T) (tk (μ 9) n (i + 1)).1 (tk (μ 9) n (i + 1)).2.1 (tk (μ 9) n (i + 1)).2.2.1 = rM μ n (i + 1) false c lv p op O A P T := by
  funext o j; unfold tkM up2 rM; by_cases h1 : o = 0 <;> by_cases h2 : j = 14 <;> by_cases h3 : j = 15 <;> by_cases h4 : j = 16 <;> simp [h1, h2, h3, h4]
theorem rL_next : tkW (rL μ l n i) (tk (μ 9) n (i + 1)).2.2.2 = rL μ l n (i + 1) := up2_up2 _ _ _ _ _
theorem rM_other {o k : Nat} {v : Int32} (ho : o ≠ 0) (h9 : o ≠ 9) (h1 : o ≠ 11) (h2 : o ≠ 12) (h3 : o ≠ 13) (h4 : o ≠ 14) : up2 (rM μ n i bd c lv p op O A P T) o k v = rM (up2 μ o k v) n i bd c lv p op O A P T := by
  have e9 : up2 μ o k v 9 = μ 9 := by funext j; exact up2_ne (fun z => h9 z.1.symm)
  funext q j
  by_cases hq : q = o ∧ j = k
  · obtain ⟨rfl, rfl⟩ := hq
    rw [up2_at]; unfold rM; simp [ho, h1, h2, h3, h4, up2_at]
  · rw [up2_ne hq]; unfold rM; rw [e9, up2_ne hq, up2_ne (fun z => ho z.1.symm)]
theorem rM_field {k : Nat} {v : Int32} (hk : ¬ k ∈ [14, 15, 16, 18, 19, 23, 26, 29, 30]) : up2 (rM μ n i bd c lv p op O A P T) 0 k v = rM (up2 μ 0 k v) n i bd c lv p op O A P T := by
  simp only [List.mem_cons, List.not_mem_nil, or_false, not_or] at hk
  have e9 : up2 μ 0 k v 9 = μ 9 := by funext j; exact up2_ne (by omega)
  funext q j
  by_cases hq : q = 0 ∧ j = k
  · obtain ⟨rfl, rfl⟩ := hq
    rw [up2_at]; unfold rM; simp [hk, up2_at]
  · rw [up2_ne hq]; unfold rM; rw [e9]
    by_cases h0 : q = 0
    · subst h0
      rw [if_pos rfl, if_pos rfl]
      rw [up2_ne hq]
    · rw [if_neg h0, if_neg h0, up2_ne hq]
end RM
theorem ct_onw (hm : Md E h m) {n i : Nat} {c lv p op : Int32} {O A P T : Nat → Int32} (hn : μ 0 13 = nI n) (h4 : n ≤ 400) : Ct E 1 0 0 mX12_onward [.ref m] (mH h m (rM μ n i false c lv p op O A P T) (rL μ l n i)) (po none (mH h m (rM μ n (i + 1) false c lv p op O A P T) (rL μ l n (i + 1)))) := by
  have h1 := ct_onward (μ := rM μ n i false c lv p op O A P T) (l := rL μ l n i) hm (n := n) (p := (tk (μ 9) n i).2.1) hn h4 rfl (tk_to _ _ _)
  have e : scan (rM μ n i false c lv p op O A P T 9) n (tk (μ 9) n i).2.1 = tk (μ 9) n (i + 1) := rfl
  rw [e, rM_next, rL_next] at h1
  exact h1
theorem ct_begin (hm : Md E h m) {n : Nat} (hn : μ 0 13 = nI n) (h4 : n ≤ 400) : Ct E 2 0 0 mX12_begin [.ref m] (mH h m μ l) (po none (mH h m (rM μ n 0 false (μ 0 23) (μ 0 26) (μ 0 29) (μ 0 30) (μ 11) (μ 12) (μ 13) (μ 14)) (rL μ l n 0))) := by
  refine Ct.of (by decide +kernel) (Nat.le_of_ble_eq_true rfl) ?_
  have h1 := ct_onward (μ := up2 (up2 (up2 μ 0 15 0) 0 19 0) 0 18 (-1)) (l := l) hm (n := n) (p := 0) (by rw [up2_ne (by omega), up2_ne (by omega), up2_ne (by omega)]; exact hn) h4 (by rw [up2_ne (by omega), up2_ne (by omega), up2_at]; rfl) (by omega)
  have e9 : up2 (up2 (up2 μ 0 15 0) 0 19 0) 0 18 (-1) 9 = μ 9 := by funext j; rw [up2_ne (by omega), up2_ne (by omega), up2_ne (by omega)]
  rw [e9, show scan (μ 9) n 0 = tk (μ 9) n 0 from rfl] at h1
  refine r_aload_n (pc := 0) 0 dX12_begin_0 rfl ?_
  refine r_iconst (pc := 1) (0) dX12_begin_1 rfl ?_
  refine q_putI (pc := 2) fp_X12_257 hm dX12_begin_2 ?_
  refine r_aload_n (pc := 5) 0 dX12_begin_5 rfl ?_
  refine r_iconst (pc := 6) (0) dX12_begin_6 rfl ?_
  refine q_putZ (pc := 7) fp_X12_260 hm (by decide) dX12_begin_7 ?_
  refine r_aload_n (pc := 10) 0 dX12_begin_10 rfl ?_
  refine r_iconst (pc := 11) (-1) dX12_begin_11 rfl ?_
  refine q_putI (pc := 12) fp_X12_38 hm dX12_begin_12 ?_
  refine r_aload_n (pc := 15) 0 dX12_begin_15 rfl ?_
  refine r_dV0 (pc := 16) (As := []) mv_X12_onward ml_X12_264 (h1) (q_is hm) rfl rfl (Nat.le_of_ble_eq_true rfl) (Nat.le_of_ble_eq_true rfl) (Nat.le_of_ble_eq_true rfl) (Nat.le_of_ble_eq_true rfl) (Nat.le_of_ble_eq_true rfl) dX12_begin_16 ?_
  refine r_vret (pc := 19) rfl ?_ (Nat.le_of_ble_eq_true rfl) (Nat.le_of_ble_eq_true rfl) dX12_begin_19
  refine ⟨rfl, ?_⟩
  congr 1
  funext o j
  unfold tkM up2 rM
  by_cases h0 : o = 0
  · subst h0
    by_cases h1 : j = 14 <;> by_cases h2 : j = 15 <;> by_cases h3 : j = 16 <;> by_cases h4 : j = 18 <;> by_cases h5 : j = 19 <;> by_cases h6 : j = 23 <;> by_cases h7 : j = 26 <;> by_cases h8 : j = 29 <;> by_cases h9 : j = 30 <;> simp_all [bI]
  · by_cases h1 : o = 11 <;> by_cases h2 : o = 12 <;> by_cases h3 : o = 13 <;> by_cases h4 : o = 14 <;> simp_all
/-- one that must be so: the token, and whether it is bad -/
def mustS (i : Nat) (bd q : Bool) : Nat × Bool := if bd = true then (i, true) else if q = true then (i + 1, false) else (i, true)
theorem ct_must (hm : Md E h m) {n i : Nat} {bd q : Bool} {c lv p op : Int32} {O A P T : Nat → Int32} (hn : μ 0 13 = nI n) (h4 : n ≤ 400) : Ct E 2 0 0 mX12_must [.ref m, .int (bI q)] (mH h m (rM μ n i bd c lv p op O A P T) (rL μ l n i)) (po none (mH h m (rM μ n (mustS i bd q).1 (mustS i bd q).2 c lv p op O A P T) (rL μ l n (mustS i bd q).1))) := by
  refine Ct.of (by decide +kernel) (Nat.le_of_ble_eq_true rfl) ?_
  refine r_aload_n (pc := 0) 0 dX12_must_0 rfl ?_
  refine q_getI (pc := 1) fl_X12_260 hm dX12_must_1 ?_
  refine r_if_ne (pc := 4) (tgt := 24) dX12_must_4 (by decide) (fun c_4 => ?_) (fun c_4 => ?_)
  · rw [rM_19] at c_4
    have hb := bI_n0.mp c_4
    subst hb
    refine r_aload_n (pc := 24) 0 dX12_must_24 rfl ?_
    refine q_getI (pc := 25) fl_X12_260 hm dX12_must_25 ?_
    refine r_if_ne (pc := 28) (tgt := 35) dX12_must_28 (by decide) (fun c_28 => ?_) (fun c_28 => ?_)
    · refine r_vret (pc := 35) rfl ?_ (Nat.le_of_ble_eq_true rfl) (Nat.le_of_ble_eq_true rfl) dX12_must_35
      exact ⟨rfl, rfl⟩
    · exact absurd c_28 c_4
  · rw [rM_19] at c_4
    have hb := bI_0.mp c_4
    subst hb
    refine r_iload_n (pc := 7) 1 dX12_must_7 rfl ?_
    refine r_if_ne (pc := 8) (tgt := 24) dX12_must_8 (by decide) (fun c_8 => ?_) (fun c_8 => ?_)
    · have hq := bI_n0.mp c_8
      subst hq
      refine r_aload_n (pc := 24) 0 dX12_must_24 rfl ?_
      refine q_getI (pc := 25) fl_X12_260 hm dX12_must_25 ?_
      refine r_if_ne (pc := 28) (tgt := 35) dX12_must_28 (by decide) (fun c_28 => ?_) (fun c_28 => ?_)
      · exact absurd c_4 c_28
      · refine r_aload_n (pc := 31) 0 dX12_must_31 rfl ?_
        refine r_dV0 (pc := 32) (As := []) mv_X12_onward ml_X12_264 (ct_onw hm hn h4) (q_is hm) rfl rfl (Nat.le_of_ble_eq_true rfl) (Nat.le_of_ble_eq_true rfl) (Nat.le_of_ble_eq_true rfl) (Nat.le_of_ble_eq_true rfl) (Nat.le_of_ble_eq_true rfl) dX12_must_32 ?_
        refine r_vret (pc := 35) rfl ?_ (Nat.le_of_ble_eq_true rfl) (Nat.le_of_ble_eq_true rfl) dX12_must_35
        exact ⟨rfl, rfl⟩
    · have hq := bI_0.mp c_8
      subst hq
      refine r_aload_n (pc := 11) 0 dX12_must_11 rfl ?_
      refine r_iconst (pc := 12) (1) dX12_must_12 rfl ?_
      refine q_putZ (pc := 13) fp_X12_260 hm (by decide) dX12_must_13 ?_
      refine r_aload_n (pc := 16) 0 dX12_must_16 rfl ?_
      refine r_aload_n (pc := 17) 0 dX12_must_17 rfl ?_
      refine q_getI (pc := 18) fl_X12_267 hm dX12_must_18 ?_
      refine q_putI (pc := 21) fp_X12_38 hm dX12_must_21 ?_
      rw [show up2 (rM μ n i false c lv p op O A P T) 0 19 1 0 14 = nI (tk (μ 9) n i).1 from (up2_ne (by omega)).trans rM_14, rM_bad]
      refine r_aload_n (pc := 24) 0 dX12_must_24 rfl ?_
      refine q_getI (pc := 25) fl_X12_260 hm dX12_must_25 ?_
      refine r_if_ne (pc := 28) (tgt := 35) dX12_must_28 (by decide) (fun c_28 => ?_) (fun c_28 => ?_)
      · refine r_vret (pc := 35) rfl ?_ (Nat.le_of_ble_eq_true rfl) (Nat.le_of_ble_eq_true rfl) dX12_must_35
        exact ⟨rfl, rfl⟩
      · exact absurd c_28 (by rw [rM_19]; decide)
def numB (t : Tk) (a b : Int64) : Bool := decide (t.2.2.1 = 2 ∧ a ≤ t.2.2.2 ∧ t.2.2.2 ≤ b)
theorem ct_number (hm : Md E h m) {n i : Nat} {bd : Bool} (a b : Int64) {c lv p op : Int32} {O A P T : Nat → Int32} (hn : μ 0 13 = nI n) (h4 : n ≤ 400) : Ct E 3 0 0 mX12_number [.ref m, .long a, .long b] (mH h m (rM μ n i bd c lv p op O A P T) (rL μ l n i)) (po (some (.int (tk (μ 9) n i).2.2.2.toInt32)) (mH h m (rM μ n (mustS i bd (numB (tk (μ 9) n i) a b)).1 (mustS i bd (numB (tk (μ 9) n i) a b)).2 c lv p op O A P T) (rL μ l n (mustS i bd (numB (tk (μ 9) n i) a b)).1))) := by
  refine Ct.of (by decide +kernel) (Nat.le_of_ble_eq_true rfl) ?_
  have fin : ∀ q : Bool, q = numB (tk (μ 9) n i) a b → Wp E mX12_number (Rm 3 0 0) (Qm E (po (some (.int (tk (μ 9) n i).2.2.2.toInt32)) (mH h m (rM μ n (mustS i bd (numB (tk (μ 9) n i) a b)).1 (mustS i bd (numB (tk (μ 9) n i) a b)).2 c lv p op O A P T) (rL μ l n (mustS i bd (numB (tk (μ 9) n i) a b)).1))) 0 0) 33 [(0, .ref m), (1, .long a), (3, .long b), (5, .int (tk (μ 9) n i).2.2.2.toInt32)] [.int (bI q), .ref m] (mH h m (rM μ n i bd c lv p op O A P T) (rL μ l n i)) 0 0 := by
    rintro q rfl
    refine r_dV0 (pc := 33) (As := [_]) mv_X12_must ml_X12_293 (ct_must hm hn h4) (q_is hm) rfl rfl (Nat.le_of_ble_eq_true rfl) (Nat.le_of_ble_eq_true rfl) (Nat.le_of_ble_eq_true rfl) (Nat.le_of_ble_eq_true rfl) (Nat.le_of_ble_eq_true rfl) dX12_number_33 ?_
    refine r_iload (pc := 36) 3 dX12_number_36 rfl ?_
    refine r_iret (pc := 38) rfl ?_ (Nat.le_of_ble_eq_true rfl) (Nat.le_of_ble_eq_true rfl) dX12_number_38
    exact ⟨rfl, rfl⟩
  refine r_aload_n (pc := 0) 0 dX12_number_0 rfl ?_
  refine q_getJ (pc := 1) fl_X12_270 hm dX12_number_1 ?_
  refine r_l2i (pc := 4) dX12_number_4 ?_
  refine r_istore (pc := 5) (lv' := [(0, _), (1, _), (3, _), (5, _)]) dX12_number_5 (Nat.le_of_ble_eq_true rfl) rfl ?_
  rw [rL_w]
  refine r_aload_n (pc := 7) 0 dX12_number_7 rfl ?_
  refine r_aload_n (pc := 8) 0 dX12_number_8 rfl ?_
  refine q_getI (pc := 9) fl_X12_280 hm dX12_number_9 ?_
  refine r_iconst (pc := 12) (2) dX12_number_12 rfl ?_
  refine r_icmp_ne (pc := 13) (tgt := 32) dX12_number_13 (by decide) (fun c_13 => ?_) (fun c_13 => ?_)
  · rw [rM_16] at c_13
    refine r_iconst (pc := 32) (0) dX12_number_32 rfl ?_
    exact fin false (by unfold numB; rw [decide_eq_false (fun z => c_13 z.1)])
  · rw [rM_16] at c_13
    refine r_aload_n (pc := 16) 0 dX12_number_16 rfl ?_
    refine q_getJ (pc := 17) fl_X12_270 hm dX12_number_17 ?_
    refine r_lload_n (pc := 20) 1 dX12_number_20 rfl ?_
    refine r_lload_n (pc := 21) 2 dX12_number_21 rfl ?_
    refine r_dS (pc := 22) (As := [_, _, _]) ms_X12_in ml_X12_181 (ct_in _ _ _) rfl rfl (Nat.le_of_ble_eq_true rfl) (Nat.le_of_ble_eq_true rfl) (Nat.le_of_ble_eq_true rfl) (Nat.le_of_ble_eq_true rfl) (Nat.le_of_ble_eq_true rfl) dX12_number_22 ?_
    refine r_if_eq (pc := 25) (tgt := 32) dX12_number_25 (by decide) (fun c_25 => ?_) (fun c_25 => ?_)
    · rw [rL_w] at c_25
      refine r_iconst (pc := 32) (0) dX12_number_32 rfl ?_
      exact fin false (by unfold numB; rw [decide_eq_false (fun z => of_decide_eq_false (bI_0.mp c_25) z.2)])
    · rw [rL_w] at c_25
      refine r_iconst (pc := 28) (1) dX12_number_28 rfl ?_
      refine r_goto (pc := 29) (tgt := 33) dX12_number_29 (by decide) ?_
      exact fin true (by unfold numB; rw [decide_eq_true ⟨c_13, of_decide_eq_true (bI_n0.mp c_25)⟩])
theorem ct_emit (hm : Md E h m) {n i : Nat} {bd : Bool} (x y : Int32) {cc : Nat} {lv p op : Int32} {O A P T : Nat → Int32} (hc : cc < 400) : Ct E 0 0 0 mX12_emit [.ref m, .int x, .int y] (mH h m (rM μ n i bd (nI cc) lv p op O A P T) (rL μ l n i)) (po none (mH h m (rM μ n i bd (nI (cc + 1)) lv p op (va_up O cc x) (va_up A cc y) P T) (rL μ l n i))) := by
  refine Ct.of (by decide +kernel) (Nat.le_of_ble_eq_true rfl) ?_
  refine r_aload_n (pc := 0) 0 dX12_emit_0 rfl ?_
  refine q_getR (pc := 1) fl_X12_45 hm (md_f24 hm) dX12_emit_1 ?_
  refine r_aload_n (pc := 4) 0 dX12_emit_4 rfl ?_
  refine q_getI (pc := 5) fl_X12_297 hm dX12_emit_5 ?_
  refine r_iload_n (pc := 8) 1 dX12_emit_8 rfl ?_
  refine q_iast (pc := 9) (j := cc) (md_r24 hm) (by decide) rfl (by omega) (by decide) dX12_emit_9 ?_
  rw [rM_uO]
  refine r_aload_n (pc := 10) 0 dX12_emit_10 rfl ?_
  refine q_getR (pc := 11) fl_X12_48 hm (md_f25 hm) dX12_emit_11 ?_
  refine r_aload_n (pc := 14) 0 dX12_emit_14 rfl ?_
  refine q_getI (pc := 15) fl_X12_297 hm dX12_emit_15 ?_
  refine r_iload_n (pc := 18) 2 dX12_emit_18 rfl ?_
  refine q_iast (pc := 19) (j := cc) (md_r25 hm) (by decide) rfl (by omega) (by decide) dX12_emit_19 ?_
  rw [rM_uA]
  refine r_aload_n (pc := 20) 0 dX12_emit_20 rfl ?_
  refine r_dup (pc := 21) dX12_emit_21 rfl ?_
  refine q_getI (pc := 22) fl_X12_297 hm dX12_emit_22 ?_
  refine r_iconst (pc := 25) (1) dX12_emit_25 rfl ?_
  refine r_iadd (pc := 26) dX12_emit_26 ?_
  refine q_putI (pc := 27) fp_X12_297 hm dX12_emit_27 ?_
  refine r_vret (pc := 30) rfl ?_ (Nat.le_of_ble_eq_true rfl) (Nat.le_of_ble_eq_true rfl) dX12_emit_30
  rw [rM_23, nI_1, rM_uc]
  exact ⟨rfl, rfl⟩
theorem ct_push (hm : Md E h m) {n i : Nat} {bd : Bool} (x y : Int32) {pp : Nat} {c lv op : Int32} {O A P T : Nat → Int32} (hp : pp < 400) : Ct E 0 0 0 mX12_push [.ref m, .int x, .int y] (mH h m (rM μ n i bd c lv (nI pp) op O A P T) (rL μ l n i)) (po none (mH h m (rM μ n i bd c lv (nI (pp + 1)) op O A (va_up P pp x) (va_up T pp y)) (rL μ l n i))) := by
  refine Ct.of (by decide +kernel) (Nat.le_of_ble_eq_true rfl) ?_
  refine r_aload_n (pc := 0) 0 dX12_push_0 rfl ?_
  refine q_getR (pc := 1) fl_X12_51 hm (md_f27 hm) dX12_push_1 ?_
  refine r_aload_n (pc := 4) 0 dX12_push_4 rfl ?_
  refine q_getI (pc := 5) fl_X12_300 hm dX12_push_5 ?_
  refine r_iload_n (pc := 8) 1 dX12_push_8 rfl ?_
  refine q_iast (pc := 9) (j := pp) (md_r27 hm) (by decide) rfl (by omega) (by decide) dX12_push_9 ?_
  rw [rM_uP]
  refine r_aload_n (pc := 10) 0 dX12_push_10 rfl ?_
  refine q_getR (pc := 11) fl_X12_54 hm (md_f28 hm) dX12_push_11 ?_
  refine r_aload_n (pc := 14) 0 dX12_push_14 rfl ?_
  refine q_getI (pc := 15) fl_X12_300 hm dX12_push_15 ?_
  refine r_iload_n (pc := 18) 2 dX12_push_18 rfl ?_
  refine q_iast (pc := 19) (j := pp) (md_r28 hm) (by decide) rfl (by omega) (by decide) dX12_push_19 ?_
  rw [rM_uT]
  refine r_aload_n (pc := 20) 0 dX12_push_20 rfl ?_
  refine r_dup (pc := 21) dX12_push_21 rfl ?_
  refine q_getI (pc := 22) fl_X12_300 hm dX12_push_22 ?_
  refine r_iconst (pc := 25) (1) dX12_push_25 rfl ?_
  refine r_iadd (pc := 26) dX12_push_26 ?_
  refine q_putI (pc := 27) fp_X12_300 hm dX12_push_27 ?_
  refine r_vret (pc := 30) rfl ?_ (Nat.le_of_ble_eq_true rfl) (Nat.le_of_ble_eq_true rfl) dX12_push_30
  rw [rM_29, nI_1, rM_up]
  exact ⟨rfl, rfl⟩
def bndF (x : Int32) : Int32 := if (31 : Int32) ≤ x then 0 else if x = 30 then 1 else if x = 29 then 2 else if x = 28 then 3 else if (25 : Int32) ≤ x then 4 else if (22 : Int32) ≤ x then 6 else 5
theorem ct_binds (x : Int32) : Ct E 0 0 0 mX12_binds [.int x] h (po (some (.int (bndF x))) h) := by
  refine Ct.of (by decide +kernel) (Nat.le_of_ble_eq_true rfl) ?_
  refine r_iload_n (pc := 0) 0 dX12_binds_0 rfl ?_
  refine r_bipush (pc := 1) (31) dX12_binds_1 rfl ?_
  refine r_icmp_lt (pc := 3) (tgt := 10) dX12_binds_3 (by decide) (fun c_3 => ?_) (fun c_3 => ?_)
  · refine r_iload_n (pc := 10) 0 dX12_binds_10 rfl ?_
    refine r_bipush (pc := 11) (30) dX12_binds_11 rfl ?_
    refine r_icmp_ne (pc := 13) (tgt := 20) dX12_binds_13 (by decide) (fun c_13 => ?_) (fun c_13 => ?_)
    · refine r_iload_n (pc := 20) 0 dX12_binds_20 rfl ?_
      refine r_bipush (pc := 21) (29) dX12_binds_21 rfl ?_
      refine r_icmp_ne (pc := 23) (tgt := 30) dX12_binds_23 (by decide) (fun c_23 => ?_) (fun c_23 => ?_)
      · refine r_iload_n (pc := 30) 0 dX12_binds_30 rfl ?_
        refine r_bipush (pc := 31) (28) dX12_binds_31 rfl ?_
        refine r_icmp_ne (pc := 33) (tgt := 40) dX12_binds_33 (by decide) (fun c_33 => ?_) (fun c_33 => ?_)
        · refine r_iload_n (pc := 40) 0 dX12_binds_40 rfl ?_
          refine r_bipush (pc := 41) (25) dX12_binds_41 rfl ?_
          refine r_icmp_lt (pc := 43) (tgt := 50) dX12_binds_43 (by decide) (fun c_43 => ?_) (fun c_43 => ?_)
          · refine r_iload_n (pc := 50) 0 dX12_binds_50 rfl ?_
            refine r_bipush (pc := 51) (22) dX12_binds_51 rfl ?_
            refine r_icmp_lt (pc := 53) (tgt := 61) dX12_binds_53 (by decide) (fun c_53 => ?_) (fun c_53 => ?_)
            · refine r_iconst (pc := 61) (5) dX12_binds_61 rfl ?_
              refine r_iret (pc := 62) rfl ?_ (Nat.le_of_ble_eq_true rfl) (Nat.le_of_ble_eq_true rfl) dX12_binds_62
              exact ⟨by rw [bndF, if_neg (Int32.not_le.mpr c_3), if_neg c_13, if_neg c_23, if_neg c_33, if_neg (Int32.not_le.mpr c_43), if_neg (Int32.not_le.mpr c_53)], rfl⟩
            · refine r_bipush (pc := 56) (6) dX12_binds_56 rfl ?_
              refine r_goto (pc := 58) (tgt := 62) dX12_binds_58 (by decide) ?_
              refine r_iret (pc := 62) rfl ?_ (Nat.le_of_ble_eq_true rfl) (Nat.le_of_ble_eq_true rfl) dX12_binds_62
              exact ⟨by rw [bndF, if_neg (Int32.not_le.mpr c_3), if_neg c_13, if_neg c_23, if_neg c_33, if_neg (Int32.not_le.mpr c_43), if_pos (Int32.not_lt.mp c_53)], rfl⟩
          · refine r_iconst (pc := 46) (4) dX12_binds_46 rfl ?_
            refine r_goto (pc := 47) (tgt := 62) dX12_binds_47 (by decide) ?_
            refine r_iret (pc := 62) rfl ?_ (Nat.le_of_ble_eq_true rfl) (Nat.le_of_ble_eq_true rfl) dX12_binds_62
            exact ⟨by rw [bndF, if_neg (Int32.not_le.mpr c_3), if_neg c_13, if_neg c_23, if_neg c_33, if_pos (Int32.not_lt.mp c_43)], rfl⟩
        · refine r_iconst (pc := 36) (3) dX12_binds_36 rfl ?_
          refine r_goto (pc := 37) (tgt := 62) dX12_binds_37 (by decide) ?_
          refine r_iret (pc := 62) rfl ?_ (Nat.le_of_ble_eq_true rfl) (Nat.le_of_ble_eq_true rfl) dX12_binds_62
          exact ⟨by rw [bndF, if_neg (Int32.not_le.mpr c_3), if_neg c_13, if_neg c_23, if_pos c_33], rfl⟩
      · refine r_iconst (pc := 26) (2) dX12_binds_26 rfl ?_
        refine r_goto (pc := 27) (tgt := 62) dX12_binds_27 (by decide) ?_
        refine r_iret (pc := 62) rfl ?_ (Nat.le_of_ble_eq_true rfl) (Nat.le_of_ble_eq_true rfl) dX12_binds_62
        exact ⟨by rw [bndF, if_neg (Int32.not_le.mpr c_3), if_neg c_13, if_pos c_23], rfl⟩
    · refine r_iconst (pc := 16) (1) dX12_binds_16 rfl ?_
      refine r_goto (pc := 17) (tgt := 62) dX12_binds_17 (by decide) ?_
      refine r_iret (pc := 62) rfl ?_ (Nat.le_of_ble_eq_true rfl) (Nat.le_of_ble_eq_true rfl) dX12_binds_62
      exact ⟨by rw [bndF, if_neg (Int32.not_le.mpr c_3), if_pos c_13], rfl⟩
  · refine r_iconst (pc := 6) (0) dX12_binds_6 rfl ?_
    refine r_goto (pc := 7) (tgt := 62) dX12_binds_7 (by decide) ?_
    refine r_iret (pc := 62) rfl ?_ (Nat.le_of_ble_eq_true rfl) (Nat.le_of_ble_eq_true rfl) dX12_binds_62
    exact ⟨by rw [bndF, if_pos (Int32.not_lt.mp c_3)], rfl⟩
/-- what is taken from the pile: how many are left, how much code, the code -/
def stl (P T : Nat → Int32) (least : Int32) : Nat → Nat → (Nat → Int32) → (Nat → Int32) → Nat × Nat × (Nat → Int32) × (Nat → Int32)
  | 0, k, O, A => (0, k, O, A)
  | p + 1, k, O, A => if bndF (P p) < least then (p + 1, k, O, A) else if P p = 29 ∨ P p = 30 then stl P T least p k O (va_up A (T p).toNatClampNeg (nI k)) else stl P T least p (k + 1) (va_up O k (P p)) (va_up A k 0)
/-- how many on the pile become code -/
def pndN (P : Nat → Int32) : Nat → Nat
  | 0 => 0
  | p + 1 => pndN P p + (if P p = 29 ∨ P p = 30 then 0 else 1)
theorem ct_settle (hm : Md E h m) {n i : Nat} {bd : Bool} (least : Int32) {lv op : Int32} {P T : Nat → Int32} : ∀ (pp cc : Nat) (O A : Nat → Int32), pp ≤ 400 → cc + pndN P pp ≤ 400 → (∀ x, x < pp → (P x = 29 ∨ P x = 30) → ∃ t, t < 400 ∧ T x = nI t) → Ct E 1 0 0 mX12_settle [.ref m, .int least] (mH h m (rM μ n i bd (nI cc) lv (nI pp) op O A P T) (rL μ l n i)) (po none (mH h m (rM μ n i bd (nI (stl P T least pp cc O A).2.1) lv (nI (stl P T least pp cc O A).1) op (stl P T least pp cc O A).2.2.1 (stl P T least pp cc O A).2.2.2 P T) (rL μ l n i))) := by
  intro pp cc O A hp400 hpc hT
  refine Ct.of (by decide +kernel) (Nat.le_of_ble_eq_true rfl) ?_
  have loop : ∀ (p k : Nat) (O1 A1 : Nat → Int32), p ≤ pp → k + pndN P p ≤ 400 → stl P T least p k O1 A1 = stl P T least pp cc O A → Wp E mX12_settle (Rm 1 0 0) (Qm E (po none (mH h m (rM μ n i bd (nI (stl P T least pp cc O A).2.1) lv (nI (stl P T least pp cc O A).1) op (stl P T least pp cc O A).2.2.1 (stl P T least pp cc O A).2.2.2 P T) (rL μ l n i))) 0 0) 0 [(0, .ref m), (1, .int least)] [] (mH h m (rM μ n i bd (nI k) lv (nI p) op O1 A1 P T) (rL μ l n i)) 0 0 := by
    intro p
    induction p with
    | zero =>
      intro k O1 A1 hp hk e
      rw [← e]
      refine r_aload_n (pc := 0) 0 dX12_settle_0 rfl ?_
      refine q_getI (pc := 1) fl_X12_300 hm dX12_settle_1 ?_
      refine r_if_le (pc := 4) (tgt := 101) dX12_settle_4 (by decide) (fun c_4 => ?_) (fun c_4 => ?_)
      · refine r_vret (pc := 101) rfl ?_ (Nat.le_of_ble_eq_true rfl) (Nat.le_of_ble_eq_true rfl) dX12_settle_101
        exact ⟨rfl, rfl⟩
      · exact absurd (by rw [rM_29]; decide) c_4
    | succ p IH =>
      intro k O1 A1 hp hk e
      have e1 : nI (p + 1) - 1 = nI p := nI_sub (a := p + 1) (b := 1) (by omega)
      rw [pndN] at hk
      refine r_aload_n (pc := 0) 0 dX12_settle_0 rfl ?_
      refine q_getI (pc := 1) fl_X12_300 hm dX12_settle_1 ?_
      refine r_if_le (pc := 4) (tgt := 101) dX12_settle_4 (by decide) (fun c_4 => ?_) (fun c_4 => ?_)
      · exact absurd c_4 (by rw [rM_29]; exact nI_nle (by omega) (by omega))
      · refine r_aload_n (pc := 7) 0 dX12_settle_7 rfl ?_
        refine q_getR (pc := 8) fl_X12_51 hm (md_f27 hm) dX12_settle_8 ?_
        refine r_aload_n (pc := 11) 0 dX12_settle_11 rfl ?_
        refine q_getI (pc := 12) fl_X12_300 hm dX12_settle_12 ?_
        refine r_iconst (pc := 15) (1) dX12_settle_15 rfl ?_
        refine r_isub (pc := 16) dX12_settle_16 ?_
        refine q_iald (pc := 17) (j := p) (md_r27 hm) (by decide) e1 (by omega) (by decide) dX12_settle_17 ?_
        refine r_dS (pc := 18) (As := [_]) ms_X12_binds ml_X12_303 (ct_binds _) rfl rfl (Nat.le_of_ble_eq_true rfl) (Nat.le_of_ble_eq_true rfl) (Nat.le_of_ble_eq_true rfl) (Nat.le_of_ble_eq_true rfl) (Nat.le_of_ble_eq_true rfl) dX12_settle_18 ?_
        refine r_iload_n (pc := 21) 1 dX12_settle_21 rfl ?_
        refine r_icmp_lt (pc := 22) (tgt := 101) dX12_settle_22 (by decide) (fun c_22 => ?_) (fun c_22 => ?_)
        · rw [rM_P] at c_22
          rw [stl, if_pos c_22] at e
          rw [← e]
          refine r_vret (pc := 101) rfl ?_ (Nat.le_of_ble_eq_true rfl) (Nat.le_of_ble_eq_true rfl) dX12_settle_101
          exact ⟨rfl, rfl⟩
        · rw [rM_P] at c_22
          rw [stl, if_neg c_22] at e
          refine r_aload_n (pc := 25) 0 dX12_settle_25 rfl ?_
          refine r_dup (pc := 26) dX12_settle_26 rfl ?_
          refine q_getI (pc := 27) fl_X12_300 hm dX12_settle_27 ?_
          refine r_iconst (pc := 30) (1) dX12_settle_30 rfl ?_
          refine r_isub (pc := 31) dX12_settle_31 ?_
          refine q_putI (pc := 32) fp_X12_300 hm dX12_settle_32 ?_
          rw [rM_29, e1, rM_up]
          have adr : (P p = 29 ∨ P p = 30) → Wp E mX12_settle (Rm 1 0 0) (Qm E (po none (mH h m (rM μ n i bd (nI (stl P T least pp cc O A).2.1) lv (nI (stl P T least pp cc O A).1) op (stl P T least pp cc O A).2.2.1 (stl P T least pp cc O A).2.2.2 P T) (rL μ l n i))) 0 0) 63 [(0, .ref m), (1, .int least)] [] (mH h m (rM μ n i bd (nI k) lv (nI p) op O1 A1 P T) (rL μ l n i)) 0 0 := by
            intro hao
            rw [if_pos hao] at e hk
            obtain ⟨t, ht, et⟩ := hT p (by omega) hao
            rw [et, nI_clamp (by omega)] at e
            refine r_aload_n (pc := 63) 0 dX12_settle_63 rfl ?_
            refine q_getR (pc := 64) fl_X12_48 hm (md_f25 hm) dX12_settle_64 ?_
            refine r_aload_n (pc := 67) 0 dX12_settle_67 rfl ?_
            refine q_getR (pc := 68) fl_X12_54 hm (md_f28 hm) dX12_settle_68 ?_
            refine r_aload_n (pc := 71) 0 dX12_settle_71 rfl ?_
            refine q_getI (pc := 72) fl_X12_300 hm dX12_settle_72 ?_
            refine q_iald (pc := 75) (j := p) (md_r28 hm) (by decide) rfl (by omega) (by decide) dX12_settle_75 ?_
            refine r_aload_n (pc := 76) 0 dX12_settle_76 rfl ?_
            refine q_getI (pc := 77) fl_X12_297 hm dX12_settle_77 ?_
            refine q_iast (pc := 80) (j := t) (md_r25 hm) (by decide) et (by omega) (by decide) dX12_settle_80 ?_
            refine r_goto (pc := 81) (tgt := 0) dX12_settle_81 (by decide) ?_
            rw [rM_23, rM_uA]
            exact IH k O1 _ (by omega) (by omega) e
          refine r_aload_n (pc := 35) 0 dX12_settle_35 rfl ?_
          refine q_getR (pc := 36) fl_X12_51 hm (md_f27 hm) dX12_settle_36 ?_
          refine r_aload_n (pc := 39) 0 dX12_settle_39 rfl ?_
          refine q_getI (pc := 40) fl_X12_300 hm dX12_settle_40 ?_
          refine q_iald (pc := 43) (j := p) (md_r27 hm) (by decide) rfl (by omega) (by decide) dX12_settle_43 ?_
          refine r_bipush (pc := 44) (29) dX12_settle_44 rfl ?_
          refine r_icmp_eq (pc := 46) (tgt := 63) dX12_settle_46 (by decide) (fun c_46 => ?_) (fun c_46 => ?_)
          · rw [rM_P] at c_46
            exact adr (Or.inl c_46)
          · rw [rM_P] at c_46
            refine r_aload_n (pc := 49) 0 dX12_settle_49 rfl ?_
            refine q_getR (pc := 50) fl_X12_51 hm (md_f27 hm) dX12_settle_50 ?_
            refine r_aload_n (pc := 53) 0 dX12_settle_53 rfl ?_
            refine q_getI (pc := 54) fl_X12_300 hm dX12_settle_54 ?_
            refine q_iald (pc := 57) (j := p) (md_r27 hm) (by decide) rfl (by omega) (by decide) dX12_settle_57 ?_
            refine r_bipush (pc := 58) (30) dX12_settle_58 rfl ?_
            refine r_icmp_ne (pc := 60) (tgt := 84) dX12_settle_60 (by decide) (fun c_60 => ?_) (fun c_60 => ?_)
            · rw [rM_P] at c_60
              have hao : ¬ (P p = 29 ∨ P p = 30) := fun z => z.elim c_46 c_60
              rw [if_neg hao] at e hk
              refine r_aload_n (pc := 84) 0 dX12_settle_84 rfl ?_
              refine r_aload_n (pc := 85) 0 dX12_settle_85 rfl ?_
              refine q_getR (pc := 86) fl_X12_51 hm (md_f27 hm) dX12_settle_86 ?_
              refine r_aload_n (pc := 89) 0 dX12_settle_89 rfl ?_
              refine q_getI (pc := 90) fl_X12_300 hm dX12_settle_90 ?_
              refine q_iald (pc := 93) (j := p) (md_r27 hm) (by decide) rfl (by omega) (by decide) dX12_settle_93 ?_
              refine r_iconst (pc := 94) (0) dX12_settle_94 rfl ?_
              refine r_dV0 (pc := 95) (As := [_, _]) mv_X12_emit ml_X12_306 (ct_emit hm _ _ (by omega)) (q_is hm) rfl rfl (Nat.le_of_ble_eq_true rfl) (Nat.le_of_ble_eq_true rfl) (Nat.le_of_ble_eq_true rfl) (Nat.le_of_ble_eq_true rfl) (Nat.le_of_ble_eq_true rfl) dX12_settle_95 ?_
              refine r_goto (pc := 98) (tgt := 0) dX12_settle_98 (by decide) ?_
              exact IH (k + 1) _ _ (by omega) (by omega) e
            · rw [rM_P] at c_60
              exact adr (Or.inr c_60)
  exact loop pp cc O A (Nat.le_refl _) hpc rfl
end READ12
