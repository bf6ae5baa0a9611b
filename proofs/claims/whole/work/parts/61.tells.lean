/-! the class: what a law tells -/
section TELLS
variable {E : En} {h : Hp} {x : Nat}
/-- sums are whole numbers of 32 bits, if words are -/
def Bd (s : Sm) : Prop := ∀ e : Nat → Int64, (∀ j, ∃ w : Int32, e j = w.toInt64) → ∀ v, s e = some v → -2147483648 ≤ v.toInt ∧ v.toInt < 2147483648
/-- a text of the class that is a law: its clauses, and what they mean -/
def LwT (E : En) (h : Hp) (t nn : Nat) (cls : List Cl) : Prop := txS E h t nn ∧ nn ≤ 400 ∧ hI h t 0 = nI cls.length ∧ cls.length ≤ 12 ∧ ∃ sz, sz ≤ nn ∧ hI h t 6 = nI sz ∧ ∀ q d, cls[q]? = some d → ∃ hd a0 a1 a2 a3 : Nat, hd < 4 ∧ d.1 = nI hd ∧ hI h (t + 1) q = nI (263 + hd) ∧ hI h (t + 3) (3 * q) = nI a0 ∧ hI h (t + 3) (3 * q + 1) = nI a1 ∧ hI h (t + 3) (3 * q + 2) = nI a2 ∧ hI h (t + 3) (3 * q + 3) = nI a3 ∧ a0 ≤ a1 ∧ a1 ≤ a2 ∧ a2 ≤ a3 ∧ a3 ≤ sz ∧ (hd ≠ 3 → ∃ lf, lf ≤ 50 ∧ CSeg (hI h (t + 4)) (hI h (t + 5)) 8 a0 a1 lf d.2.2 ∧ Bd d.2.2) ∧ (match d.2.1 with | none => a2 = a3 | some s => ∃ lf, lf ≤ 50 ∧ CSeg (hI h (t + 4)) (hI h (t + 5)) 8 a2 a3 lf s ∧ IsT s)
def FoL (E : En) (h : Hp) (x : Nat) (fo : Option (List Cl)) (lw : Option Nat) : Prop := match fo with
  | none => lw = none
  | some cls => ∃ t nn, lw = some t ∧ x + 135 < t ∧ LwT E h t nn cls
/-- reckoned once or more -/
def rkG (h : Hp) (x : Nat) (v : Int32) (f : Nat → Int64) : Hp := wI (wRowJ h (x + 2) f) (x + 1) 1 v
def RkE (h : Hp) (x : Nat) (hh : Hp) : Prop := ∃ v f, hh = rkG h x v f
theorem wI_self (a k : Nat) : wI h a k (hI h a k) = h := by
  unfold wI
  have : up2 h.2.1 a k (hI h a k) = h.2.1 := up2_self _ _ _
  rw [this]
theorem RkE.rf : RkE h x h := ⟨hI h (x + 1) 1, hJ h (x + 2), by unfold rkG; rw [wRowJ_self, wI_self]⟩
theorem rkG_rk {v : Int32} {f : Nat → Int64} {n : Nat} {g : Nat → Int64} : rkH (rkG h x v f) x n g = rkG h x (nI n) g := by
  unfold rkH rkG wRowJ wI
  have e1 : va_up (va_up h.2.2.1 (x + 2) f) (x + 2) g = va_up h.2.2.1 (x + 2) g := va_up_up _ _ _ _
  have e2 : up2 (up2 h.2.1 (x + 1) 1 v) (x + 1) 1 (nI n) = up2 h.2.1 (x + 1) 1 (nI n) := up2_up2 _ _ _ _ _
  show (h.1, up2 (up2 h.2.1 (x + 1) 1 v) (x + 1) 1 (nI n), va_up (va_up h.2.2.1 (x + 2) f) (x + 2) g, h.2.2.2) = _
  rw [e1, e2]
theorem RkE.rk {hh : Hp} (hr : RkE h x hh) (n : Nat) (g : Nat → Int64) : RkE h x (rkH hh x n g) := by
  obtain ⟨v, f, rfl⟩ := hr
  exact ⟨_, _, rkG_rk⟩
theorem rkG_I {v : Int32} {f : Nat → Int64} {a k : Nat} (hne : ¬ (a = x + 1 ∧ k = 1)) : hI (rkG h x v f) a k = hI h a k := up2_ne hne
theorem rkG_If {v : Int32} {f : Nat → Int64} {a : Nat} (hne : a ≠ x + 1) : hI (rkG h x v f) a = hI h a := up2_other hne
def rkS (x a k : Nat) : Prop := (a = x + 1 ∧ k = 1) ∨ a = x + 2
theorem RkE.fr {hh : Hp} (hr : RkE h x hh) : Fr (rkS x) h hh := by
  obtain ⟨v, f, rfl⟩ := hr
  exact Fr.tr (Fr.wRowJ (fun k => Or.inr rfl)) (Fr.wI (Or.inl ⟨rfl, rfl⟩))
theorem rkS_ak {a k : Nat} (hs : rkS x a k) : akS x a k := by unfold rkS at hs; unfold akS; omega
theorem RkE.ak {hh : Hp} (hr : RkE h x hh) : Fr (akS x) h hh := hr.fr.mono (fun _ _ => rkS_ak)
theorem LwT.rk {hh : Hp} {t nn : Nat} {cls : List Cl} (hr : RkE h x hh) (ht : x + 135 < t) (hl : LwT E h t nn cls) : LwT E hh t nn cls := by
  obtain ⟨v, f, rfl⟩ := hr
  unfold LwT at hl ⊢
  rw [rkG_If (a := t) (by omega), rkG_If (a := t + 1) (by omega), rkG_If (a := t + 3) (by omega), rkG_If (a := t + 4) (by omega), rkG_If (a := t + 5) (by omega)]
  exact hl
theorem Ask.rk {hh : Hp} {w : Nat → Int32} {dr : Int32} {lw : Option Nat} (hr : RkE h x hh) (ha : Ask h x w dr lw) : Ask hh x w dr lw := by
  obtain ⟨v, f, rfl⟩ := hr
  refine ⟨fun j hj => ?_, ?_, ha.2.2⟩
  · rw [rkG_I (by omega)]; exact ha.1 j hj
  · rw [rkG_I (by omega)]; exact ha.2.1
/-- what an if comes to -/
def ifV (s : Option Sm) (e : Nat → Int64) : Int64 := match s with
  | none => 1
  | some s => cVal (s e)
theorem ck_if (hc : CS E h x) {t nn q : Nat} {cls : List Cl} {d : Cl} (ht : x + 135 < t) (hl : LwT E h t nn cls) (hq : cls[q]? = some d) {w : Nat → Int32} (hw : ∀ j, j < 8 → hI h (x + 38) j = w j) {e : Nat → Int64} (he : ∀ j, j < 8 → e j = (w j).toInt64) : Ct E 1 0 0 mX7_reckon [.ref (x + 1), .ref t, .int (nI q), .int 2, .ref (x + 38)] h (pRk h x (ifV d.2.1 e)) := by
  obtain ⟨htx, hnn, hlen, h12, sz, hsz, es, hcl⟩ := hl
  obtain ⟨hd, a0, a1, a2, a3, g1, g2, g3, e0, e1, e2, e3, l1, l2, l3, l4, hs, hif⟩ := hcl q d hq
  have hq12 : q < 12 := by
    rcases Nat.lt_or_ge q cls.length with z | z
    · omega
    · rw [List.getElem?_eq_none z] at hq; cases hq
  have hat : nI q * 3 + 2 = nI (3 * q + 2) := by
    rw [show (3 : Int32) = nI 3 from rfl, show (2 : Int32) = nI 2 from rfl, nI_mul, nI_add, Nat.mul_comm]
  have hwd : ∀ j, j < 8 → e j = (hI h (x + 38) j).toInt64 := fun j hj => by rw [hw j hj]; exact he j hj
  cases hd2 : d.2.1 with
  | none =>
    rw [hd2] at hif
    have hr0 : cRun (hI h (t + 4)) (hI h (t + 5)) (hI h (x + 38)) 8 a3 0 a2 0 (hJ h (x + 2)) = some (false, 0, hJ h (x + 2)) := by rw [cRun, if_neg (by omega)]
    have h1 := c7_run (ci := nI q) (pi := 2) hc (by omega) (by omega) htx (by omega) (cr_38 hc) (by decide) hat (by omega) e2 e3 es l4 hsz l3 hr0
    exact h1
  | some s =>
    rw [hd2] at hif
    obtain ⟨lf, hlf, hseg, -⟩ := hif
    obtain ⟨N, bk, n', f', hr0, hval⟩ := CSeg_run hseg hlf hwd (hJ h (x + 2))
    have h1 := c7_run (ci := nI q) (pi := 2) hc (by omega) (by omega) htx (by omega) (cr_38 hc) (by decide) hat (by omega) e2 e3 es l4 hsz l3 hr0
    rw [hval] at h1
    exact h1
theorem ck_sum (hc : CS E h x) {t nn q : Nat} {cls : List Cl} {d : Cl} (ht : x + 135 < t) (hl : LwT E h t nn cls) (hq : cls[q]? = some d) (h3 : d.1 ≠ 3) {w : Nat → Int32} (hw : ∀ j, j < 8 → hI h (x + 38) j = w j) {e : Nat → Int64} (he : ∀ j, j < 8 → e j = (w j).toInt64) : Ct E 1 0 0 mX7_reckon [.ref (x + 1), .ref t, .int (nI q), .int 0, .ref (x + 38)] h (pRk h x (cVal (d.2.2 e))) := by
  obtain ⟨htx, hnn, hlen, h12, sz, hsz, es, hcl⟩ := hl
  obtain ⟨hd, a0, a1, a2, a3, g1, g2, g3, e0, e1, e2, e3, l1, l2, l3, l4, hs, hif⟩ := hcl q d hq
  have hq12 : q < 12 := by
    rcases Nat.lt_or_ge q cls.length with z | z
    · omega
    · rw [List.getElem?_eq_none z] at hq; cases hq
  have hat : nI q * 3 + 0 = nI (3 * q) := by
    rw [show (3 : Int32) = nI 3 from rfl, show (0 : Int32) = nI 0 from rfl, nI_mul, nI_add, Nat.mul_comm, Nat.add_zero]
  have hwd : ∀ j, j < 8 → e j = (hI h (x + 38) j).toInt64 := fun j hj => by rw [hw j hj]; exact he j hj
  obtain ⟨lf, hlf, hseg, -⟩ := hs (fun z => h3 (by rw [g2, z]; rfl))
  obtain ⟨N, bk, n', f', hr0, hval⟩ := CSeg_run hseg hlf hwd (hJ h (x + 2))
  have h1 := c7_run (ci := nI q) (pi := 0) hc (by omega) (by omega) htx (by omega) (cr_38 hc) (by decide) hat (by omega) e0 e1 es (by omega) hsz l1 hr0
  rw [hval] at h1
  exact h1
theorem ifV_ok {s : Option Sm} {e : Nat → Int64} (hT : ∀ z, s = some z → IsT z) : ifV s e = 1 ↔ ifOk s e = true := by
  cases s with
  | none => exact ⟨fun _ => rfl, fun _ => rfl⟩
  | some s =>
    unfold ifV ifOk
    cases hs : s e with
    | none => simp only [hs]; exact ⟨fun z => absurd z (by decide), fun z => by cases z⟩
    | some v =>
      simp only [hs]
      rcases hT s rfl e v hs with rfl | rfl
      · exact ⟨fun z => absurd z (by decide), fun z => absurd z (by decide)⟩
      · exact ⟨fun _ => by decide, fun _ => rfl⟩
theorem Bd_min {s : Sm} {e : Nat → Int64} (hb : Bd s) (he : ∀ j, ∃ w : Int32, e j = w.toInt64) : cVal (s e) = -9223372036854775808 ↔ s e = none := by
  cases hs : s e with
  | none => exact ⟨fun _ => rfl, fun _ => rfl⟩
  | some v =>
    have := hb e he v hs
    refine ⟨fun z => ?_, fun z => by cases z⟩
    have z' : v = -9223372036854775808 := z
    rw [z'] at this
    exact absurd this.1 (by decide)
theorem clampL {v : Int64} {m : Int32} (h0 : ¬ m.toInt64 < 0) (hm : m.toInt64.toInt32 = m) : (maxL 0 (minL v m.toInt64)).toInt32 = withinF v 0 m := by
  unfold maxL minL withinF
  have z0 : (0 : Int32).toInt64 = 0 := by decide
  rw [z0]
  by_cases h1 : m.toInt64 < v
  · have h2 : ¬ v < 0 := fun z => h0 (Int64.lt_trans h1 z)
    rw [if_pos h1, if_neg h0, if_neg h2, if_pos h1]; exact hm
  · rw [if_neg h1]
    by_cases h2 : v < 0
    · rw [if_pos h2, if_pos h2]; decide
    · rw [if_neg h2, if_neg h2, if_neg h1]
def mostH (hd : Nat) : Int32 := if hd = 0 then 99 else if hd = 1 then 10 else 9
theorem ct_mostOf {hd : Nat} (h3 : hd < 3) : Ct E 0 0 0 mX0_mostOf [.int (nI (263 + hd))] h (po (some (.long (mostH hd).toInt64)) h) := by
  refine Ct.of (by decide +kernel) (Nat.le_of_ble_eq_true rfl) ?_
  rcases (by omega : hd = 0 ∨ hd = 1 ∨ hd = 2) with rfl | rfl | rfl
  · refine r_iload_n (pc := 0) 0 dX0_mostOf_0 rfl ?_
    refine r_sipush (pc := 1) (263) dX0_mostOf_1 rfl ?_
    refine r_icmp_ne (pc := 4) (tgt := 13) dX0_mostOf_4 (by decide) (fun c_4 => ?_) (fun c_4 => ?_)
    · exact absurd (by decide) c_4
    · refine r_ldc2_w (pc := 7) cs_X0_84 dX0_mostOf_7 ?_
      refine r_goto (pc := 10) (tgt := 29) dX0_mostOf_10 (by decide) ?_
      refine r_lret (pc := 29) rfl ?_ (Nat.le_of_ble_eq_true rfl) (Nat.le_of_ble_eq_true rfl) dX0_mostOf_29
      exact ⟨by decide, rfl⟩
  · refine r_iload_n (pc := 0) 0 dX0_mostOf_0 rfl ?_
    refine r_sipush (pc := 1) (263) dX0_mostOf_1 rfl ?_
    refine r_icmp_ne (pc := 4) (tgt := 13) dX0_mostOf_4 (by decide) (fun c_4 => ?_) (fun c_4 => ?_)
    · refine r_iload_n (pc := 13) 0 dX0_mostOf_13 rfl ?_
      refine r_sipush (pc := 14) (264) dX0_mostOf_14 rfl ?_
      refine r_icmp_ne (pc := 17) (tgt := 26) dX0_mostOf_17 (by decide) (fun c_17 => ?_) (fun c_17 => ?_)
      · exact absurd (by decide) c_17
      · refine r_ldc2_w (pc := 20) cs_X0_86 dX0_mostOf_20 ?_
        refine r_goto (pc := 23) (tgt := 29) dX0_mostOf_23 (by decide) ?_
        refine r_lret (pc := 29) rfl ?_ (Nat.le_of_ble_eq_true rfl) (Nat.le_of_ble_eq_true rfl) dX0_mostOf_29
        exact ⟨by decide, rfl⟩
    · exact absurd c_4 (by decide)
  · refine r_iload_n (pc := 0) 0 dX0_mostOf_0 rfl ?_
    refine r_sipush (pc := 1) (263) dX0_mostOf_1 rfl ?_
    refine r_icmp_ne (pc := 4) (tgt := 13) dX0_mostOf_4 (by decide) (fun c_4 => ?_) (fun c_4 => ?_)
    · refine r_iload_n (pc := 13) 0 dX0_mostOf_13 rfl ?_
      refine r_sipush (pc := 14) (264) dX0_mostOf_14 rfl ?_
      refine r_icmp_ne (pc := 17) (tgt := 26) dX0_mostOf_17 (by decide) (fun c_17 => ?_) (fun c_17 => ?_)
      · refine r_ldc2_w (pc := 26) cs_X0_88 dX0_mostOf_26 ?_
        refine r_lret (pc := 29) rfl ?_ (Nat.le_of_ble_eq_true rfl) (Nat.le_of_ble_eq_true rfl) dX0_mostOf_29
        exact ⟨by decide, rfl⟩
      · exact absurd c_17 (by decide)
    · exact absurd c_4 (by decide)
theorem mostH_ok (hd : Nat) : ¬ (mostH hd).toInt64 < 0 ∧ (mostH hd).toInt64.toInt32 = mostH hd := by
  unfold mostH
  by_cases h0 : hd = 0
  · rw [if_pos h0]; decide
  · rw [if_neg h0]
    by_cases h1 : hd = 1
    · rw [if_pos h1]; decide
    · rw [if_neg h1]; decide
def dflH (w : Nat → Int32) (dr : Int32) (hd : Nat) : Int32 := if hd = 0 then w 1 + 1 else if hd = 1 then dr else w 1
def tellF (fo : Option (List Cl)) (hd : Nat) (e : Nat → Int64) (w : Nat → Int32) (dr : Int32) : Int32 := withinF (toldF fo (nI hd) e (dflH w dr hd).toInt64) 0 (mostH hd)
theorem within_dfl {w : Nat → Int32} {dr : Int32} {hd li d : Nat} (hl : w 1 = nI li) (hl8 : li ≤ 8) (hdr : dr = nI d) (hd10 : d ≤ 10) : withinF (dflH w dr hd).toInt64 0 (mostH hd) = dflH w dr hd := by
  have key : ∀ (a m : Nat), a ≤ m → m < 2 ^ 31 → withinF (nI a).toInt64 0 (nI m) = nI a := by
    intro a m ham hm
    unfold withinF
    have z0 : (0 : Int32).toInt64 = 0 := by decide
    have n1 : ¬ (nI a).toInt64 < 0 := by
      rw [fa_lt64, Int32.toInt_toInt64, nI_toInt (by omega), show (0 : Int64).toInt = 0 by decide]; omega
    have n2 : ¬ (nI m).toInt64 < (nI a).toInt64 := by
      rw [fa_lt64, Int32.toInt_toInt64, Int32.toInt_toInt64, nI_toInt (n := m) hm, nI_toInt (n := a) (by omega)]; omega
    rw [z0, if_neg n1, if_neg n2]
    apply Int32.toInt_inj.mp
    rw [Int64.toInt_toInt32, Int32.toInt_toInt64, nI_toInt (by omega), Int.bmod_eq_of_le (by omega) (by omega)]
  unfold dflH mostH
  by_cases h0 : hd = 0
  · rw [if_pos h0, if_pos h0, hl, nI_1]; exact key (li + 1) 99 (by omega) (by decide)
  · rw [if_neg h0, if_neg h0]
    by_cases h1 : hd = 1
    · rw [if_pos h1, if_pos h1, hdr]; exact key d 10 hd10 (by decide)
    · rw [if_neg h1, if_neg h1, hl]; exact key li 9 (by omega) (by decide)
theorem c0_tells (hc : CS E h x) {w : Nat → Int32} {dr : Int32} {lw : Option Nat} {fo : Option (List Cl)} {hd li d : Nat} (ha : Ask h x w dr lw) (hlw : FoL E h x fo lw) (h3 : hd < 3) (hl : w 1 = nI li) (hl8 : li ≤ 8) (hdr : dr = nI d) (hd10 : d ≤ 10) {e : Nat → Int64} (he : ∀ j, j < 8 → e j = (w j).toInt64) (heb : ∀ j, ∃ z : Int32, e j = z.toInt64) : Ct E 2 0 0 mX0_tells [.ref (x + 37), .int (nI (263 + hd))] h (fun v h' => v = some (.int (tellF fo hd e w dr)) ∧ RkE h x h') := by
  refine Ct.of (by decide +kernel) (Nat.le_of_ble_eq_true rfl) ?_
  have dflt : ∀ (hh : Hp) (c3 c2 : Int32), RkE h x hh → tellF fo hd e w dr = dflH w dr hd → Wp E mX0_tells (Rm 2 0 0) (Qm E (fun v h' => v = some (.int (tellF fo hd e w dr)) ∧ RkE h x h') 0 0) 111 [(0, .ref (x + 37)), (1, .int (nI (263 + hd))), (2, .int c2), (3, .int c3)] [] hh 0 0 := by
    intro hh c3 c2 hr hv
    have hc1 := hc.ak hr.ak
    have ha1 := ha.rk hr
    rw [hv]
    unfold dflH
    refine r_iload_n (pc := 111) 1 dX0_tells_111 rfl ?_
    refine r_sipush (pc := 112) (263) dX0_tells_112 rfl ?_
    refine r_icmp_ne (pc := 115) (tgt := 129) dX0_tells_115 (by decide) (fun c_115 => ?_) (fun c_115 => ?_)
    · have n0 : ¬ hd = 0 := fun z => c_115 (by rw [z]; rfl)
      rw [if_neg n0]
      refine r_iload_n (pc := 129) 1 dX0_tells_129 rfl ?_
      refine r_sipush (pc := 130) (264) dX0_tells_130 rfl ?_
      refine r_icmp_ne (pc := 133) (tgt := 143) dX0_tells_133 (by decide) (fun c_133 => ?_) (fun c_133 => ?_)
      · have n1 : ¬ hd = 1 := fun z => c_133 (by rw [z]; rfl)
        rw [if_neg n1]
        refine r_aload_n (pc := 143) 0 dX0_tells_143 rfl ?_
        refine r_getR (pc := 144) fl_X0_15 (ca_37 hc1) (cf_37_1 hc1) dX0_tells_144 ?_
        refine r_iconst (pc := 147) (1) dX0_tells_147 rfl ?_
        refine r_iald (pc := 148) (j := 1) (cr_38 hc1) rfl (by decide) (by decide) dX0_tells_148 ?_
        refine r_iret (pc := 149) rfl ?_ (Nat.le_of_ble_eq_true rfl) (Nat.le_of_ble_eq_true rfl) dX0_tells_149
        exact ⟨by rw [ha1.1 1 (by decide)], hr⟩
      · have n1 : hd = 1 := by
          have := (nI_eq (a := 263 + hd) (b := 264) (by omega) (by decide)).mp c_133
          omega
        rw [if_pos n1]
        refine r_aload_n (pc := 136) 0 dX0_tells_136 rfl ?_
        refine r_getI (pc := 137) fl_X0_36 (ca_37 hc1) dX0_tells_137 ?_
        refine r_goto (pc := 140) (tgt := 149) dX0_tells_140 (by decide) ?_
        refine r_iret (pc := 149) rfl ?_ (Nat.le_of_ble_eq_true rfl) (Nat.le_of_ble_eq_true rfl) dX0_tells_149
        exact ⟨by rw [ha1.2.1], hr⟩
    · have n0 : hd = 0 := by
        have := (nI_eq (a := 263 + hd) (b := 263) (by omega) (by decide)).mp c_115
        omega
      rw [if_pos n0]
      refine r_aload_n (pc := 118) 0 dX0_tells_118 rfl ?_
      refine r_getR (pc := 119) fl_X0_15 (ca_37 hc1) (cf_37_1 hc1) dX0_tells_119 ?_
      refine r_iconst (pc := 122) (1) dX0_tells_122 rfl ?_
      refine r_iald (pc := 123) (j := 1) (cr_38 hc1) rfl (by decide) (by decide) dX0_tells_123 ?_
      refine r_iconst (pc := 124) (1) dX0_tells_124 rfl ?_
      refine r_iadd (pc := 125) dX0_tells_125 ?_
      refine r_goto (pc := 126) (tgt := 149) dX0_tells_126 (by decide) ?_
      refine r_iret (pc := 149) rfl ?_ (Nat.le_of_ble_eq_true rfl) (Nat.le_of_ble_eq_true rfl) dX0_tells_149
      exact ⟨by rw [ha1.1 1 (by decide)], hr⟩
  cases fo with
  | none =>
    have hlw0 : lw = none := hlw
    have e0 : hR h (x + 37) 3 = none := ha.2.2.trans hlw0
    refine r_aload_n (pc := 0) 0 dX0_tells_0 rfl ?_
    refine r_getN (pc := 1) fl_X0_29 (ca_37 hc) (e0) dX0_tells_1 ?_
    refine r_ifnonnullN (pc := 4) dX0_tells_4 ?_
    refine r_iconst (pc := 7) (-1) dX0_tells_7 rfl ?_
    refine r_goto (pc := 8) (tgt := 20) dX0_tells_8 (by decide) ?_
    refine r_istore_n (pc := 20) (lv' := [(0, _), (1, _), (2, _)]) dX0_tells_20 (Nat.le_of_ble_eq_true rfl) rfl ?_
    refine r_iload_n (pc := 21) 2 dX0_tells_21 rfl ?_
    refine r_istore_n (pc := 22) (lv' := [(0, _), (1, _), (2, _), (3, _)]) dX0_tells_22 (Nat.le_of_ble_eq_true rfl) rfl ?_
    refine r_iload_n (pc := 23) 3 dX0_tells_23 rfl ?_
    refine r_if_lt (pc := 24) (tgt := 111) dX0_tells_24 (by decide) (fun c_24 => ?_) (fun c_24 => ?_)
    · exact dflt h _ _ RkE.rf (by unfold tellF toldF; exact within_dfl hl hl8 hdr hd10)
    · exact absurd (by decide) c_24
  | some cls =>
    obtain ⟨t, nn, e1, ht, hlt⟩ := hlw
    have e0 : hR h (x + 37) 3 = some t := ha.2.2.trans e1
    have hlen := hlt.2.2.1
    have h12 := hlt.2.2.2.1
    have htx := hlt.1
    have loop : ∀ (k : Nat) (hh : Hp) (c2 : Int32), k ≤ cls.length → RkE h x hh → foldN cls (nI hd) e (dflH w dr hd).toInt64 k = foldN cls (nI hd) e (dflH w dr hd).toInt64 cls.length → Wp E mX0_tells (Rm 2 0 0) (Qm E (fun v h' => v = some (.int (tellF (some cls) hd e w dr)) ∧ RkE h x h') 0 0) 23 [(0, .ref (x + 37)), (1, .int (nI (263 + hd))), (2, .int c2), (3, .int (nI k - 1))] [] hh 0 0 := by
      intro k
      induction k with
      | zero =>
        intro hh c2 hk hr hf
        refine r_iload_n (pc := 23) 3 dX0_tells_23 rfl ?_
        refine r_if_lt (pc := 24) (tgt := 111) dX0_tells_24 (by decide) (fun c_24 => ?_) (fun c_24 => ?_)
        · refine dflt hh _ _ hr ?_
          show withinF (foldN cls (nI hd) e (dflH w dr hd).toInt64 cls.length) 0 (mostH hd) = _
          rw [← hf]
          exact within_dfl hl hl8 hdr hd10
        · exact absurd (by decide) c_24
      | succ k IH =>
        intro hh c2 hk hr hf
        have hc1 := hc.ak hr.ak
        have ha1 := ha.rk hr
        have hlt1 := hlt.rk hr ht
        have htx1 := hlt1.1
        have e01 : hR hh (x + 37) 3 = some t := ha1.2.2.trans e1
        obtain ⟨dd, hdd⟩ : ∃ dd, cls[k]? = some dd := ⟨_, List.getElem?_eq_getElem (by omega)⟩
        obtain ⟨-, hnn, -, -, sz, hsz, es, hcl⟩ := id hlt1
        obtain ⟨hq, a0, a1, a2, a3, g1, g2, g3, -, -, -, -, -, -, -, -, hsum, hif⟩ := hcl k dd hdd
        have hTs : ∀ z, dd.2.1 = some z → IsT z := by
          intro z hz
          rw [hz] at hif
          obtain ⟨_, _, _, q⟩ := hif
          exact q
        have hfk : foldN cls (nI hd) e (dflH w dr hd).toInt64 (k + 1) = (clT dd (nI hd) e).getD (foldN cls (nI hd) e (dflH w dr hd).toInt64 k) := by
          rw [foldN, hdd]
        have no : ∀ (hh2 : Hp), RkE h x hh2 → clT dd (nI hd) e = none → Wp E mX0_tells (Rm 2 0 0) (Qm E (fun v h' => v = some (.int (tellF (some cls) hd e w dr)) ∧ RkE h x h') 0 0) 105 [(0, .ref (x + 37)), (1, .int (nI (263 + hd))), (2, .int c2), (3, .int (nI k))] [] hh2 0 0 := by
          intro hh2 hr2 hnone
          rw [hnone] at hfk
          refine r_iinc (pc := 105) (v := _ + (-1)) (lv' := [(0, _), (1, _), (2, _), (3, _)]) 3 dX0_tells_105 rfl rfl (Nat.le_of_ble_eq_true rfl) rfl ?_
          refine r_goto (pc := 108) (tgt := 23) dX0_tells_108 (by decide) ?_
          rw [isub_m1]
          exact IH hh2 c2 (by omega) hr2 (by rw [← hf, hfk]; rfl)
        rw [show nI (k + 1) - 1 = nI k from nI_sub (a := k + 1) (b := 1) (by omega)]
        refine r_iload_n (pc := 23) 3 dX0_tells_23 rfl ?_
        refine r_if_lt (pc := 24) (tgt := 111) dX0_tells_24 (by decide) (fun c_24 => ?_) (fun c_24 => ?_)
        · exact absurd c_24 (nI_pos (by omega))
        · refine r_aload_n (pc := 27) 0 dX0_tells_27 rfl ?_
          refine r_getR (pc := 28) fl_X0_29 (ca_37 hc1) (e01) dX0_tells_28 ?_
          refine r_getR (pc := 31) fl_X0_60 (tx_is htx1) (tx_f1 htx1) dX0_tells_31 ?_
          refine r_iload_n (pc := 34) 3 dX0_tells_34 rfl ?_
          refine r_iald (pc := 35) (j := k) (tx_r1 htx1) rfl (by omega) (by decide) dX0_tells_35 ?_
          refine r_iload_n (pc := 36) 1 dX0_tells_36 rfl ?_
          refine r_icmp_ne (pc := 37) (tgt := 105) dX0_tells_37 (by decide) (fun c_37 => ?_) (fun c_37 => ?_)
          · rw [g3] at c_37
            exact no hh hr (by unfold clT; rw [if_neg (fun z => c_37 (by have := z.1; rw [g2] at this; have := (nI_eq (by omega) (by omega)).mp this; rw [this]))])
          · rw [g3] at c_37
            have hqh : hq = hd := by have := (nI_eq (by omega) (by omega)).mp c_37; omega
            rw [hqh] at g2
            have hne3 : dd.1 ≠ 3 := fun z => by rw [g2] at z; have := (nI_eq (a := hd) (b := 3) (by omega) (by decide)).mp z; omega
            refine r_aload_n (pc := 40) 0 dX0_tells_40 rfl ?_
            refine r_getR (pc := 41) fl_X0_9 (ca_37 hc1) (cf_37_0 hc1) dX0_tells_41 ?_
            refine r_aload_n (pc := 44) 0 dX0_tells_44 rfl ?_
            refine r_getR (pc := 45) fl_X0_29 (ca_37 hc1) (e01) dX0_tells_45 ?_
            refine r_iload_n (pc := 48) 3 dX0_tells_48 rfl ?_
            refine r_iconst (pc := 49) (2) dX0_tells_49 rfl ?_
            refine r_aload_n (pc := 50) 0 dX0_tells_50 rfl ?_
            refine r_getR (pc := 51) fl_X0_15 (ca_37 hc1) (cf_37_1 hc1) dX0_tells_51 ?_
            refine r_callV (pc := 54) (As := [_, _, _, _]) mv_X7_reckon ml_X0_63 (ck_if hc1 ht hlt1 hdd ha1.1 he) (ca_1 hc1) rfl rfl (Nat.le_of_ble_eq_true rfl) (Nat.le_of_ble_eq_true rfl) (Nat.le_of_ble_eq_true rfl) (Nat.le_of_ble_eq_true rfl) (Nat.le_of_ble_eq_true rfl) dX0_tells_54 (fun r h1 hp => ?_)
            obtain ⟨rfl, n1, f1, rfl⟩ := hp
            have hr2 := hr.rk n1 f1
            have hc2 := hc.ak hr2.ak
            have ha2 := ha.rk hr2
            have hlt2 := hlt.rk hr2 ht
            have e02 : hR (rkH hh x n1 f1) (x + 37) 3 = some t := ha2.2.2.trans e1
            show Wp E mX0_tells _ _ _ _ [.long _] _ 0 0
            refine r_lconst (pc := 57) (1) dX0_tells_57 rfl ?_
            refine r_lcmp_ne (pc := 58) (tgt := 105) dX0_tells_58 dX0_tells_59 (by decide) (fun c_58 => ?_) (fun c_58 => ?_)
            · exact no _ hr2 (by unfold clT; rw [if_neg (fun z => c_58 ((ifV_ok hTs).mpr z.2))])
            · have hok := (ifV_ok hTs).mp c_58
              refine r_aload_n (pc := 62) 0 dX0_tells_62 rfl ?_
              refine r_getR (pc := 63) fl_X0_9 (ca_37 hc2) (cf_37_0 hc2) dX0_tells_63 ?_
              refine r_aload_n (pc := 66) 0 dX0_tells_66 rfl ?_
              refine r_getR (pc := 67) fl_X0_29 (ca_37 hc2) (e02) dX0_tells_67 ?_
              refine r_iload_n (pc := 70) 3 dX0_tells_70 rfl ?_
              refine r_iconst (pc := 71) (0) dX0_tells_71 rfl ?_
              refine r_aload_n (pc := 72) 0 dX0_tells_72 rfl ?_
              refine r_getR (pc := 73) fl_X0_15 (ca_37 hc2) (cf_37_1 hc2) dX0_tells_73 ?_
              refine r_callV (pc := 76) (As := [_, _, _, _]) mv_X7_reckon ml_X0_63 (ck_sum hc2 ht hlt2 hdd hne3 ha2.1 he) (ca_1 hc2) rfl rfl (Nat.le_of_ble_eq_true rfl) (Nat.le_of_ble_eq_true rfl) (Nat.le_of_ble_eq_true rfl) (Nat.le_of_ble_eq_true rfl) (Nat.le_of_ble_eq_true rfl) dX0_tells_76 (fun r h1 hp => ?_)
              obtain ⟨rfl, n2, f2, rfl⟩ := hp
              have hr3 := hr2.rk n2 f2
              obtain ⟨_, _, _, hbd⟩ := hsum (by omega)
              have h3n : ¬ nI hd = 3 := fun z => by have := (nI_eq (a := hd) (b := 3) (by omega) (by decide)).mp z; omega
              show Wp E mX0_tells _ _ _ _ [.long _] _ 0 0
              refine r_lstore (pc := 79) (lv' := [(0, _), (1, _), (2, _), (3, _), (4, _)]) dX0_tells_79 (Nat.le_of_ble_eq_true rfl) rfl ?_
              refine r_lload (pc := 81) 4 dX0_tells_81 rfl ?_
              refine r_ldc2_w (pc := 83) cs_X0_69 dX0_tells_83 ?_
              refine r_lcmp_eq (pc := 86) (tgt := 105) dX0_tells_86 dX0_tells_87 (by decide) (fun c_86 => ?_) (fun c_86 => ?_)
              · have hnn2 := (Bd_min hbd heb).mp c_86
                refine r_sub [0, 1, 2, 3] rfl ?_
                exact no _ hr3 (by unfold clT; rw [if_pos ⟨g2, hok⟩, if_neg h3n, hnn2])
              · obtain ⟨v, hv⟩ : ∃ v, dd.2.2 e = some v := by
                  cases hz : dd.2.2 e with
                  | none => exact absurd ((Bd_min hbd heb).mpr hz) c_86
                  | some v => exact ⟨v, rfl⟩
                refine r_lconst (pc := 90) (0) dX0_tells_90 rfl ?_
                refine r_lload (pc := 91) 4 dX0_tells_91 rfl ?_
                refine r_iload_n (pc := 93) 1 dX0_tells_93 rfl ?_
                refine r_dS (pc := 94) (As := [_]) ms_X0_mostOf ml_X0_71 (ct_mostOf h3) rfl rfl (Nat.le_of_ble_eq_true rfl) (Nat.le_of_ble_eq_true rfl) (Nat.le_of_ble_eq_true rfl) (Nat.le_of_ble_eq_true rfl) (Nat.le_of_ble_eq_true rfl) dX0_tells_94 ?_
                refine r_minL (pc := 97) ml_X0_75 (Nat.le_of_ble_eq_true rfl) (Nat.le_of_ble_eq_true rfl) (Nat.le_of_ble_eq_true rfl) (Nat.le_of_ble_eq_true rfl) (Nat.le_of_ble_eq_true rfl) dX0_tells_97 ?_
                refine r_maxL (pc := 100) ml_X0_81 (Nat.le_of_ble_eq_true rfl) (Nat.le_of_ble_eq_true rfl) (Nat.le_of_ble_eq_true rfl) (Nat.le_of_ble_eq_true rfl) (Nat.le_of_ble_eq_true rfl) dX0_tells_100 ?_
                refine r_l2i (pc := 103) dX0_tells_103 ?_
                refine r_iret (pc := 104) rfl ?_ (Nat.le_of_ble_eq_true rfl) (Nat.le_of_ble_eq_true rfl) dX0_tells_104
                refine ⟨?_, hr3⟩
                have hcl2 : clT dd (nI hd) e = some v := by unfold clT; rw [if_pos ⟨g2, hok⟩, if_neg h3n, hv]
                rw [hcl2] at hfk
                have e5 : cVal (dd.2.2 e) = v := by rw [hv]; rfl
                rw [e5]
                have e6 : tellF (some cls) hd e w dr = withinF v 0 (mostH hd) := by
                  show withinF (foldN cls (nI hd) e (dflH w dr hd).toInt64 cls.length) 0 (mostH hd) = _
                  rw [← hf, hfk]; rfl
                rw [e6]
                rw [← clampL (v := v) (m := mostH hd) (mostH_ok hd).1 (mostH_ok hd).2]
    refine r_aload_n (pc := 0) 0 dX0_tells_0 rfl ?_
    refine r_getR (pc := 1) fl_X0_29 (ca_37 hc) (e0) dX0_tells_1 ?_
    refine r_ifnonnull (pc := 4) (tgt := 11) dX0_tells_4 (by decide) ?_
    refine r_aload_n (pc := 11) 0 dX0_tells_11 rfl ?_
    refine r_getR (pc := 12) fl_X0_29 (ca_37 hc) (e0) dX0_tells_12 ?_
    refine r_getI (pc := 15) fl_X0_55 (tx_is htx) dX0_tells_15 ?_
    rw [hlen]
    refine r_iconst (pc := 18) (1) dX0_tells_18 rfl ?_
    refine r_isub (pc := 19) dX0_tells_19 ?_
    refine r_istore_n (pc := 20) (lv' := [(0, _), (1, _), (2, _)]) dX0_tells_20 (Nat.le_of_ble_eq_true rfl) rfl ?_
    refine r_iload_n (pc := 21) 2 dX0_tells_21 rfl ?_
    refine r_istore_n (pc := 22) (lv' := [(0, _), (1, _), (2, _), (3, _)]) dX0_tells_22 (Nat.le_of_ble_eq_true rfl) rfl ?_
    exact loop cls.length h _ (Nat.le_refl _) RkE.rf rfl
end TELLS
