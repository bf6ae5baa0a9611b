/-! what lies outside of our cells: statics, the script; terms -/
section OUTROWS
variable {E : En} {M : Mi} {R : Room} {Q : Qg} {pc : Nat} {lv lv' : List (Nat × Value)} {st : List Value} {h : Hp} {cl sl : Nat}
/-- a static field is known -/
def StK (E : En) (C n d : String) (v : Value) : Prop := ∀ (U : State) (H : Heap), eK E U H → va_Z C n d v (eA E) U H
/-- an array of ints outside is known -/
def ArK (E : En) (b L : Nat) (xs : Nat → Int32) : Prop := b < eZ E ∧ ∀ (U : State) (H : Heap), eK E U H → va_X b L xs U H
theorem r_gets {idx : Nat} {C n d : String} {v : Value} (hK : StK E C n d v) (hlk : Cond.fieldLink M.1.cls idx C n d ∈ gws) (hd : decode M.2.1 pc = .ok (.getstatic idx, 3)) (kk : Wp E M R Q (pc + 3) lv (v :: st) h cl sl) : Wp E M R Q pc lv st h cl sl := by
  intro p e s m ar bl me c C H lo ls hH hS hl
  obtain ⟨hx, hb, -, -, -, -, hown, hts, hKw, hz⟩ := id C
  exact va_gets hx hb (hK _ _ hKw.2.2.1) hS hown (hts _ hlk) (fun _ z => z) hd (kk p e s m ar bl me c C H lo ls hH hS hl)
theorem r_sld {b L j : Nat} {xs : Nat → Int32} {i : Int32} (hX : ArK E b L xs) (hi : i = nI j) (hj : j < L) (hs : L < 2 ^ 31) (hd : decode M.2.1 pc = .ok (.iaload, 1)) (kk : Wp E M R Q (pc + 1) lv (.int (xs j) :: st) h cl sl) : Wp E M R Q pc lv (.int i :: .ref b :: st) h cl sl := by
  intro p e s m ar bl me c C H lo ls hH hS hl
  obtain ⟨hx, hb, -, -, -, -, hown, hts, hKw, hz⟩ := id C
  subst hi
  refine va_sld hx hb (hX.2 _ _ hKw.2.2.1) (Nat.lt_of_lt_of_le hX.1 hz) (Nat.not_le.mpr hX.1) hS (vp_in_nI hj hs) hd ?_
  rw [nI_clamp (by omega)]
  exact kk p e s m ar bl me c C H lo ls hH hS hl
/-- a table of ints outside is known -/
def TaK (E : En) (b L : Nat) (xs : Nat → Int32) : Prop := ∀ (U : State) (H : Heap), eK E U H → va_T .int b L (fun j => .int (xs j)) (eA E) U H
theorem r_tld {b L j : Nat} {xs : Nat → Int32} {i : Int32} (hX : TaK E b L xs) (hi : i = nI j) (hj : j < L) (hs : L < 2 ^ 31) (hd : decode M.2.1 pc = .ok (.iaload, 1)) (kk : Wp E M R Q (pc + 1) lv (.int (xs j) :: st) h cl sl) : Wp E M R Q pc lv (.int i :: .ref b :: st) h cl sl := by
  intro p e s m ar bl me c C H lo ls hH hS hl
  obtain ⟨hx, hb, -, -, -, -, hown, hts, hKw, hz⟩ := id C
  subst hi
  exact va_ti hx hb (hX _ _ hKw.2.2.1) hS (vp_in_nI hj hs) (by rw [nI_clamp (by omega)]) hd (kk p e s m ar bl me c C H lo ls hH hS hl)
theorem r_slen {b L : Nat} {xs : Nat → Int32} (hX : ArK E b L xs) (hd : decode M.2.1 pc = .ok (.arraylength, 1)) (kk : Wp E M R Q (pc + 1) lv (.int (nI L) :: st) h cl sl) : Wp E M R Q pc lv (.ref b :: st) h cl sl := by
  intro p e s m ar bl me c C H lo ls hH hS hl
  obtain ⟨hx, hb, -, -, -, -, hown, hts, hKw, hz⟩ := id C
  exact va_slen hx hb (hX.2 _ _ hKw.2.2.1) (Nat.lt_of_lt_of_le hX.1 hz) (Nat.not_le.mpr hX.1) hS hd (kk p e s m ar bl me c C H lo ls hH hS hl)
end OUTROWS
section OWN18
variable {E : En} {h h1 h2 : Hp} {x : Nat} {μ μ' : Mu}
/-- what each term is at most -/
def mostF (j : Nat) : Int32 := if j = 0 then 999 else if j = 1 then 10 else 9
theorem fk_180 : Cond.fieldLink RX11 180 "NineLives" "MOST_OF_TERM" "[I" ∈ gws := gi3 148 (by decide +kernel) (by decide +kernel)
theorem termB_nI {j : Nat} (hj : j < 3) (v : Int32) : termB (nI j) v = true ↔ (0 ≤ v ∧ v ≤ mostF j) := by
  rcases (by omega : j = 0 ∨ j = 1 ∨ j = 2) with rfl | rfl | rfl
  · unfold termB; rw [if_pos (by decide)]; exact in_le (b := 999) (by decide)
  · unfold termB; rw [if_neg (by decide), if_pos (by decide)]; exact in_le (b := 10) (by decide)
  · unfold termB; rw [if_neg (by decide), if_neg (by decide), if_pos (by decide)]; exact in_le (b := 9) (by decide)
theorem termB_out {w v : Int32} (hw : w < 0 ∨ ¬ w < 3) : ¬ termB w v = true := by
  intro z
  unfold termB at z
  by_cases h0 : w = 0
  · subst h0; exact absurd hw (by decide)
  · rw [if_neg h0] at z
    by_cases h1 : w = 1
    · subst h1; exact absurd hw (by decide)
    · rw [if_neg h1] at z
      by_cases h2 : w = 2
      · subst h2; exact absurd hw (by decide)
      · rw [if_neg h2] at z; exact absurd z (by decide)
theorem RwG.te {nc ns nl sg j : Nat} {r : Nat → Int32} {v : Int32} (hg : RwG r nc ns nl sg) (hj : j < 3) (h0 : 0 ≤ v) (hm : v ≤ mostF j) : RwG (va_up r (5 + j) v) nc ns nl sg := by
  obtain ⟨⟨e0, n6, e1, n3, c1, c2, c3, c4, y5, y6, y7, c5⟩, g3, g2, g4, gn⟩ := hg
  have ne : ∀ i, i ≠ 5 + j → va_up r (5 + j) v i = r i := fun i hi => va_up_ne _ _ hi
  have bd : ∀ b, mostF j = nI b → b < 1000 → ∃ y, y ≤ b ∧ v = nI y := fun b hb hlt => by
    rw [hb] at hm
    obtain ⟨k, hk, e⟩ := inN_of (n := b + 1) (by omega) ((in_le (by omega)).mpr ⟨h0, hm⟩)
    exact ⟨k, by omega, e⟩
  refine ⟨⟨(ne _ (by omega)).trans e0, n6, (ne _ (by omega)).trans e1, n3, fun k hk => (c1 k hk).cg (ne _ (by omega)) (ne _ (by omega)), fun k hk => by rw [ne _ (by omega)]; exact c2 k hk, fun k hk => by rw [ne _ (by omega)]; exact c3 k hk, fun k hk => by rw [ne _ (by omega)]; exact c4 k hk, ?_, ?_, ?_, fun k hk => by rw [ne _ (by omega)]; exact c5 k hk⟩, by rw [ne _ (by omega)]; exact g3, by rw [ne _ (by omega)]; exact g2, by rw [ne _ (by omega)]; exact g4, fun k hk e => ?_⟩
  · by_cases z : j = 0
    · subst z
      obtain ⟨y, hy, e⟩ := bd 999 rfl (by omega)
      exact ⟨y, hy, by rw [show 5 + 0 = 5 from rfl, va_up_self]; exact e⟩
    · rw [ne _ (by omega)]; exact y5
  · by_cases z : j = 1
    · subst z
      obtain ⟨y, hy, e⟩ := bd 10 rfl (by omega)
      exact ⟨y, hy, by rw [show 5 + 1 = 6 from rfl, va_up_self]; exact e⟩
    · rw [ne _ (by omega)]; exact y6
  · by_cases z : j = 2
    · subst z
      obtain ⟨y, hy, e⟩ := bd 9 rfl (by omega)
      exact ⟨y, hy, by rw [show 5 + 2 = 7 from rfl, va_up_self]; exact e⟩
    · rw [ne _ (by omega)]; exact y7
  · rw [ne _ (by omega)] at e ⊢
    exact gn k hk e
theorem c11_terms {nc ns nl sg T : Nat} (hr : CR E h x μ) (hg : GM μ nc ns nl sg) (hst : StK E "NineLives" "MOST_OF_TERM" "[I" (.ref T)) (har : TaK E T 3 mostF) (what value : Int32) : Ct E 2 0 0 mX11_terms [.ref x, .int what, .int value] h (pCr E h x (.int (termsM μ what value).1) (termsM μ what value).2) := by
  have hc := hr.1
  have hv := hr.2.1.1
  refine Ct.of (by decide +kernel) (Nat.le_of_ble_eq_true rfl) ?_
  have no : ¬ termB what value = true → Wp E mX11_terms (Rm 2 0 0) (Qm E (pCr E h x (.int (termsM μ what value).1) (termsM μ what value).2) 0 0) 22 [(0, .ref x), (1, .int what), (2, .int value)] [] h 0 0 := by
    intro hno
    refine r_aload_n (pc := 22) 0 dX11_terms_22 rfl ?_
    refine r_iconst (pc := 23) (-1) dX11_terms_23 rfl ?_
    refine r_dV (pc := 24) (As := [_]) mv_X11_refused ml_X11_106 (c11_refused hc (-1) (j := 1) (by decide) (by decide) (by decide)) (nl_is hc) rfl rfl (Nat.le_of_ble_eq_true rfl) (Nat.le_of_ble_eq_true rfl) (Nat.le_of_ble_eq_true rfl) (Nat.le_of_ble_eq_true rfl) (Nat.le_of_ble_eq_true rfl) dX11_terms_24 ?_
    refine r_iret (pc := 27) rfl ?_ (Nat.le_of_ble_eq_true rfl) (Nat.le_of_ble_eq_true rfl) dX11_terms_27
    rw [termsM, if_neg hno]
    exact ⟨rfl, hr.th.tell _ t_1, kp_to⟩
  refine r_iload_n (pc := 0) 1 dX11_terms_0 rfl ?_
  refine r_if_lt (pc := 1) (tgt := 22) dX11_terms_1 (by decide) (fun c_1 => ?_) (fun c_1 => ?_)
  · exact no (termB_out (Or.inl c_1))
  · refine r_iload_n (pc := 4) 1 dX11_terms_4 rfl ?_
    refine r_iconst (pc := 5) (3) dX11_terms_5 rfl ?_
    refine r_icmp_ge (pc := 6) (tgt := 22) dX11_terms_6 (by decide) (fun c_6 => ?_) (fun c_6 => ?_)
    · exact no (termB_out (Or.inr (Int32.not_lt.mpr c_6)))
    · have hin : inN what 3 = true := by
        unfold inN
        refine decide_eq_true ⟨?_, ?_⟩
        · have := (fa_le 0 what).mp (Int32.not_lt.mp c_1); exact this
        · have := (fa_lt what 3).mp (Int32.not_le.mp c_6); exact this
      obtain ⟨q, hq, hk⟩ := inN_of (by decide) hin
      have htb := termB_nI hq value
      rw [← hk] at htb
      refine r_iload_n (pc := 9) 2 dX11_terms_9 rfl ?_
      refine r_if_lt (pc := 10) (tgt := 22) dX11_terms_10 (by decide) (fun c_10 => ?_) (fun c_10 => ?_)
      · exact no (fun z => absurd (htb.mp z).1 (Int32.not_le.mpr c_10))
      · refine r_iload_n (pc := 13) 2 dX11_terms_13 rfl ?_
        refine r_gets (pc := 14) hst fk_180 dX11_terms_14 ?_
        refine r_iload_n (pc := 17) 1 dX11_terms_17 rfl ?_
        refine r_tld (pc := 18) (j := q) har hk hq (by decide) dX11_terms_18 ?_
        refine r_icmp_le (pc := 19) (tgt := 28) dX11_terms_19 (by decide) (fun c_19 => ?_) (fun c_19 => ?_)
        · have hyes := htb.mpr ⟨Int32.not_lt.mp c_10, c_19⟩
          rw [termsM, if_pos hyes, hk, nI_clamp (by omega)]
          have f : Fr (fun a k => (a = x + 11 ∧ k = q) ∨ (a = x + 40 ∧ k = 3)) h (wI (wI h (x + 3 + 8) q value) (x + 40) 3 0) := (Fr.wI (Or.inl ⟨rfl, rfl⟩)).tr (Fr.wI (Or.inr ⟨rfl, rfl⟩))
          have e2 : up2 (up2 (up2 μ 0 0 0) 0 8 0) 2 (5 + q) value 2 = va_up (μ 2) (5 + q) value := by
            rw [up2_same]; rfl
          have eu : uF (up2 (up2 (up2 μ 0 0 0) 0 8 0) 2 (5 + q) value) = 0 := by
            show (up2 (up2 (up2 μ 0 0 0) 0 8 0) 2 (5 + q) value 0 8).toNatClampNeg = 0
            rw [up2_ne (by omega), up2_at]; rfl
          have e8 : up2 (up2 (up2 μ 0 0 0) 0 8 0) 2 (5 + q) value 0 8 = nI 0 := by rw [up2_ne (by omega), up2_at]; rfl
          obtain ⟨nw, hpv⟩ := hr.2.2.1.1
          have hr2 : CR E (wI (wI h (x + 3 + 8) q value) (x + 40) 3 0) x (up2 (up2 (up2 μ 0 0 0) 0 8 0) 2 (5 + q) value) := by
            refine hr.row (nc := nc) (ns := ns) (nl := nl) (sg := sg) f (fun a k z => ?_) ?_ ?_ ?_ ?_ (fun j h1 h2 => ?_) (fun o j ho h2 h5 h6 h8 => ?_)
            · rcases z with ⟨rfl, rfl⟩ | ⟨rfl, rfl⟩
              · exact Or.inr (Or.inl (by unfold ptW; omega))
              · exact Or.inr (Or.inr (by unfold psW; omega))
            · rw [e2]
              exact (hv.te hq value).fr (S := fun a k => a = x + 40 ∧ k = 3) (Fr.wI ⟨rfl, rfl⟩) (fun i k hi z => by omega)
            · refine ⟨by rw [e2]; exact hg.1.te hq (Int32.not_lt.mp c_10) c_19, ⟨by rw [eu]; exact e8, by omega⟩, fun i hi => by omega⟩
            · refine ⟨nw, ?_⟩
              rw [eu]
              exact ⟨by rw [hI_ne (by omega), hI_ne (by omega)]; exact hpv.1, by rw [hI_at]; rfl, hpv.2.2.1, by omega, fun i hi => by omega⟩
            · rw [e2, va_up_ne _ _ (by omega)]
            · rw [e2, va_up_ne _ _ (by omega)]
            · rw [up2_ne (by omega), up2_ne h8, up2_ne (by unfold obI at ho; omega)]
          have htl := hr2.tell 0 (t_p (by decide))
          rw [toH_p (by decide), show tellM (up2 (up2 (up2 μ 0 0 0) 0 8 0) 2 (5 + q) value) 0 = up2 (up2 (up2 (up2 μ 0 0 0) 0 8 0) 2 (5 + q) value) 0 1 0 by unfold tellM; rw [if_neg (by decide)]] at htl
          have hcA : CS E (wI h (x + 3 + 8) q value) x := hc.fr (S := fun a _ => a = x + 11) (Fr.wI (by omega)) (fun a k hq2 z => by
            obtain ⟨t, ht2, rfl, rfl⟩ := hq2
            have key : ∀ t ∈ csF, ¬ t.1 = 11 := by decide +kernel
            have := key t ht2
            omega)
          have hc2 := hr2.1
          have e5 : hI h (x + 3 + 8) q = μ 2 (5 + q) := hv.2.1 q hq
          rw [← hk]
          refine r_aload_n (pc := 28) 0 dX11_terms_28 rfl ?_
          refine r_getR (pc := 29) fl_X11_15 (nl_is hc) (nl_f0 hc) dX11_terms_29 ?_
          refine r_getR (pc := 32) fl_X11_183 (pt_is (cs_pt3 hc)) (pt_f10 (cs_pt3 hc)) dX11_terms_32 ?_
          refine r_iload_n (pc := 35) 1 dX11_terms_35 rfl ?_
          refine r_iald (pc := 36) (j := q) (pt_r10 (cs_pt3 hc)) hk (by omega) (by decide) dX11_terms_36 ?_
          refine r_istore_n (pc := 37) (lv' := [(0, _), (1, _), (2, _), (3, _)]) dX11_terms_37 (Nat.le_of_ble_eq_true rfl) rfl ?_
          refine r_aload_n (pc := 38) 0 dX11_terms_38 rfl ?_
          refine r_getR (pc := 39) fl_X11_15 (nl_is hc) (nl_f0 hc) dX11_terms_39 ?_
          refine r_getR (pc := 42) fl_X11_183 (pt_is (cs_pt3 hc)) (pt_f10 (cs_pt3 hc)) dX11_terms_42 ?_
          refine r_iload_n (pc := 45) 1 dX11_terms_45 rfl ?_
          refine r_iload_n (pc := 46) 2 dX11_terms_46 rfl ?_
          refine r_iast (pc := 47) (j := q) (pt_r10 (cs_pt3 hc)) hk (by omega) (by decide) dX11_terms_47 ?_
          refine r_aload_n (pc := 48) 0 dX11_terms_48 rfl ?_
          refine r_getR (pc := 49) fl_X11_56 (nl_is hcA) (nl_f6 hcA) dX11_terms_49 ?_
          refine r_dV0 (pc := 52) (As := []) mv_X1_forgetPast ml_X11_113 (c1_forgetPast hcA) (ca_39 hcA) rfl rfl (Nat.le_of_ble_eq_true rfl) (Nat.le_of_ble_eq_true rfl) (Nat.le_of_ble_eq_true rfl) (Nat.le_of_ble_eq_true rfl) (Nat.le_of_ble_eq_true rfl) dX11_terms_52 ?_
          refine r_aload_n (pc := 55) 0 dX11_terms_55 rfl ?_
          refine r_iload_n (pc := 56) 3 dX11_terms_56 rfl ?_
          refine r_dV (pc := 57) (As := [_]) mv_X11_allowed ml_X11_120 (c11_allowed hc2 _) (nl_is hc2) rfl rfl (Nat.le_of_ble_eq_true rfl) (Nat.le_of_ble_eq_true rfl) (Nat.le_of_ble_eq_true rfl) (Nat.le_of_ble_eq_true rfl) (Nat.le_of_ble_eq_true rfl) dX11_terms_57 ?_
          refine r_iret (pc := 60) rfl ?_ (Nat.le_of_ble_eq_true rfl) (Nat.le_of_ble_eq_true rfl) dX11_terms_60
          exact ⟨by rw [e5], htl, (f.kp (fun a k z => by omega)).tr (kp_wI (by omega))⟩
        · exact no (fun z => c_19 (htb.mp z).2)
end OWN18
