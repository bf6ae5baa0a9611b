/-! the class: the year to look -/
section SIGHT2
variable {E : En} {h : Hp} {x p : Nat} {r : Nat → Int32}
/-- what looking writes -/
def siS (x a k : Nat) : Prop := akS x a k ∨ (x + 97 ≤ a ∧ a ≤ x + 100) ∨ (a = x + 96 ∧ (k = 5 ∨ k = 6))
theorem csP_si {a k : Nat} (hq : csP x a k) : ¬ siS x a k := by
  intro z
  rcases z with z | z
  · exact csP_ak hq z
  · obtain ⟨t, ht, rfl, rfl⟩ := hq
    have key : ∀ t ∈ csF, ¬ ((97 ≤ t.1 ∧ t.1 ≤ 100) ∨ (t.1 = 96 ∧ (t.2.1 = 5 ∨ t.2.1 = 6))) := by decide +kernel
    exact key t ht (by omega)
theorem CS.si {h1 : Hp} (hc : CS E h x) (a1 : Fr (siS x) h h1) : CS E h1 x := hc.fr a1 (fun _ _ => csP_si)
theorem PtV.si {h1 : Hp} (hv : PtV h p r) (hpx : pOf x p) (a1 : Fr (siS x) h h1) : PtV h1 p r := hv.fr a1 (fun i k hi => by unfold siS akS; unfold pOf at hpx; omega)
theorem FoL.si {h1 : Hp} {fo : Option (List Cl)} {lw : Option Nat} (hf : FoL E h x fo lw) (a1 : Fr (siS x) h h1) : FoL E h1 x fo lw := hf.far a1 (fun a k ha => by unfold siS akS; omega)
theorem LwA.si {h1 : Hp} {nl : Nat} {lw : Option Nat} (hl : LwA h p r nl lw) (hpx : pOf x p) (a1 : Fr (siS x) h h1) : LwA h1 p r nl lw := by
  refine ⟨fun z => ?_, hl.2⟩
  rw [a1.R (by unfold siS akS; unfold pOf at hpx; omega)]
  exact hl.1 z
theorem ak_si {a k : Nat} (hs : akS x a k) : siS x a k := Or.inl hs
theorem AskG.fr {S : Nat → Nat → Prop} {h1 : Hp} {k : Nat} {lw : Option Nat} {yr : Int32} (ha : AskG h x r k lw yr) (f : Fr S h h1) (q1 : ∀ j, ¬ S (x + 38) j) (q2 : ¬ S (x + 37) 2) (q3 : ¬ S (x + 37) 3) : AskG h1 x r k lw yr := by
  obtain ⟨b1, b2, hb⟩ := ha
  exact ⟨b1, b2, hb.fr f q1 q2 q3⟩
theorem c8_mostAlike (hc : CS E h x) {n ns : Nat} (hrw : RwOK r n ns) {lw : Option Nat} {fo : Option (List Cl)} (hfo : FoL E h x fo lw) {k yr : Nat} (ha : AskG h x r k lw (r 5 + nI yr)) (all : Int32) : Ct E 3 0 0 mX8_mostAlike [.ref (x + 96), .int all, .int (spentF r k)] h (fun v h' => v = some (.int (alN r fo k all yr 9).2) ∧ Fr (fun a j => akS x a j ∨ a = x + 98) h h' ∧ AskG h' x r k lw (r 5 + nI yr)) := by
  obtain ⟨d, hd10, ed⟩ := hrw.2.2.2.2.2.2.2.2.2.1
  have cs2 : ∀ {h1 : Hp}, Fr (fun a j => akS x a j ∨ a = x + 98) h h1 → CS E h1 x := fun f => hc.si (f.mono (fun a j z => z.elim ak_si (fun w => Or.inr (Or.inl (by omega)))))
  have fo2 : ∀ {h1 : Hp}, Fr (fun a j => akS x a j ∨ a = x + 98) h h1 → FoL E h1 x fo lw := fun f => hfo.si (f.mono (fun a j z => z.elim ak_si (fun w => Or.inr (Or.inl (by omega)))))
  refine Ct.of (by decide +kernel) (Nat.le_of_ble_eq_true rfl) ?_
  refine r_iconst (pc := 0) (0) dX8_mostAlike_0 rfl ?_
  refine r_istore_n (pc := 1) (lv' := [(0, _), (1, _), (2, _), (3, _)]) dX8_mostAlike_1 (Nat.le_of_ble_eq_true rfl) rfl ?_
  refine r_aload_n (pc := 2) 0 dX8_mostAlike_2 rfl ?_
  refine r_getR (pc := 3) fl_X8_19 (ca_96 hc) (cf_96_2 hc) dX8_mostAlike_3 ?_
  refine r_iconst (pc := 6) (0) dX8_mostAlike_6 rfl ?_
  refine r_dS0 (pc := 7) (As := [_, _]) ms_J7_fill_53178 ml_X8_83 (ct_fillI (cr_98 hc) (by decide) 0) rfl rfl (Nat.le_of_ble_eq_true rfl) (Nat.le_of_ble_eq_true rfl) (Nat.le_of_ble_eq_true rfl) (Nat.le_of_ble_eq_true rfl) (Nat.le_of_ble_eq_true rfl) dX8_mostAlike_7 ?_
  refine r_iconst (pc := 10) (0) dX8_mostAlike_10 rfl ?_
  refine r_istore (pc := 11) (lv' := [(0, _), (1, _), (2, _), (3, _), (4, _)]) dX8_mostAlike_11 (Nat.le_of_ble_eq_true rfl) rfl ?_
  have loop : ∀ l, l ≤ 9 → ∀ hh : Hp, Fr (fun a j => akS x a j ∨ a = x + 98) h hh → AskG hh x r k lw (r 5 + nI yr) → (∀ i, i < 10 → hI hh (x + 98) i = (alN r fo k all yr l).1 i) → Wp E mX8_mostAlike (Rm 3 0 0) (Qm E (fun v h' => v = some (.int (alN r fo k all yr 9).2) ∧ Fr (fun a j => akS x a j ∨ a = x + 98) h h' ∧ AskG h' x r k lw (r 5 + nI yr)) 0 0) 13 [(0, .ref (x + 96)), (1, .int all), (2, .int (spentF r k)), (3, .int (alN r fo k all yr l).2), (4, .int (nI l))] [] hh 0 0 := by
    refine upTo (fun l hl ih => ?_) ?_
    · intro hh fr ha hal
      have hch := cs2 fr
      refine r_iload (pc := 13) 4 dX8_mostAlike_13 rfl ?_
      refine r_bipush (pc := 15) (9) dX8_mostAlike_15 rfl ?_
      refine r_icmp_ge (pc := 17) (tgt := 80) dX8_mostAlike_17 (by decide) (fun c_17 => ?_) (fun c_17 => ?_)
      · exact absurd c_17 (nI_ge (b := 9) hl (by decide))
      · refine r_iload_n (pc := 20) 1 dX8_mostAlike_20 rfl ?_
        refine r_iload (pc := 21) 4 dX8_mostAlike_21 rfl ?_
        refine r_dN (pc := 23) (As := [_, _]) ms_X11_hasBit mk_X8_55 (ct_hasBit _ _) rfl rfl (Nat.le_of_ble_eq_true rfl) (Nat.le_of_ble_eq_true rfl) (Nat.le_of_ble_eq_true rfl) (Nat.le_of_ble_eq_true rfl) (Nat.le_of_ble_eq_true rfl) dX8_mostAlike_23 ?_
        refine r_if_eq (pc := 26) (tgt := 74) dX8_mostAlike_26 (by decide) (fun c_26 => ?_) (fun c_26 => ?_)
        · have e9 : alN r fo k all yr (l + 1) = alN r fo k all yr l := by rw [alN, if_neg (by rw [bI_0.mp c_26]; decide)]
          rw [e9] at ih
          refine r_iinc (pc := 74) (v := _ + (1)) (lv' := [(0, _), (1, _), (2, _), (3, _), (4, _)]) 4 dX8_mostAlike_74 rfl rfl (Nat.le_of_ble_eq_true rfl) rfl ?_
          refine r_goto (pc := 77) (tgt := 13) dX8_mostAlike_77 (by decide) ?_
          rw [nI_1]; exact ih hh fr ha hal
        · obtain ⟨q, hq9, eq9⟩ := showF_nI r fo k (nI l) (spentF r k) (nI yr)
          have e9 := alN_yes (bI_n0.mp c_26) hq9 eq9
          rw [e9] at ih
          obtain ⟨b1, b2, ha1⟩ := ha
          refine r_aload_n (pc := 29) 0 dX8_mostAlike_29 rfl ?_
          refine r_getR (pc := 30) fl_X8_9 (ca_96 hch) (cf_96_0 hch) dX8_mostAlike_30 ?_
          refine r_iload (pc := 33) 4 dX8_mostAlike_33 rfl ?_
          refine r_iload_n (pc := 35) 2 dX8_mostAlike_35 rfl ?_
          refine r_dV0 (pc := 36) (As := [_, _]) mv_X0_atLife ml_X8_59 (c0_atLife hch _ _) (ca_37 hch) rfl rfl (Nat.le_of_ble_eq_true rfl) (Nat.le_of_ble_eq_true rfl) (Nat.le_of_ble_eq_true rfl) (Nat.le_of_ble_eq_true rfl) (Nat.le_of_ble_eq_true rfl) dX8_mostAlike_36 ?_
          have ha3 := ((ha1.w 1 (nI l)).w 2 (spentF r k)).cg (wdF_life (l2 := nI l) (s2 := spentF r k))
          have g3 : Fr (fun a _ => a = x + 38) hh (wI (wI hh (x + 38) 1 (nI l)) (x + 38) 2 (spentF r k)) := Fr.tr (Fr.wI rfl) (Fr.wI rfl)
          generalize wI (wI hh (x + 38) 1 (nI l)) (x + 38) 2 (spentF r k) = h3 at ha3 g3 ⊢
          have fr3 := fr.tr (g3.mono (fun a j z => (Or.inl (by unfold akS; omega) : akS x a j ∨ a = x + 98)))
          have hc3 := cs2 fr3
          refine r_aload_n (pc := 39) 0 dX8_mostAlike_39 rfl ?_
          refine r_getR (pc := 40) fl_X8_9 (ca_96 hc3) (cf_96_0 hc3) dX8_mostAlike_40 ?_
          refine r_sipush (pc := 43) (265) dX8_mostAlike_43 rfl ?_
          refine r_callV (pc := 46) (As := [_]) mv_X0_tells ml_X8_63 (ask_at (hd := 2) (on := nI yr) hc3 ha3 rfl (fo2 fr3) hl hd10 ed (by decide)) (ca_37 hc3) rfl rfl (Nat.le_of_ble_eq_true rfl) (Nat.le_of_ble_eq_true rfl) (Nat.le_of_ble_eq_true rfl) (Nat.le_of_ble_eq_true rfl) (Nat.le_of_ble_eq_true rfl) dX8_mostAlike_46 (fun r h4 hp => ?_)
          obtain ⟨rfl, hr4⟩ := hp
          show Wp E mX8_mostAlike _ _ _ _ [.int _] _ 0 0
          rw [tell_show, eq9]
          have fr4 := fr3.tr (hr4.ak.mono (fun a j z => (Or.inl z : akS x a j ∨ a = x + 98)))
          have hc4 := cs2 fr4
          have hal4 : ∀ i, i < 10 → hI h4 (x + 98) i = (alN r fo k all yr l).1 i := fun i hi => by
            rw [hr4.fr.I (by unfold rkS; omega), g3.I (by omega)]; exact hal i hi
          have ha4 : AskG h4 x r k lw (r 5 + nI yr) := ⟨_, _, ha3.rk hr4⟩
          refine r_istore (pc := 49) (lv' := [(0, _), (1, _), (2, _), (3, _), (4, _), (5, _)]) dX8_mostAlike_49 (Nat.le_of_ble_eq_true rfl) rfl ?_
          refine r_aload_n (pc := 51) 0 dX8_mostAlike_51 rfl ?_
          refine r_getR (pc := 52) fl_X8_19 (ca_96 hc4) (cf_96_2 hc4) dX8_mostAlike_52 ?_
          refine r_iload (pc := 55) 5 dX8_mostAlike_55 rfl ?_
          refine r_dup2_11 (pc := 57) dX8_mostAlike_57 rfl rfl ?_
          refine r_iald (pc := 58) (j := q) (cr_98 hc4) rfl (by omega) (by decide) dX8_mostAlike_58 ?_
          rw [hal4 q (by omega)]
          refine r_iconst (pc := 59) (1) dX8_mostAlike_59 rfl ?_
          refine r_iadd (pc := 60) dX8_mostAlike_60 ?_
          refine r_iast (pc := 61) (j := q) (cr_98 hc4) rfl (by omega) (by decide) dX8_mostAlike_61 ?_
          refine r_iload_n (pc := 62) 3 dX8_mostAlike_62 rfl ?_
          refine r_aload_n (pc := 63) 0 dX8_mostAlike_63 rfl ?_
          refine r_getR (pc := 64) fl_X8_19 (ca_96 hc4) (cf_96_2 hc4) dX8_mostAlike_64 ?_
          refine r_iload (pc := 67) 5 dX8_mostAlike_67 rfl ?_
          refine r_iald (pc := 69) (j := q) (cr_98 hc4) rfl (by omega) (by decide) dX8_mostAlike_69 ?_
          rw [hI_at]
          refine r_maxI (pc := 70) ml_X8_89 (Nat.le_of_ble_eq_true rfl) (Nat.le_of_ble_eq_true rfl) (Nat.le_of_ble_eq_true rfl) (Nat.le_of_ble_eq_true rfl) (Nat.le_of_ble_eq_true rfl) dX8_mostAlike_70 ?_
          refine r_istore_n (pc := 73) (lv' := [(0, _), (1, _), (2, _), (3, _), (4, _), (5, _)]) dX8_mostAlike_73 (Nat.le_of_ble_eq_true rfl) rfl ?_
          refine r_iinc (pc := 74) (v := _ + (1)) (lv' := [(0, _), (1, _), (2, _), (3, _), (4, _), (5, _)]) 4 dX8_mostAlike_74 rfl rfl (Nat.le_of_ble_eq_true rfl) rfl ?_
          refine r_goto (pc := 77) (tgt := 13) dX8_mostAlike_77 (by decide) ?_
          refine r_sub [0, 1, 2, 3, 4] rfl ?_
          rw [nI_1]
          have f45 : Fr (fun a _ => a = x + 98) h4 (wI h4 (x + 98) q ((alN r fo k all yr l).1 q + 1)) := Fr.wI rfl
          refine ih _ (fr4.tr (f45.mono (fun a j z => (Or.inr z : akS x a j ∨ a = x + 98)))) (ha4.fr f45 (fun j => by omega) (by omega) (by omega)) (fun i hi => ?_)
          show _ = va_up (alN r fo k all yr l).1 q ((alN r fo k all yr l).1 q + 1) i
          by_cases hiq : i = q
          · rw [hiq, hI_at, va_up_self]
          · rw [hI_ne (by omega), va_up_ne _ _ hiq]; exact hal4 i hi
    · intro hh fr ha hal
      refine r_iload (pc := 13) 4 dX8_mostAlike_13 rfl ?_
      refine r_bipush (pc := 15) (9) dX8_mostAlike_15 rfl ?_
      refine r_icmp_ge (pc := 17) (tgt := 80) dX8_mostAlike_17 (by decide) (fun c_17 => ?_) (fun c_17 => ?_)
      · refine r_iload_n (pc := 80) 3 dX8_mostAlike_80 rfl ?_
        refine r_iret (pc := 81) rfl ?_ (Nat.le_of_ble_eq_true rfl) (Nat.le_of_ble_eq_true rfl) dX8_mostAlike_81
        exact ⟨rfl, fr, ha⟩
      · exact absurd (show (9 : Int32) ≤ nI 9 by decide) c_17
  have f0 : Fr (fun a _ => a = x + 98) h (wRow h (x + 98) (flF 0 (hI h (x + 98)) 10)) := Fr.wRow (fun _ => rfl)
  refine loop 0 (by omega) _ (f0.mono (fun a j z => (Or.inr z : akS x a j ∨ a = x + 98))) (ha.fr f0 (fun j => by omega) (by omega) (by omega)) (fun i hi => ?_)
  rw [wRow_at, alN]
  show flF 0 _ 10 i = 0
  unfold flF
  rw [if_pos hi]
/-- how many alike: as numbers -/
theorem alN_rng {fo : Option (List Cl)} {k yr A : Nat} (hA : A < 512) : ∀ l, l ≤ 9 → ∃ (m : Nat) (f : Nat → Nat), m ≤ l ∧ (alN r fo k (nI A) yr l).2 = nI m ∧ (∀ i, f i ≤ l ∧ (alN r fo k (nI A) yr l).1 i = nI (f i)) ∧ ((∃ i, i < l ∧ A.testBit i = true) → 1 ≤ m)
  | 0, _ => ⟨0, fun _ => 0, Nat.le_refl _, rfl, fun _ => ⟨Nat.le_refl _, rfl⟩, fun ⟨i, hi, _⟩ => by omega⟩
  | l + 1, hl => by
    obtain ⟨m, f, h1, h2, h3, h4⟩ := alN_rng (fo := fo) (k := k) (yr := yr) hA l (by omega)
    by_cases hb : isB (nI A) (nI l) = true
    · obtain ⟨q, hq9, eq9⟩ := showF_nI r fo k (nI l) (spentF r k) (nI yr)
      rw [alN_yes hb hq9 eq9]
      have hfq := h3 q
      refine ⟨if m < f q + 1 then f q + 1 else m, fun i => if i = q then f q + 1 else f i, ?_, ?_, fun i => ?_, fun _ => ?_⟩
      · split <;> omega
      · show (if (alN r fo k (nI A) yr l).2 < (alN r fo k (nI A) yr l).1 q + 1 then (alN r fo k (nI A) yr l).1 q + 1 else (alN r fo k (nI A) yr l).2) = _
        rw [h2, hfq.2, nI_1]
        by_cases hlt : m < f q + 1
        · rw [if_pos hlt, if_pos (nI_lt hlt (by omega))]
        · rw [if_neg hlt, if_neg (nI_nlt (by omega) (by omega))]
      · show (if i = q then f q + 1 else f i) ≤ l + 1 ∧ va_up (alN r fo k (nI A) yr l).1 q ((alN r fo k (nI A) yr l).1 q + 1) i = nI (if i = q then f q + 1 else f i)
        by_cases hiq : i = q
        · rw [if_pos hiq, hiq, va_up_self, hfq.2, nI_1]; exact ⟨by omega, rfl⟩
        · rw [if_neg hiq, va_up_ne _ _ hiq]; exact ⟨by have := (h3 i).1; omega, (h3 i).2⟩
      · split <;> omega
    · have e9 : alN r fo k (nI A) yr (l + 1) = alN r fo k (nI A) yr l := by rw [alN, if_neg hb]
      rw [e9]
      refine ⟨m, f, by omega, h2, fun i => ⟨by have := (h3 i).1; omega, (h3 i).2⟩, fun ⟨i, hi, hbi⟩ => h4 ⟨i, ?_, hbi⟩⟩
      rcases Nat.lt_or_ge i l with z | z
      · exact z
      · rw [show i = l by omega, ← isB9 A hA l (by omega)] at hbi; exact absurd hbi hb
theorem set_ne {A : Nat} (hA : A < 512) (h0 : ¬ A = 0) : ∃ i, i < 9 ∧ A.testBit i = true := by
  apply Classical.byContradiction
  intro z
  apply h0
  apply set_ext hA (by decide)
  intro i hi
  rw [Nat.zero_testBit]
  cases hc : A.testBit i with
  | false => rfl
  | true => exact absurd ⟨i, hi, hc⟩ z
theorem lkY_0 {fo : Option (List Cl)} {k : Nat} : ∀ y, lkY r fo k 0 y = (-1, 100000000)
  | 0 => rfl
  | y + 1 => by
    have h0 : ∀ l, l ≤ 9 → (alN r fo k 0 y l).2 = 0 := by
      intro l
      induction l with
      | zero => intro _; rfl
      | succ l ih => intro hl; rw [alN, if_neg (by rw [bit_n0 l (by omega)]; decide)]; exact ih (by omega)
    rw [lkY, h0 9 (Nat.le_refl _), if_neg (fun z => absurd z.1 (by decide)), lkY_0 y]
/-- from the first year on what is left is known -/
def lkC (r : Nat → Int32) (fo : Option (List Cl)) (k : Nat) (all : Int32) (y : Nat) : Int32 × Int32 := if y = 0 then (0, 10) else lkY r fo k all y
theorem lkC_10 {fo : Option (List Cl)} {k : Nat} {all : Int32} : lkC r fo k all 10 = lkY r fo k all 10 := by unfold lkC; rw [if_neg (by decide)]
theorem lkC_00 {fo : Option (List Cl)} {k : Nat} {all : Int32} : lkC r fo k all 0 = (0, 10) := by unfold lkC; rw [if_pos rfl]
theorem lkC_s {fo : Option (List Cl)} {k A y : Nat} (hA : A < 512) (h0 : ¬ A = 0) : lkC r fo k (nI A) (y + 1) = if (alN r fo k (nI A) y 9).2 < (lkC r fo k (nI A) y).2 then (nI y, (alN r fo k (nI A) y 9).2) else lkC r fo k (nI A) y := by
  obtain ⟨m, f, h1, h2, -, h4⟩ := alN_rng (r := r) (fo := fo) (k := k) (yr := y) hA 9 (Nat.le_refl _)
  have hm := h4 (set_ne hA h0)
  unfold lkC
  rw [if_neg (by omega), lkY, h2]
  have hp : 0 < nI m := nI_lt (a := 0) hm (by omega)
  by_cases hy : y = 0
  · subst hy
    rw [if_pos rfl, if_pos ⟨hp, show nI m < 100000000 from nI_lt (b := 100000000) (by omega) (by decide)⟩, if_pos (show nI m < 10 from nI_lt (b := 10) (by omega) (by decide))]
  · rw [if_neg hy]
    by_cases hlt : nI m < (lkY r fo k (nI A) y).2
    · rw [if_pos hlt, if_pos ⟨hp, hlt⟩]
    · rw [if_neg hlt, if_neg (fun z => hlt z.2)]
theorem lkC_ne {fo : Option (List Cl)} {k A : Nat} (hA : A < 512) (h0 : ¬ A = 0) : ∀ y, ∃ q, q < y + 1 ∧ (lkC r fo k (nI A) y).1 = nI q
  | 0 => ⟨0, by omega, rfl⟩
  | y + 1 => by
    obtain ⟨q, hq, e⟩ := lkC_ne (fo := fo) (k := k) hA h0 y
    rw [lkC_s hA h0]
    split
    · exact ⟨y, by omega, rfl⟩
    · exact ⟨q, by omega, e⟩
theorem c8_hasFoundYear (hc : CS E h x) (hpx : pOf x p) (hv : PtV h p r) {n ns nl sg : Nat} (hrw : RwOK r n ns) (h3 : r 3 = nI nl) (hl6 : nl ≤ 6) {lw : Option Nat} {fo : Option (List Cl)} (hlw : LwA h p r nl lw) (hfo : FoL E h x fo lw) {k : Nat} (hk : k < 6) (hsg : r 2 = nI sg) (h8 : sg ≤ 8) : Ct E 5 0 0 mX8_hasFoundYear [.ref (x + 96), .ref p, .int (nI k)] h (fun v h' => v = some (.int (bI (decide (¬ canN r fo k sg 9 = 0)))) ∧ Fr (siS x) h h' ∧ (¬ canN r fo k sg 9 = 0 → hI h' (x + 96) 5 = (lkY r fo k (canN r fo k sg 9) 10).1 ∧ hI h' (x + 96) 6 = (lkY r fo k (canN r fo k sg 9) 10).2)) := by
  obtain ⟨y, hy, ey⟩ := rw_y hrw hk
  obtain ⟨A, hA, eA, -⟩ := canN_set (r := r) (fo := fo) (k := k) (sg := sg) 9 (Nat.le_refl _)
  refine Ct.of (by decide +kernel) (Nat.le_of_ble_eq_true rfl) ?_
  refine r_aload_n (pc := 0) 0 dX8_hasFoundYear_0 rfl ?_
  refine r_aload_n (pc := 1) 1 dX8_hasFoundYear_1 rfl ?_
  refine r_iload_n (pc := 2) 2 dX8_hasFoundYear_2 rfl ?_
  refine r_callV (pc := 3) (As := [_, _]) mv_X8_livesItCanBe ml_X8_69 (c8_livesItCanBe hc hpx hv hrw h3 hl6 hlw hfo hk hsg h8) (ca_96 hc) rfl rfl (Nat.le_of_ble_eq_true rfl) (Nat.le_of_ble_eq_true rfl) (Nat.le_of_ble_eq_true rfl) (Nat.le_of_ble_eq_true rfl) (Nat.le_of_ble_eq_true rfl) dX8_hasFoundYear_3 (fun r h2 hp => ?_)
  obtain ⟨rfl, f2, yr0, ha2⟩ := hp
  show Wp E mX8_hasFoundYear _ _ _ _ [.int _] _ 0 0
  rw [eA]
  have fr2 : Fr (siS x) h h2 := f2.mono (fun _ _ => ak_si)
  have hc2 := hc.si fr2
  have hp2 := pt_of hc2 hpx
  have hv2 := hv.si hpx fr2
  refine r_istore_n (pc := 6) (lv' := [(0, _), (1, _), (2, _), (3, _)]) dX8_hasFoundYear_6 (Nat.le_of_ble_eq_true rfl) rfl ?_
  refine r_aload_n (pc := 7) 1 dX8_hasFoundYear_7 rfl ?_
  refine r_iload_n (pc := 8) 2 dX8_hasFoundYear_8 rfl ?_
  refine r_dV (pc := 9) (As := [_]) mv_X5_spentBy ml_X8_28 (c5_spentBy hp2 hv2 hk hy ey) (pt_is hp2) rfl rfl (Nat.le_of_ble_eq_true rfl) (Nat.le_of_ble_eq_true rfl) (Nat.le_of_ble_eq_true rfl) (Nat.le_of_ble_eq_true rfl) (Nat.le_of_ble_eq_true rfl) dX8_hasFoundYear_9 ?_
  refine r_istore (pc := 12) (lv' := [(0, _), (1, _), (2, _), (3, _), (4, _)]) dX8_hasFoundYear_12 (Nat.le_of_ble_eq_true rfl) rfl ?_
  refine r_aload_n (pc := 14) 0 dX8_hasFoundYear_14 rfl ?_
  refine r_iconst (pc := 15) (0) dX8_hasFoundYear_15 rfl ?_
  refine r_putI (pc := 16) fp_X8_73 (ca_96 hc2) dX8_hasFoundYear_16 ?_
  refine r_aload_n (pc := 19) 0 dX8_hasFoundYear_19 rfl ?_
  refine r_bipush (pc := 20) (10) dX8_hasFoundYear_20 rfl ?_
  refine r_putI (pc := 22) fp_X8_76 (ca_96 hc2) dX8_hasFoundYear_22 ?_
  refine r_iconst (pc := 25) (0) dX8_hasFoundYear_25 rfl ?_
  refine r_istore (pc := 26) (lv' := [(0, _), (1, _), (2, _), (3, _), (4, _), (5, _)]) dX8_hasFoundYear_26 (Nat.le_of_ble_eq_true rfl) rfl ?_
  have loop : ∀ y, y ≤ 10 → ∀ (hh : Hp) (yr : Int32), Fr (siS x) h hh → AskG hh x r k lw yr → (¬ A = 0 → hI hh (x + 96) 5 = (lkC r fo k (nI A) y).1 ∧ hI hh (x + 96) 6 = (lkC r fo k (nI A) y).2) → Wp E mX8_hasFoundYear (Rm 5 0 0) (Qm E (fun v h' => v = some (.int (bI (decide (¬ nI A = 0)))) ∧ Fr (siS x) h h' ∧ (¬ nI A = 0 → hI h' (x + 96) 5 = (lkY r fo k (nI A) 10).1 ∧ hI h' (x + 96) 6 = (lkY r fo k (nI A) 10).2)) 0 0) 28 [(0, .ref (x + 96)), (1, .ref p), (2, .int (nI k)), (3, .int (nI A)), (4, .int (spentF r k)), (5, .int (nI y))] [] hh 0 0 := by
    refine upTo (fun y hy ih => ?_) ?_
    · intro hh yr fr ha hlk
      have hch := hc.si fr
      have hph := pt_of hch hpx
      have hvh := hv.si hpx fr
      refine r_iload (pc := 28) 5 dX8_hasFoundYear_28 rfl ?_
      refine r_bipush (pc := 30) (10) dX8_hasFoundYear_30 rfl ?_
      refine r_icmp_ge (pc := 32) (tgt := 87) dX8_hasFoundYear_32 (by decide) (fun c_32 => ?_) (fun c_32 => ?_)
      · exact absurd c_32 (nI_ge (b := 10) hy (by decide))
      · refine r_aload_n (pc := 35) 0 dX8_hasFoundYear_35 rfl ?_
        refine r_getR (pc := 36) fl_X8_9 (ca_96 hch) (cf_96_0 hch) dX8_hasFoundYear_36 ?_
        refine r_aload_n (pc := 39) 1 dX8_hasFoundYear_39 rfl ?_
        refine r_getR (pc := 40) fl_X8_48 (pt_is hph) (pt_f10 hph) dX8_hasFoundYear_40 ?_
        refine r_iconst (pc := 43) (0) dX8_hasFoundYear_43 rfl ?_
        refine r_iald (pc := 44) (j := 0) (pt_r10 hph) rfl (by decide) (by decide) dX8_hasFoundYear_44 ?_
        rw [pv_te hvh (show 0 < 3 by decide)]
        refine r_iload (pc := 45) 5 dX8_hasFoundYear_45 rfl ?_
        refine r_iadd (pc := 47) dX8_hasFoundYear_47 ?_
        refine r_dV0 (pc := 48) (As := [_]) mv_X0_inYear ml_X8_51 (c0_inYear hch _) (ca_37 hch) rfl rfl (Nat.le_of_ble_eq_true rfl) (Nat.le_of_ble_eq_true rfl) (Nat.le_of_ble_eq_true rfl) (Nat.le_of_ble_eq_true rfl) (Nat.le_of_ble_eq_true rfl) dX8_hasFoundYear_48 ?_
        have ha3 := ha.year (r 5 + nI y)
        have g3 : Fr (fun a _ => a = x + 38) hh (wI hh (x + 38) 6 (r 5 + nI y)) := Fr.wI rfl
        rw [show (5 + 0 : Nat) = 5 from rfl]
        generalize wI hh (x + 38) 6 (r 5 + nI y) = h3 at ha3 g3 ⊢
        have fr3 := fr.tr (g3.mono (fun a j z => (Or.inl (by unfold akS; omega) : siS x a j)))
        have hc3 := hc.si fr3
        refine r_aload_n (pc := 51) 0 dX8_hasFoundYear_51 rfl ?_
        refine r_iload_n (pc := 52) 3 dX8_hasFoundYear_52 rfl ?_
        refine r_iload (pc := 53) 4 dX8_hasFoundYear_53 rfl ?_
        refine r_callV (pc := 55) (As := [_, _]) mv_X8_mostAlike ml_X8_79 (c8_mostAlike hc3 hrw (hfo.si fr3) ha3 (nI A)) (ca_96 hc3) rfl rfl (Nat.le_of_ble_eq_true rfl) (Nat.le_of_ble_eq_true rfl) (Nat.le_of_ble_eq_true rfl) (Nat.le_of_ble_eq_true rfl) (Nat.le_of_ble_eq_true rfl) dX8_hasFoundYear_55 (fun r h4 hp => ?_)
        obtain ⟨rfl, f4, ha4⟩ := hp
        show Wp E mX8_hasFoundYear _ _ _ _ [.int _] _ 0 0
        have fr4 : Fr (siS x) h h4 := fr3.tr (f4.mono (fun a j z => z.elim ak_si (fun w => Or.inr (Or.inl (by omega)))))
        have hc4 := hc.si fr4
        have hlk4 : ¬ A = 0 → hI h4 (x + 96) 5 = (lkC r fo k (nI A) y).1 ∧ hI h4 (x + 96) 6 = (lkC r fo k (nI A) y).2 := fun hz => by
          rw [f4.I (by unfold akS; omega), f4.I (by unfold akS; omega), g3.I (by omega), g3.I (by omega)]; exact hlk hz
        refine r_istore (pc := 58) (lv' := [(0, _), (1, _), (2, _), (3, _), (4, _), (5, _), (6, _)]) dX8_hasFoundYear_58 (Nat.le_of_ble_eq_true rfl) rfl ?_
        refine r_iload (pc := 60) 6 dX8_hasFoundYear_60 rfl ?_
        refine r_aload_n (pc := 62) 0 dX8_hasFoundYear_62 rfl ?_
        refine r_getI (pc := 63) fl_X8_76 (ca_96 hc4) dX8_hasFoundYear_63 ?_
        refine r_icmp_ge (pc := 66) (tgt := 81) dX8_hasFoundYear_66 (by decide) (fun c_66 => ?_) (fun c_66 => ?_)
        · refine r_iinc (pc := 81) (v := _ + (1)) (lv' := [(0, _), (1, _), (2, _), (3, _), (4, _), (5, _), (6, _)]) 5 dX8_hasFoundYear_81 rfl rfl (Nat.le_of_ble_eq_true rfl) rfl ?_
          refine r_goto (pc := 84) (tgt := 28) dX8_hasFoundYear_84 (by decide) ?_
          refine r_sub [0, 1, 2, 3, 4, 5] rfl ?_
          rw [nI_1]
          refine ih h4 _ fr4 ha4 (fun hz => ?_)
          rw [(hlk4 hz).2] at c_66
          rw [lkC_s hA hz, if_neg (fun z => absurd (Int32.lt_of_lt_of_le z c_66) Int32.lt_irrefl)]
          exact hlk4 hz
        · refine r_aload_n (pc := 69) 0 dX8_hasFoundYear_69 rfl ?_
          refine r_iload (pc := 70) 6 dX8_hasFoundYear_70 rfl ?_
          refine r_putI (pc := 72) fp_X8_76 (ca_96 hc4) dX8_hasFoundYear_72 ?_
          refine r_aload_n (pc := 75) 0 dX8_hasFoundYear_75 rfl ?_
          refine r_iload (pc := 76) 5 dX8_hasFoundYear_76 rfl ?_
          refine r_putI (pc := 78) fp_X8_73 (ca_96 hc4) dX8_hasFoundYear_78 ?_
          refine r_iinc (pc := 81) (v := _ + (1)) (lv' := [(0, _), (1, _), (2, _), (3, _), (4, _), (5, _), (6, _)]) 5 dX8_hasFoundYear_81 rfl rfl (Nat.le_of_ble_eq_true rfl) rfl ?_
          refine r_goto (pc := 84) (tgt := 28) dX8_hasFoundYear_84 (by decide) ?_
          refine r_sub [0, 1, 2, 3, 4, 5] rfl ?_
          rw [nI_1]
          have g5 : Fr (fun a j => a = x + 96 ∧ (j = 5 ∨ j = 6)) h4 (wI (wI h4 (x + 96) 6 (alN r fo k (nI A) y 9).2) (x + 96) 5 (nI y)) := Fr.tr (Fr.wI ⟨rfl, Or.inr rfl⟩) (Fr.wI ⟨rfl, Or.inl rfl⟩)
          refine ih _ _ (fr4.tr (g5.mono (fun a j z => (Or.inr (Or.inr z) : siS x a j)))) (ha4.fr g5 (fun j => by omega) (by omega) (by omega)) (fun hz => ?_)
          rw [(hlk4 hz).2] at c_66
          rw [lkC_s hA hz, if_pos (Int32.not_le.mp c_66)]
          exact ⟨hI_at, by rw [hI_ne (by omega), hI_at]⟩
    · intro hh yr fr ha hlk
      have fin : ¬ nI A = 0 → hI hh (x + 96) 5 = (lkY r fo k (nI A) 10).1 ∧ hI hh (x + 96) 6 = (lkY r fo k (nI A) 10).2 := fun hz => by rw [← lkC_10]; exact hlk (fun z => hz (by rw [z]; rfl))
      refine r_iload (pc := 28) 5 dX8_hasFoundYear_28 rfl ?_
      refine r_bipush (pc := 30) (10) dX8_hasFoundYear_30 rfl ?_
      refine r_icmp_ge (pc := 32) (tgt := 87) dX8_hasFoundYear_32 (by decide) (fun c_32 => ?_) (fun c_32 => ?_)
      · refine r_iload_n (pc := 87) 3 dX8_hasFoundYear_87 rfl ?_
        refine r_if_eq (pc := 88) (tgt := 95) dX8_hasFoundYear_88 (by decide) (fun c_88 => ?_) (fun c_88 => ?_)
        · refine r_iconst (pc := 95) (0) dX8_hasFoundYear_95 rfl ?_
          refine r_zret (pc := 96) rfl (by decide) ?_ (Nat.le_of_ble_eq_true rfl) (Nat.le_of_ble_eq_true rfl) dX8_hasFoundYear_96
          exact ⟨pz0 (fun z => z c_88), fr, fin⟩
        · refine r_iconst (pc := 91) (1) dX8_hasFoundYear_91 rfl ?_
          refine r_goto (pc := 92) (tgt := 96) dX8_hasFoundYear_92 (by decide) ?_
          refine r_zret (pc := 96) rfl (by decide) ?_ (Nat.le_of_ble_eq_true rfl) (Nat.le_of_ble_eq_true rfl) dX8_hasFoundYear_96
          exact ⟨pz1 c_88, fr, fin⟩
      · exact absurd (show (10 : Int32) ≤ nI 10 by decide) c_32
  have g5 : Fr (fun a j => a = x + 96 ∧ (j = 5 ∨ j = 6)) h2 (wI (wI h2 (x + 96) 5 0) (x + 96) 6 10) := Fr.tr (Fr.wI ⟨rfl, Or.inl rfl⟩) (Fr.wI ⟨rfl, Or.inr rfl⟩)
  refine loop 0 (by omega) _ yr0 (fr2.tr (g5.mono (fun a j z => (Or.inr (Or.inr z) : siS x a j)))) (ha2.fr g5 (fun j => by omega) (by omega) (by omega)) (fun _ => ⟨?_, ?_⟩)
  · rw [hI_ne (by omega), hI_at, lkC_00]
  · rw [hI_at, lkC_00]
end SIGHT2
