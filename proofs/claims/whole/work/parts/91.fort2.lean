/-! the class: what is earned and dared at the lives to come -/
section FORT2
variable {E : En} {h : Hp} {x p : Nat} {r : Nat → Int32}
theorem tell_earn {fo : Option (List Cl)} {k : Nat} {life spent ship year dr : Int32} : tellF fo 0 (setE r k life spent (r (32 + k)) 0) (wdF r k life spent ship year) dr = earnF r fo k life spent := rfl
theorem tell_dare {fo : Option (List Cl)} {k : Nat} {life spent ship year : Int32} : tellF fo 1 (setE r k life spent (r (32 + k)) 0) (wdF r k life spent ship year) (r 6) = dareF r fo k life spent := rfl
theorem tell_show {fo : Option (List Cl)} {k : Nat} {life spent ship year dr on : Int32} : tellF fo 2 (setE r k life spent (r (32 + k)) on) (wdF r k life spent ship year) dr = showF r fo k life spent on := rfl
/-- asked of a life -/
theorem ask_at (hc : CS E h x) {k li d hd : Nat} {sp on yr : Int32} {lw : Option Nat} {fo : Option (List Cl)} (ha : Ask h x (wdF r k (nI li) sp (r (32 + k)) yr) (r 6) lw) (hyr : yr = r 5 + on) (hfo : FoL E h x fo lw) (hli : li < 9) (hd10 : d ≤ 10) (ed : r 6 = nI d) (h3 : hd < 3) : Ct E 2 0 0 mX0_tells [.ref (x + 37), .int (nI (263 + hd))] h (fun v h' => v = some (.int (tellF fo hd (setE r k (nI li) sp (r (32 + k)) on) (wdF r k (nI li) sp (r (32 + k)) yr) (r 6))) ∧ RkE h x h') := c0_tells hc ha hfo h3 (li := li) rfl (by omega) ed hd10 (by subst hyr; exact setE_wd) setE_b
theorem Ask.fr {S : Nat → Nat → Prop} {h1 : Hp} {w : Nat → Int32} {dr : Int32} {lw : Option Nat} (ha : Ask h x w dr lw) (f : Fr S h h1) (q1 : ∀ j, ¬ S (x + 38) j) (q2 : ¬ S (x + 37) 2) (q3 : ¬ S (x + 37) 3) : Ask h1 x w dr lw := ⟨fun j hj => (f.I (q1 j)).trans (ha.1 j hj), (f.I q2).trans ha.2.1, (f.R q3).trans ha.2.2⟩
/-- what reckoning on paper writes -/
def foS (x a k : Nat) : Prop := akS x a k ∨ (x + 91 ≤ a ∧ a ≤ x + 95) ∨ (a = x + 90 ∧ k = 6)
theorem csP_fo {a k : Nat} (hq : csP x a k) : ¬ foS x a k := by
  intro z
  rcases z with z | z
  · exact csP_ak hq z
  · obtain ⟨t, ht, rfl, rfl⟩ := hq
    have key : ∀ t ∈ csF, ¬ ((91 ≤ t.1 ∧ t.1 ≤ 95) ∨ (t.1 = 90 ∧ t.2.1 = 6)) := by decide +kernel
    exact key t ht (by omega)
theorem CS.fo {h1 : Hp} (hc : CS E h x) (a1 : Fr (foS x) h h1) : CS E h1 x := hc.fr a1 (fun _ _ => csP_fo)
theorem PtV.fo {h1 : Hp} (hv : PtV h p r) (hpx : pOf x p) (a1 : Fr (foS x) h h1) : PtV h1 p r := hv.fr a1 (fun i k hi => by unfold foS akS; unfold pOf at hpx; omega)
theorem FoL.fo {h1 : Hp} {fo : Option (List Cl)} {lw : Option Nat} (hf : FoL E h x fo lw) (a1 : Fr (foS x) h h1) : FoL E h1 x fo lw := hf.far a1 (fun a k ha => by unfold foS akS; omega)
theorem LwA.fo {h1 : Hp} {nl : Nat} {lw : Option Nat} (hl : LwA h p r nl lw) (hpx : pOf x p) (a1 : Fr (foS x) h h1) : LwA h1 p r nl lw := by
  refine ⟨fun z => ?_, hl.2⟩
  rw [a1.R (by unfold foS akS; unfold pOf at hpx; omega)]
  exact hl.1 z
theorem ak_fo {a k : Nat} (hs : akS x a k) : foS x a k := Or.inl hs
theorem spent_eq {k li y : Nat} (eli : r (8 + k) = nI li) (hli : li < 9) (ey : r (14 + k) = nI y) (hy : y < 511) : spentF r k = nI (8 - pcN y 9) := by
  have hal : aliveF r k = true := by unfold aliveF; rw [decide_eq_true]; rw [eli]; exact fun z => m1_nI (by omega) z.symm
  have h8 := pc_le8 y hy
  unfold spentF
  rw [ey, onesN_pc (by omega) 9 (Nat.le_refl _), hal]
  show (9 : Int32) - nI (pcN y 9) - 1 = _
  rw [show (9 : Int32) = nI 9 from rfl, show (1 : Int32) = nI 1 from rfl, nI_sub (by omega), nI_sub (by omega), show 9 - pcN y 9 - 1 = 8 - pcN y 9 by omega]
/-- the lives and spents that can come to pass -/
def fillP (li y l s : Nat) : Prop := (l = li ∧ s = 8 - pcN y 9) ∨ (y.testBit l = true ∧ 8 - pcN y 9 < s)
def filD (r : Nat → Int32) (fo : Option (List Cl)) (k li y l s : Nat) (hh : Hp) (x : Nat) : Prop := ∀ l' s', l' < 9 → s' < 9 → (l' < l ∨ (l' = l ∧ s' < s)) → fillP li y l' s' → hI hh (x + 92) (9 * l' + s') = earnF r fo k (nI l') (nI s') ∧ hI hh (x + 93) (9 * l' + s') = dareF r fo k (nI l') (nI s')
theorem filD.fr {S : Nat → Nat → Prop} {h1 : Hp} {fo : Option (List Cl)} {k li y l s : Nat} (hd : filD r fo k li y l s h x) (f : Fr S h h1) (q1 : ∀ j, ¬ S (x + 92) j) (q2 : ∀ j, ¬ S (x + 93) j) : filD r fo k li y l s h1 x := fun l' s' a1 a2 a3 a4 => ⟨(f.I (q1 _)).trans (hd l' s' a1 a2 a3 a4).1, (f.I (q2 _)).trans (hd l' s' a1 a2 a3 a4).2⟩
theorem c2_askOfLives (hc : CS E h x) (hpx : pOf x p) (hv : PtV h p r) {n ns nl : Nat} (hrw : RwOK r n ns) (h3 : r 3 = nI nl) (hl6 : nl ≤ 6) {lw : Option Nat} {fo : Option (List Cl)} (hlw : LwA h p r nl lw) (hfo : FoL E h x fo lw) {k li y : Nat} (hk : k < 6) (eli : r (8 + k) = nI li) (hli : li < 9) (ey : r (14 + k) = nI y) (hy : y < 511) : Ct E 3 0 0 mX2_askOfLives [.ref (x + 90), .ref p, .int (nI k)] h (fun v h' => v = none ∧ Fr (foS x) h h' ∧ filD r fo k li y 9 0 h' x) := by
  have hp := pt_of hc hpx
  have h8 := pc_le8 y hy
  obtain ⟨d, hd10, ed⟩ := hrw.2.2.2.2.2.2.2.2.2.1
  have hsp := spent_eq eli hli ey hy
  generalize hs0 : 8 - pcN y 9 = s0 at hsp
  have hs9 : s0 < 9 := by omega
  refine Ct.of (by decide +kernel) (Nat.le_of_ble_eq_true rfl) ?_
  refine r_aload_n (pc := 0) 1 dX2_askOfLives_0 rfl ?_
  refine r_iload_n (pc := 1) 2 dX2_askOfLives_1 rfl ?_
  refine r_dV (pc := 2) (As := [_]) mv_X5_spentBy ml_X2_64 (c5_spentBy hp hv hk (by omega) ey) (pt_is hp) rfl rfl (Nat.le_of_ble_eq_true rfl) (Nat.le_of_ble_eq_true rfl) (Nat.le_of_ble_eq_true rfl) (Nat.le_of_ble_eq_true rfl) (Nat.le_of_ble_eq_true rfl) dX2_askOfLives_2 ?_
  rw [hsp]
  refine r_istore_n (pc := 5) (lv' := [(0, _), (1, _), (2, _), (3, _)]) dX2_askOfLives_5 (Nat.le_of_ble_eq_true rfl) rfl ?_
  refine r_aload_n (pc := 6) 0 dX2_askOfLives_6 rfl ?_
  refine r_getR (pc := 7) fl_X2_9 (ca_90 hc) (cf_90_0 hc) dX2_askOfLives_7 ?_
  refine r_aload_n (pc := 10) 1 dX2_askOfLives_10 rfl ?_
  refine r_iload_n (pc := 11) 2 dX2_askOfLives_11 rfl ?_
  refine r_callV (pc := 12) (As := [_, _]) mv_X0_about ml_X2_68 (c0_about hc hpx hv hk (by omega) ey h3 hl6 hlw) (ca_37 hc) rfl rfl (Nat.le_of_ble_eq_true rfl) (Nat.le_of_ble_eq_true rfl) (Nat.le_of_ble_eq_true rfl) (Nat.le_of_ble_eq_true rfl) (Nat.le_of_ble_eq_true rfl) dX2_askOfLives_12 (fun r h2 hp => ?_)
  obtain ⟨rfl, f2, ha2⟩ := hp
  show Wp E mX2_askOfLives _ _ _ _ [] _ 0 0
  rw [eli, hsp] at ha2
  have inner : ∀ l, l < 9 → (∀ (hh : Hp) (b1 b2 : Int32), Fr (foS x) h hh → Ask hh x (wdF r k b1 b2 (r (32 + k)) (r 5)) (r 6) lw → filD r fo k li y (l + 1) 0 hh x → Wp E mX2_askOfLives (Rm 3 0 0) (Qm E (fun v h' => v = none ∧ Fr (foS x) h h' ∧ filD r fo k li y 9 0 h' x) 0 0) 18 [(0, .ref (x + 90)), (1, .ref p), (2, .int (nI k)), (3, .int (nI s0)), (4, .int (nI (l + 1)))] [] hh 0 0) → ∀ s, s ≤ 9 → s0 ≤ s → ∀ (hh : Hp) (b1 b2 : Int32), Fr (foS x) h hh → Ask hh x (wdF r k b1 b2 (r (32 + k)) (r 5)) (r 6) lw → filD r fo k li y l s hh x → Wp E mX2_askOfLives (Rm 3 0 0) (Qm E (fun v h' => v = none ∧ Fr (foS x) h h' ∧ filD r fo k li y 9 0 h' x) 0 0) 28 [(0, .ref (x + 90)), (1, .ref p), (2, .int (nI k)), (3, .int (nI s0)), (4, .int (nI l)), (5, .int (nI s))] [] hh 0 0 := by
    intro l hl outer
    refine upTo (fun s hs ih => ?_) ?_
    · intro hs0s hh b1 b2 fr ha hfd
      have hch := hc.fo fr
      have hph := pt_of hch hpx
      have hvh := hv.fo hpx fr
      have nxt : ∀ (h5 : Hp) (c1 c2 : Int32) (v6 v7 : Int32), Fr (foS x) h h5 → Ask h5 x (wdF r k c1 c2 (r (32 + k)) (r 5)) (r 6) lw → filD r fo k li y l (s + 1) h5 x → Wp E mX2_askOfLives (Rm 3 0 0) (Qm E (fun v h' => v = none ∧ Fr (foS x) h h' ∧ filD r fo k li y 9 0 h' x) 0 0) 153 [(0, .ref (x + 90)), (1, .ref p), (2, .int (nI k)), (3, .int (nI s0)), (4, .int (nI l)), (5, .int (nI s)), (6, .int v6), (7, .int v7)] [] h5 0 0 := by
        intro h5 c1 c2 v6 v7 f5 ha5 hfd5
        refine r_iinc (pc := 153) (v := _ + (1)) (lv' := [(0, _), (1, _), (2, _), (3, _), (4, _), (5, _), (6, _), (7, _)]) 5 dX2_askOfLives_153 rfl rfl (Nat.le_of_ble_eq_true rfl) rfl ?_
        refine r_goto (pc := 156) (tgt := 28) dX2_askOfLives_156 (by decide) ?_
        refine r_sub [0, 1, 2, 3, 4, 5] rfl ?_
        rw [nI_1]
        exact ih (by omega) h5 c1 c2 f5 ha5 hfd5
      have skip : ∀ (v6 v7 : Int32), ¬ fillP li y l s → Wp E mX2_askOfLives (Rm 3 0 0) (Qm E (fun v h' => v = none ∧ Fr (foS x) h h' ∧ filD r fo k li y 9 0 h' x) 0 0) 153 [(0, .ref (x + 90)), (1, .ref p), (2, .int (nI k)), (3, .int (nI s0)), (4, .int (nI l)), (5, .int (nI s)), (6, .int v6), (7, .int v7)] [] hh 0 0 := by
        intro v6 v7 hno
        refine nxt hh b1 b2 v6 v7 fr ha (fun l' s' a1 a2 a3 a4 => ?_)
        by_cases hls : l' = l ∧ s' = s
        · rw [hls.1, hls.2] at a4; exact absurd a4 hno
        · exact hfd l' s' a1 a2 (by omega) a4
      have doit : ∀ (v6 v7 : Int32), fillP li y l s → Wp E mX2_askOfLives (Rm 3 0 0) (Qm E (fun v h' => v = none ∧ Fr (foS x) h h' ∧ filD r fo k li y 9 0 h' x) 0 0) 96 [(0, .ref (x + 90)), (1, .ref p), (2, .int (nI k)), (3, .int (nI s0)), (4, .int (nI l)), (5, .int (nI s)), (6, .int v6), (7, .int v7)] [] hh 0 0 := by
        intro v6 v7 hyes
        refine r_aload_n (pc := 96) 0 dX2_askOfLives_96 rfl ?_
        refine r_getR (pc := 97) fl_X2_9 (ca_90 hch) (cf_90_0 hch) dX2_askOfLives_97 ?_
        refine r_iload (pc := 100) 4 dX2_askOfLives_100 rfl ?_
        refine r_iload (pc := 102) 5 dX2_askOfLives_102 rfl ?_
        refine r_dV0 (pc := 104) (As := [_, _]) mv_X0_atLife ml_X2_73 (c0_atLife hch _ _) (ca_37 hch) rfl rfl (Nat.le_of_ble_eq_true rfl) (Nat.le_of_ble_eq_true rfl) (Nat.le_of_ble_eq_true rfl) (Nat.le_of_ble_eq_true rfl) (Nat.le_of_ble_eq_true rfl) dX2_askOfLives_104 ?_
        have ha3 := ((ha.w 1 (nI l)).w 2 (nI s)).cg (wdF_life (l2 := nI l) (s2 := nI s))
        have fr3 : Fr (foS x) h (wI (wI hh (x + 38) 1 (nI l)) (x + 38) 2 (nI s)) := fr.tr (Fr.tr (Fr.wI (by unfold foS akS; omega)) (Fr.wI (by unfold foS akS; omega)))
        have hfd3 : filD r fo k li y l s (wI (wI hh (x + 38) 1 (nI l)) (x + 38) 2 (nI s)) x := hfd.fr (S := fun a _ => a = x + 38) (Fr.tr (Fr.wI rfl) (Fr.wI rfl)) (fun j => by omega) (fun j => by omega)
        generalize wI (wI hh (x + 38) 1 (nI l)) (x + 38) 2 (nI s) = h3 at ha3 fr3 hfd3 ⊢
        have hc3 := hc.fo fr3
        refine r_aload_n (pc := 107) 0 dX2_askOfLives_107 rfl ?_
        refine r_getR (pc := 108) fl_X2_19 (ca_90 hc3) (cf_90_2 hc3) dX2_askOfLives_108 ?_
        refine r_iload (pc := 111) 4 dX2_askOfLives_111 rfl ?_
        refine r_bipush (pc := 113) (9) dX2_askOfLives_113 rfl ?_
        refine r_imul (pc := 115) dX2_askOfLives_115 ?_
        refine r_iload (pc := 116) 5 dX2_askOfLives_116 rfl ?_
        refine r_iadd (pc := 118) dX2_askOfLives_118 ?_
        refine r_aload_n (pc := 119) 0 dX2_askOfLives_119 rfl ?_
        refine r_getR (pc := 120) fl_X2_9 (ca_90 hc3) (cf_90_0 hc3) dX2_askOfLives_120 ?_
        refine r_sipush (pc := 123) (263) dX2_askOfLives_123 rfl ?_
        refine r_callV (pc := 126) (As := [_]) mv_X0_tells ml_X2_77 (ask_at (hd := 0) (on := 0) hc3 ha3 (Int32.add_zero _).symm (hfo.fo fr3) hl hd10 ed (by decide)) (ca_37 hc3) rfl rfl (Nat.le_of_ble_eq_true rfl) (Nat.le_of_ble_eq_true rfl) (Nat.le_of_ble_eq_true rfl) (Nat.le_of_ble_eq_true rfl) (Nat.le_of_ble_eq_true rfl) dX2_askOfLives_126 (fun r h4 hp => ?_)
        obtain ⟨rfl, hr4⟩ := hp
        show Wp E mX2_askOfLives _ _ _ _ [.int _, .int _, .ref _] _ 0 0
        rw [tell_earn]
        have ha4 := ha3.rk hr4
        have fr4 := fr3.tr (hr4.ak.mono (fun _ _ => ak_fo))
        have hfd4 := hfd3.fr hr4.fr (fun j => by unfold rkS; omega) (fun j => by unfold rkS; omega)
        have hc4 := hc.fo fr4
        refine r_iast (pc := 129) (j := l * 9 + s) (cr_92 hc4) (by simp only [fa_lit, nI_add, nI_mul]) (by omega) (by decide) dX2_askOfLives_129 ?_
        have f45 : Fr (fun a _ => a = x + 92) h4 (wI h4 (x + 92) (l * 9 + s) (earnF r fo k (nI l) (nI s))) := Fr.wI rfl
        have e45 : hI (wI h4 (x + 92) (l * 9 + s) (earnF r fo k (nI l) (nI s))) (x + 92) (9 * l + s) = earnF r fo k (nI l) (nI s) := by rw [Nat.mul_comm 9 l]; exact hI_at
        have hfd5 : filD r fo k li y l s (wI h4 (x + 92) (l * 9 + s) (earnF r fo k (nI l) (nI s))) x := fun l' s' a1 a2 a3 a4 => by
          rw [hI_ne (by omega), hI_ne (by omega)]; exact hfd4 l' s' a1 a2 a3 a4
        have ha5 := ha4.fr f45 (fun j => by omega) (by omega) (by omega)
        have fr5 := fr4.tr (f45.mono (fun a j z => (Or.inr (Or.inl (by omega)) : foS x a j)))
        generalize wI h4 (x + 92) (l * 9 + s) (earnF r fo k (nI l) (nI s)) = h5 at f45 e45 hfd5 ha5 fr5 ⊢
        have hc5 := hc.fo fr5
        refine r_aload_n (pc := 130) 0 dX2_askOfLives_130 rfl ?_
        refine r_getR (pc := 131) fl_X2_23 (ca_90 hc5) (cf_90_3 hc5) dX2_askOfLives_131 ?_
        refine r_iload (pc := 134) 4 dX2_askOfLives_134 rfl ?_
        refine r_bipush (pc := 136) (9) dX2_askOfLives_136 rfl ?_
        refine r_imul (pc := 138) dX2_askOfLives_138 ?_
        refine r_iload (pc := 139) 5 dX2_askOfLives_139 rfl ?_
        refine r_iadd (pc := 141) dX2_askOfLives_141 ?_
        refine r_aload_n (pc := 142) 0 dX2_askOfLives_142 rfl ?_
        refine r_getR (pc := 143) fl_X2_9 (ca_90 hc5) (cf_90_0 hc5) dX2_askOfLives_143 ?_
        refine r_sipush (pc := 146) (264) dX2_askOfLives_146 rfl ?_
        refine r_callV (pc := 149) (As := [_]) mv_X0_tells ml_X2_77 (ask_at (hd := 1) (on := 0) hc5 ha5 (Int32.add_zero _).symm (hfo.fo fr5) hl hd10 ed (by decide)) (ca_37 hc5) rfl rfl (Nat.le_of_ble_eq_true rfl) (Nat.le_of_ble_eq_true rfl) (Nat.le_of_ble_eq_true rfl) (Nat.le_of_ble_eq_true rfl) (Nat.le_of_ble_eq_true rfl) dX2_askOfLives_149 (fun r h6 hp => ?_)
        obtain ⟨rfl, hr6⟩ := hp
        show Wp E mX2_askOfLives _ _ _ _ [.int _, .int _, .ref _] _ 0 0
        rw [tell_dare]
        have ha6 := ha5.rk hr6
        have fr6 := fr5.tr (hr6.ak.mono (fun _ _ => ak_fo))
        have hfd6 := hfd5.fr hr6.fr (fun j => by unfold rkS; omega) (fun j => by unfold rkS; omega)
        have e46 : hI h6 (x + 92) (9 * l + s) = earnF r fo k (nI l) (nI s) := (hr6.fr.I (by unfold rkS; omega)).trans e45
        have hc6 := hc.fo fr6
        refine r_iast (pc := 152) (j := l * 9 + s) (cr_93 hc6) (by simp only [fa_lit, nI_add, nI_mul]) (by omega) (by decide) dX2_askOfLives_152 ?_
        have f67 : Fr (fun a _ => a = x + 93) h6 (wI h6 (x + 93) (l * 9 + s) (dareF r fo k (nI l) (nI s))) := Fr.wI rfl
        refine nxt _ _ _ _ _ (fr6.tr (f67.mono (fun a j z => (Or.inr (Or.inl (by omega)) : foS x a j)))) (ha6.fr f67 (fun j => by omega) (by omega) (by omega)) (fun l' s' a1 a2 a3 a4 => ?_)
        by_cases hls : l' = l ∧ s' = s
        · rw [hls.1, hls.2]
          refine ⟨by rw [hI_ne (by omega)]; exact e46, ?_⟩
          rw [Nat.mul_comm 9 l]; exact hI_at
        · rw [hI_ne (by omega), hI_ne (by omega)]; exact hfd6 l' s' a1 a2 (by omega) a4
      have at84 : ∀ (q1 q2 : Bool), (q1 = true ↔ (l = li ∧ s = s0)) → (q2 = true ↔ (y.testBit l = true ∧ s0 < s)) → Wp E mX2_askOfLives (Rm 3 0 0) (Qm E (fun v h' => v = none ∧ Fr (foS x) h h' ∧ filD r fo k li y 9 0 h' x) 0 0) 84 [(0, .ref (x + 90)), (1, .ref p), (2, .int (nI k)), (3, .int (nI s0)), (4, .int (nI l)), (5, .int (nI s)), (6, .int (bI q1))] [.int (bI q2)] hh 0 0 := by
        intro q1 q2 hq1 hq2
        have hfi : fillP li y l s ↔ (q1 = true ∨ q2 = true) := by unfold fillP; rw [hs0, hq1, hq2]
        refine r_istore (pc := 84) (lv' := [(0, _), (1, _), (2, _), (3, _), (4, _), (5, _), (6, _), (7, _)]) dX2_askOfLives_84 (Nat.le_of_ble_eq_true rfl) rfl ?_
        refine r_iload (pc := 86) 6 dX2_askOfLives_86 rfl ?_
        refine r_if_ne (pc := 88) (tgt := 96) dX2_askOfLives_88 (by decide) (fun c_88 => ?_) (fun c_88 => ?_)
        · exact doit _ _ (hfi.mpr (Or.inl (bI_n0.mp c_88)))
        · refine r_iload (pc := 91) 7 dX2_askOfLives_91 rfl ?_
          refine r_if_eq (pc := 93) (tgt := 153) dX2_askOfLives_93 (by decide) (fun c_93 => ?_) (fun c_93 => ?_)
          · refine skip _ _ (fun z => ?_)
            rcases hfi.mp z with w | w
            · rw [w] at c_88; exact absurd c_88 (by decide)
            · rw [w] at c_93; exact absurd c_93 (by decide)
          · exact doit _ _ (hfi.mpr (Or.inr (bI_n0.mp c_93)))
      have at57 : ∀ q1 : Bool, (q1 = true ↔ (l = li ∧ s = s0)) → Wp E mX2_askOfLives (Rm 3 0 0) (Qm E (fun v h' => v = none ∧ Fr (foS x) h h' ∧ filD r fo k li y 9 0 h' x) 0 0) 57 [(0, .ref (x + 90)), (1, .ref p), (2, .int (nI k)), (3, .int (nI s0)), (4, .int (nI l)), (5, .int (nI s))] [.int (bI q1)] hh 0 0 := by
        intro q1 hq1
        refine r_istore (pc := 57) (lv' := [(0, _), (1, _), (2, _), (3, _), (4, _), (5, _), (6, _)]) dX2_askOfLives_57 (Nat.le_of_ble_eq_true rfl) rfl ?_
        refine r_aload_n (pc := 59) 1 dX2_askOfLives_59 rfl ?_
        refine r_getR (pc := 60) fl_X2_36 (pt_is hph) (pt_f2 hph) dX2_askOfLives_60 ?_
        refine r_iload_n (pc := 63) 2 dX2_askOfLives_63 rfl ?_
        refine r_iald (pc := 64) (j := k) (pt_r2 hph) rfl (by omega) (by decide) dX2_askOfLives_64 ?_
        rw [pv_ye hvh hk, ey]
        refine r_iload (pc := 65) 4 dX2_askOfLives_65 rfl ?_
        refine r_dN (pc := 67) (As := [_, _]) ms_X11_hasBit mk_X2_46 (ct_hasBit _ _) rfl rfl (Nat.le_of_ble_eq_true rfl) (Nat.le_of_ble_eq_true rfl) (Nat.le_of_ble_eq_true rfl) (Nat.le_of_ble_eq_true rfl) (Nat.le_of_ble_eq_true rfl) dX2_askOfLives_67 ?_
        refine r_if_eq (pc := 70) (tgt := 83) dX2_askOfLives_70 (by decide) (fun c_70 => ?_) (fun c_70 => ?_)
        · rw [isB9 y (by omega) l hl] at c_70
          refine r_iconst (pc := 83) (0) dX2_askOfLives_83 rfl ?_
          exact at84 q1 false hq1 (by rw [bI_0.mp c_70]; exact ⟨fun z => absurd z (by decide), fun z => absurd z.1 (by decide)⟩)
        · rw [isB9 y (by omega) l hl] at c_70
          refine r_iload (pc := 73) 5 dX2_askOfLives_73 rfl ?_
          refine r_iload_n (pc := 75) 3 dX2_askOfLives_75 rfl ?_
          refine r_icmp_le (pc := 76) (tgt := 83) dX2_askOfLives_76 (by decide) (fun c_76 => ?_) (fun c_76 => ?_)
          · refine r_iconst (pc := 83) (0) dX2_askOfLives_83 rfl ?_
            refine at84 q1 false hq1 ⟨fun z => absurd z (by decide), fun z => absurd c_76 (nI_ge z.2 (by omega))⟩
          · refine r_iconst (pc := 79) (1) dX2_askOfLives_79 rfl ?_
            refine r_goto (pc := 80) (tgt := 84) dX2_askOfLives_80 (by decide) ?_
            refine at84 q1 true hq1 ⟨fun _ => ⟨bI_n0.mp c_70, ?_⟩, fun _ => rfl⟩
            rcases Nat.lt_or_ge s0 s with z | z
            · exact z
            · exact absurd (nI_le z (by omega)) c_76
      refine r_iload (pc := 28) 5 dX2_askOfLives_28 rfl ?_
      refine r_bipush (pc := 30) (9) dX2_askOfLives_30 rfl ?_
      refine r_icmp_ge (pc := 32) (tgt := 159) dX2_askOfLives_32 (by decide) (fun c_32 => ?_) (fun c_32 => ?_)
      · exact absurd c_32 (nI_ge (b := 9) hs (by decide))
      · refine r_iload (pc := 35) 4 dX2_askOfLives_35 rfl ?_
        refine r_aload_n (pc := 37) 1 dX2_askOfLives_37 rfl ?_
        refine r_getR (pc := 38) fl_X2_41 (pt_is hph) (pt_f1 hph) dX2_askOfLives_38 ?_
        refine r_iload_n (pc := 41) 2 dX2_askOfLives_41 rfl ?_
        refine r_iald (pc := 42) (j := k) (pt_r1 hph) rfl (by omega) (by decide) dX2_askOfLives_42 ?_
        rw [pv_li hvh hk, eli]
        refine r_icmp_ne (pc := 43) (tgt := 56) dX2_askOfLives_43 (by decide) (fun c_43 => ?_) (fun c_43 => ?_)
        · refine r_iconst (pc := 56) (0) dX2_askOfLives_56 rfl ?_
          exact at57 false ⟨fun z => absurd z (by decide), fun z => absurd (by rw [z.1]) c_43⟩
        · have e43 := nI_inj (by omega) (by omega) c_43
          refine r_iload (pc := 46) 5 dX2_askOfLives_46 rfl ?_
          refine r_iload_n (pc := 48) 3 dX2_askOfLives_48 rfl ?_
          refine r_icmp_ne (pc := 49) (tgt := 56) dX2_askOfLives_49 (by decide) (fun c_49 => ?_) (fun c_49 => ?_)
          · refine r_iconst (pc := 56) (0) dX2_askOfLives_56 rfl ?_
            exact at57 false ⟨fun z => absurd z (by decide), fun z => absurd (by rw [z.2]) c_49⟩
          · have e49 := nI_inj (by omega) (by omega) c_49
            refine r_iconst (pc := 52) (1) dX2_askOfLives_52 rfl ?_
            refine r_goto (pc := 53) (tgt := 57) dX2_askOfLives_53 (by decide) ?_
            exact at57 true ⟨fun _ => ⟨e43, e49⟩, fun _ => rfl⟩
    · intro hs0s hh b1 b2 fr ha hfd
      refine r_iload (pc := 28) 5 dX2_askOfLives_28 rfl ?_
      refine r_bipush (pc := 30) (9) dX2_askOfLives_30 rfl ?_
      refine r_icmp_ge (pc := 32) (tgt := 159) dX2_askOfLives_32 (by decide) (fun c_32 => ?_) (fun c_32 => ?_)
      · refine r_iinc (pc := 159) (v := _ + (1)) (lv' := [(0, _), (1, _), (2, _), (3, _), (4, _), (5, _)]) 4 dX2_askOfLives_159 rfl rfl (Nat.le_of_ble_eq_true rfl) rfl ?_
        refine r_goto (pc := 162) (tgt := 18) dX2_askOfLives_162 (by decide) ?_
        refine r_sub [0, 1, 2, 3, 4] rfl ?_
        rw [nI_1]
        exact outer hh b1 b2 fr ha (fun l' s' a1 a2 a3 a4 => hfd l' s' a1 a2 (by omega) a4)
      · exact absurd (show (9 : Int32) ≤ nI 9 by decide) c_32
  have outer : ∀ l, l ≤ 9 → ∀ (hh : Hp) (b1 b2 : Int32), Fr (foS x) h hh → Ask hh x (wdF r k b1 b2 (r (32 + k)) (r 5)) (r 6) lw → filD r fo k li y l 0 hh x → Wp E mX2_askOfLives (Rm 3 0 0) (Qm E (fun v h' => v = none ∧ Fr (foS x) h h' ∧ filD r fo k li y 9 0 h' x) 0 0) 18 [(0, .ref (x + 90)), (1, .ref p), (2, .int (nI k)), (3, .int (nI s0)), (4, .int (nI l))] [] hh 0 0 := by
    refine upTo (fun l hl ih => ?_) ?_
    · intro hh b1 b2 fr ha hfd
      refine r_iload (pc := 18) 4 dX2_askOfLives_18 rfl ?_
      refine r_bipush (pc := 20) (9) dX2_askOfLives_20 rfl ?_
      refine r_icmp_ge (pc := 22) (tgt := 165) dX2_askOfLives_22 (by decide) (fun c_22 => ?_) (fun c_22 => ?_)
      · exact absurd c_22 (nI_ge (b := 9) hl (by decide))
      · refine r_iload_n (pc := 25) 3 dX2_askOfLives_25 rfl ?_
        refine r_istore (pc := 26) (lv' := [(0, _), (1, _), (2, _), (3, _), (4, _), (5, _)]) dX2_askOfLives_26 (Nat.le_of_ble_eq_true rfl) rfl ?_
        refine inner l hl ih s0 (by omega) (Nat.le_refl _) hh b1 b2 fr ha (fun l' s' a1 a2 a3 a4 => ?_)
        by_cases hll : l' < l
        · exact hfd l' s' a1 a2 (Or.inl hll) a4
        · unfold fillP at a4
          rw [hs0] at a4
          omega
    · intro hh b1 b2 fr ha hfd
      refine r_iload (pc := 18) 4 dX2_askOfLives_18 rfl ?_
      refine r_bipush (pc := 20) (9) dX2_askOfLives_20 rfl ?_
      refine r_icmp_ge (pc := 22) (tgt := 165) dX2_askOfLives_22 (by decide) (fun c_22 => ?_) (fun c_22 => ?_)
      · refine r_vret (pc := 165) rfl ?_ (Nat.le_of_ble_eq_true rfl) (Nat.le_of_ble_eq_true rfl) dX2_askOfLives_165
        exact ⟨rfl, fr, hfd⟩
      · exact absurd (show (9 : Int32) ≤ nI 9 by decide) c_22
  refine r_iconst (pc := 15) (0) dX2_askOfLives_15 rfl ?_
  refine r_istore (pc := 16) (lv' := [(0, _), (1, _), (2, _), (3, _), (4, _)]) dX2_askOfLives_16 (Nat.le_of_ble_eq_true rfl) rfl ?_
  exact outer 0 (by omega) h2 _ _ (f2.mono (fun _ _ => ak_fo)) ha2 (fun l' s' a1 a2 a3 a4 => by omega)
end FORT2
