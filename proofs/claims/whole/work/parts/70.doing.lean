/-! the class: to sign, to clip -/
section DOING
variable {E : En} {h : Hp} {x : Nat} {r : Nat → Int32}
theorem or64 : ∀ y, y < 64 → ∀ k, k < 6 → (nI y ||| (1 <<< (nI k &&& 31)) = nI (y ||| 2 ^ k) ∧ y ||| 2 ^ k < 64) := by decide +kernel
theorem crew_lt (r : Nat → Int32) (s : Int32) : ∀ n, n ≤ 6 → ∃ y, y < 64 ∧ crewN r s n = nI y
  | 0, _ => ⟨0, by decide, rfl⟩
  | n + 1, hn => by
    obtain ⟨y, hy, e⟩ := crew_lt r s n (by omega)
    rw [crewN, e]
    split
    · obtain ⟨h1, h2⟩ := or64 y hy n (by omega)
      exact ⟨_, h2, h1⟩
    · exact ⟨y, hy, Int32.or_zero⟩
/-- what acts write -/
def acS (x a k : Nat) : Prop := akS x a k ∨ ptW (x + 3) a k ∨ psW (x + 40) a k
theorem csP_ac {a k : Nat} (hq : csP x a k) : ¬ acS x a k := by
  intro z
  rcases z with z | z | z
  · exact csP_ak hq z
  · exact csP_pw (Or.inl rfl) hq z
  · obtain ⟨t, ht, rfl, rfl⟩ := hq
    have key : ∀ t ∈ csF, ¬ ((t.1 = 40 ∧ (t.2.1 = 2 ∨ t.2.1 = 3)) ∨ (40 + 2 ≤ t.1 ∧ t.1 ≤ 40 + 18)) := by decide +kernel
    unfold psW at z
    exact key t ht (by omega)
theorem CS.ac {h1 : Hp} (hc : CS E h x) (a1 : Fr (acS x) h h1) : CS E h1 x := hc.fr a1 (fun _ _ => csP_ac)
/-- all that acts ask for -/
def Lv (E : En) (h : Hp) (x : Nat) (r : Nat → Int32) (nc ns nl : Nat) (lw : Option Nat) (fo : Option (List Cl)) : Prop := CS E h x ∧ PtV h (x + 3) r ∧ RwOK r nc ns ∧ (r 3 = nI nl ∧ nl ≤ 6) ∧ LwA h (x + 3) r nl lw ∧ FoL E h x fo lw
/-- behind an act: what it tells, the row, what is kept -/
def kpP (x nw u : Nat) (K : Nat → Int32) (S : Nat → Nat → Int32) (r : Nat → Int32) (kind v : Int32) (h' : Hp) : Prop := if 0 ≤ v then PsV h' (x + 40) ((nw + 1) % 16) (kpU u) (kpF K u kind) (kpF S u r) else PsV h' (x + 40) nw u K S
theorem kpP_n {h1 : Hp} {nw u : Nat} {K : Nat → Int32} {S : Nat → Nat → Int32} {kind v : Int32} (hn : ¬ 0 ≤ v) (hq : PsV h1 (x + 40) nw u K S) : kpP x nw u K S r kind v h1 := by unfold kpP; rw [if_neg hn]; exact hq
theorem kpP_y {h1 : Hp} {nw u : Nat} {K : Nat → Int32} {S : Nat → Nat → Int32} {kind v : Int32} (hn : 0 ≤ v) (hq : PsV h1 (x + 40) ((nw + 1) % 16) (kpU u) (kpF K u kind) (kpF S u r)) : kpP x nw u K S r kind v h1 := by unfold kpP; rw [if_pos hn]; exact hq
def pAc (h : Hp) (x : Nat) (v : Int32) (r' : Nat → Int32) (P : Hp → Prop) : Option Value → Hp → Prop := fun w h' => w = some (.int v) ∧ Fr (acS x) h h' ∧ PtV h' (x + 3) r' ∧ P h'
theorem PsV.fr {S : Nat → Nat → Prop} {h1 : Hp} {a nw u : Nat} {K : Nat → Int32} {T : Nat → Nat → Int32} (hv : PsV h a nw u K T) (a1 : Fr S h h1) (q2 : ¬ S a 2) (q3 : ¬ S a 3) (q : ∀ i k, 2 ≤ i → i ≤ 18 → ¬ S (a + i) k) : PsV h1 a nw u K T := by
  obtain ⟨e2, e3, hn, hu, hk⟩ := hv
  refine ⟨(a1.I q2).trans e2, (a1.I q3).trans e3, hn, hu, fun i hi => ?_⟩
  obtain ⟨k1, k2⟩ := hk i hi
  have hlt := slt_lt nw u i
  refine ⟨(a1.I (q 18 _ (by omega) (by omega))).trans k1, k2.cg ?_⟩
  funext k
  rw [Nat.add_assoc]
  exact a1.I (q (2 + slt nw u i) k (by omega) (by omega))
theorem c1_signOn {nc ns nl nw u : Nat} {lw : Option Nat} {fo : Option (List Cl)} {K : Nat → Int32} {S : Nat → Nat → Int32} (hL : Lv E h x r nc ns nl lw fo) (hps : PsV h (x + 40) nw u K S) (c s : Int32) : Ct E 4 0 0 mX1_signOn [.ref (x + 39), .int c, .int s] h (pAc h x (signV r fo nc ns c s) (if 0 ≤ signV r fo nc ns c s then va_up r (32 + c.toNatClampNeg) s else r) (kpP x nw u K S r 0 (signV r fo nc ns c s))) := by
  obtain ⟨hc, hv, hrw, ⟨h3, hl6⟩, hlw, hfo⟩ := hL
  obtain ⟨hn, h6, hns, hs3, -⟩ := id hrw
  have hp := cs_pt3 hc
  have hpx : pOf x (x + 3) := Or.inl rfl
  refine Ct.of (by decide +kernel) (Nat.le_of_ble_eq_true rfl) ?_
  have no2 : ¬ (inN c nc = true ∧ inN s ns = true) → Wp E mX1_signOn (Rm 4 0 0) (Qm E (pAc h x (signV r fo nc ns c s) (if 0 ≤ signV r fo nc ns c s then va_up r (32 + c.toNatClampNeg) s else r) (kpP x nw u K S r 0 (signV r fo nc ns c s))) 0 0) 22 [(0, .ref (x + 39)), (1, .int c), (2, .int s)] [] h 0 0 := by
    intro hno
    have e : signV r fo nc ns c s = -2 := by unfold signV; rw [if_neg hno]
    rw [e]
    refine r_bipush (pc := 22) (-2) dX1_signOn_22 rfl ?_
    refine r_iret (pc := 24) rfl ?_ (Nat.le_of_ble_eq_true rfl) (Nat.le_of_ble_eq_true rfl) dX1_signOn_24
    exact ⟨rfl, Fr.rf, by rw [if_neg (by decide)]; exact hv, kpP_n (by decide) hps⟩
  refine r_aload_n (pc := 0) 0 dX1_signOn_0 rfl ?_
  refine r_getR (pc := 1) fl_X1_9 (ca_39 hc) (cf_39_0 hc) dX1_signOn_1 ?_
  refine r_iload_n (pc := 4) 1 dX1_signOn_4 rfl ?_
  refine r_dV (pc := 5) (As := [_]) mv_X5_hasCat ml_X1_57 (c5_hasCat hp hv hn h6 _) (pt_is (cs_pt3 hc)) rfl rfl (Nat.le_of_ble_eq_true rfl) (Nat.le_of_ble_eq_true rfl) (Nat.le_of_ble_eq_true rfl) (Nat.le_of_ble_eq_true rfl) (Nat.le_of_ble_eq_true rfl) dX1_signOn_5 ?_
  refine r_if_eq (pc := 8) (tgt := 22) dX1_signOn_8 (by decide) (fun c_8 => ?_) (fun c_8 => ?_)
  · exact no2 (fun z => by rw [bI_0.mp c_8] at z; exact absurd z.1 (by decide))
  · have hcN := bI_n0.mp c_8
    refine r_aload_n (pc := 11) 0 dX1_signOn_11 rfl ?_
    refine r_getR (pc := 12) fl_X1_9 (ca_39 hc) (cf_39_0 hc) dX1_signOn_12 ?_
    refine r_iload_n (pc := 15) 2 dX1_signOn_15 rfl ?_
    refine r_dV (pc := 16) (As := [_]) mv_X5_hasShip ml_X1_61 (c5_hasShip hp hv hns hs3 _) (pt_is (cs_pt3 hc)) rfl rfl (Nat.le_of_ble_eq_true rfl) (Nat.le_of_ble_eq_true rfl) (Nat.le_of_ble_eq_true rfl) (Nat.le_of_ble_eq_true rfl) (Nat.le_of_ble_eq_true rfl) dX1_signOn_16 ?_
    refine r_if_ne (pc := 19) (tgt := 25) dX1_signOn_19 (by decide) (fun c_19 => ?_) (fun c_19 => ?_)
    · have hsN := bI_n0.mp c_19
      obtain ⟨k, hk, ek⟩ := inN_of (by omega) hcN
      have no3 : ∀ hh : Hp, Fr (akS x) h hh → (aliveF r k = false ∨ r (32 + k) = s ∨ barF r fo k s = true) → Wp E mX1_signOn (Rm 4 0 0) (Qm E (pAc h x (signV r fo nc ns c s) (if 0 ≤ signV r fo nc ns c s then va_up r (32 + c.toNatClampNeg) s else r) (kpP x nw u K S r 0 (signV r fo nc ns c s))) 0 0) 65 [(0, .ref (x + 39)), (1, .int c), (2, .int s)] [] hh 0 0 := by
        intro hh fr hno
        have e : signV r fo nc ns c s = -3 := by unfold signV; rw [if_pos ⟨hcN, hsN⟩, ek, nI_clamp (by omega), if_pos hno]
        rw [e]
        refine r_bipush (pc := 65) (-3) dX1_signOn_65 rfl ?_
        refine r_iret (pc := 67) rfl ?_ (Nat.le_of_ble_eq_true rfl) (Nat.le_of_ble_eq_true rfl) dX1_signOn_67
        refine ⟨rfl, fr.mono (fun a k z => Or.inl z), ?_, ?_⟩
        · rw [if_neg (by decide)]; exact hv.ak hpx fr
        · exact kpP_n (by decide) (hps.fr fr (by unfold akS; omega) (by unfold akS; omega) (fun i k h1 h2 => by unfold akS; omega))
      refine r_aload_n (pc := 25) 0 dX1_signOn_25 rfl ?_
      refine r_getR (pc := 26) fl_X1_9 (ca_39 hc) (cf_39_0 hc) dX1_signOn_26 ?_
      refine r_iload_n (pc := 29) 1 dX1_signOn_29 rfl ?_
      refine r_dV (pc := 30) (As := [_]) mv_X5_isHere ml_X1_64 (c5_isHere hp hv hn h6 _) (pt_is (cs_pt3 hc)) rfl rfl (Nat.le_of_ble_eq_true rfl) (Nat.le_of_ble_eq_true rfl) (Nat.le_of_ble_eq_true rfl) (Nat.le_of_ble_eq_true rfl) (Nat.le_of_ble_eq_true rfl) dX1_signOn_30 ?_
      refine r_if_eq (pc := 33) (tgt := 65) dX1_signOn_33 (by decide) (fun c_33 => ?_) (fun c_33 => ?_)
      · have hz := bI_0.mp c_33
        unfold hereB at hz
        rw [hcN, ek, nI_clamp (by omega), Bool.true_and] at hz
        exact no3 h Fr.rf (Or.inl hz)
      · have hz := bI_n0.mp c_33
        unfold hereB at hz
        rw [hcN, ek, nI_clamp (by omega), Bool.true_and] at hz
        refine r_aload_n (pc := 36) 0 dX1_signOn_36 rfl ?_
        refine r_getR (pc := 37) fl_X1_9 (ca_39 hc) (cf_39_0 hc) dX1_signOn_37 ?_
        refine r_getR (pc := 40) fl_X1_67 (pt_is (cs_pt3 hc)) (pt_f5 (cs_pt3 hc)) dX1_signOn_40 ?_
        refine r_iload_n (pc := 43) 1 dX1_signOn_43 rfl ?_
        refine r_iald (pc := 44) (j := k) (pt_r5 (cs_pt3 hc)) ek (by omega) (by decide) dX1_signOn_44 ?_
        refine r_iload_n (pc := 45) 2 dX1_signOn_45 rfl ?_
        refine r_icmp_eq (pc := 46) (tgt := 65) dX1_signOn_46 (by decide) (fun c_46 => ?_) (fun c_46 => ?_)
        · rw [pv_sh hv (by omega)] at c_46
          exact no3 h Fr.rf (Or.inr (Or.inl c_46))
        · rw [pv_sh hv (by omega)] at c_46
          obtain ⟨y, hy, ey⟩ := rw_y hrw (show k < 6 by omega)
          have hbar := c0_isBarred (k := k) hc hpx hv (by omega) hy ey h3 hl6 hlw hfo s
          rw [← ek] at hbar
          refine r_aload_n (pc := 49) 0 dX1_signOn_49 rfl ?_
          refine r_getR (pc := 50) fl_X1_15 (ca_39 hc) (cf_39_1 hc) dX1_signOn_50 ?_
          refine r_aload_n (pc := 53) 0 dX1_signOn_53 rfl ?_
          refine r_getR (pc := 54) fl_X1_9 (ca_39 hc) (cf_39_0 hc) dX1_signOn_54 ?_
          refine r_iload_n (pc := 57) 1 dX1_signOn_57 rfl ?_
          refine r_iload_n (pc := 58) 2 dX1_signOn_58 rfl ?_
          refine r_callV (pc := 59) (As := [_, _, _]) mv_X0_isBarred ml_X1_70 (hbar) (ca_37 hc) rfl rfl (Nat.le_of_ble_eq_true rfl) (Nat.le_of_ble_eq_true rfl) (Nat.le_of_ble_eq_true rfl) (Nat.le_of_ble_eq_true rfl) (Nat.le_of_ble_eq_true rfl) dX1_signOn_59 (fun r h2 hp => ?_)
          obtain ⟨rfl, f2⟩ := hp
          show Wp E mX1_signOn _ _ _ _ [.int _] _ 0 0
          refine r_if_eq (pc := 62) (tgt := 68) dX1_signOn_62 (by decide) (fun c_62 => ?_) (fun c_62 => ?_)
          · have hb := bI_0.mp c_62
            have hc2 := hc.ak f2
            have hp2 := cs_pt3 hc2
            have hv2 := hv.ak hpx f2
            have hps2 := hps.fr f2 (by unfold akS; omega) (by unfold akS; omega) (fun i k h1 h2 => by unfold akS; omega)
            have eV : signV r fo nc ns c s = onesN (crewN (va_up r (32 + k) s) s nc) 9 := by
              unfold signV
              rw [if_pos ⟨hcN, hsN⟩, ek, nI_clamp (by omega), if_neg (fun z => by
                rcases z with z | z | z
                · rw [hz] at z; cases z
                · exact c_46 z
                · rw [hb] at z; cases z)]
            refine r_aload_n (pc := 68) 0 dX1_signOn_68 rfl ?_
            refine r_getR (pc := 69) fl_X1_22 (ca_39 hc2) (cf_39_2 hc2) dX1_signOn_69 ?_
            refine r_iconst (pc := 72) (0) dX1_signOn_72 rfl ?_
            refine r_aload_n (pc := 73) 0 dX1_signOn_73 rfl ?_
            refine r_getR (pc := 74) fl_X1_9 (ca_39 hc2) (cf_39_0 hc2) dX1_signOn_74 ?_
            refine r_callV (pc := 77) (As := [_, _]) mv_X4_keep ml_X1_49 (c4_keep (cs_ps40 hc2) hps2 hp2 hv2 (by omega) 0) (ps_is (cs_ps40 hc2)) rfl rfl (Nat.le_of_ble_eq_true rfl) (Nat.le_of_ble_eq_true rfl) (Nat.le_of_ble_eq_true rfl) (Nat.le_of_ble_eq_true rfl) (Nat.le_of_ble_eq_true rfl) dX1_signOn_77 (fun r h3 hp => ?_)
            obtain ⟨rfl, f3, hps3⟩ := hp
            show Wp E mX1_signOn _ _ _ _ [] _ 0 0
            have g3 : Fr (acS x) h h3 := (f2.mono (fun a k z => (Or.inl z : acS x a k))).tr (f3.mono (fun a k z => (Or.inr (Or.inr z) : acS x a k)))
            have hc3 := hc.ac g3
            have hv3 : PtV h3 (x + 3) r := hv2.fr f3 (fun i k hi => by unfold psW; omega)
            refine r_aload_n (pc := 80) 0 dX1_signOn_80 rfl ?_
            refine r_getR (pc := 81) fl_X1_9 (ca_39 hc3) (cf_39_0 hc3) dX1_signOn_81 ?_
            refine r_getR (pc := 84) fl_X1_67 (pt_is (cs_pt3 hc3)) (pt_f5 (cs_pt3 hc3)) dX1_signOn_84 ?_
            refine r_iload_n (pc := 87) 1 dX1_signOn_87 rfl ?_
            refine r_iload_n (pc := 88) 2 dX1_signOn_88 rfl ?_
            refine r_iast (pc := 89) (j := k) (pt_r5 (cs_pt3 hc3)) ek (by omega) (by decide) dX1_signOn_89 ?_
            have hv4 := hv3.sh (k := k) (by omega) s
            have g4 : Fr (acS x) h (wI h3 (x + 3 + 5) k s) := g3.tr (Fr.wI (Or.inr (Or.inl (by unfold ptW; omega))))
            have hps4 : PsV (wI h3 (x + 3 + 5) k s) (x + 40) ((nw + 1) % 16) (kpU u) (kpF K u 0) (kpF S u r) := hps3.fr (S := ptW (x + 3)) (Fr.wI (by unfold ptW; omega)) (by unfold ptW; omega) (by unfold ptW; omega) (fun i k h1 h2 => by unfold ptW; omega)
            have hc4 := hc.ac g4
            have hn4 : va_up r (32 + k) s 0 = nI nc := by rw [va_up_ne _ _ (by omega)]; exact hn
            refine r_aload_n (pc := 90) 0 dX1_signOn_90 rfl ?_
            refine r_getR (pc := 91) fl_X1_9 (ca_39 hc3) (cf_39_0 hc3) dX1_signOn_91 ?_
            refine r_iload_n (pc := 94) 2 dX1_signOn_94 rfl ?_
            refine r_dV (pc := 95) (As := [_]) mv_X5_crewOf ml_X1_76 (c5_crewOf (cs_pt3 hc4) hv4 hn4 h6 _) (pt_is (cs_pt3 hc3)) rfl rfl (Nat.le_of_ble_eq_true rfl) (Nat.le_of_ble_eq_true rfl) (Nat.le_of_ble_eq_true rfl) (Nat.le_of_ble_eq_true rfl) (Nat.le_of_ble_eq_true rfl) dX1_signOn_95 ?_
            refine r_dS (pc := 98) (As := [_]) ms_J6_bitCount_0f7a4 ml_X1_80 (ct_bitCount _) rfl rfl (Nat.le_of_ble_eq_true rfl) (Nat.le_of_ble_eq_true rfl) (Nat.le_of_ble_eq_true rfl) (Nat.le_of_ble_eq_true rfl) (Nat.le_of_ble_eq_true rfl) dX1_signOn_98 ?_
            refine r_iret (pc := 101) rfl ?_ (Nat.le_of_ble_eq_true rfl) (Nat.le_of_ble_eq_true rfl) dX1_signOn_101
            obtain ⟨y2, hy2, ey2⟩ := crew_lt (va_up r (32 + k) s) s nc h6
            have ebc : bcF (crewN (va_up r (32 + k) s) s nc) = signV r fo nc ns c s := by rw [eV, ey2, bcF_ones (by omega)]
            have hpos : 0 ≤ signV r fo nc ns c s := by rw [eV]; exact onesN_p _
            rw [ebc]
            refine ⟨rfl, g4, ?_, ?_⟩
            · rw [if_pos hpos, ek, nI_clamp (by omega)]; exact hv4
            · exact kpP_y hpos hps4
          · exact no3 h2 f2 (Or.inr (Or.inr (bI_n0.mp c_62)))
    · exact no2 (fun z => by rw [bI_0.mp c_19] at z; exact absurd z.2 (by decide))
end DOING
