/-! the class: to clip, to die -/
section DOING2
variable {E : En} {h : Hp} {x : Nat} {r : Nat → Int32}
theorem c1_clipAs {nc ns nl nw u : Nat} {lw : Option Nat} {fo : Option (List Cl)} {K : Nat → Int32} {S : Nat → Nat → Int32} (hL : Lv E h x r nc ns nl lw fo) (hps : PsV h (x + 40) nw u K S) (c s : Int32) : Ct E 3 0 0 mX1_clipAs [.ref (x + 39), .int c, .int s] h (pAc h x (clipV r nc c s) (if 0 ≤ clipV r nc c s then va_up r (20 + c.toNatClampNeg) s else r) (kpP x nw u K S r 2 (clipV r nc c s))) := by
  obtain ⟨hc, hv, hrw, ⟨h3, hl6⟩, hlw, hfo⟩ := hL
  obtain ⟨hn, h6, hns, hs3, -, hear, -⟩ := id hrw
  have hp := cs_pt3 hc
  refine Ct.of (by decide +kernel) (Nat.le_of_ble_eq_true rfl) ?_
  have hin := inN_lt (c := s) (n := 9) (by decide)
  have no1 : inN s 9 = false → Wp E mX1_clipAs (Rm 3 0 0) (Qm E (pAc h x (clipV r nc c s) (if 0 ≤ clipV r nc c s then va_up r (20 + c.toNatClampNeg) s else r) (kpP x nw u K S r 2 (clipV r nc c s))) 0 0) 10 [(0, .ref (x + 39)), (1, .int c), (2, .int s)] [] h 0 0 := by
    intro hno
    have e : clipV r nc c s = -1 := by unfold clipV; rw [if_neg (by rw [hno]; decide)]
    rw [e]
    refine r_iconst (pc := 10) (-1) dX1_clipAs_10 rfl ?_
    refine r_iret (pc := 11) rfl ?_ (Nat.le_of_ble_eq_true rfl) (Nat.le_of_ble_eq_true rfl) dX1_clipAs_11
    exact ⟨rfl, Fr.rf, by rw [if_neg (by decide)]; exact hv, kpP_n (by decide) hps⟩
  refine r_iload_n (pc := 0) 2 dX1_clipAs_0 rfl ?_
  refine r_if_lt (pc := 1) (tgt := 10) dX1_clipAs_1 (by decide) (fun c_1 => ?_) (fun c_1 => ?_)
  · exact no1 (by rw [hin, decide_eq_false (fun z => z.1 c_1)])
  · refine r_iload_n (pc := 4) 2 dX1_clipAs_4 rfl ?_
    refine r_bipush (pc := 5) (9) dX1_clipAs_5 rfl ?_
    refine r_icmp_lt (pc := 7) (tgt := 12) dX1_clipAs_7 (by decide) (fun c_7 => ?_) (fun c_7 => ?_)
    · have hsN : inN s 9 = true := by rw [hin, decide_eq_true ⟨c_1, fun z => absurd c_7 (Int32.not_lt.mpr z)⟩]
      refine r_aload_n (pc := 12) 0 dX1_clipAs_12 rfl ?_
      refine r_getR (pc := 13) fl_X1_9 (ca_39 hc) (cf_39_0 hc) dX1_clipAs_13 ?_
      refine r_iload_n (pc := 16) 1 dX1_clipAs_16 rfl ?_
      refine r_dV (pc := 17) (As := [_]) mv_X5_hasCat ml_X1_57 (c5_hasCat hp hv hn h6 _) (pt_is (cs_pt3 hc)) rfl rfl (Nat.le_of_ble_eq_true rfl) (Nat.le_of_ble_eq_true rfl) (Nat.le_of_ble_eq_true rfl) (Nat.le_of_ble_eq_true rfl) (Nat.le_of_ble_eq_true rfl) dX1_clipAs_17 ?_
      refine r_if_ne (pc := 20) (tgt := 26) dX1_clipAs_20 (by decide) (fun c_20 => ?_) (fun c_20 => ?_)
      · have hcN := bI_n0.mp c_20
        obtain ⟨k, hk, ek⟩ := inN_of (by omega) hcN
        obtain ⟨ea, hea, eea⟩ := hear k (by omega)
        refine r_aload_n (pc := 26) 0 dX1_clipAs_26 rfl ?_
        refine r_getR (pc := 27) fl_X1_9 (ca_39 hc) (cf_39_0 hc) dX1_clipAs_27 ?_
        refine r_getR (pc := 30) fl_X1_99 (pt_is (cs_pt3 hc)) (pt_f3 (cs_pt3 hc)) dX1_clipAs_30 ?_
        refine r_iload_n (pc := 33) 1 dX1_clipAs_33 rfl ?_
        refine r_iald (pc := 34) (j := k) (pt_r3 (cs_pt3 hc)) ek (by omega) (by decide) dX1_clipAs_34 ?_
        rw [pv_ea hv (by omega)]
        refine r_istore_n (pc := 35) (lv' := [(0, _), (1, _), (2, _), (3, _)]) dX1_clipAs_35 (Nat.le_of_ble_eq_true rfl) rfl ?_
        refine r_iload_n (pc := 36) 3 dX1_clipAs_36 rfl ?_
        refine r_iload_n (pc := 37) 2 dX1_clipAs_37 rfl ?_
        refine r_icmp_ne (pc := 38) (tgt := 44) dX1_clipAs_38 (by decide) (fun c_38 => ?_) (fun c_38 => ?_)
        · have e : clipV r nc c s = r (20 + k) := by unfold clipV; rw [if_pos hsN, if_pos hcN, ek, nI_clamp (by omega), if_neg c_38]
          have hpos : 0 ≤ clipV r nc c s := by rw [e, eea]; exact nI_pos' (by omega)
          refine r_aload_n (pc := 44) 0 dX1_clipAs_44 rfl ?_
          refine r_getR (pc := 45) fl_X1_22 (ca_39 hc) (cf_39_2 hc) dX1_clipAs_45 ?_
          refine r_iconst (pc := 48) (2) dX1_clipAs_48 rfl ?_
          refine r_aload_n (pc := 49) 0 dX1_clipAs_49 rfl ?_
          refine r_getR (pc := 50) fl_X1_9 (ca_39 hc) (cf_39_0 hc) dX1_clipAs_50 ?_
          refine r_callV (pc := 53) (As := [_, _]) mv_X4_keep ml_X1_49 (c4_keep (cs_ps40 hc) hps hp hv (by omega) 2) (ps_is (cs_ps40 hc)) rfl rfl (Nat.le_of_ble_eq_true rfl) (Nat.le_of_ble_eq_true rfl) (Nat.le_of_ble_eq_true rfl) (Nat.le_of_ble_eq_true rfl) (Nat.le_of_ble_eq_true rfl) dX1_clipAs_53 (fun r h3 hp => ?_)
          obtain ⟨rfl, f3, hps3⟩ := hp
          show Wp E mX1_clipAs _ _ _ _ [] _ 0 0
          have g3 : Fr (acS x) h h3 := f3.mono (fun a k z => (Or.inr (Or.inr z) : acS x a k))
          have hc3 := hc.ac g3
          have hv3 : PtV h3 (x + 3) r := hv.fr f3 (fun i k hi => by unfold psW; omega)
          refine r_aload_n (pc := 56) 0 dX1_clipAs_56 rfl ?_
          refine r_getR (pc := 57) fl_X1_9 (ca_39 hc3) (cf_39_0 hc3) dX1_clipAs_57 ?_
          refine r_getR (pc := 60) fl_X1_99 (pt_is (cs_pt3 hc3)) (pt_f3 (cs_pt3 hc3)) dX1_clipAs_60 ?_
          refine r_iload_n (pc := 63) 1 dX1_clipAs_63 rfl ?_
          refine r_iload_n (pc := 64) 2 dX1_clipAs_64 rfl ?_
          refine r_iast (pc := 65) (j := k) (pt_r3 (cs_pt3 hc3)) ek (by omega) (by decide) dX1_clipAs_65 ?_
          refine r_iload_n (pc := 66) 3 dX1_clipAs_66 rfl ?_
          refine r_iret (pc := 67) rfl ?_ (Nat.le_of_ble_eq_true rfl) (Nat.le_of_ble_eq_true rfl) dX1_clipAs_67
          have hv4 := hv3.ea (k := k) (by omega) s
          have g4 : Fr (acS x) h (wI h3 (x + 3 + 3) k s) := g3.tr (Fr.wI (Or.inr (Or.inl (by unfold ptW; omega))))
          have hps4 : PsV (wI h3 (x + 3 + 3) k s) (x + 40) ((nw + 1) % 16) (kpU u) (kpF K u 2) (kpF S u r) := hps3.fr (S := ptW (x + 3)) (Fr.wI (by unfold ptW; omega)) (by unfold ptW; omega) (by unfold ptW; omega) (fun i k h1 h2 => by unfold ptW; omega)
          refine ⟨by rw [e], g4, ?_, kpP_y hpos hps4⟩
          rw [if_pos hpos, ek, nI_clamp (by omega)]; exact hv4
        · have e : clipV r nc c s = -3 := by unfold clipV; rw [if_pos hsN, if_pos hcN, ek, nI_clamp (by omega), if_pos c_38]
          rw [e]
          refine r_bipush (pc := 41) (-3) dX1_clipAs_41 rfl ?_
          refine r_iret (pc := 43) rfl ?_ (Nat.le_of_ble_eq_true rfl) (Nat.le_of_ble_eq_true rfl) dX1_clipAs_43
          exact ⟨rfl, Fr.rf, by rw [if_neg (by decide)]; exact hv, kpP_n (by decide) hps⟩
      · have e : clipV r nc c s = -2 := by unfold clipV; rw [if_pos hsN, if_neg (by rw [bI_0.mp c_20]; decide)]
        rw [e]
        refine r_bipush (pc := 23) (-2) dX1_clipAs_23 rfl ?_
        refine r_iret (pc := 25) rfl ?_ (Nat.le_of_ble_eq_true rfl) (Nat.le_of_ble_eq_true rfl) dX1_clipAs_25
        exact ⟨rfl, Fr.rf, by rw [if_neg (by decide)]; exact hv, kpP_n (by decide) hps⟩
    · exact no1 (by rw [hin, decide_eq_false (fun z => z.2 (Int32.not_lt.mp c_7))])
theorem and9 : ∀ y, y < 512 → ∀ k, k < 9 → (nI y &&& ((1 : Int32) <<< (nI k &&& 31) ^^^ -1) = nI (y - (if y.testBit k = true then 2 ^ k else 0))) := by decide +kernel
theorem bit_n0 : ∀ k, k < 9 → isB 0 (nI k) = false := by decide +kernel
theorem endR_die {k : Nat} {life : Int32} (hd : (life = 9 ∧ r (14 + k) = 0) ∨ (¬ life = 9 ∧ ¬ r (14 + k) = 0)) (hk : k < 6) : (if r (14 + k) = 0 then va_up (va_up r (8 + k) (-1)) (32 + k) (-1) else va_up (va_up r (8 + k) life) (14 + k) (r (14 + k) &&& ((1 : Int32) <<< (life &&& 31) ^^^ -1))) = dieR r k life := by
  unfold dieR yetF
  rcases hd with ⟨h1, h2⟩ | ⟨h1, h2⟩
  · rw [if_pos h2, if_pos h1, if_pos h1, if_pos h1, h2]
    funext j
    by_cases j1 : j = 32 + k
    · subst j1; rw [va_up_self, va_up_self]
    · rw [va_up_ne _ _ j1, va_up_ne _ _ j1]
      by_cases j2 : j = 14 + k
      · subst j2; rw [va_up_self, va_up_ne _ _ (by omega), h2]; decide
      · rw [va_up_ne _ _ j2]
  · rw [if_neg h2, if_neg h1, if_neg h1, if_neg h1]
    funext j
    by_cases j1 : j = 32 + k
    · subst j1; rw [va_up_self, va_up_ne _ _ (by omega), va_up_ne _ _ (by omega)]
    · rw [va_up_ne _ _ j1]
end DOING2
