/-! the class's own methods: complete -/
section OWN5
variable {E : En} {h : Hp} {x : Nat} {r : Nat → Int32}
theorem wo_set : ∀ n, n ≤ 9 → SetIs (woN r n) n (fun k => aliveF r k && decide (r (32 + k) = -1))
  | 0, _ => SetIs.z
  | n + 1, hn => by
    have ih := wo_set n (by omega)
    rw [woN]
    by_cases hb : aliveF r n = true ∧ r (32 + n) = -1
    · rw [if_pos hb]; exact ih.yes (by omega) (by show (aliveF r n && decide _) = true; rw [hb.1, decide_eq_true hb.2]; rfl)
    · rw [if_neg hb, Int32.or_zero]
      refine ih.no ?_
      show (aliveF r n && decide _) = false
      cases ha : aliveF r n with
      | false => rfl
      | true => rw [decide_eq_false (fun z => hb ⟨ha, z⟩)]; rfl
theorem bar_set {fo : Option (List Cl)} {s : Int32} : ∀ n, n ≤ 9 → SetIs (barN r fo s n) n (fun k => aliveF r k && barF r fo k s)
  | 0, _ => SetIs.z
  | n + 1, hn => by
    have ih := bar_set (fo := fo) (s := s) n (by omega)
    rw [barN]
    by_cases hb : aliveF r n = true ∧ barF r fo n s = true
    · rw [if_pos hb]; exact ih.yes (by omega) (by show (aliveF r n && barF r fo n s) = true; rw [hb.1, hb.2]; rfl)
    · rw [if_neg hb, Int32.or_zero]
      refine ih.no ?_
      show (aliveF r n && barF r fo n s) = false
      cases ha : aliveF r n with
      | false => rfl
      | true =>
        cases hc : barF r fo n s with
        | false => rfl
        | true => exact absurd ⟨ha, hc⟩ hb
theorem crew_set {s : Int32} : ∀ n, n ≤ 9 → SetIs (crewN r s n) n (fun k => decide (r (32 + k) = s))
  | 0, _ => SetIs.z
  | n + 1, hn => by
    have ih := crew_set (s := s) n (by omega)
    rw [crewN]
    by_cases hb : r (32 + n) = s
    · rw [if_pos hb]; exact ih.yes (by omega) (decide_eq_true hb)
    · rw [if_neg hb, Int32.or_zero]; exact ih.no (decide_eq_false hb)
theorem fr_set {F : Nat} (hF : F < 512) : ∀ n, n ≤ 9 → ∃ G, G < 512 ∧ frN r (nI F) n = nI G ∧ ∀ i, i < 9 → G.testBit i = (F.testBit i && (decide (¬ i < n) || decide (r (32 + i) = -1)))
  | 0, _ => ⟨F, hF, rfl, fun i hi => by rw [decide_eq_true (by omega), Bool.true_or, Bool.and_true]⟩
  | n + 1, hn => by
    obtain ⟨G, hG, e, hb⟩ := fr_set hF n (by omega)
    rw [frN, e]
    by_cases h1 : r (32 + n) = -1
    · rw [if_pos h1, Int32.and_neg_one]
      refine ⟨G, hG, rfl, fun i hi => ?_⟩
      rw [hb i hi]
      congr 1
      by_cases h2 : i = n
      · subst h2; rw [decide_eq_true h1, Bool.or_true, Bool.or_true]
      · rw [show decide (¬ i < n) = decide (¬ i < n + 1) from decide_eq_decide.mpr (by omega)]
    · rw [if_neg h1, sh9 n (by omega), andn hG (Nat.lt_of_lt_of_le (Nat.pow_lt_pow_right (by decide) (show n < 9 by omega)) (by decide))]
      refine ⟨_, dfN_lt hG, rfl, fun i hi => ?_⟩
      rw [dfN_bit hi, hb i hi, Nat.testBit_two_pow]
      by_cases h2 : n = i
      · subst h2
        rw [decide_eq_true rfl, decide_eq_false h1, decide_eq_false (show ¬ ¬ n < n + 1 by omega)]
        cases F.testBit n <;> cases decide (¬ n < n) <;> rfl
      · rw [decide_eq_false h2, show decide (¬ i < n) = decide (¬ i < n + 1) from decide_eq_decide.mpr (by omega)]
        cases F.testBit i <;> cases decide (¬ i < n + 1) <;> cases decide (r (32 + i) = -1) <;> rfl
/-- who is free, in both ways -/
theorem free_eq {fo : Option (List Cl)} {s : Int32} {n : Nat} (hn : n ≤ 6) : ∃ F, F < 512 ∧ woN r n &&& (barN r fo s n ^^^ -1) = nI F ∧ frN r (aliveN r n &&& (barN r fo s n ^^^ -1)) n = nI F ∧ ∀ i, i < 9 → F.testBit i = true → i < n := by
  obtain ⟨W, hW, eW, bW⟩ := wo_set (r := r) n (by omega)
  obtain ⟨B, hB, eB, bB⟩ := bar_set (r := r) (fo := fo) (s := s) n (by omega)
  obtain ⟨A, hA, eA, bA⟩ := alive_set (r := r) n (by omega)
  obtain ⟨G, hG, eG, bG⟩ := fr_set (r := r) (F := dfN A B) (dfN_lt hA) n (by omega)
  refine ⟨dfN W B, dfN_lt hW, by rw [eW, eB, andn hW hB], ?_, fun i hi z => ?_⟩
  · rw [eA, eB, andn hA hB, eG]
    congr 1
    apply set_ext hG (dfN_lt hW)
    intro i hi
    rw [bG i hi, dfN_bit hi, dfN_bit hi, bA i hi, bB i hi, bW i hi]
    show (decide (i < n) && aliveF r i && !(decide (i < n) && (aliveF r i && barF r fo i s)) && (decide (¬ i < n) || decide (r (32 + i) = -1))) = (decide (i < n) && (aliveF r i && decide (r (32 + i) = -1)) && !(decide (i < n) && (aliveF r i && barF r fo i s)))
    by_cases h1 : i < n
    · rw [decide_eq_true h1, decide_eq_false (show ¬ ¬ i < n by omega)]
      cases aliveF r i <;> cases barF r fo i s <;> cases decide (r (32 + i) = -1) <;> rfl
    · rw [decide_eq_false h1]; rfl
  · rw [dfN_bit hi, bW i hi] at z
    apply Classical.byContradiction
    intro w
    rw [decide_eq_false w] at z
    cases z
theorem or4 (a b c d : Int32) : (a ||| b) ||| (c ||| d) = (a ||| c) ||| (b ||| d) := by
  rw [Int32.or_assoc, Int32.or_assoc, ← Int32.or_assoc b c d, Int32.or_comm b c, Int32.or_assoc c b d]
theorem isB_or {a b : Nat} (ha : a < 512) (hb : b < 512) {k : Nat} (hk : k < 9) : isB (nI a ||| nI b) (nI k) = (isB (nI a) (nI k) || isB (nI b) (nI k)) := by
  have hab : a ||| b < 512 := Nat.or_lt_two_pow (n := 9) ha hb
  rw [or_nI, isB9 _ hab k hk, isB9 _ ha k hk, isB9 _ hb k hk, Nat.testBit_or]
theorem lives_or {a b : Nat} (ha : a < 512) (hb : b < 512) : ∀ n, n ≤ 9 → livesN r (nI a ||| nI b) n = livesN r (nI a) n ||| livesN r (nI b) n
  | 0, _ => by show (0 : Int32) = 0 ||| 0; decide
  | n + 1, hn => by
    rw [livesN, livesN, livesN, lives_or ha hb n (by omega), or4]
    congr 1
    rw [isB_or ha hb (by omega)]
    cases isB (nI a) (nI n) <;> cases isB (nI b) (nI n) <;> cases aliveF r n <;> simp
theorem demor (n a b : Int32) : n &&& ((a ||| b) ^^^ -1) = (n &&& (a ^^^ -1)) &&& (b ^^^ -1) := by
  apply Int32.toBitVec_inj.mp
  rw [Int32.toBitVec_and, Int32.toBitVec_and, Int32.toBitVec_and, Int32.toBitVec_xor, Int32.toBitVec_xor, Int32.toBitVec_xor, Int32.toBitVec_or]
  apply BitVec.eq_of_getLsbD_eq
  intro i hi
  simp only [BitVec.getLsbD_and, BitVec.getLsbD_xor, BitVec.getLsbD_or]
  have h1 : (Int32.toBitVec (-1)).getLsbD i = true := by
    rw [show Int32.toBitVec (-1) = BitVec.allOnes 32 from by decide, BitVec.getLsbD_allOnes, decide_eq_true hi]
  rw [h1]
  cases n.toBitVec.getLsbD i <;> cases a.toBitVec.getLsbD i <;> cases b.toBitVec.getLsbD i <;> rfl
theorem cp_hi {nc s F : Nat} (h6 : nc ≤ 6) (hF : F < 512) (hb : ∀ i, i < 9 → F.testBit i = true → i < nc) : ∀ d, 2 ^ nc + d ≤ 64 → cpN r nc s (nI F) (2 ^ nc + d) = cpN r nc s (nI F) (2 ^ nc)
  | 0, _ => rfl
  | d + 1, hd => by
    have hFl : F < 2 ^ nc := by
      apply Nat.lt_pow_two_of_testBit
      intro i hi
      rcases Nat.lt_or_ge i 9 with z | z
      · cases hc : F.testBit i with
        | false => rfl
        | true => have := hb i z hc; omega
      · exact Nat.testBit_lt_two_pow (Nat.lt_of_lt_of_le hF (Nat.pow_le_pow_right (n := 2) (by decide) z))
    rw [show 2 ^ nc + (d + 1) = 2 ^ nc + d + 1 by omega, cpN, cp_hi h6 hF hb d (by omega), if_neg]
    intro z
    have z1 := z.1
    rw [andn (by omega) hF] at z1
    have h0 := (nI_z (by have := dfN_lt (a := 2 ^ nc + d) (b := F) (by omega); omega)).mp z1
    have hs := (dfN_0 (by omega)).mp h0
    have := sub_le (by omega) hF hs
    omega
theorem p64 {nc : Nat} (h6 : nc ≤ 6) : 2 ^ nc ≤ 64 := Nat.le_trans (Nat.pow_le_pow_right (by decide) h6) (by decide)
/-- the best so far is a set, and so many -/
theorem cp_inv {nc s : Nat} {f : Int32} : ∀ t, t ≤ 64 → ((cpN r nc s f t).1 = -1 ∧ (cpN r nc s f t).2 = 100000000) ∨ ∃ b, b < 64 ∧ (cpN r nc s f t).1 = nI b ∧ (cpN r nc s f t).2 = nI (pcN b 9)
  | 0, _ => Or.inl ⟨rfl, rfl⟩
  | t + 1, ht => by
    rw [cpN]
    split
    · exact Or.inr ⟨t, by omega, rfl, onesN_pc (by omega) 9 (Nat.le_refl _)⟩
    · exact cp_inv t (by omega)
theorem c11_complete {nc ns nl : Nat} {lw : Option Nat} {fo : Option (List Cl)} (hL : Lv E h x r nc ns nl lw fo) (s w : Int32) : Ct E 5 0 0 mX11_complete [.ref x, .int s, .int w] h (pQ h x (.int (compF r fo nc ns s w))) := by
  obtain ⟨hc, hv, hrw, ⟨h3, hl6⟩, hlw, hfo⟩ := hL
  obtain ⟨hn, h6, hns, hs3, -⟩ := id hrw
  have hp := cs_pt3 hc
  have hpx : pOf x (x + 3) := Or.inl rfl
  refine Ct.of (by decide +kernel) (Nat.le_of_ble_eq_true rfl) ?_
  have no : ¬ (inN s ns = true ∧ inN w 2 = true) → Wp E mX11_complete (Rm 5 0 0) (Qm E (pQ h x (.int (compF r fo nc ns s w))) 0 0) 20 [(0, .ref x), (1, .int s), (2, .int w)] [] h 0 0 := by
    intro hno
    refine r_iconst (pc := 20) (-1) dX11_complete_20 rfl ?_
    refine r_iret (pc := 21) rfl ?_ (Nat.le_of_ble_eq_true rfl) (Nat.le_of_ble_eq_true rfl) dX11_complete_21
    exact ⟨by rw [compF, if_neg hno], Fr.rf⟩
  refine r_aload_n (pc := 0) 0 dX11_complete_0 rfl ?_
  refine r_getR (pc := 1) fl_X11_15 (nl_is hc) (nl_f0 hc) dX11_complete_1 ?_
  refine r_iload_n (pc := 4) 1 dX11_complete_4 rfl ?_
  refine r_dV (pc := 5) (As := [_]) mv_X5_hasShip ml_X11_164 (c5_hasShip hp hv hns hs3 _) (pt_is (cs_pt3 hc)) rfl rfl (Nat.le_of_ble_eq_true rfl) (Nat.le_of_ble_eq_true rfl) (Nat.le_of_ble_eq_true rfl) (Nat.le_of_ble_eq_true rfl) (Nat.le_of_ble_eq_true rfl) dX11_complete_5 ?_
  refine r_if_eq (pc := 8) (tgt := 20) dX11_complete_8 (by decide) (fun c_8 => ?_) (fun c_8 => ?_)
  · exact no (fun z => by rw [bI_0.mp c_8] at z; exact absurd z.1 (by decide))
  · have hsN := bI_n0.mp c_8
    refine r_iload_n (pc := 11) 2 dX11_complete_11 rfl ?_
    refine r_if_lt (pc := 12) (tgt := 20) dX11_complete_12 (by decide) (fun c_12 => ?_) (fun c_12 => ?_)
    · exact no (fun z => absurd ((in_le (b := 1) (by decide)).mp z.2).1 (Int32.not_le.mpr c_12))
    · refine r_iload_n (pc := 15) 2 dX11_complete_15 rfl ?_
      refine r_iconst (pc := 16) (1) dX11_complete_16 rfl ?_
      refine r_icmp_le (pc := 17) (tgt := 22) dX11_complete_17 (by decide) (fun c_17 => ?_) (fun c_17 => ?_)
      · have hin : inN w 2 = true := (in_le (b := 1) (by decide)).mpr ⟨Int32.not_lt.mp c_12, c_17⟩
        obtain ⟨k, hk, ek⟩ := inN_of (by omega) hsN
        obtain ⟨F, hF, eF1, eF2, hFb⟩ := free_eq (r := r) (fo := fo) (s := s) h6
        have eC : compF r fo nc ns s w = (if (cpN r nc k (nI F) 64).1 = -1 ∨ w = 1 then (cpN r nc k (nI F) 64).1 else (cpN r nc k (nI F) 64).2) := by
          have e64 : cpN r nc k (nI F) 64 = cpN r nc k (nI F) (2 ^ nc) := by
            have := p64 h6
            rw [show 64 = 2 ^ nc + (64 - 2 ^ nc) by omega]
            exact cp_hi h6 hF hFb _ (by omega)
          rw [compF, if_pos ⟨hsN, hin⟩, eF2, e64, ek, nI_clamp (by omega)]
        rw [eC]
        refine r_aload_n (pc := 22) 0 dX11_complete_22 rfl ?_
        refine r_getR (pc := 23) fl_X11_15 (nl_is hc) (nl_f0 hc) dX11_complete_23 ?_
        refine r_dV (pc := 26) (As := []) mv_X5_withoutShip ml_X11_284 (c5_withoutShip hp hv hn h6) (pt_is (cs_pt3 hc)) rfl rfl (Nat.le_of_ble_eq_true rfl) (Nat.le_of_ble_eq_true rfl) (Nat.le_of_ble_eq_true rfl) (Nat.le_of_ble_eq_true rfl) (Nat.le_of_ble_eq_true rfl) dX11_complete_26 ?_
        refine r_aload_n (pc := 29) 0 dX11_complete_29 rfl ?_
        refine r_getR (pc := 30) fl_X11_47 (nl_is hc) (nl_f5 hc) dX11_complete_30 ?_
        refine r_aload_n (pc := 33) 0 dX11_complete_33 rfl ?_
        refine r_getR (pc := 34) fl_X11_15 (nl_is hc) (nl_f0 hc) dX11_complete_34 ?_
        refine r_iload_n (pc := 37) 1 dX11_complete_37 rfl ?_
        refine r_callV (pc := 38) (As := [_, _]) mv_X0_barredFrom ml_X11_176 (c0_barredFrom hc hpx hv hn h6 (fun k hk => rw_y hrw hk) h3 hl6 hlw hfo _) (ca_37 hc) rfl rfl (Nat.le_of_ble_eq_true rfl) (Nat.le_of_ble_eq_true rfl) (Nat.le_of_ble_eq_true rfl) (Nat.le_of_ble_eq_true rfl) (Nat.le_of_ble_eq_true rfl) dX11_complete_38 (fun r h2 hp => ?_)
        obtain ⟨rfl, f2⟩ := hp
        show Wp E mX11_complete _ _ _ _ [.int _, .int _] _ 0 0
        have fr2 : Fr (roS x) h h2 := f2.mono (fun _ _ => ak_ro)
        have hc2 := hc.ak f2
        have hv2 := hv.ak hpx f2
        have hp2 := cs_pt3 hc2
        refine r_iconst (pc := 41) (-1) dX11_complete_41 rfl ?_
        refine r_ixor (pc := 42) dX11_complete_42 ?_
        refine r_iand (pc := 43) dX11_complete_43 ?_
        rw [eF1, ek]
        refine r_istore_n (pc := 44) (lv' := [(0, _), (1, _), (2, _), (3, _)]) dX11_complete_44 (Nat.le_of_ble_eq_true rfl) rfl ?_
        refine r_aload_n (pc := 45) 0 dX11_complete_45 rfl ?_
        refine r_getR (pc := 46) fl_X11_15 (nl_is hc2) (nl_f0 hc2) dX11_complete_46 ?_
        refine r_iload_n (pc := 49) 1 dX11_complete_49 rfl ?_
        refine r_dV (pc := 50) (As := [_]) mv_X5_missingOn ml_X11_173 (c5_missingOn hp2 hv2 hn h6 (by omega)) (pt_is (cs_pt3 hc2)) rfl rfl (Nat.le_of_ble_eq_true rfl) (Nat.le_of_ble_eq_true rfl) (Nat.le_of_ble_eq_true rfl) (Nat.le_of_ble_eq_true rfl) (Nat.le_of_ble_eq_true rfl) dX11_complete_50 ?_
        refine r_istore (pc := 53) (lv' := [(0, _), (1, _), (2, _), (3, _), (4, _)]) dX11_complete_53 (Nat.le_of_ble_eq_true rfl) rfl ?_
        refine r_iconst (pc := 55) (-1) dX11_complete_55 rfl ?_
        refine r_istore (pc := 56) (lv' := [(0, _), (1, _), (2, _), (3, _), (4, _), (5, _)]) dX11_complete_56 (Nat.le_of_ble_eq_true rfl) rfl ?_
        refine r_iconst (pc := 58) (0) dX11_complete_58 rfl ?_
        refine r_istore (pc := 59) (lv' := [(0, _), (1, _), (2, _), (3, _), (4, _), (5, _), (6, _)]) dX11_complete_59 (Nat.le_of_ble_eq_true rfl) rfl ?_
        obtain ⟨C, hC, eCr, -⟩ := crew_set (r := r) (s := nI k) nc (by omega)
        have loop : ∀ t, t ≤ 64 → Wp E mX11_complete (Rm 5 0 0) (Qm E (pQ h x (.int (if (cpN r nc k (nI F) 64).1 = -1 ∨ w = 1 then (cpN r nc k (nI F) 64).1 else (cpN r nc k (nI F) 64).2))) 0 0) 61 [(0, .ref x), (1, .int (nI k)), (2, .int w), (3, .int (nI F)), (4, .int (r (38 + k) &&& (livesN r (crewN r (nI k) nc) nc ^^^ -1))), (5, .int (cpN r nc k (nI F) t).1), (6, .int (nI t))] [] h2 0 0 := by
          refine upTo (fun t ht ih => ?_) ?_
          · have eL : ∀ m : Int32, m &&& (livesN r (crewN r (nI k) nc ||| nI t) nc ^^^ -1) = (m &&& (livesN r (crewN r (nI k) nc) nc ^^^ -1)) &&& (livesN r (nI t) nc ^^^ -1) := fun m => by
              rw [eCr, lives_or hC (by omega) nc (by omega), demor]
            have no2 : ¬ (nI t &&& (nI F ^^^ -1) = 0 ∧ onesN (nI t) 9 < (cpN r nc k (nI F) t).2 ∧ r (38 + k) &&& (livesN r (crewN r (nI k) nc ||| nI t) nc ^^^ -1) = 0) → ∀ v7 : Int32, Wp E mX11_complete (Rm 5 0 0) (Qm E (pQ h x (.int (if (cpN r nc k (nI F) 64).1 = -1 ∨ w = 1 then (cpN r nc k (nI F) 64).1 else (cpN r nc k (nI F) 64).2))) 0 0) 129 [(0, .ref x), (1, .int (nI k)), (2, .int w), (3, .int (nI F)), (4, .int (r (38 + k) &&& (livesN r (crewN r (nI k) nc) nc ^^^ -1))), (5, .int (cpN r nc k (nI F) t).1), (6, .int (nI t)), (7, .int v7)] [] h2 0 0 := by
              intro hno v7
              have e9 : cpN r nc k (nI F) (t + 1) = cpN r nc k (nI F) t := by rw [cpN, if_neg hno]
              rw [e9] at ih
              refine r_iinc (pc := 129) (v := _ + (1)) (lv' := [(0, _), (1, _), (2, _), (3, _), (4, _), (5, _), (6, _), (7, _)]) 6 dX11_complete_129 rfl rfl (Nat.le_of_ble_eq_true rfl) rfl ?_
              refine r_goto (pc := 132) (tgt := 61) dX11_complete_132 (by decide) ?_
              refine r_sub [0, 1, 2, 3, 4, 5, 6] rfl ?_
              rw [nI_1]; exact ih
            have yes : (nI t &&& (nI F ^^^ -1) = 0 ∧ onesN (nI t) 9 < (cpN r nc k (nI F) t).2 ∧ r (38 + k) &&& (livesN r (crewN r (nI k) nc ||| nI t) nc ^^^ -1) = 0) → ∀ v7 : Int32, Wp E mX11_complete (Rm 5 0 0) (Qm E (pQ h x (.int (if (cpN r nc k (nI F) 64).1 = -1 ∨ w = 1 then (cpN r nc k (nI F) 64).1 else (cpN r nc k (nI F) 64).2))) 0 0) 125 [(0, .ref x), (1, .int (nI k)), (2, .int w), (3, .int (nI F)), (4, .int (r (38 + k) &&& (livesN r (crewN r (nI k) nc) nc ^^^ -1))), (5, .int (cpN r nc k (nI F) t).1), (6, .int (nI t)), (7, .int v7)] [] h2 0 0 := by
              intro hyes v7
              have e9 : cpN r nc k (nI F) (t + 1) = (nI t, onesN (nI t) 9) := by rw [cpN, if_pos hyes]
              rw [e9] at ih
              refine r_iload (pc := 125) 6 dX11_complete_125 rfl ?_
              refine r_istore (pc := 127) (lv' := [(0, _), (1, _), (2, _), (3, _), (4, _), (5, _), (6, _), (7, _)]) dX11_complete_127 (Nat.le_of_ble_eq_true rfl) rfl ?_
              refine r_iinc (pc := 129) (v := _ + (1)) (lv' := [(0, _), (1, _), (2, _), (3, _), (4, _), (5, _), (6, _), (7, _)]) 6 dX11_complete_129 rfl rfl (Nat.le_of_ble_eq_true rfl) rfl ?_
              refine r_goto (pc := 132) (tgt := 61) dX11_complete_132 (by decide) ?_
              refine r_sub [0, 1, 2, 3, 4, 5, 6] rfl ?_
              rw [nI_1]; exact ih
            have at99 : ∀ b : Bool, b = decide (nI t &&& (nI F ^^^ -1) = 0 ∧ r (38 + k) &&& (livesN r (crewN r (nI k) nc ||| nI t) nc ^^^ -1) = 0) → Wp E mX11_complete (Rm 5 0 0) (Qm E (pQ h x (.int (if (cpN r nc k (nI F) 64).1 = -1 ∨ w = 1 then (cpN r nc k (nI F) 64).1 else (cpN r nc k (nI F) 64).2))) 0 0) 99 [(0, .ref x), (1, .int (nI k)), (2, .int w), (3, .int (nI F)), (4, .int (r (38 + k) &&& (livesN r (crewN r (nI k) nc) nc ^^^ -1))), (5, .int (cpN r nc k (nI F) t).1), (6, .int (nI t))] [.int (bI b)] h2 0 0 := by
              rintro b rfl
              refine r_istore (pc := 99) (lv' := [(0, _), (1, _), (2, _), (3, _), (4, _), (5, _), (6, _), (7, _)]) dX11_complete_99 (Nat.le_of_ble_eq_true rfl) rfl ?_
              refine r_iload (pc := 101) 7 dX11_complete_101 rfl ?_
              refine r_if_eq (pc := 103) (tgt := 129) dX11_complete_103 (by decide) (fun c_103 => ?_) (fun c_103 => ?_)
              · exact no2 (fun z => of_decide_eq_false (bI_0.mp c_103) ⟨z.1, z.2.2⟩) _
              · obtain ⟨g1, g2⟩ := of_decide_eq_true (bI_n0.mp c_103)
                rcases cp_inv (r := r) (nc := nc) (s := k) (f := nI F) t (by omega) with ⟨i1, i2⟩ | ⟨bb, hbb, i1, i2⟩
                · refine r_iload (pc := 106) 5 dX11_complete_106 rfl ?_
                  refine r_iconst (pc := 108) (-1) dX11_complete_108 rfl ?_
                  refine r_icmp_eq (pc := 109) (tgt := 125) dX11_complete_109 (by decide) (fun c_109 => ?_) (fun c_109 => ?_)
                  · exact yes ⟨g1, by rw [i2, onesN_pc (by omega) 9 (Nat.le_refl _)]; exact nI_lt (b := 100000000) (by have := pc_le9 t (by omega); omega) (by decide), g2⟩ _
                  · exact absurd i1 c_109
                · refine r_iload (pc := 106) 5 dX11_complete_106 rfl ?_
                  refine r_iconst (pc := 108) (-1) dX11_complete_108 rfl ?_
                  refine r_icmp_eq (pc := 109) (tgt := 125) dX11_complete_109 (by decide) (fun c_109 => ?_) (fun c_109 => ?_)
                  · rw [i1] at c_109
                    exact absurd c_109.symm (m1_nI (by omega))
                  · refine r_iload (pc := 112) 6 dX11_complete_112 rfl ?_
                    refine r_dS (pc := 114) (As := [_]) ms_J6_bitCount_0f7a4 ml_X11_290 (ct_bitCount _) rfl rfl (Nat.le_of_ble_eq_true rfl) (Nat.le_of_ble_eq_true rfl) (Nat.le_of_ble_eq_true rfl) (Nat.le_of_ble_eq_true rfl) (Nat.le_of_ble_eq_true rfl) dX11_complete_114 ?_
                    refine r_iload (pc := 117) 5 dX11_complete_117 rfl ?_
                    refine r_dS (pc := 119) (As := [_]) ms_J6_bitCount_0f7a4 ml_X11_290 (ct_bitCount _) rfl rfl (Nat.le_of_ble_eq_true rfl) (Nat.le_of_ble_eq_true rfl) (Nat.le_of_ble_eq_true rfl) (Nat.le_of_ble_eq_true rfl) (Nat.le_of_ble_eq_true rfl) dX11_complete_119 ?_
                    rw [i1, bcF_pc t (by omega), bcF_pc bb (by omega), ← i1]
                    refine r_icmp_ge (pc := 122) (tgt := 129) dX11_complete_122 (by decide) (fun c_122 => ?_) (fun c_122 => ?_)
                    · exact no2 (fun z => by
                        have z2 := z.2.1
                        rw [i2, onesN_pc (by omega) 9 (Nat.le_refl _)] at z2
                        exact absurd c_122 (Int32.not_le.mpr z2)) _
                    · exact yes ⟨g1, by rw [i2, onesN_pc (by omega) 9 (Nat.le_refl _)]; exact Int32.not_le.mp c_122, g2⟩ _
            refine r_iload (pc := 61) 6 dX11_complete_61 rfl ?_
            refine r_bipush (pc := 63) (64) dX11_complete_63 rfl ?_
            refine r_icmp_ge (pc := 65) (tgt := 135) dX11_complete_65 (by decide) (fun c_65 => ?_) (fun c_65 => ?_)
            · exact absurd c_65 (nI_ge (b := 64) ht (by decide))
            · refine r_iload (pc := 68) 6 dX11_complete_68 rfl ?_
              refine r_iload_n (pc := 70) 3 dX11_complete_70 rfl ?_
              refine r_iconst (pc := 71) (-1) dX11_complete_71 rfl ?_
              refine r_ixor (pc := 72) dX11_complete_72 ?_
              refine r_iand (pc := 73) dX11_complete_73 ?_
              refine r_if_ne (pc := 74) (tgt := 98) dX11_complete_74 (by decide) (fun c_74 => ?_) (fun c_74 => ?_)
              · refine r_iconst (pc := 98) (0) dX11_complete_98 rfl ?_
                exact at99 false (decide_eq_false (fun z => c_74 z.1)).symm
              · refine r_iload (pc := 77) 4 dX11_complete_77 rfl ?_
                refine r_aload_n (pc := 79) 0 dX11_complete_79 rfl ?_
                refine r_getR (pc := 80) fl_X11_15 (nl_is hc2) (nl_f0 hc2) dX11_complete_80 ?_
                refine r_iload (pc := 83) 6 dX11_complete_83 rfl ?_
                refine r_dV (pc := 85) (As := [_]) mv_X5_livesOf ml_X11_287 (c5_livesOf hp2 hv2 hn h6 _) (pt_is (cs_pt3 hc2)) rfl rfl (Nat.le_of_ble_eq_true rfl) (Nat.le_of_ble_eq_true rfl) (Nat.le_of_ble_eq_true rfl) (Nat.le_of_ble_eq_true rfl) (Nat.le_of_ble_eq_true rfl) dX11_complete_85 ?_
                refine r_iconst (pc := 88) (-1) dX11_complete_88 rfl ?_
                refine r_ixor (pc := 89) dX11_complete_89 ?_
                refine r_iand (pc := 90) dX11_complete_90 ?_
                refine r_if_ne (pc := 91) (tgt := 98) dX11_complete_91 (by decide) (fun c_91 => ?_) (fun c_91 => ?_)
                · refine r_iconst (pc := 98) (0) dX11_complete_98 rfl ?_
                  exact at99 false (decide_eq_false (fun z => c_91 (by rw [← eL]; exact z.2))).symm
                · refine r_iconst (pc := 94) (1) dX11_complete_94 rfl ?_
                  refine r_goto (pc := 95) (tgt := 99) dX11_complete_95 (by decide) ?_
                  exact at99 true (decide_eq_true ⟨c_74, by rw [eL]; exact c_91⟩).symm
          · refine r_iload (pc := 61) 6 dX11_complete_61 rfl ?_
            refine r_bipush (pc := 63) (64) dX11_complete_63 rfl ?_
            refine r_icmp_ge (pc := 65) (tgt := 135) dX11_complete_65 (by decide) (fun c_65 => ?_) (fun c_65 => ?_)
            · rcases cp_inv (r := r) (nc := nc) (s := k) (f := nI F) 64 (by omega) with ⟨i1, i2⟩ | ⟨bb, hbb, i1, i2⟩
              · refine r_iload_n (pc := 135) 2 dX11_complete_135 rfl ?_
                refine r_if_ne (pc := 136) (tgt := 153) dX11_complete_136 (by decide) (fun c_136 => ?_) (fun c_136 => ?_)
                · refine r_iload (pc := 153) 5 dX11_complete_153 rfl ?_
                  refine r_iret (pc := 155) rfl ?_ (Nat.le_of_ble_eq_true rfl) (Nat.le_of_ble_eq_true rfl) dX11_complete_155
                  exact ⟨by rw [if_pos (Or.inl i1)], fr2⟩
                · refine r_iload (pc := 139) 5 dX11_complete_139 rfl ?_
                  refine r_iconst (pc := 141) (-1) dX11_complete_141 rfl ?_
                  refine r_icmp_eq (pc := 142) (tgt := 153) dX11_complete_142 (by decide) (fun c_142 => ?_) (fun c_142 => ?_)
                  · refine r_iload (pc := 153) 5 dX11_complete_153 rfl ?_
                    refine r_iret (pc := 155) rfl ?_ (Nat.le_of_ble_eq_true rfl) (Nat.le_of_ble_eq_true rfl) dX11_complete_155
                    exact ⟨by rw [if_pos (Or.inl i1)], fr2⟩
                  · exact absurd i1 c_142
              · have hn1 : ¬ (cpN r nc k (nI F) 64).1 = -1 := by rw [i1]; exact fun z => m1_nI (by omega) z.symm
                refine r_iload_n (pc := 135) 2 dX11_complete_135 rfl ?_
                refine r_if_ne (pc := 136) (tgt := 153) dX11_complete_136 (by decide) (fun c_136 => ?_) (fun c_136 => ?_)
                · have hw1 : w = 1 := by
                    obtain ⟨q, hq, eq⟩ := inN_of (by decide) hin
                    rcases (show q = 0 ∨ q = 1 by omega) with rfl | rfl
                    · exact absurd eq c_136
                    · exact eq
                  refine r_iload (pc := 153) 5 dX11_complete_153 rfl ?_
                  refine r_iret (pc := 155) rfl ?_ (Nat.le_of_ble_eq_true rfl) (Nat.le_of_ble_eq_true rfl) dX11_complete_155
                  exact ⟨by rw [if_pos (Or.inr hw1)], fr2⟩
                · refine r_iload (pc := 139) 5 dX11_complete_139 rfl ?_
                  refine r_iconst (pc := 141) (-1) dX11_complete_141 rfl ?_
                  refine r_icmp_eq (pc := 142) (tgt := 153) dX11_complete_142 (by decide) (fun c_142 => ?_) (fun c_142 => ?_)
                  · exact absurd c_142 hn1
                  · refine r_iload (pc := 145) 5 dX11_complete_145 rfl ?_
                    refine r_dS (pc := 147) (As := [_]) ms_J6_bitCount_0f7a4 ml_X11_290 (ct_bitCount _) rfl rfl (Nat.le_of_ble_eq_true rfl) (Nat.le_of_ble_eq_true rfl) (Nat.le_of_ble_eq_true rfl) (Nat.le_of_ble_eq_true rfl) (Nat.le_of_ble_eq_true rfl) dX11_complete_147 ?_
                    refine r_goto (pc := 150) (tgt := 155) dX11_complete_150 (by decide) ?_
                    refine r_iret (pc := 155) rfl ?_ (Nat.le_of_ble_eq_true rfl) (Nat.le_of_ble_eq_true rfl) dX11_complete_155
                    refine ⟨?_, fr2⟩
                    rw [if_neg (fun z => z.elim hn1 (fun w1 => by rw [w1] at c_136; exact absurd c_136 (by decide))), i1, bcF_pc bb (by omega), i2]
            · exact absurd (show (64 : Int32) ≤ nI 64 by decide) c_65
        exact loop 0 (by omega)
      · exact no (fun z => absurd ((in_le (b := 1) (by decide)).mp z.2).2 c_17)
end OWN5
