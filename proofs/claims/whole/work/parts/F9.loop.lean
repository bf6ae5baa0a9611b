/-! the law: its loop, and all of it -/
section LOOP
variable {E : En} {g : Hp} {μ : Mu} {l : La} {Q : Qg} {b L i cl sl T : Nat} {xs : Nat → Int32} {nm : String}
theorem and63 (v : Int32) : ∃ k, k < 64 ∧ v &&& 63 = nI k := by
  refine ⟨v.toBitVec.toNat &&& 63, Nat.lt_succ_of_le Nat.and_le_right, ?_⟩
  apply Int32.toBitVec_inj.mp
  show v.toBitVec &&& 63#32 = BitVec.ofNat 32 (v.toBitVec.toNat &&& 63)
  apply BitVec.eq_of_toNat_eq
  rw [BitVec.toNat_and, BitVec.toNat_ofNat]
  show v.toBitVec.toNat &&& 63 = (v.toBitVec.toNat &&& 63) % 2 ^ 32
  rw [Nat.mod_eq_of_lt (Nat.lt_of_le_of_lt Nat.and_le_right (by decide))]
theorem law_turn (hi : Inv E g μ l) (har : ArK E b L xs) (hL3 : L ≤ 3072) (hst : StK E "NineLives" "MOST_OF_TERM" "[I" (.ref T)) (haM : TaK E T 3 mostF) (hao : AoK E "NineLives$Text") (hi3 : i ≤ 4000) (fin : Wp E (mL nm) room_1 Q 1160 (lvL E b i) [] g cl sl) (hb : i + 6 ≤ L → cl + 10 ≤ 6000 ∧ sl + 869 ≤ 500000) (step : i + 6 ≤ L → ∀ g2 μ2 l2 cl2 sl2, Inv E g2 μ2 l2 → cl2 ≤ cl + 10 → sl2 ≤ sl + 869 → Wp E (mL nm) room_1 Q 18 (lvL E b (i + 6)) [] g2 cl2 sl2) : Wp E (mL nm) room_1 Q 18 (lvL E b i) [] g cl sl := by
  refine r_iload_n (pc := 18) 3 dL_law_18 rfl ?_
  refine r_aload_n (pc := 19) 0 dL_law_19 rfl ?_
  refine r_slen (pc := 20) har dL_law_20 ?_
  refine r_bipush (pc := 21) (6) dL_law_21 rfl ?_
  refine r_isub (pc := 23) dL_law_23 ?_
  refine r_icmp_gt (pc := 24) (tgt := 1160) dL_law_24 (by decide) (fun _ => fin) (fun hn => ?_)
  have hij : i + 6 ≤ L := by
    rcases Nat.lt_or_ge L 6 with z | z
    · have h0 : nI L - 6 < 0 := by
        rcases (by omega : L = 0 ∨ L = 1 ∨ L = 2 ∨ L = 3 ∨ L = 4 ∨ L = 5) with rfl | rfl | rfl | rfl | rfl | rfl <;> decide
      exact absurd (Int32.lt_of_lt_of_le h0 (nI_pos' (by omega))) hn
    · rcases Nat.lt_or_ge (L - 6) i with w | w
      · have e6 : nI L - 6 = nI (L - 6) := nI_sub z
        rw [e6] at hn
        exact absurd (nI_lt w (by omega)) hn
      · omega
  obtain ⟨hb1, hb2⟩ := hb hij
  have next : ∀ g2 μ2 l2 cl2 sl2, Inv E g2 μ2 l2 → cl2 ≤ cl + 10 → sl2 ≤ sl + 869 → Wp E (mL nm) room_1 Q 1154 (lvL E b i) [] g2 cl2 sl2 := fun g2 μ2 l2 cl2 sl2 h2 q1 q2 => by
    refine r_iinc (pc := 1154) (v := _ + (6)) (lv' := [(0, _), (1, _), (2, _), (3, _)]) 3 dL_law_1154 rfl rfl (Nat.le_of_ble_eq_true rfl) rfl ?_
    refine r_goto (pc := 1157) (tgt := 18) dL_law_1157 (by decide) ?_
    rw [show nI i + 6 = nI (i + 6) from nI_add i 6]
    exact step hij g2 μ2 l2 cl2 sl2 h2 q1 q2
  refine r_aload_n (pc := 27) 0 dL_law_27 rfl ?_
  refine r_iload_n (pc := 28) 3 dL_law_28 rfl ?_
  refine r_sld (pc := 29) (j := i) har rfl (by omega) (by omega) dL_law_29 ?_
  refine r_bipush (pc := 30) (63) dL_law_30 rfl ?_
  refine r_iand (pc := 32) dL_law_32 ?_
  obtain ⟨k, hk, e⟩ := and63 (xs i)
  rw [e]
  rcases Nat.lt_or_ge k 39 with z | z
  · rcases (by omega : k = 0 ∨ k = 1 ∨ k = 2 ∨ k = 3 ∨ k = 4 ∨ k = 5 ∨ k = 6 ∨ k = 7 ∨ k = 8 ∨ k = 9 ∨ k = 10 ∨ k = 11 ∨ k = 12 ∨ k = 13 ∨ k = 14 ∨ k = 15 ∨ k = 16 ∨ k = 17 ∨ k = 18 ∨ k = 19 ∨ k = 20 ∨ k = 21 ∨ k = 22 ∨ k = 23 ∨ k = 24 ∨ k = 25 ∨ k = 26 ∨ k = 27 ∨ k = 28 ∨ k = 29 ∨ k = 30 ∨ k = 31 ∨ k = 32 ∨ k = 33 ∨ k = 34 ∨ k = 35 ∨ k = 36 ∨ k = 37 ∨ k = 38) with rfl | rfl | rfl | rfl | rfl | rfl | rfl | rfl | rfl | rfl | rfl | rfl | rfl | rfl | rfl | rfl | rfl | rfl | rfl | rfl | rfl | rfl | rfl | rfl | rfl | rfl | rfl | rfl | rfl | rfl | rfl | rfl | rfl | rfl | rfl | rfl | rfl | rfl | rfl
    · refine r_tableIn (pc := 33) (off := 171) (tgt := 204) dL_law_33 (by decide) (by decide) (by decide +kernel) (by decide) ?_
      exact lc_cat hi har hL3 hij hb1 hb2 next
    · refine r_tableIn (pc := 33) (off := 194) (tgt := 227) dL_law_33 (by decide) (by decide) (by decide +kernel) (by decide) ?_
      exact lc_of hi har hL3 hij hb1 hb2 next
    · refine r_tableIn (pc := 33) (off := 227) (tgt := 260) dL_law_33 (by decide) (by decide) (by decide +kernel) (by decide) ?_
      exact lc_ship hi har hL3 hij hb1 hb2 next
    · refine r_tableIn (pc := 33) (off := 250) (tgt := 283) dL_law_33 (by decide) (by decide) (by decide +kernel) (by decide) ?_
      exact lc_at hi har hL3 hij hb1 hb2 next
    · refine r_tableIn (pc := 33) (off := 283) (tgt := 316) dL_law_33 (by decide) (by decide) (by decide +kernel) (by decide) ?_
      exact lc_terms hi har hL3 hij hb1 hb2 hst haM next
    · refine r_tableIn (pc := 33) (off := 316) (tgt := 349) dL_law_33 (by decide) (by decide) (by decide +kernel) (by decide) ?_
      exact lc_feed hi har hL3 hij hb1 hb2 next
    · refine r_tableIn (pc := 33) (off := 379) (tgt := 412) dL_law_33 (by decide) (by decide) (by decide +kernel) (by decide) ?_
      exact lc_end hi har hL3 hij hb1 hb2 next
    · refine r_tableIn (pc := 33) (off := 402) (tgt := 435) dL_law_33 (by decide) (by decide) (by decide +kernel) (by decide) ?_
      exact lc_row hi har hL3 hij hb1 hb2 next
    · refine r_tableIn (pc := 33) (off := 415) (tgt := 448) dL_law_33 (by decide) (by decide) (by decide +kernel) (by decide) ?_
      exact lc_mice hi har hL3 hij hb1 hb2 next
    · refine r_tableIn (pc := 33) (off := 428) (tgt := 461) dL_law_33 (by decide) (by decide) (by decide +kernel) (by decide) ?_
      exact lc_law hi har hL3 hij hb1 hb2 next
    · refine r_tableIn (pc := 33) (off := 441) (tgt := 474) dL_law_33 (by decide) (by decide) (by decide +kernel) (by decide) ?_
      exact lc_orders hi har hL3 hij hb1 hb2 next
    · refine r_tableIn (pc := 33) (off := 454) (tgt := 487) dL_law_33 (by decide) (by decide) (by decide +kernel) (by decide) ?_
      exact lc_fault hi har hL3 hij hb1 hb2 next
    · refine r_tableIn (pc := 33) (off := 467) (tgt := 500) dL_law_33 (by decide) (by decide) (by decide +kernel) (by decide) ?_
      exact lc_stopped hi har hL3 hij hb1 hb2 next
    · refine r_tableIn (pc := 33) (off := 480) (tgt := 513) dL_law_33 (by decide) (by decide) (by decide +kernel) (by decide) ?_
      exact lc_force hi har hL3 hij hb1 hb2 next
    · refine r_tableIn (pc := 33) (off := 503) (tgt := 536) dL_law_33 (by decide) (by decide) (by decide +kernel) (by decide) ?_
      exact lc_sign hi har hL3 hij hb1 hb2 next
    · refine r_tableIn (pc := 33) (off := 536) (tgt := 569) dL_law_33 (by decide) (by decide) (by decide +kernel) (by decide) ?_
      exact lc_die hi har hL3 hij hb1 hb2 next
    · refine r_tableIn (pc := 33) (off := 569) (tgt := 602) dL_law_33 (by decide) (by decide) (by decide +kernel) (by decide) ?_
      exact lc_clip hi har hL3 hij hb1 hb2 next
    · refine r_tableIn (pc := 33) (off := 602) (tgt := 635) dL_law_33 (by decide) (by decide) (by decide +kernel) (by decide) ?_
      exact lc_pass hi har hL3 hij hb1 hb2 next
    · refine r_tableIn (pc := 33) (off := 615) (tgt := 648) dL_law_33 (by decide) (by decide) (by decide +kernel) (by decide) ?_
      exact lc_undo hi har hL3 hij hb1 hb2 next
    · refine r_tableIn (pc := 33) (off := 628) (tgt := 661) dL_law_33 (by decide) (by decide) (by decide +kernel) (by decide) ?_
      exact lc_had hi har hL3 hij hb1 hb2 next
    · refine r_tableIn (pc := 33) (off := 662) (tgt := 695) dL_law_33 (by decide) (by decide) (by decide +kernel) (by decide) ?_
      exact lc_next hi har hL3 hij hb1 hb2 next
    · refine r_tableIn (pc := 33) (off := 695) (tgt := 728) dL_law_33 (by decide) (by decide) (by decide +kernel) (by decide) ?_
      exact lc_likely hi har hL3 hij hb1 hb2 next
    · refine r_tableIn (pc := 33) (off := 729) (tgt := 762) dL_law_33 (by decide) (by decide) (by decide +kernel) (by decide) ?_
      exact lc_seen hi har hL3 hij hb1 hb2 next
    · refine r_tableIn (pc := 33) (off := 752) (tgt := 785) dL_law_33 (by decide) (by decide) (by decide +kernel) (by decide) ?_
      exact lc_forget hi har hL3 hij hb1 hb2 next
    · refine r_tableIn (pc := 33) (off := 765) (tgt := 798) dL_law_33 (by decide) (by decide) (by decide +kernel) (by decide) ?_
      exact lc_canBe hi har hL3 hij hb1 hb2 next
    · refine r_tableIn (pc := 33) (off := 788) (tgt := 821) dL_law_33 (by decide) (by decide) (by decide +kernel) (by decide) ?_
      exact lc_look hi har hL3 hij hb1 hb2 next
    · refine r_tableIn (pc := 33) (off := 821) (tgt := 854) dL_law_33 (by decide) (by decide) (by decide +kernel) (by decide) ?_
      exact lc_explained hi har hL3 hij hb1 hb2 next
    · refine r_tableIn (pc := 33) (off := 844) (tgt := 877) dL_law_33 (by decide) (by decide) (by decide +kernel) (by decide) ?_
      exact lc_complete hi har hL3 hij hb1 hb2 next
    · refine r_tableIn (pc := 33) (off := 877) (tgt := 910) dL_law_33 (by decide) (by decide) (by decide +kernel) (by decide) ?_
      exact lc_safe hi har hL3 hij hb1 hb2 next
    · refine r_tableIn (pc := 33) (off := 901) (tgt := 934) dL_law_33 (by decide) (by decide) (by decide +kernel) (by decide) ?_
      exact lc_frauds hi har hL3 hij hb1 hb2 next
    · refine r_tableIn (pc := 33) (off := 914) (tgt := 947) dL_law_33 (by decide) (by decide) (by decide +kernel) (by decide) ?_
      exact lc_passing hi har hL3 hij hb1 hb2 next
    · refine r_tableIn (pc := 33) (off := 937) (tgt := 970) dL_law_33 (by decide) (by decide) (by decide +kernel) (by decide) ?_
      exact lc_unused hi har hL3 hij hb1 hb2 next
    · refine r_tableIn (pc := 33) (off := 950) (tgt := 983) dL_law_33 (by decide) (by decide) (by decide +kernel) (by decide) ?_
      exact lc_rich hi har hL3 hij hb1 hb2 next
    · refine r_tableIn (pc := 33) (off := 973) (tgt := 1006) dL_law_33 (by decide) (by decide) (by decide +kernel) (by decide) ?_
      exact lc_years hi har hL3 hij hb1 hb2 next
    · refine r_tableIn (pc := 33) (off := 1006) (tgt := 1039) dL_law_33 (by decide) (by decide) (by decide +kernel) (by decide) ?_
      exact lc_drawn hi har hL3 hij hb1 hb2 next
    · refine r_tableIn (pc := 33) (off := 1039) (tgt := 1072) dL_law_33 (by decide) (by decide) (by decide +kernel) (by decide) ?_
      exact lc_image hi har hL3 hij hb1 hb2 hao next
    · refine r_tableIn (pc := 33) (off := 1062) (tgt := 1095) dL_law_33 (by decide) (by decide) (by decide +kernel) (by decide) ?_
      exact lc_back hi har hL3 hij hb1 hb2 next
    · refine r_tableIn (pc := 33) (off := 1085) (tgt := 1118) dL_law_33 (by decide) (by decide) (by decide +kernel) (by decide) ?_
      exact lc_count hi har hL3 hij hb1 hb2 next
    · refine r_tableIn (pc := 33) (off := 1108) (tgt := 1141) dL_law_33 (by decide) (by decide) (by decide +kernel) (by decide) ?_
      exact lc_status hi har hL3 hij hb1 hb2 next
  · refine r_tableOut (pc := 33) (tgt := 1154) dL_law_33 (Or.inr ?_) (by decide) (next _ _ _ _ _ hi (by omega) (by omega))
    rw [nI_toInt (by omega)]
    omega
theorem law_loop (har : ArK E b L xs) (hL3 : L ≤ 3072) (hst : StK E "NineLives" "MOST_OF_TERM" "[I" (.ref T)) (haM : TaK E T 3 mostF) (hao : AoK E "NineLives$Text") (fin : ∀ i g cl sl, cl ≤ 6000 → sl ≤ 500000 → Wp E (mL nm) room_1 Q 1160 (lvL E b i) [] g cl sl) : ∀ (n i : Nat) (g : Hp) (μ : Mu) (l : La) (cl sl : Nat), Inv E g μ l → L ≤ i + 6 * n → i ≤ L + 6 → cl + 10 * n ≤ 6000 → sl + 869 * n ≤ 500000 → Wp E (mL nm) room_1 Q 18 (lvL E b i) [] g cl sl := by
  intro n
  induction n with
  | zero =>
    intro i g μ l cl sl hi h1 h2 h3 h4
    exact law_turn hi har hL3 hst haM hao (by omega) (fin i g cl sl (by omega) (by omega)) (fun z => by omega) (fun z => by omega)
  | succ n ih =>
    intro i g μ l cl sl hi h1 h2 h3 h4
    have a1 : cl + 10 + 10 * n ≤ 6000 := by omega
    have a2 : sl + 869 + 869 * n ≤ 500000 := by omega
    have a3 : cl + 10 ≤ 6000 := Nat.le_trans (Nat.le_add_right _ _) a1
    have a4 : sl + 869 ≤ 500000 := Nat.le_trans (Nat.le_add_right _ _) a2
    refine law_turn hi har hL3 hst haM hao (by omega) (fin i g cl sl (by omega) (by omega)) (fun _ => And.intro a3 a4) (fun z g2 μ2 l2 cl2 sl2 hi2 q1 q2 => ?_)
    exact ih (i + 6) g2 μ2 l2 cl2 sl2 hi2 (by omega) (by omega) (by omega) (by omega)
theorem law_all {q w : Nat} {v : Value} (har : ArK E b L xs) (hL3 : L ≤ 3072) (hst : StK E "NineLives" "MOST_OF_TERM" "[I" (.ref T)) (haM : TaK E T 3 mostF) (haT : AoK E "NineLives$Text") (haP : AoK E "NineLives$Port") (haI : AoI E) (hTx : TxK E q w) (hCo : CoK E) (hFo : FoK E v) (fin : ∀ i g cl sl, cl ≤ 6000 → sl ≤ 500000 → Wp E (mL nm) room_1 Q 1160 (lvL E b i) [] g cl sl) : Wp E (mL nm) room_1 Q 0 [(0, .ref b)] [] (bL (eZ E) 0 [] [] [] []) 0 0 := by
  refine b_new (pc := 0) (n1 := 1) nl_L_7 ⟨by decide +kernel, by decide +kernel, by decide +kernel⟩ rfl (Nat.le_of_ble_eq_true rfl) (Nat.le_of_ble_eq_true rfl) dL_law_0 ?_
  refine r_dup (pc := 3) dL_law_3 rfl ?_
  refine r_callI (pc := 4) (As := []) mn_X11_init ml_L_9 (c_X11_init haT haP haI hTx hCo hFo) rfl rfl (Nat.le_of_ble_eq_true rfl) (Nat.le_of_ble_eq_true rfl) (Nat.le_of_ble_eq_true rfl) (Nat.le_of_ble_eq_true rfl) (Nat.le_of_ble_eq_true rfl) dL_law_4 (fun r1 g1 hp => ?_)
  obtain ⟨rfl, rfl⟩ := hp
  show Wp E (mL nm) _ _ _ _ [.ref (eZ E + 0)] (bL (eZ E) 102 [(101, 13, 7), (100, 13, 512), (99, 13, 72), (98, 13, 10), (97, 13, 60), (96, 8, 0), (95, 14, 10), (94, 13, 9), (93, 13, 81), (92, 13, 81), (91, 14, 4608), (90, 2, 0), (89, 13, 19), (88, 3, 0), (87, 13, 16), (86, 13, 31), (85, 13, 31), (84, 13, 31), (83, 13, 31), (82, 13, 31), (81, 13, 31), (80, 13, 31), (79, 13, 31), (78, 13, 31), (77, 13, 31), (76, 13, 31), (75, 13, 31), (74, 13, 31), (73, 13, 31), (72, 13, 31), (71, 13, 31), (70, 18, 16), (69, 4, 0), (68, 17, 6), (67, 13, 3), (66, 13, 8), (65, 13, 3), (64, 13, 6), (63, 13, 6), (62, 13, 6), (61, 13, 6), (60, 13, 6), (59, 5, 0), (58, 13, 16), (57, 13, 31), (56, 13, 31), (55, 13, 31), (54, 13, 31), (53, 13, 31), (52, 13, 31), (51, 13, 31), (50, 13, 31), (49, 13, 31), (48, 13, 31), (47, 13, 31), (46, 13, 31), (45, 13, 31), (44, 13, 31), (43, 13, 31), (42, 13, 31), (41, 18, 16), (40, 4, 0), (39, 1, 0), (38, 13, 8), (37, 0, 0), (36, 13, 401), (35, 13, 401), (34, 13, 401), (33, 13, 27), (32, 13, 400), (31, 13, 400), (30, 13, 37), (29, 13, 12), (28, 13, 12), (27, 10, 0), (26, 6, 0), (25, 13, 400), (24, 9, 0), (23, 17, 6), (22, 13, 3), (21, 13, 8), (20, 13, 3), (19, 13, 6), (18, 13, 6), (17, 13, 6), (16, 13, 6), (15, 13, 6), (14, 5, 0), (13, 16, 2), (12, 17, 6), (11, 13, 3), (10, 13, 8), (9, 13, 3), (8, 13, 6), (7, 13, 6), (6, 13, 6), (5, 13, 6), (4, 13, 6), (3, 5, 0), (2, 14, 50), (1, 7, 0), (0, 11, 0)] [(0, 14, 0), (0, 13, (-1)), (0, 12, (-1)), (0, 11, 0), (88, 5, (-1)), (59, 13, (-1)), (67, 1, 1), (33, 0, nI (vocN 0)), (33, 1, nI (vocN 1)), (33, 2, nI (vocN 2)), (33, 3, nI (vocN 3)), (33, 4, nI (vocN 4)), (33, 5, nI (vocN 5)), (33, 6, nI (vocN 6)), (33, 7, nI (vocN 7)), (33, 8, nI (vocN 8)), (33, 9, nI (vocN 9)), (33, 10, nI (vocN 10)), (33, 11, nI (vocN 11)), (33, 12, nI (vocN 12)), (33, 13, nI (vocN 13)), (33, 14, nI (vocN 14)), (33, 15, nI (vocN 15)), (33, 16, nI (vocN 16)), (33, 17, nI (vocN 17)), (33, 18, nI (vocN 18)), (33, 19, nI (vocN 19)), (33, 20, nI (vocN 20)), (33, 21, nI (vocN 21)), (33, 22, nI (vocN 22)), (33, 23, nI (vocN 23)), (33, 24, nI (vocN 24)), (33, 25, nI (vocN 25)), (33, 26, nI (vocN 26)), (14, 13, (-1)), (22, 1, 1), (3, 13, (-1)), (11, 1, 1)] [] [(0, 10, some 101), (0, 9, some 96), (96, 4, some 100), (96, 3, some 99), (96, 2, some 98), (96, 1, some 97), (96, 0, some 37), (0, 8, some 90), (90, 5, some 95), (90, 4, some 94), (90, 3, some 93), (90, 2, some 92), (90, 1, some 91), (90, 0, some 37), (0, 7, some 88), (88, 2, some 89), (88, 1, some 1), (88, 0, some 39), (0, 6, some 39), (39, 4, some 69), (69, 1, some 87), (69, 0, some 70), (70, 15, some 86), (70, 14, some 85), (70, 13, some 84), (70, 12, some 83), (70, 11, some 82), (70, 10, some 81), (70, 9, some 80), (70, 8, some 79), (70, 7, some 78), (70, 6, some 77), (70, 5, some 76), (70, 4, some 75), (70, 3, some 74), (70, 2, some 73), (70, 1, some 72), (70, 0, some 71), (39, 3, some 59), (59, 12, some 68), (59, 10, some 67), (59, 9, some 66), (59, 7, some 65), (59, 5, some 64), (59, 4, some 63), (59, 3, some 62), (59, 2, some 61), (59, 1, some 60), (39, 2, some 40), (40, 1, some 58), (40, 0, some 41), (41, 15, some 57), (41, 14, some 56), (41, 13, some 55), (41, 12, some 54), (41, 11, some 53), (41, 10, some 52), (41, 9, some 51), (41, 8, some 50), (41, 7, some 49), (41, 6, some 48), (41, 5, some 47), (41, 4, some 46), (41, 3, some 45), (41, 2, some 44), (41, 1, some 43), (41, 0, some 42), (39, 1, some 37), (39, 0, some 3), (0, 5, some 37), (37, 1, some 38), (37, 0, some 1), (0, 4, some 26), (26, 4, some 36), (26, 3, some 35), (26, 2, some 34), (26, 1, some 33), (26, 0, some 27), (27, 5, some 32), (27, 4, some 31), (27, 3, some 30), (27, 2, some 29), (27, 1, some 28), (0, 3, some 24), (24, 0, some 25), (0, 2, some 14), (14, 12, some 23), (14, 10, some 22), (14, 9, some 21), (14, 7, some 20), (14, 5, some 19), (14, 4, some 18), (14, 3, some 17), (14, 2, some 16), (14, 1, some 15), (0, 1, some 13), (0, 0, some 3), (3, 12, some 12), (3, 10, some 11), (3, 9, some 10), (3, 7, some 9), (3, 5, some 8), (3, 4, some 7), (3, 3, some 6), (3, 2, some 5), (3, 1, some 4), (1, 0, some 2)]) _ _
  refine r_astore_n (pc := 7) (lv' := [(0, _), (1, _)]) dL_law_7 (Nat.le_of_ble_eq_true rfl) rfl ?_
  refine b_new (pc := 8) (n1 := 103) nl_L_10 ⟨by decide +kernel, by decide +kernel, by decide +kernel⟩ rfl (Nat.le_of_ble_eq_true rfl) (Nat.le_of_ble_eq_true rfl) dL_law_8 ?_
  refine r_dup (pc := 11) dL_law_11 rfl ?_
  refine r_callI (pc := 12) (As := []) mn_X12_init ml_L_12 c_X12_init rfl rfl (Nat.le_of_ble_eq_true rfl) (Nat.le_of_ble_eq_true rfl) (Nat.le_of_ble_eq_true rfl) (Nat.le_of_ble_eq_true rfl) (Nat.le_of_ble_eq_true rfl) dL_law_12 (fun r1 g1 hp => ?_)
  obtain ⟨rfl, rfl⟩ := hp
  show Wp E (mL nm) _ _ _ _ [.ref (eZ E + 102)] (h00 E) _ _
  refine r_astore_n (pc := 15) (lv' := [(0, _), (1, _), (2, _)]) dL_law_15 (Nat.le_of_ble_eq_true rfl) rfl ?_
  refine r_iconst (pc := 16) (0) dL_law_16 rfl ?_
  refine r_istore_n (pc := 17) (lv' := [(0, _), (1, _), (2, _), (3, _)]) dL_law_17 (Nat.le_of_ble_eq_true rfl) rfl ?_
  exact law_loop har hL3 hst haM haT fin 512 0 (h00 E) mu0 la0 _ _ Inv.start (by omega) (by omega) (Nat.le_of_ble_eq_true rfl) (Nat.le_of_ble_eq_true rfl)
end LOOP
