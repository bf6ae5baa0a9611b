/-! the start: the relation holds behind the constructors -/
section START
variable {E : En}
def LK0 : LkT := [(135, 13, 18), (134, 13, 96), (133, 14, 4), (132, 15, 4608), (131, 15, 4608), (130, 13, 10), (129, 13, 9), (128, 14, 10), (127, 14, 4608), (126, 14, 4608), (125, 13, 81), (124, 13, 81), (123, 13, 6), (122, 14, 400), (121, 14, 13), (120, 14, 13), (119, 14, 4), (118, 14, 7), (117, 14, 8), (116, 13, 400), (115, 13, 400), (114, 13, 400), (113, 13, 400), (112, 13, 96), (111, 13, 400), (110, 13, 16), (109, 13, 528), (108, 13, 16), (107, 13, 594), (106, 15, 2), (105, 13, 10900), (104, 13, 5450), (103, 13, 7), (102, 12, 0), (101, 13, 7), (100, 13, 512), (99, 13, 72), (98, 13, 10), (97, 13, 60), (96, 8, 0), (95, 14, 10), (94, 13, 9), (93, 13, 81), (92, 13, 81), (91, 14, 4608), (90, 2, 0), (89, 13, 19), (88, 3, 0), (87, 13, 16), (86, 13, 31), (85, 13, 31), (84, 13, 31), (83, 13, 31), (82, 13, 31), (81, 13, 31), (80, 13, 31), (79, 13, 31), (78, 13, 31), (77, 13, 31), (76, 13, 31), (75, 13, 31), (74, 13, 31), (73, 13, 31), (72, 13, 31), (71, 13, 31), (70, 18, 16), (69, 4, 0), (68, 17, 6), (67, 13, 3), (66, 13, 8), (65, 13, 3), (64, 13, 6), (63, 13, 6), (62, 13, 6), (61, 13, 6), (60, 13, 6), (59, 5, 0), (58, 13, 16), (57, 13, 31), (56, 13, 31), (55, 13, 31), (54, 13, 31), (53, 13, 31), (52, 13, 31), (51, 13, 31), (50, 13, 31), (49, 13, 31), (48, 13, 31), (47, 13, 31), (46, 13, 31), (45, 13, 31), (44, 13, 31), (43, 13, 31), (42, 13, 31), (41, 18, 16), (40, 4, 0), (39, 1, 0), (38, 13, 8), (37, 0, 0), (36, 13, 401), (35, 13, 401), (34, 13, 401), (33, 13, 27), (32, 13, 400), (31, 13, 400), (30, 13, 37), (29, 13, 12), (28, 13, 12), (27, 10, 0), (26, 6, 0), (25, 13, 400), (24, 9, 0), (23, 17, 6), (22, 13, 3), (21, 13, 8), (20, 13, 3), (19, 13, 6), (18, 13, 6), (17, 13, 6), (16, 13, 6), (15, 13, 6), (14, 5, 0), (13, 16, 2), (12, 17, 6), (11, 13, 3), (10, 13, 8), (9, 13, 3), (8, 13, 6), (7, 13, 6), (6, 13, 6), (5, 13, 6), (4, 13, 6), (3, 5, 0), (2, 14, 50), (1, 7, 0), (0, 11, 0)]
def LI0 : LiT := [(104, 6, 1), (104, 4, (-1)), (102, 59, (-1)), (102, 55, (-1)), (102, 18, (-1)), (0, 14, 0), (0, 13, (-1)), (0, 12, (-1)), (0, 11, 0), (88, 5, (-1)), (59, 13, (-1)), (67, 1, 1), (33, 0, nI (vocN 0)), (33, 1, nI (vocN 1)), (33, 2, nI (vocN 2)), (33, 3, nI (vocN 3)), (33, 4, nI (vocN 4)), (33, 5, nI (vocN 5)), (33, 6, nI (vocN 6)), (33, 7, nI (vocN 7)), (33, 8, nI (vocN 8)), (33, 9, nI (vocN 9)), (33, 10, nI (vocN 10)), (33, 11, nI (vocN 11)), (33, 12, nI (vocN 12)), (33, 13, nI (vocN 13)), (33, 14, nI (vocN 14)), (33, 15, nI (vocN 15)), (33, 16, nI (vocN 16)), (33, 17, nI (vocN 17)), (33, 18, nI (vocN 18)), (33, 19, nI (vocN 19)), (33, 20, nI (vocN 20)), (33, 21, nI (vocN 21)), (33, 22, nI (vocN 22)), (33, 23, nI (vocN 23)), (33, 24, nI (vocN 24)), (33, 25, nI (vocN 25)), (33, 26, nI (vocN 26)), (14, 13, (-1)), (22, 1, 1), (3, 13, (-1)), (11, 1, 1)]
def LJ0 : LjT := [(133, 3, 525939), (133, 2, 110896), (133, 1, 4389), (133, 0, 632046), (119, 3, 67155), (119, 2, 20201203), (119, 1, 4245683), (119, 0, 5294547), (118, 6, 116919), (118, 5, 245124), (118, 4, 402629), (118, 3, 1451717), (118, 2, 404362868), (118, 1, 146885), (118, 0, 824370), (117, 7, 441828), (117, 6, 824370), (117, 5, 631088), (117, 4, 245124), (117, 3, 5170), (117, 2, 20452820), (117, 1, 402629), (117, 0, 3124)]
def LR0 : LrT := [(102, 58, some 135), (102, 52, some 134), (102, 51, some 133), (102, 50, some 132), (102, 49, some 131), (102, 48, some 130), (102, 47, some 129), (102, 46, some 128), (102, 45, some 127), (102, 44, some 126), (102, 43, some 125), (102, 42, some 124), (102, 41, some 123), (102, 37, some 122), (102, 36, some 121), (102, 35, some 120), (102, 33, some 119), (102, 32, some 118), (102, 31, some 117), (102, 28, some 116), (102, 27, some 115), (102, 25, some 114), (102, 24, some 113), (102, 22, some 112), (102, 12, some 111), (102, 10, some 110), (102, 9, some 109), (102, 7, some 108), (102, 6, some 107), (102, 5, some 106), (102, 4, some 105), (102, 3, some 104), (102, 2, some 103), (0, 10, some 101), (0, 9, some 96), (96, 4, some 100), (96, 3, some 99), (96, 2, some 98), (96, 1, some 97), (96, 0, some 37), (0, 8, some 90), (90, 5, some 95), (90, 4, some 94), (90, 3, some 93), (90, 2, some 92), (90, 1, some 91), (90, 0, some 37), (0, 7, some 88), (88, 2, some 89), (88, 1, some 1), (88, 0, some 39), (0, 6, some 39), (39, 4, some 69), (69, 1, some 87), (69, 0, some 70), (70, 15, some 86), (70, 14, some 85), (70, 13, some 84), (70, 12, some 83), (70, 11, some 82), (70, 10, some 81), (70, 9, some 80), (70, 8, some 79), (70, 7, some 78), (70, 6, some 77), (70, 5, some 76), (70, 4, some 75), (70, 3, some 74), (70, 2, some 73), (70, 1, some 72), (70, 0, some 71), (39, 3, some 59), (59, 12, some 68), (59, 10, some 67), (59, 9, some 66), (59, 7, some 65), (59, 5, some 64), (59, 4, some 63), (59, 3, some 62), (59, 2, some 61), (59, 1, some 60), (39, 2, some 40), (40, 1, some 58), (40, 0, some 41), (41, 15, some 57), (41, 14, some 56), (41, 13, some 55), (41, 12, some 54), (41, 11, some 53), (41, 10, some 52), (41, 9, some 51), (41, 8, some 50), (41, 7, some 49), (41, 6, some 48), (41, 5, some 47), (41, 4, some 46), (41, 3, some 45), (41, 2, some 44), (41, 1, some 43), (41, 0, some 42), (39, 1, some 37), (39, 0, some 3), (0, 5, some 37), (37, 1, some 38), (37, 0, some 1), (0, 4, some 26), (26, 4, some 36), (26, 3, some 35), (26, 2, some 34), (26, 1, some 33), (26, 0, some 27), (27, 5, some 32), (27, 4, some 31), (27, 3, some 30), (27, 2, some 29), (27, 1, some 28), (0, 3, some 24), (24, 0, some 25), (0, 2, some 14), (14, 12, some 23), (14, 10, some 22), (14, 9, some 21), (14, 7, some 20), (14, 5, some 19), (14, 4, some 18), (14, 3, some 17), (14, 2, some 16), (14, 1, some 15), (0, 1, some 13), (0, 0, some 3), (3, 12, some 12), (3, 10, some 11), (3, 9, some 10), (3, 7, some 9), (3, 5, some 8), (3, 4, some 7), (3, 3, some 6), (3, 2, some 5), (3, 1, some 4), (1, 0, some 2)]
def h00 (E : En) : Hp := bL (eZ E) 136 LK0 LI0 LJ0 LR0
def mu0 : Mu := fun o j => lkV 0 LI0 (102 + o) j
def la0 : La := fun o j => lkV 0 LJ0 (102 + o) j
theorem h00_I {o j : Nat} : hI (h00 E) (eZ E + o) j = lkV 0 LI0 o j := bL_I
theorem h00_R {o j : Nat} : hR (h00 E) (eZ E + o) j = (lkV none LR0 o j).map (fun t => eZ E + t) := bL_R
theorem st_cs : CS E (h00 E) (eZ E) := by
  have k1 : ∀ t ∈ csT, t.1 < 136 ∧ lkK LK0 t.1 = (t.2.1, t.2.2) := by decide +kernel
  have k2 : ∀ t ∈ csF, lkV none LR0 t.1 t.2.1 = some t.2.2 := by decide +kernel
  exact ⟨fun t ht => Ar.A ⟨(k1 t ht).1, (k1 t ht).2⟩, fun t ht => by rw [h00_R, k2 t ht]; rfl⟩
theorem st_pt {p : Nat} (hp : p = 3 ∨ p = 14) : PtV (h00 E) (eZ E + p) (mu0 2) := by
  have k0 : ∀ p, p = 3 ∨ p = 14 → (lkV 0 LI0 p 0 = mu0 2 0 ∧ lkV 0 LI0 p 6 = mu0 2 1 ∧ lkV 0 LI0 p 8 = mu0 2 2 ∧ lkV 0 LI0 p 11 = mu0 2 3 ∧ lkV 0 LI0 p 13 = mu0 2 4) ∧ (∀ k, k < 3 → lkV 0 LI0 (p + 8) k = mu0 2 (5 + k)) ∧ (∀ k, k < 6 → lkV 0 LI0 (p + 1) k = mu0 2 (8 + k)) ∧ (∀ k, k < 6 → lkV 0 LI0 (p + 2) k = mu0 2 (14 + k)) ∧ (∀ k, k < 6 → lkV 0 LI0 (p + 3) k = mu0 2 (20 + k)) ∧ (∀ k, k < 6 → lkV 0 LI0 (p + 4) k = mu0 2 (26 + k)) ∧ (∀ k, k < 6 → lkV 0 LI0 (p + 5) k = mu0 2 (32 + k)) ∧ (∀ k, k < 3 → lkV 0 LI0 (p + 6) k = mu0 2 (38 + k)) ∧ ∀ k, k < 8 → lkV 0 LI0 (p + 7) k = mu0 2 (41 + k) := by
    intro p hp
    rcases hp with rfl | rfl <;> decide +kernel
  unfold PtV
  simp only [Nat.add_assoc (eZ E) p, h00_I]
  exact k0 p hp
theorem st_rw : RwG (mu0 2) 0 0 0 0 := by
  have z : ∀ k, k < 41 → k ≠ 4 → k ≠ 6 → mu0 2 k = nI 0 := by decide +kernel
  have z6 : mu0 2 6 = nI 1 := by decide +kernel
  have z4 : mu0 2 4 = -1 := by decide +kernel
  refine ⟨⟨z 0 (by omega) (by omega) (by omega), by omega, z 1 (by omega) (by omega) (by omega), by omega, fun k hk => ⟨Or.inr ⟨0, by omega, z _ (by omega) (by omega) (by omega)⟩, 0, by omega, z _ (by omega) (by omega) (by omega), fun li _ _ => Nat.zero_testBit li⟩, fun k hk => ⟨0, by omega, z _ (by omega) (by omega) (by omega)⟩, fun k hk => ⟨0, by omega, z _ (by omega) (by omega) (by omega)⟩, fun k hk => Or.inr ⟨0, by omega, z _ (by omega) (by omega) (by omega)⟩, ⟨0, by omega, z _ (by omega) (by omega) (by omega)⟩, ⟨1, by omega, z6⟩, ⟨0, by omega, z _ (by omega) (by omega) (by omega)⟩, fun k hk => ⟨0, by omega, z _ (by omega) (by omega) (by omega)⟩⟩, ⟨z 3 (by omega) (by omega) (by omega), by omega⟩, ⟨z 2 (by omega) (by omega) (by omega), by omega⟩, Or.inl z4, fun k hk e => ?_⟩
  rw [z _ (by omega) (by omega) (by omega)] at e
  exact absurd e (by decide)
theorem st_cr : CR E (h00 E) (eZ E) mu0 := by
  have n12 : ∀ i, i < 6 → lkV none LR0 12 i = none := by decide +kernel
  have n13 : ∀ i, i < 2 → lkV none LR0 13 i = none := by decide +kernel
  have r13 : ∀ i, i < 2 → hR (h00 E) (eZ E + 13) i = none := fun i hi => by rw [h00_R, n13 i hi]; rfl
  have o25 : ∀ t ∈ LI0, t.1 ≠ 25 := by decide +kernel
  have o111 : ∀ t ∈ LI0, t.1 ≠ 111 := by decide +kernel
  have t9 : ∀ k, mu0 9 k = 0 := fun k => lkV_out o111 k
  have u0 : uF mu0 = 0 := by decide +kernel
  have i2 : hI (h00 E) (eZ E + 40) 2 = nI 0 := by rw [h00_I]; decide +kernel
  have i3 : hI (h00 E) (eZ E + 40) 3 = nI 0 := by rw [h00_I]; decide +kernel
  have co : ∀ j, j < 7 → lkV 0 LI0 101 j = mu0 1 j := by decide +kernel
  have wd : ∀ j, j < 27 → lkV 0 LI0 33 j = nI (vocN j) := by decide +kernel
  refine ⟨st_cs, ⟨st_pt (Or.inl rfl), 0, 0, 0, 0, st_rw, fun i hi => absurd hi (Nat.not_lt_zero _), fun i hi t ht => ?_⟩, ⟨⟨0, ?_⟩, ⟨by rw [u0]; decide +kernel, by rw [u0]; omega⟩, fun i hi => by rw [u0] at hi; exact absurd hi (Nat.not_lt_zero _)⟩, ⟨fun i hi => Or.inl ⟨?_, r13 i hi⟩, fun p e1 => by rw [r13 0 (by omega)] at e1; cases e1⟩, ⟨⟨0, by omega, by decide +kernel, by rw [h00_I]; decide +kernel⟩, fun k => by rw [h00_I, lkV_out o25, t9], fun q hq => ⟨0, by omega, t9 q⟩⟩, ⟨⟨?_, ?_, ?_, ?_⟩, fun j hj => by rw [h00_I]; exact co j hj⟩, ⟨mu0 2, 0, st_pt (Or.inr rfl), by decide +kernel, by omega, Or.inr ⟨by decide +kernel, rfl⟩, fun k hk => absurd hk (Nat.not_lt_zero _)⟩, ⟨fun i hi => by rw [h00_I]; exact wd i hi, by rw [h00_I]; decide +kernel⟩, by decide +kernel⟩
  · have e12 : hR (h00 E) (eZ E + 12) i = none := by rw [h00_R, n12 i hi]; rfl
    have ht : hR (h00 E) (eZ E + 12) i = some t := ht
    rw [e12] at ht; cases ht
  · rw [u0]
    exact ⟨i2, i3, by omega, by omega, fun i hi => absurd hi (Nat.not_lt_zero _)⟩
  · have key : ∀ i, i < 2 → mu0 4 i = 0 := by decide +kernel
    exact key i hi
  · exact (h00_I (o := 0)).trans (by decide +kernel)
  · exact (h00_I (o := 0)).trans (by decide +kernel)
  · exact (h00_I (o := 0)).trans (by decide +kernel)
  · exact (h00_I (o := 0)).trans (by decide +kernel)
theorem st_mR {k i : Nat} (hk : lkV none LR0 102 k = some (102 + i)) : hR (h00 E) (eZ E + 102) k = some (eZ E + 102 + i) := by
  rw [h00_R, hk]
  show some (eZ E + (102 + i)) = _
  rw [Nat.add_assoc]
theorem st_mA {i kd len : Nat} (hi : i < 34) (hk : lkK LK0 (102 + i) = (kd, len)) : isR E (h00 E) (eZ E + 102 + i) kd len := by
  rw [Nat.add_assoc]
  exact Ar.A ⟨by omega, hk⟩
theorem st_md : Md E (h00 E) (eZ E + 102) := ⟨Oj.A ⟨by decide +kernel, by decide +kernel⟩, ⟨st_mR (by decide +kernel), st_mA (by omega) (by decide +kernel)⟩, ⟨st_mR (by decide +kernel), st_mA (by omega) (by decide +kernel)⟩, ⟨st_mR (by decide +kernel), st_mA (by omega) (by decide +kernel)⟩, ⟨st_mR (by decide +kernel), st_mA (by omega) (by decide +kernel)⟩, ⟨st_mR (by decide +kernel), st_mA (by omega) (by decide +kernel)⟩, ⟨st_mR (by decide +kernel), st_mA (by omega) (by decide +kernel)⟩, ⟨st_mR (by decide +kernel), st_mA (by omega) (by decide +kernel)⟩, ⟨st_mR (by decide +kernel), st_mA (by omega) (by decide +kernel)⟩, ⟨st_mR (by decide +kernel), st_mA (by omega) (by decide +kernel)⟩, ⟨st_mR (by decide +kernel), st_mA (by omega) (by decide +kernel)⟩, ⟨st_mR (by decide +kernel), st_mA (by omega) (by decide +kernel)⟩, ⟨st_mR (by decide +kernel), st_mA (by omega) (by decide +kernel)⟩, ⟨st_mR (by decide +kernel), st_mA (by omega) (by decide +kernel)⟩, ⟨st_mR (by decide +kernel), st_mA (by omega) (by decide +kernel)⟩, ⟨st_mR (by decide +kernel), st_mA (by omega) (by decide +kernel)⟩, ⟨st_mR (by decide +kernel), st_mA (by omega) (by decide +kernel)⟩, ⟨st_mR (by decide +kernel), st_mA (by omega) (by decide +kernel)⟩, ⟨st_mR (by decide +kernel), st_mA (by omega) (by decide +kernel)⟩, ⟨st_mR (by decide +kernel), st_mA (by omega) (by decide +kernel)⟩, ⟨st_mR (by decide +kernel), st_mA (by omega) (by decide +kernel)⟩, ⟨st_mR (by decide +kernel), st_mA (by omega) (by decide +kernel)⟩, ⟨st_mR (by decide +kernel), st_mA (by omega) (by decide +kernel)⟩, ⟨st_mR (by decide +kernel), st_mA (by omega) (by decide +kernel)⟩, ⟨st_mR (by decide +kernel), st_mA (by omega) (by decide +kernel)⟩, ⟨st_mR (by decide +kernel), st_mA (by omega) (by decide +kernel)⟩, ⟨st_mR (by decide +kernel), st_mA (by omega) (by decide +kernel)⟩, ⟨st_mR (by decide +kernel), st_mA (by omega) (by decide +kernel)⟩, ⟨st_mR (by decide +kernel), st_mA (by omega) (by decide +kernel)⟩, ⟨st_mR (by decide +kernel), st_mA (by omega) (by decide +kernel)⟩, ⟨st_mR (by decide +kernel), st_mA (by omega) (by decide +kernel)⟩, ⟨st_mR (by decide +kernel), st_mA (by omega) (by decide +kernel)⟩, ⟨st_mR (by decide +kernel), st_mA (by omega) (by decide +kernel)⟩, ⟨st_mR (by decide +kernel), st_mA (by omega) (by decide +kernel)⟩⟩
theorem st_mH : mH (h00 E) (eZ E + 102) mu0 la0 = h00 E := by
  have e1 : (fun a => if eZ E + 102 ≤ a ∧ a < eZ E + 102 + 34 then mu0 (a - (eZ E + 102)) else (h00 E).2.1 a) = (h00 E).2.1 := by
    funext a
    by_cases z : eZ E + 102 ≤ a ∧ a < eZ E + 102 + 34
    · rw [if_pos z]
      funext j
      show lkV 0 LI0 (102 + (a - (eZ E + 102))) j = if eZ E ≤ a then lkV 0 LI0 (a - eZ E) j else 0
      rw [if_pos (by omega), show 102 + (a - (eZ E + 102)) = a - eZ E by omega]
    · rw [if_neg z]
  have e2 : (fun a => if eZ E + 102 ≤ a ∧ a < eZ E + 102 + 34 then la0 (a - (eZ E + 102)) else (h00 E).2.2.1 a) = (h00 E).2.2.1 := by
    funext a
    by_cases z : eZ E + 102 ≤ a ∧ a < eZ E + 102 + 34
    · rw [if_pos z]
      funext j
      show lkV 0 LJ0 (102 + (a - (eZ E + 102))) j = if eZ E ≤ a then lkV 0 LJ0 (a - eZ E) j else 0
      rw [if_pos (by omega), show 102 + (a - (eZ E + 102)) = a - eZ E by omega]
    · rw [if_neg z]
  unfold mH
  rw [e1, e2]
theorem st_wl : Wls (la0 15) (la0 16) := ⟨by decide +kernel, by decide +kernel⟩
theorem st_w7 : Whs (la0 17) 7 := by
  show ∀ u, u < 4 → la0 17 u = lN (vocN (7 + u))
  decide +kernel
theorem st_w11 : Whs (la0 31) 11 := by
  show ∀ u, u < 4 → la0 31 u = lN (vocN (11 + u))
  decide +kernel
end START
