/-! the class: where its cells lie; what may have changed between two heaps -/
def csT : List (Nat × Nat × Nat) := [(0, 11, 0), (1, 7, 0), (2, 14, 50), (3, 5, 0), (4, 13, 6), (5, 13, 6), (6, 13, 6), (7, 13, 6), (8, 13, 6), (9, 13, 3), (10, 13, 8), (11, 13, 3), (12, 17, 6), (13, 16, 2), (14, 5, 0), (15, 13, 6), (16, 13, 6), (17, 13, 6), (18, 13, 6), (19, 13, 6), (20, 13, 3), (21, 13, 8), (22, 13, 3), (23, 17, 6), (24, 9, 0), (25, 13, 400), (26, 6, 0), (27, 10, 0), (28, 13, 12), (29, 13, 12), (30, 13, 37), (31, 13, 400), (32, 13, 400), (33, 13, 27), (34, 13, 401), (35, 13, 401), (36, 13, 401), (37, 0, 0), (38, 13, 8), (39, 1, 0), (40, 4, 0), (41, 18, 16), (42, 13, 31), (43, 13, 31), (44, 13, 31), (45, 13, 31), (46, 13, 31), (47, 13, 31), (48, 13, 31), (49, 13, 31), (50, 13, 31), (51, 13, 31), (52, 13, 31), (53, 13, 31), (54, 13, 31), (55, 13, 31), (56, 13, 31), (57, 13, 31), (58, 13, 16), (59, 5, 0), (60, 13, 6), (61, 13, 6), (62, 13, 6), (63, 13, 6), (64, 13, 6), (65, 13, 3), (66, 13, 8), (67, 13, 3), (68, 17, 6), (69, 4, 0), (70, 18, 16), (71, 13, 31), (72, 13, 31), (73, 13, 31), (74, 13, 31), (75, 13, 31), (76, 13, 31), (77, 13, 31), (78, 13, 31), (79, 13, 31), (80, 13, 31), (81, 13, 31), (82, 13, 31), (83, 13, 31), (84, 13, 31), (85, 13, 31), (86, 13, 31), (87, 13, 16), (88, 3, 0), (89, 13, 19), (90, 2, 0), (91, 14, 4608), (92, 13, 81), (93, 13, 81), (94, 13, 9), (95, 14, 10), (96, 8, 0), (97, 13, 60), (98, 13, 10), (99, 13, 72), (100, 13, 512), (101, 13, 7)]
def csF : List (Nat × Nat × Nat) := [(0, 0, 3), (0, 1, 13), (0, 2, 14), (0, 3, 24), (0, 4, 26), (0, 5, 37), (0, 6, 39), (0, 7, 88), (0, 8, 90), (0, 9, 96), (0, 10, 101), (1, 0, 2), (3, 1, 4), (3, 2, 5), (3, 3, 6), (3, 4, 7), (3, 5, 8), (3, 7, 9), (3, 9, 10), (3, 10, 11), (3, 12, 12), (14, 1, 15), (14, 2, 16), (14, 3, 17), (14, 4, 18), (14, 5, 19), (14, 7, 20), (14, 9, 21), (14, 10, 22), (14, 12, 23), (24, 0, 25), (26, 0, 27), (26, 1, 33), (26, 2, 34), (26, 3, 35), (26, 4, 36), (27, 1, 28), (27, 2, 29), (27, 3, 30), (27, 4, 31), (27, 5, 32), (37, 0, 1), (37, 1, 38), (39, 0, 3), (39, 1, 37), (39, 2, 40), (39, 3, 59), (39, 4, 69), (40, 0, 41), (41, 0, 42), (41, 1, 43), (41, 2, 44), (41, 3, 45), (41, 4, 46), (41, 5, 47), (41, 6, 48), (41, 7, 49), (41, 8, 50), (41, 9, 51), (41, 10, 52), (41, 11, 53), (41, 12, 54), (41, 13, 55), (41, 14, 56), (41, 15, 57), (40, 1, 58), (59, 1, 60), (59, 2, 61), (59, 3, 62), (59, 4, 63), (59, 5, 64), (59, 7, 65), (59, 9, 66), (59, 10, 67), (59, 12, 68), (69, 0, 70), (70, 0, 71), (70, 1, 72), (70, 2, 73), (70, 3, 74), (70, 4, 75), (70, 5, 76), (70, 6, 77), (70, 7, 78), (70, 8, 79), (70, 9, 80), (70, 10, 81), (70, 11, 82), (70, 12, 83), (70, 13, 84), (70, 14, 85), (70, 15, 86), (69, 1, 87), (88, 0, 39), (88, 1, 1), (88, 2, 89), (90, 0, 37), (90, 1, 91), (90, 2, 92), (90, 3, 93), (90, 4, 94), (90, 5, 95), (96, 0, 37), (96, 1, 97), (96, 2, 98), (96, 3, 99), (96, 4, 100)]
def CS (E : En) (h : Hp) (x : Nat) : Prop := (∀ t ∈ csT, eZ E ≤ x + t.1 ∧ x + t.1 < eZ E + hN h ∧ hK h (x + t.1) = t.2.1 ∧ hL h (x + t.1) = t.2.2) ∧ ∀ t ∈ csF, hR h (x + t.1) t.2.1 = some (x + t.2.2)
section CSS
variable {E : En} {h : Hp} {x : Nat}
theorem ca_0 (hc : CS E h x) : isA E h (x + 0) 11 := ⟨(hc.1 (0, 11, 0) (by decide)).1, (hc.1 (0, 11, 0) (by decide)).2.1, (hc.1 (0, 11, 0) (by decide)).2.2.1⟩
theorem ca_1 (hc : CS E h x) : isA E h (x + 1) 7 := ⟨(hc.1 (1, 7, 0) (by decide)).1, (hc.1 (1, 7, 0) (by decide)).2.1, (hc.1 (1, 7, 0) (by decide)).2.2.1⟩
theorem ca_3 (hc : CS E h x) : isA E h (x + 3) 5 := ⟨(hc.1 (3, 5, 0) (by decide)).1, (hc.1 (3, 5, 0) (by decide)).2.1, (hc.1 (3, 5, 0) (by decide)).2.2.1⟩
theorem ca_14 (hc : CS E h x) : isA E h (x + 14) 5 := ⟨(hc.1 (14, 5, 0) (by decide)).1, (hc.1 (14, 5, 0) (by decide)).2.1, (hc.1 (14, 5, 0) (by decide)).2.2.1⟩
theorem ca_24 (hc : CS E h x) : isA E h (x + 24) 9 := ⟨(hc.1 (24, 9, 0) (by decide)).1, (hc.1 (24, 9, 0) (by decide)).2.1, (hc.1 (24, 9, 0) (by decide)).2.2.1⟩
theorem ca_26 (hc : CS E h x) : isA E h (x + 26) 6 := ⟨(hc.1 (26, 6, 0) (by decide)).1, (hc.1 (26, 6, 0) (by decide)).2.1, (hc.1 (26, 6, 0) (by decide)).2.2.1⟩
theorem ca_27 (hc : CS E h x) : isA E h (x + 27) 10 := ⟨(hc.1 (27, 10, 0) (by decide)).1, (hc.1 (27, 10, 0) (by decide)).2.1, (hc.1 (27, 10, 0) (by decide)).2.2.1⟩
theorem ca_37 (hc : CS E h x) : isA E h (x + 37) 0 := ⟨(hc.1 (37, 0, 0) (by decide)).1, (hc.1 (37, 0, 0) (by decide)).2.1, (hc.1 (37, 0, 0) (by decide)).2.2.1⟩
theorem ca_39 (hc : CS E h x) : isA E h (x + 39) 1 := ⟨(hc.1 (39, 1, 0) (by decide)).1, (hc.1 (39, 1, 0) (by decide)).2.1, (hc.1 (39, 1, 0) (by decide)).2.2.1⟩
theorem ca_40 (hc : CS E h x) : isA E h (x + 40) 4 := ⟨(hc.1 (40, 4, 0) (by decide)).1, (hc.1 (40, 4, 0) (by decide)).2.1, (hc.1 (40, 4, 0) (by decide)).2.2.1⟩
theorem ca_59 (hc : CS E h x) : isA E h (x + 59) 5 := ⟨(hc.1 (59, 5, 0) (by decide)).1, (hc.1 (59, 5, 0) (by decide)).2.1, (hc.1 (59, 5, 0) (by decide)).2.2.1⟩
theorem ca_69 (hc : CS E h x) : isA E h (x + 69) 4 := ⟨(hc.1 (69, 4, 0) (by decide)).1, (hc.1 (69, 4, 0) (by decide)).2.1, (hc.1 (69, 4, 0) (by decide)).2.2.1⟩
theorem ca_88 (hc : CS E h x) : isA E h (x + 88) 3 := ⟨(hc.1 (88, 3, 0) (by decide)).1, (hc.1 (88, 3, 0) (by decide)).2.1, (hc.1 (88, 3, 0) (by decide)).2.2.1⟩
theorem ca_90 (hc : CS E h x) : isA E h (x + 90) 2 := ⟨(hc.1 (90, 2, 0) (by decide)).1, (hc.1 (90, 2, 0) (by decide)).2.1, (hc.1 (90, 2, 0) (by decide)).2.2.1⟩
theorem ca_96 (hc : CS E h x) : isA E h (x + 96) 8 := ⟨(hc.1 (96, 8, 0) (by decide)).1, (hc.1 (96, 8, 0) (by decide)).2.1, (hc.1 (96, 8, 0) (by decide)).2.2.1⟩
theorem cr_2 (hc : CS E h x) : isR E h (x + 2) 14 50 := hc.1 (2, 14, 50) (by decide)
theorem cr_4 (hc : CS E h x) : isR E h (x + 4) 13 6 := hc.1 (4, 13, 6) (by decide)
theorem cr_5 (hc : CS E h x) : isR E h (x + 5) 13 6 := hc.1 (5, 13, 6) (by decide)
theorem cr_6 (hc : CS E h x) : isR E h (x + 6) 13 6 := hc.1 (6, 13, 6) (by decide)
theorem cr_7 (hc : CS E h x) : isR E h (x + 7) 13 6 := hc.1 (7, 13, 6) (by decide)
theorem cr_8 (hc : CS E h x) : isR E h (x + 8) 13 6 := hc.1 (8, 13, 6) (by decide)
theorem cr_9 (hc : CS E h x) : isR E h (x + 9) 13 3 := hc.1 (9, 13, 3) (by decide)
theorem cr_10 (hc : CS E h x) : isR E h (x + 10) 13 8 := hc.1 (10, 13, 8) (by decide)
theorem cr_11 (hc : CS E h x) : isR E h (x + 11) 13 3 := hc.1 (11, 13, 3) (by decide)
theorem cr_12 (hc : CS E h x) : isR E h (x + 12) 17 6 := hc.1 (12, 17, 6) (by decide)
theorem cr_13 (hc : CS E h x) : isR E h (x + 13) 16 2 := hc.1 (13, 16, 2) (by decide)
theorem cr_15 (hc : CS E h x) : isR E h (x + 15) 13 6 := hc.1 (15, 13, 6) (by decide)
theorem cr_16 (hc : CS E h x) : isR E h (x + 16) 13 6 := hc.1 (16, 13, 6) (by decide)
theorem cr_17 (hc : CS E h x) : isR E h (x + 17) 13 6 := hc.1 (17, 13, 6) (by decide)
theorem cr_18 (hc : CS E h x) : isR E h (x + 18) 13 6 := hc.1 (18, 13, 6) (by decide)
theorem cr_19 (hc : CS E h x) : isR E h (x + 19) 13 6 := hc.1 (19, 13, 6) (by decide)
theorem cr_20 (hc : CS E h x) : isR E h (x + 20) 13 3 := hc.1 (20, 13, 3) (by decide)
theorem cr_21 (hc : CS E h x) : isR E h (x + 21) 13 8 := hc.1 (21, 13, 8) (by decide)
theorem cr_22 (hc : CS E h x) : isR E h (x + 22) 13 3 := hc.1 (22, 13, 3) (by decide)
theorem cr_23 (hc : CS E h x) : isR E h (x + 23) 17 6 := hc.1 (23, 17, 6) (by decide)
theorem cr_25 (hc : CS E h x) : isR E h (x + 25) 13 400 := hc.1 (25, 13, 400) (by decide)
theorem cr_28 (hc : CS E h x) : isR E h (x + 28) 13 12 := hc.1 (28, 13, 12) (by decide)
theorem cr_29 (hc : CS E h x) : isR E h (x + 29) 13 12 := hc.1 (29, 13, 12) (by decide)
theorem cr_30 (hc : CS E h x) : isR E h (x + 30) 13 37 := hc.1 (30, 13, 37) (by decide)
theorem cr_31 (hc : CS E h x) : isR E h (x + 31) 13 400 := hc.1 (31, 13, 400) (by decide)
theorem cr_32 (hc : CS E h x) : isR E h (x + 32) 13 400 := hc.1 (32, 13, 400) (by decide)
theorem cr_33 (hc : CS E h x) : isR E h (x + 33) 13 27 := hc.1 (33, 13, 27) (by decide)
theorem cr_34 (hc : CS E h x) : isR E h (x + 34) 13 401 := hc.1 (34, 13, 401) (by decide)
theorem cr_35 (hc : CS E h x) : isR E h (x + 35) 13 401 := hc.1 (35, 13, 401) (by decide)
theorem cr_36 (hc : CS E h x) : isR E h (x + 36) 13 401 := hc.1 (36, 13, 401) (by decide)
theorem cr_38 (hc : CS E h x) : isR E h (x + 38) 13 8 := hc.1 (38, 13, 8) (by decide)
theorem cr_41 (hc : CS E h x) : isR E h (x + 41) 18 16 := hc.1 (41, 18, 16) (by decide)
theorem cr_42 (hc : CS E h x) : isR E h (x + 42) 13 31 := hc.1 (42, 13, 31) (by decide)
theorem cr_43 (hc : CS E h x) : isR E h (x + 43) 13 31 := hc.1 (43, 13, 31) (by decide)
theorem cr_44 (hc : CS E h x) : isR E h (x + 44) 13 31 := hc.1 (44, 13, 31) (by decide)
theorem cr_45 (hc : CS E h x) : isR E h (x + 45) 13 31 := hc.1 (45, 13, 31) (by decide)
theorem cr_46 (hc : CS E h x) : isR E h (x + 46) 13 31 := hc.1 (46, 13, 31) (by decide)
theorem cr_47 (hc : CS E h x) : isR E h (x + 47) 13 31 := hc.1 (47, 13, 31) (by decide)
theorem cr_48 (hc : CS E h x) : isR E h (x + 48) 13 31 := hc.1 (48, 13, 31) (by decide)
theorem cr_49 (hc : CS E h x) : isR E h (x + 49) 13 31 := hc.1 (49, 13, 31) (by decide)
theorem cr_50 (hc : CS E h x) : isR E h (x + 50) 13 31 := hc.1 (50, 13, 31) (by decide)
theorem cr_51 (hc : CS E h x) : isR E h (x + 51) 13 31 := hc.1 (51, 13, 31) (by decide)
theorem cr_52 (hc : CS E h x) : isR E h (x + 52) 13 31 := hc.1 (52, 13, 31) (by decide)
theorem cr_53 (hc : CS E h x) : isR E h (x + 53) 13 31 := hc.1 (53, 13, 31) (by decide)
theorem cr_54 (hc : CS E h x) : isR E h (x + 54) 13 31 := hc.1 (54, 13, 31) (by decide)
theorem cr_55 (hc : CS E h x) : isR E h (x + 55) 13 31 := hc.1 (55, 13, 31) (by decide)
theorem cr_56 (hc : CS E h x) : isR E h (x + 56) 13 31 := hc.1 (56, 13, 31) (by decide)
theorem cr_57 (hc : CS E h x) : isR E h (x + 57) 13 31 := hc.1 (57, 13, 31) (by decide)
theorem cr_58 (hc : CS E h x) : isR E h (x + 58) 13 16 := hc.1 (58, 13, 16) (by decide)
theorem cr_60 (hc : CS E h x) : isR E h (x + 60) 13 6 := hc.1 (60, 13, 6) (by decide)
theorem cr_61 (hc : CS E h x) : isR E h (x + 61) 13 6 := hc.1 (61, 13, 6) (by decide)
theorem cr_62 (hc : CS E h x) : isR E h (x + 62) 13 6 := hc.1 (62, 13, 6) (by decide)
theorem cr_63 (hc : CS E h x) : isR E h (x + 63) 13 6 := hc.1 (63, 13, 6) (by decide)
theorem cr_64 (hc : CS E h x) : isR E h (x + 64) 13 6 := hc.1 (64, 13, 6) (by decide)
theorem cr_65 (hc : CS E h x) : isR E h (x + 65) 13 3 := hc.1 (65, 13, 3) (by decide)
theorem cr_66 (hc : CS E h x) : isR E h (x + 66) 13 8 := hc.1 (66, 13, 8) (by decide)
theorem cr_67 (hc : CS E h x) : isR E h (x + 67) 13 3 := hc.1 (67, 13, 3) (by decide)
theorem cr_68 (hc : CS E h x) : isR E h (x + 68) 17 6 := hc.1 (68, 17, 6) (by decide)
theorem cr_70 (hc : CS E h x) : isR E h (x + 70) 18 16 := hc.1 (70, 18, 16) (by decide)
theorem cr_71 (hc : CS E h x) : isR E h (x + 71) 13 31 := hc.1 (71, 13, 31) (by decide)
theorem cr_72 (hc : CS E h x) : isR E h (x + 72) 13 31 := hc.1 (72, 13, 31) (by decide)
theorem cr_73 (hc : CS E h x) : isR E h (x + 73) 13 31 := hc.1 (73, 13, 31) (by decide)
theorem cr_74 (hc : CS E h x) : isR E h (x + 74) 13 31 := hc.1 (74, 13, 31) (by decide)
theorem cr_75 (hc : CS E h x) : isR E h (x + 75) 13 31 := hc.1 (75, 13, 31) (by decide)
theorem cr_76 (hc : CS E h x) : isR E h (x + 76) 13 31 := hc.1 (76, 13, 31) (by decide)
theorem cr_77 (hc : CS E h x) : isR E h (x + 77) 13 31 := hc.1 (77, 13, 31) (by decide)
theorem cr_78 (hc : CS E h x) : isR E h (x + 78) 13 31 := hc.1 (78, 13, 31) (by decide)
theorem cr_79 (hc : CS E h x) : isR E h (x + 79) 13 31 := hc.1 (79, 13, 31) (by decide)
theorem cr_80 (hc : CS E h x) : isR E h (x + 80) 13 31 := hc.1 (80, 13, 31) (by decide)
theorem cr_81 (hc : CS E h x) : isR E h (x + 81) 13 31 := hc.1 (81, 13, 31) (by decide)
theorem cr_82 (hc : CS E h x) : isR E h (x + 82) 13 31 := hc.1 (82, 13, 31) (by decide)
theorem cr_83 (hc : CS E h x) : isR E h (x + 83) 13 31 := hc.1 (83, 13, 31) (by decide)
theorem cr_84 (hc : CS E h x) : isR E h (x + 84) 13 31 := hc.1 (84, 13, 31) (by decide)
theorem cr_85 (hc : CS E h x) : isR E h (x + 85) 13 31 := hc.1 (85, 13, 31) (by decide)
theorem cr_86 (hc : CS E h x) : isR E h (x + 86) 13 31 := hc.1 (86, 13, 31) (by decide)
theorem cr_87 (hc : CS E h x) : isR E h (x + 87) 13 16 := hc.1 (87, 13, 16) (by decide)
theorem cr_89 (hc : CS E h x) : isR E h (x + 89) 13 19 := hc.1 (89, 13, 19) (by decide)
theorem cr_91 (hc : CS E h x) : isR E h (x + 91) 14 4608 := hc.1 (91, 14, 4608) (by decide)
theorem cr_92 (hc : CS E h x) : isR E h (x + 92) 13 81 := hc.1 (92, 13, 81) (by decide)
theorem cr_93 (hc : CS E h x) : isR E h (x + 93) 13 81 := hc.1 (93, 13, 81) (by decide)
theorem cr_94 (hc : CS E h x) : isR E h (x + 94) 13 9 := hc.1 (94, 13, 9) (by decide)
theorem cr_95 (hc : CS E h x) : isR E h (x + 95) 14 10 := hc.1 (95, 14, 10) (by decide)
theorem cr_97 (hc : CS E h x) : isR E h (x + 97) 13 60 := hc.1 (97, 13, 60) (by decide)
theorem cr_98 (hc : CS E h x) : isR E h (x + 98) 13 10 := hc.1 (98, 13, 10) (by decide)
theorem cr_99 (hc : CS E h x) : isR E h (x + 99) 13 72 := hc.1 (99, 13, 72) (by decide)
theorem cr_100 (hc : CS E h x) : isR E h (x + 100) 13 512 := hc.1 (100, 13, 512) (by decide)
theorem cr_101 (hc : CS E h x) : isR E h (x + 101) 13 7 := hc.1 (101, 13, 7) (by decide)
theorem cf_0_0 (hc : CS E h x) : hR h (x + 0) 0 = some (x + 3) := hc.2 (0, 0, 3) (by decide)
theorem cf_0_1 (hc : CS E h x) : hR h (x + 0) 1 = some (x + 13) := hc.2 (0, 1, 13) (by decide)
theorem cf_0_2 (hc : CS E h x) : hR h (x + 0) 2 = some (x + 14) := hc.2 (0, 2, 14) (by decide)
theorem cf_0_3 (hc : CS E h x) : hR h (x + 0) 3 = some (x + 24) := hc.2 (0, 3, 24) (by decide)
theorem cf_0_4 (hc : CS E h x) : hR h (x + 0) 4 = some (x + 26) := hc.2 (0, 4, 26) (by decide)
theorem cf_0_5 (hc : CS E h x) : hR h (x + 0) 5 = some (x + 37) := hc.2 (0, 5, 37) (by decide)
theorem cf_0_6 (hc : CS E h x) : hR h (x + 0) 6 = some (x + 39) := hc.2 (0, 6, 39) (by decide)
theorem cf_0_7 (hc : CS E h x) : hR h (x + 0) 7 = some (x + 88) := hc.2 (0, 7, 88) (by decide)
theorem cf_0_8 (hc : CS E h x) : hR h (x + 0) 8 = some (x + 90) := hc.2 (0, 8, 90) (by decide)
theorem cf_0_9 (hc : CS E h x) : hR h (x + 0) 9 = some (x + 96) := hc.2 (0, 9, 96) (by decide)
theorem cf_0_10 (hc : CS E h x) : hR h (x + 0) 10 = some (x + 101) := hc.2 (0, 10, 101) (by decide)
theorem cf_1_0 (hc : CS E h x) : hR h (x + 1) 0 = some (x + 2) := hc.2 (1, 0, 2) (by decide)
theorem cf_3_1 (hc : CS E h x) : hR h (x + 3) 1 = some (x + 4) := hc.2 (3, 1, 4) (by decide)
theorem cf_3_2 (hc : CS E h x) : hR h (x + 3) 2 = some (x + 5) := hc.2 (3, 2, 5) (by decide)
theorem cf_3_3 (hc : CS E h x) : hR h (x + 3) 3 = some (x + 6) := hc.2 (3, 3, 6) (by decide)
theorem cf_3_4 (hc : CS E h x) : hR h (x + 3) 4 = some (x + 7) := hc.2 (3, 4, 7) (by decide)
theorem cf_3_5 (hc : CS E h x) : hR h (x + 3) 5 = some (x + 8) := hc.2 (3, 5, 8) (by decide)
theorem cf_3_7 (hc : CS E h x) : hR h (x + 3) 7 = some (x + 9) := hc.2 (3, 7, 9) (by decide)
theorem cf_3_9 (hc : CS E h x) : hR h (x + 3) 9 = some (x + 10) := hc.2 (3, 9, 10) (by decide)
theorem cf_3_10 (hc : CS E h x) : hR h (x + 3) 10 = some (x + 11) := hc.2 (3, 10, 11) (by decide)
theorem cf_3_12 (hc : CS E h x) : hR h (x + 3) 12 = some (x + 12) := hc.2 (3, 12, 12) (by decide)
theorem cf_14_1 (hc : CS E h x) : hR h (x + 14) 1 = some (x + 15) := hc.2 (14, 1, 15) (by decide)
theorem cf_14_2 (hc : CS E h x) : hR h (x + 14) 2 = some (x + 16) := hc.2 (14, 2, 16) (by decide)
theorem cf_14_3 (hc : CS E h x) : hR h (x + 14) 3 = some (x + 17) := hc.2 (14, 3, 17) (by decide)
theorem cf_14_4 (hc : CS E h x) : hR h (x + 14) 4 = some (x + 18) := hc.2 (14, 4, 18) (by decide)
theorem cf_14_5 (hc : CS E h x) : hR h (x + 14) 5 = some (x + 19) := hc.2 (14, 5, 19) (by decide)
theorem cf_14_7 (hc : CS E h x) : hR h (x + 14) 7 = some (x + 20) := hc.2 (14, 7, 20) (by decide)
theorem cf_14_9 (hc : CS E h x) : hR h (x + 14) 9 = some (x + 21) := hc.2 (14, 9, 21) (by decide)
theorem cf_14_10 (hc : CS E h x) : hR h (x + 14) 10 = some (x + 22) := hc.2 (14, 10, 22) (by decide)
theorem cf_14_12 (hc : CS E h x) : hR h (x + 14) 12 = some (x + 23) := hc.2 (14, 12, 23) (by decide)
theorem cf_24_0 (hc : CS E h x) : hR h (x + 24) 0 = some (x + 25) := hc.2 (24, 0, 25) (by decide)
theorem cf_26_0 (hc : CS E h x) : hR h (x + 26) 0 = some (x + 27) := hc.2 (26, 0, 27) (by decide)
theorem cf_26_1 (hc : CS E h x) : hR h (x + 26) 1 = some (x + 33) := hc.2 (26, 1, 33) (by decide)
theorem cf_26_2 (hc : CS E h x) : hR h (x + 26) 2 = some (x + 34) := hc.2 (26, 2, 34) (by decide)
theorem cf_26_3 (hc : CS E h x) : hR h (x + 26) 3 = some (x + 35) := hc.2 (26, 3, 35) (by decide)
theorem cf_26_4 (hc : CS E h x) : hR h (x + 26) 4 = some (x + 36) := hc.2 (26, 4, 36) (by decide)
theorem cf_27_1 (hc : CS E h x) : hR h (x + 27) 1 = some (x + 28) := hc.2 (27, 1, 28) (by decide)
theorem cf_27_2 (hc : CS E h x) : hR h (x + 27) 2 = some (x + 29) := hc.2 (27, 2, 29) (by decide)
theorem cf_27_3 (hc : CS E h x) : hR h (x + 27) 3 = some (x + 30) := hc.2 (27, 3, 30) (by decide)
theorem cf_27_4 (hc : CS E h x) : hR h (x + 27) 4 = some (x + 31) := hc.2 (27, 4, 31) (by decide)
theorem cf_27_5 (hc : CS E h x) : hR h (x + 27) 5 = some (x + 32) := hc.2 (27, 5, 32) (by decide)
theorem cf_37_0 (hc : CS E h x) : hR h (x + 37) 0 = some (x + 1) := hc.2 (37, 0, 1) (by decide)
theorem cf_37_1 (hc : CS E h x) : hR h (x + 37) 1 = some (x + 38) := hc.2 (37, 1, 38) (by decide)
theorem cf_39_0 (hc : CS E h x) : hR h (x + 39) 0 = some (x + 3) := hc.2 (39, 0, 3) (by decide)
theorem cf_39_1 (hc : CS E h x) : hR h (x + 39) 1 = some (x + 37) := hc.2 (39, 1, 37) (by decide)
theorem cf_39_2 (hc : CS E h x) : hR h (x + 39) 2 = some (x + 40) := hc.2 (39, 2, 40) (by decide)
theorem cf_39_3 (hc : CS E h x) : hR h (x + 39) 3 = some (x + 59) := hc.2 (39, 3, 59) (by decide)
theorem cf_39_4 (hc : CS E h x) : hR h (x + 39) 4 = some (x + 69) := hc.2 (39, 4, 69) (by decide)
theorem cf_40_0 (hc : CS E h x) : hR h (x + 40) 0 = some (x + 41) := hc.2 (40, 0, 41) (by decide)
theorem cf_41_0 (hc : CS E h x) : hR h (x + 41) 0 = some (x + 42) := hc.2 (41, 0, 42) (by decide)
theorem cf_41_1 (hc : CS E h x) : hR h (x + 41) 1 = some (x + 43) := hc.2 (41, 1, 43) (by decide)
theorem cf_41_2 (hc : CS E h x) : hR h (x + 41) 2 = some (x + 44) := hc.2 (41, 2, 44) (by decide)
theorem cf_41_3 (hc : CS E h x) : hR h (x + 41) 3 = some (x + 45) := hc.2 (41, 3, 45) (by decide)
theorem cf_41_4 (hc : CS E h x) : hR h (x + 41) 4 = some (x + 46) := hc.2 (41, 4, 46) (by decide)
theorem cf_41_5 (hc : CS E h x) : hR h (x + 41) 5 = some (x + 47) := hc.2 (41, 5, 47) (by decide)
theorem cf_41_6 (hc : CS E h x) : hR h (x + 41) 6 = some (x + 48) := hc.2 (41, 6, 48) (by decide)
theorem cf_41_7 (hc : CS E h x) : hR h (x + 41) 7 = some (x + 49) := hc.2 (41, 7, 49) (by decide)
theorem cf_41_8 (hc : CS E h x) : hR h (x + 41) 8 = some (x + 50) := hc.2 (41, 8, 50) (by decide)
theorem cf_41_9 (hc : CS E h x) : hR h (x + 41) 9 = some (x + 51) := hc.2 (41, 9, 51) (by decide)
theorem cf_41_10 (hc : CS E h x) : hR h (x + 41) 10 = some (x + 52) := hc.2 (41, 10, 52) (by decide)
theorem cf_41_11 (hc : CS E h x) : hR h (x + 41) 11 = some (x + 53) := hc.2 (41, 11, 53) (by decide)
theorem cf_41_12 (hc : CS E h x) : hR h (x + 41) 12 = some (x + 54) := hc.2 (41, 12, 54) (by decide)
theorem cf_41_13 (hc : CS E h x) : hR h (x + 41) 13 = some (x + 55) := hc.2 (41, 13, 55) (by decide)
theorem cf_41_14 (hc : CS E h x) : hR h (x + 41) 14 = some (x + 56) := hc.2 (41, 14, 56) (by decide)
theorem cf_41_15 (hc : CS E h x) : hR h (x + 41) 15 = some (x + 57) := hc.2 (41, 15, 57) (by decide)
theorem cf_40_1 (hc : CS E h x) : hR h (x + 40) 1 = some (x + 58) := hc.2 (40, 1, 58) (by decide)
theorem cf_59_1 (hc : CS E h x) : hR h (x + 59) 1 = some (x + 60) := hc.2 (59, 1, 60) (by decide)
theorem cf_59_2 (hc : CS E h x) : hR h (x + 59) 2 = some (x + 61) := hc.2 (59, 2, 61) (by decide)
theorem cf_59_3 (hc : CS E h x) : hR h (x + 59) 3 = some (x + 62) := hc.2 (59, 3, 62) (by decide)
theorem cf_59_4 (hc : CS E h x) : hR h (x + 59) 4 = some (x + 63) := hc.2 (59, 4, 63) (by decide)
theorem cf_59_5 (hc : CS E h x) : hR h (x + 59) 5 = some (x + 64) := hc.2 (59, 5, 64) (by decide)
theorem cf_59_7 (hc : CS E h x) : hR h (x + 59) 7 = some (x + 65) := hc.2 (59, 7, 65) (by decide)
theorem cf_59_9 (hc : CS E h x) : hR h (x + 59) 9 = some (x + 66) := hc.2 (59, 9, 66) (by decide)
theorem cf_59_10 (hc : CS E h x) : hR h (x + 59) 10 = some (x + 67) := hc.2 (59, 10, 67) (by decide)
theorem cf_59_12 (hc : CS E h x) : hR h (x + 59) 12 = some (x + 68) := hc.2 (59, 12, 68) (by decide)
theorem cf_69_0 (hc : CS E h x) : hR h (x + 69) 0 = some (x + 70) := hc.2 (69, 0, 70) (by decide)
theorem cf_70_0 (hc : CS E h x) : hR h (x + 70) 0 = some (x + 71) := hc.2 (70, 0, 71) (by decide)
theorem cf_70_1 (hc : CS E h x) : hR h (x + 70) 1 = some (x + 72) := hc.2 (70, 1, 72) (by decide)
theorem cf_70_2 (hc : CS E h x) : hR h (x + 70) 2 = some (x + 73) := hc.2 (70, 2, 73) (by decide)
theorem cf_70_3 (hc : CS E h x) : hR h (x + 70) 3 = some (x + 74) := hc.2 (70, 3, 74) (by decide)
theorem cf_70_4 (hc : CS E h x) : hR h (x + 70) 4 = some (x + 75) := hc.2 (70, 4, 75) (by decide)
theorem cf_70_5 (hc : CS E h x) : hR h (x + 70) 5 = some (x + 76) := hc.2 (70, 5, 76) (by decide)
theorem cf_70_6 (hc : CS E h x) : hR h (x + 70) 6 = some (x + 77) := hc.2 (70, 6, 77) (by decide)
theorem cf_70_7 (hc : CS E h x) : hR h (x + 70) 7 = some (x + 78) := hc.2 (70, 7, 78) (by decide)
theorem cf_70_8 (hc : CS E h x) : hR h (x + 70) 8 = some (x + 79) := hc.2 (70, 8, 79) (by decide)
theorem cf_70_9 (hc : CS E h x) : hR h (x + 70) 9 = some (x + 80) := hc.2 (70, 9, 80) (by decide)
theorem cf_70_10 (hc : CS E h x) : hR h (x + 70) 10 = some (x + 81) := hc.2 (70, 10, 81) (by decide)
theorem cf_70_11 (hc : CS E h x) : hR h (x + 70) 11 = some (x + 82) := hc.2 (70, 11, 82) (by decide)
theorem cf_70_12 (hc : CS E h x) : hR h (x + 70) 12 = some (x + 83) := hc.2 (70, 12, 83) (by decide)
theorem cf_70_13 (hc : CS E h x) : hR h (x + 70) 13 = some (x + 84) := hc.2 (70, 13, 84) (by decide)
theorem cf_70_14 (hc : CS E h x) : hR h (x + 70) 14 = some (x + 85) := hc.2 (70, 14, 85) (by decide)
theorem cf_70_15 (hc : CS E h x) : hR h (x + 70) 15 = some (x + 86) := hc.2 (70, 15, 86) (by decide)
theorem cf_69_1 (hc : CS E h x) : hR h (x + 69) 1 = some (x + 87) := hc.2 (69, 1, 87) (by decide)
theorem cf_88_0 (hc : CS E h x) : hR h (x + 88) 0 = some (x + 39) := hc.2 (88, 0, 39) (by decide)
theorem cf_88_1 (hc : CS E h x) : hR h (x + 88) 1 = some (x + 1) := hc.2 (88, 1, 1) (by decide)
theorem cf_88_2 (hc : CS E h x) : hR h (x + 88) 2 = some (x + 89) := hc.2 (88, 2, 89) (by decide)
theorem cf_90_0 (hc : CS E h x) : hR h (x + 90) 0 = some (x + 37) := hc.2 (90, 0, 37) (by decide)
theorem cf_90_1 (hc : CS E h x) : hR h (x + 90) 1 = some (x + 91) := hc.2 (90, 1, 91) (by decide)
theorem cf_90_2 (hc : CS E h x) : hR h (x + 90) 2 = some (x + 92) := hc.2 (90, 2, 92) (by decide)
theorem cf_90_3 (hc : CS E h x) : hR h (x + 90) 3 = some (x + 93) := hc.2 (90, 3, 93) (by decide)
theorem cf_90_4 (hc : CS E h x) : hR h (x + 90) 4 = some (x + 94) := hc.2 (90, 4, 94) (by decide)
theorem cf_90_5 (hc : CS E h x) : hR h (x + 90) 5 = some (x + 95) := hc.2 (90, 5, 95) (by decide)
theorem cf_96_0 (hc : CS E h x) : hR h (x + 96) 0 = some (x + 37) := hc.2 (96, 0, 37) (by decide)
theorem cf_96_1 (hc : CS E h x) : hR h (x + 96) 1 = some (x + 97) := hc.2 (96, 1, 97) (by decide)
theorem cf_96_2 (hc : CS E h x) : hR h (x + 96) 2 = some (x + 98) := hc.2 (96, 2, 98) (by decide)
theorem cf_96_3 (hc : CS E h x) : hR h (x + 96) 3 = some (x + 99) := hc.2 (96, 3, 99) (by decide)
theorem cf_96_4 (hc : CS E h x) : hR h (x + 96) 4 = some (x + 100) := hc.2 (96, 4, 100) (by decide)
theorem nl_is (hc : CS E h x) : isA E h x 11 := ca_0 hc
theorem nl_f0 (hc : CS E h x) : hR h x 0 = some (x + 3) := cf_0_0 hc
theorem nl_f1 (hc : CS E h x) : hR h x 1 = some (x + 13) := cf_0_1 hc
theorem nl_f2 (hc : CS E h x) : hR h x 2 = some (x + 14) := cf_0_2 hc
theorem nl_f3 (hc : CS E h x) : hR h x 3 = some (x + 24) := cf_0_3 hc
theorem nl_f4 (hc : CS E h x) : hR h x 4 = some (x + 26) := cf_0_4 hc
theorem nl_f5 (hc : CS E h x) : hR h x 5 = some (x + 37) := cf_0_5 hc
theorem nl_f6 (hc : CS E h x) : hR h x 6 = some (x + 39) := cf_0_6 hc
theorem nl_f7 (hc : CS E h x) : hR h x 7 = some (x + 88) := cf_0_7 hc
theorem nl_f8 (hc : CS E h x) : hR h x 8 = some (x + 90) := cf_0_8 hc
theorem nl_f9 (hc : CS E h x) : hR h x 9 = some (x + 96) := cf_0_9 hc
theorem nl_f10 (hc : CS E h x) : hR h x 10 = some (x + 101) := cf_0_10 hc
def ptS (E : En) (h : Hp) (p : Nat) : Prop := isA E h p 5 ∧ (hR h p 1 = some (p + 1) ∧ isR E h (p + 1) 13 6) ∧ (hR h p 2 = some (p + 2) ∧ isR E h (p + 2) 13 6) ∧ (hR h p 3 = some (p + 3) ∧ isR E h (p + 3) 13 6) ∧ (hR h p 4 = some (p + 4) ∧ isR E h (p + 4) 13 6) ∧ (hR h p 5 = some (p + 5) ∧ isR E h (p + 5) 13 6) ∧ (hR h p 7 = some (p + 6) ∧ isR E h (p + 6) 13 3) ∧ (hR h p 9 = some (p + 7) ∧ isR E h (p + 7) 13 8) ∧ (hR h p 10 = some (p + 8) ∧ isR E h (p + 8) 13 3) ∧ (hR h p 12 = some (p + 9) ∧ isR E h (p + 9) 17 6)
theorem pt_is {p : Nat} (hp : ptS E h p) : isA E h p 5 := hp.1
theorem pt_f1 {p : Nat} (hp : ptS E h p) : hR h p 1 = some (p + 1) := hp.2.1.1
theorem pt_r1 {p : Nat} (hp : ptS E h p) : isR E h (p + 1) 13 6 := hp.2.1.2
theorem pt_f2 {p : Nat} (hp : ptS E h p) : hR h p 2 = some (p + 2) := hp.2.2.1.1
theorem pt_r2 {p : Nat} (hp : ptS E h p) : isR E h (p + 2) 13 6 := hp.2.2.1.2
theorem pt_f3 {p : Nat} (hp : ptS E h p) : hR h p 3 = some (p + 3) := hp.2.2.2.1.1
theorem pt_r3 {p : Nat} (hp : ptS E h p) : isR E h (p + 3) 13 6 := hp.2.2.2.1.2
theorem pt_f4 {p : Nat} (hp : ptS E h p) : hR h p 4 = some (p + 4) := hp.2.2.2.2.1.1
theorem pt_r4 {p : Nat} (hp : ptS E h p) : isR E h (p + 4) 13 6 := hp.2.2.2.2.1.2
theorem pt_f5 {p : Nat} (hp : ptS E h p) : hR h p 5 = some (p + 5) := hp.2.2.2.2.2.1.1
theorem pt_r5 {p : Nat} (hp : ptS E h p) : isR E h (p + 5) 13 6 := hp.2.2.2.2.2.1.2
theorem pt_f7 {p : Nat} (hp : ptS E h p) : hR h p 7 = some (p + 6) := hp.2.2.2.2.2.2.1.1
theorem pt_r7 {p : Nat} (hp : ptS E h p) : isR E h (p + 6) 13 3 := hp.2.2.2.2.2.2.1.2
theorem pt_f9 {p : Nat} (hp : ptS E h p) : hR h p 9 = some (p + 7) := hp.2.2.2.2.2.2.2.1.1
theorem pt_r9 {p : Nat} (hp : ptS E h p) : isR E h (p + 7) 13 8 := hp.2.2.2.2.2.2.2.1.2
theorem pt_f10 {p : Nat} (hp : ptS E h p) : hR h p 10 = some (p + 8) := hp.2.2.2.2.2.2.2.2.1.1
theorem pt_r10 {p : Nat} (hp : ptS E h p) : isR E h (p + 8) 13 3 := hp.2.2.2.2.2.2.2.2.1.2
theorem pt_f12 {p : Nat} (hp : ptS E h p) : hR h p 12 = some (p + 9) := hp.2.2.2.2.2.2.2.2.2.1
theorem pt_r12 {p : Nat} (hp : ptS E h p) : isR E h (p + 9) 17 6 := hp.2.2.2.2.2.2.2.2.2.2
def txS (E : En) (h : Hp) (t n : Nat) : Prop := isA E h t 10 ∧ (hR h t 1 = some (t + 1) ∧ isR E h (t + 1) 13 12) ∧ (hR h t 2 = some (t + 2) ∧ isR E h (t + 2) 13 12) ∧ (hR h t 3 = some (t + 3) ∧ isR E h (t + 3) 13 37) ∧ (hR h t 4 = some (t + 4) ∧ isR E h (t + 4) 13 n) ∧ (hR h t 5 = some (t + 5) ∧ isR E h (t + 5) 13 n)
theorem tx_is {t n : Nat} (hp : txS E h t n) : isA E h t 10 := hp.1
theorem tx_f1 {t n : Nat} (hp : txS E h t n) : hR h t 1 = some (t + 1) := hp.2.1.1
theorem tx_r1 {t n : Nat} (hp : txS E h t n) : isR E h (t + 1) 13 12 := hp.2.1.2
theorem tx_f2 {t n : Nat} (hp : txS E h t n) : hR h t 2 = some (t + 2) := hp.2.2.1.1
theorem tx_r2 {t n : Nat} (hp : txS E h t n) : isR E h (t + 2) 13 12 := hp.2.2.1.2
theorem tx_f3 {t n : Nat} (hp : txS E h t n) : hR h t 3 = some (t + 3) := hp.2.2.2.1.1
theorem tx_r3 {t n : Nat} (hp : txS E h t n) : isR E h (t + 3) 13 37 := hp.2.2.2.1.2
theorem tx_f4 {t n : Nat} (hp : txS E h t n) : hR h t 4 = some (t + 4) := hp.2.2.2.2.1.1
theorem tx_r4 {t n : Nat} (hp : txS E h t n) : isR E h (t + 4) 13 n := hp.2.2.2.2.1.2
theorem tx_f5 {t n : Nat} (hp : txS E h t n) : hR h t 5 = some (t + 5) := hp.2.2.2.2.2.1
theorem tx_r5 {t n : Nat} (hp : txS E h t n) : isR E h (t + 5) 13 n := hp.2.2.2.2.2.2
def psS (E : En) (h : Hp) (a : Nat) : Prop := isA E h a 4 ∧ (hR h a 0 = some (a + 1) ∧ isR E h (a + 1) 18 16) ∧ (hR h a 1 = some (a + 18) ∧ isR E h (a + 18) 13 16) ∧ ∀ j, j < 16 → hR h (a + 1) j = some (a + 2 + j) ∧ isR E h (a + 2 + j) 13 31
theorem ps_is {a : Nat} (hp : psS E h a) : isA E h a 4 := hp.1
theorem ps_f0 {a : Nat} (hp : psS E h a) : hR h a 0 = some (a + 1) := hp.2.1.1
theorem ps_r0 {a : Nat} (hp : psS E h a) : isR E h (a + 1) 18 16 := hp.2.1.2
theorem ps_f1 {a : Nat} (hp : psS E h a) : hR h a 1 = some (a + 18) := hp.2.2.1.1
theorem ps_r1 {a : Nat} (hp : psS E h a) : isR E h (a + 18) 13 16 := hp.2.2.1.2
theorem ps_e {a j : Nat} (hp : psS E h a) (hj : j < 16) : hR h (a + 1) j = some (a + 2 + j) := (hp.2.2.2 j hj).1
theorem ps_re {a j : Nat} (hp : psS E h a) (hj : j < 16) : isR E h (a + 2 + j) 13 31 := (hp.2.2.2 j hj).2
theorem cs_pt3 (hc : CS E h x) : ptS E h (x + 3) := ⟨ca_3 hc, ⟨cf_3_1 hc, cr_4 hc⟩, ⟨cf_3_2 hc, cr_5 hc⟩, ⟨cf_3_3 hc, cr_6 hc⟩, ⟨cf_3_4 hc, cr_7 hc⟩, ⟨cf_3_5 hc, cr_8 hc⟩, ⟨cf_3_7 hc, cr_9 hc⟩, ⟨cf_3_9 hc, cr_10 hc⟩, ⟨cf_3_10 hc, cr_11 hc⟩, ⟨cf_3_12 hc, cr_12 hc⟩⟩
theorem cs_pt14 (hc : CS E h x) : ptS E h (x + 14) := ⟨ca_14 hc, ⟨cf_14_1 hc, cr_15 hc⟩, ⟨cf_14_2 hc, cr_16 hc⟩, ⟨cf_14_3 hc, cr_17 hc⟩, ⟨cf_14_4 hc, cr_18 hc⟩, ⟨cf_14_5 hc, cr_19 hc⟩, ⟨cf_14_7 hc, cr_20 hc⟩, ⟨cf_14_9 hc, cr_21 hc⟩, ⟨cf_14_10 hc, cr_22 hc⟩, ⟨cf_14_12 hc, cr_23 hc⟩⟩
theorem cs_pt59 (hc : CS E h x) : ptS E h (x + 59) := ⟨ca_59 hc, ⟨cf_59_1 hc, cr_60 hc⟩, ⟨cf_59_2 hc, cr_61 hc⟩, ⟨cf_59_3 hc, cr_62 hc⟩, ⟨cf_59_4 hc, cr_63 hc⟩, ⟨cf_59_5 hc, cr_64 hc⟩, ⟨cf_59_7 hc, cr_65 hc⟩, ⟨cf_59_9 hc, cr_66 hc⟩, ⟨cf_59_10 hc, cr_67 hc⟩, ⟨cf_59_12 hc, cr_68 hc⟩⟩
theorem cs_tx27 (hc : CS E h x) : txS E h (x + 27) 400 := ⟨ca_27 hc, ⟨cf_27_1 hc, cr_28 hc⟩, ⟨cf_27_2 hc, cr_29 hc⟩, ⟨cf_27_3 hc, cr_30 hc⟩, ⟨cf_27_4 hc, cr_31 hc⟩, ⟨cf_27_5 hc, cr_32 hc⟩⟩
theorem cs_ps40 (hc : CS E h x) : psS E h (x + 40) := by
  refine ⟨ca_40 hc, ⟨cf_40_0 hc, cr_41 hc⟩, ⟨cf_40_1 hc, cr_58 hc⟩, fun j hj => ?_⟩
  rcases (by omega : j = 0 ∨ j = 1 ∨ j = 2 ∨ j = 3 ∨ j = 4 ∨ j = 5 ∨ j = 6 ∨ j = 7 ∨ j = 8 ∨ j = 9 ∨ j = 10 ∨ j = 11 ∨ j = 12 ∨ j = 13 ∨ j = 14 ∨ j = 15) with rfl | rfl | rfl | rfl | rfl | rfl | rfl | rfl | rfl | rfl | rfl | rfl | rfl | rfl | rfl | rfl
  · exact ⟨cf_41_0 hc, cr_42 hc⟩
  · exact ⟨cf_41_1 hc, cr_43 hc⟩
  · exact ⟨cf_41_2 hc, cr_44 hc⟩
  · exact ⟨cf_41_3 hc, cr_45 hc⟩
  · exact ⟨cf_41_4 hc, cr_46 hc⟩
  · exact ⟨cf_41_5 hc, cr_47 hc⟩
  · exact ⟨cf_41_6 hc, cr_48 hc⟩
  · exact ⟨cf_41_7 hc, cr_49 hc⟩
  · exact ⟨cf_41_8 hc, cr_50 hc⟩
  · exact ⟨cf_41_9 hc, cr_51 hc⟩
  · exact ⟨cf_41_10 hc, cr_52 hc⟩
  · exact ⟨cf_41_11 hc, cr_53 hc⟩
  · exact ⟨cf_41_12 hc, cr_54 hc⟩
  · exact ⟨cf_41_13 hc, cr_55 hc⟩
  · exact ⟨cf_41_14 hc, cr_56 hc⟩
  · exact ⟨cf_41_15 hc, cr_57 hc⟩
theorem cs_ps69 (hc : CS E h x) : psS E h (x + 69) := by
  refine ⟨ca_69 hc, ⟨cf_69_0 hc, cr_70 hc⟩, ⟨cf_69_1 hc, cr_87 hc⟩, fun j hj => ?_⟩
  rcases (by omega : j = 0 ∨ j = 1 ∨ j = 2 ∨ j = 3 ∨ j = 4 ∨ j = 5 ∨ j = 6 ∨ j = 7 ∨ j = 8 ∨ j = 9 ∨ j = 10 ∨ j = 11 ∨ j = 12 ∨ j = 13 ∨ j = 14 ∨ j = 15) with rfl | rfl | rfl | rfl | rfl | rfl | rfl | rfl | rfl | rfl | rfl | rfl | rfl | rfl | rfl | rfl
  · exact ⟨cf_70_0 hc, cr_71 hc⟩
  · exact ⟨cf_70_1 hc, cr_72 hc⟩
  · exact ⟨cf_70_2 hc, cr_73 hc⟩
  · exact ⟨cf_70_3 hc, cr_74 hc⟩
  · exact ⟨cf_70_4 hc, cr_75 hc⟩
  · exact ⟨cf_70_5 hc, cr_76 hc⟩
  · exact ⟨cf_70_6 hc, cr_77 hc⟩
  · exact ⟨cf_70_7 hc, cr_78 hc⟩
  · exact ⟨cf_70_8 hc, cr_79 hc⟩
  · exact ⟨cf_70_9 hc, cr_80 hc⟩
  · exact ⟨cf_70_10 hc, cr_81 hc⟩
  · exact ⟨cf_70_11 hc, cr_82 hc⟩
  · exact ⟨cf_70_12 hc, cr_83 hc⟩
  · exact ⟨cf_70_13 hc, cr_84 hc⟩
  · exact ⟨cf_70_14 hc, cr_85 hc⟩
  · exact ⟨cf_70_15 hc, cr_86 hc⟩
/-- the same but at some places -/
def Fr (S : Nat → Nat → Prop) (h h' : Hp) : Prop := h'.1 = h.1 ∧ ∀ a k, ¬ S a k → hI h' a k = hI h a k ∧ hJ h' a k = hJ h a k ∧ hR h' a k = hR h a k
theorem Fr.rf {S : Nat → Nat → Prop} : Fr S h h := ⟨rfl, fun _ _ _ => ⟨rfl, rfl, rfl⟩⟩
theorem Fr.tr {S : Nat → Nat → Prop} {h1 h2 : Hp} (a1 : Fr S h h1) (a2 : Fr S h1 h2) : Fr S h h2 := ⟨a2.1.trans a1.1, fun a k q => ⟨(a2.2 a k q).1.trans (a1.2 a k q).1, (a2.2 a k q).2.1.trans (a1.2 a k q).2.1, (a2.2 a k q).2.2.trans (a1.2 a k q).2.2⟩⟩
theorem Fr.mono {S S' : Nat → Nat → Prop} {h1 : Hp} (hs : ∀ a k, S a k → S' a k) (a1 : Fr S h h1) : Fr S' h h1 := ⟨a1.1, fun a k q => a1.2 a k (fun z => q (hs a k z))⟩
theorem Fr.wI {S : Nat → Nat → Prop} {a k : Nat} {v : Int32} (hs : S a k) : Fr S h (wI h a k v) := ⟨rfl, fun b j q => ⟨up2_ne (fun z => q (by rw [z.1, z.2]; exact hs)), rfl, rfl⟩⟩
theorem Fr.wJ {S : Nat → Nat → Prop} {a k : Nat} {v : Int64} (hs : S a k) : Fr S h (wJ h a k v) := ⟨rfl, fun b j q => ⟨rfl, up2_ne (fun z => q (by rw [z.1, z.2]; exact hs)), rfl⟩⟩
theorem Fr.wR {S : Nat → Nat → Prop} {a k : Nat} {v : Option Nat} (hs : S a k) : Fr S h (wR h a k v) := ⟨rfl, fun b j q => ⟨rfl, rfl, up2_ne (fun z => q (by rw [z.1, z.2]; exact hs))⟩⟩
theorem Fr.wRow {S : Nat → Nat → Prop} {a : Nat} {f : Nat → Int32} (hs : ∀ k, S a k) : Fr S h (wRow h a f) := ⟨rfl, fun b j q => ⟨by show va_up h.2.1 a f b j = h.2.1 b j; rw [va_up_ne _ _ (fun z => q (by rw [z]; exact hs j))], rfl, rfl⟩⟩
theorem Fr.I {S : Nat → Nat → Prop} {h1 : Hp} (a1 : Fr S h h1) {a k : Nat} (q : ¬ S a k) : hI h1 a k = hI h a k := (a1.2 a k q).1
theorem Fr.J {S : Nat → Nat → Prop} {h1 : Hp} (a1 : Fr S h h1) {a k : Nat} (q : ¬ S a k) : hJ h1 a k = hJ h a k := (a1.2 a k q).2.1
theorem Fr.R {S : Nat → Nat → Prop} {h1 : Hp} (a1 : Fr S h h1) {a k : Nat} (q : ¬ S a k) : hR h1 a k = hR h a k := (a1.2 a k q).2.2
/-- places at which the class's own cells hold on to one another -/
def csP (x a k : Nat) : Prop := ∃ t ∈ csF, a = x + t.1 ∧ k = t.2.1
theorem CS.fr {S : Nat → Nat → Prop} {h1 : Hp} (hc : CS E h x) (a1 : Fr S h h1) (q : ∀ a k, csP x a k → ¬ S a k) : CS E h1 x := by
  refine ⟨fun t ht => ?_, fun t ht => ?_⟩
  · have := hc.1 t ht
    unfold hN hK hL
    rw [a1.1]; exact this
  · rw [a1.R (q _ _ ⟨t, ht, rfl, rfl⟩)]; exact hc.2 t ht
theorem isA.fr {S : Nat → Nat → Prop} {h1 : Hp} {a ci : Nat} (ha : isA E h a ci) (a1 : Fr S h h1) : isA E h1 a ci := by
  obtain ⟨g1, g2, g3⟩ := ha
  refine ⟨g1, ?_, ?_⟩
  · unfold hN; rw [a1.1]; exact g2
  · unfold hK; rw [a1.1]; exact g3
theorem isR.fr {S : Nat → Nat → Prop} {h1 : Hp} {a kd len : Nat} (ha : isR E h a kd len) (a1 : Fr S h h1) : isR E h1 a kd len := by
  obtain ⟨g1, g2, g3, g4⟩ := ha
  refine ⟨g1, ?_, ?_, ?_⟩
  · unfold hN; rw [a1.1]; exact g2
  · unfold hK; rw [a1.1]; exact g3
  · unfold hL; rw [a1.1]; exact g4
end CSS
section CROW
variable {E : En} {M : Mi} {R : Room} {Q : Qg} {pc : Nat} {lv : List (Nat × Value)} {st : List Value} {h : Hp} {cl sl : Nat}
theorem r_getN {idx ci k a : Nat} (hf : Fl M.1.cls idx ci k 2) (ha : isA E h a ci) (hv : hR h a k = none) (hd : decode M.2.1 pc = .ok (.getfield idx, 3)) (kk : Wp E M R Q (pc + 3) lv (.null :: st) h cl sl) : Wp E M R Q pc lv (.ref a :: st) h cl sl := r_getO hf ha hd (by rw [hv]; exact kk)
theorem r_aaldN {a j kd len : Nat} {i : Int32} (ha : isR E h a kd len) (hk : 16 ≤ kd ∧ kd < 19) (hi : i = nI j) (hj : j < len) (hs : len < 2 ^ 31) (hv : hR h a j = none) (hd : decode M.2.1 pc = .ok (.aaload, 1)) (kk : Wp E M R Q (pc + 1) lv (.null :: st) h cl sl) : Wp E M R Q pc lv (.int i :: .ref a :: st) h cl sl := r_aald ha hk hi hj hs hd (by rw [hv]; exact kk)
theorem r_putN {idx ci k a : Nat} {ty : FieldType} {fin : Bool} (hf : Fp M.1.cls idx ci k 2 ty fin) (hty : (∃ n, ty = .object n) ∨ ∃ t, ty = .array t) (hini : fin = true → M.1.name = "<init>") (ha : isA E h a ci) (hd : decode M.2.1 pc = .ok (.putfield idx, 3)) (kk : Wp E M R Q (pc + 3) lv st (wR h a k none) cl sl) : Wp E M R Q pc lv (.null :: .ref a :: st) h cl sl := r_putO (v := none) hf hty hini ha hd kk
theorem w_acn : Cond.native arraycopyName ∈ gws := gi4 78 (by decide +kernel) (by decide +kernel)
theorem w_acs : Cond.static arraycopyName ∈ gws := gi4 77 (by decide +kernel) (by decide +kernel)
theorem w_aci : Cond.initialized "java/lang/System" ∈ gws := gi1 20 (by decide +kernel) (by decide +kernel)
theorem ml_X4_42 : Cond.methodLink RX4 42 arraycopyName ∈ gws := gi4 104 (by decide +kernel) (by decide +kernel)
theorem ml_X5_90 : Cond.methodLink RX5 90 arraycopyName ∈ gws := gi4 99 (by decide +kernel) (by decide +kernel)
theorem ml_X10_40 : Cond.methodLink RX10 40 arraycopyName ∈ gws := gi4 76 (by decide +kernel) (by decide +kernel)
end CROW
