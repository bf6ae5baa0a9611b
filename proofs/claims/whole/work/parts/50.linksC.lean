/-! links of the class -/
abbrev mX0_init : Mi := (yX0_init, cX0_init, 2, none)
abbrev mX0_about : Mi := (yX0_about, cX0_about, 3, none)
abbrev mX0_atLife : Mi := (yX0_atLife, cX0_atLife, 3, none)
abbrev mX0_inYear : Mi := (yX0_inYear, cX0_inYear, 2, none)
abbrev mX0_tells : Mi := (yX0_tells, cX0_tells, 6, (some .int))
abbrev mX0_mostOf : Mi := (yX0_mostOf, cX0_mostOf, 1, (some .long))
abbrev mX0_isBarred : Mi := (yX0_isBarred, cX0_isBarred, 6, (some .boolean))
abbrev mX0_barredFrom : Mi := (yX0_barredFrom, cX0_barredFrom, 5, (some .int))
theorem mn_X0_init : Mn mX0_init 1 := ⟨⟨gi2 45 (by decide +kernel) (by decide +kernel), gi1 11 (by decide +kernel) (by decide +kernel), by decide +kernel, by decide +kernel, by decide +kernel⟩, gi2 44 (by decide +kernel) (by decide +kernel), rfl, rfl⟩
theorem mv_X0_about : Mv mX0_about 0 2 := ⟨⟨gi3 54 (by decide +kernel) (by decide +kernel), gi1 11 (by decide +kernel) (by decide +kernel), by decide +kernel, by decide +kernel, by decide +kernel⟩, gi3 52 (by decide +kernel) (by decide +kernel), gi3 53 (by decide +kernel) (by decide +kernel), by decide, _, _, rfl⟩
theorem mv_X0_atLife : Mv mX0_atLife 0 2 := ⟨⟨gi5 7 (by decide +kernel) (by decide +kernel), gi1 11 (by decide +kernel) (by decide +kernel), by decide +kernel, by decide +kernel, by decide +kernel⟩, gi5 5 (by decide +kernel) (by decide +kernel), gi5 6 (by decide +kernel) (by decide +kernel), by decide, _, _, rfl⟩
theorem mv_X0_inYear : Mv mX0_inYear 0 1 := ⟨⟨gi5 75 (by decide +kernel) (by decide +kernel), gi1 11 (by decide +kernel) (by decide +kernel), by decide +kernel, by decide +kernel, by decide +kernel⟩, gi5 73 (by decide +kernel) (by decide +kernel), gi5 74 (by decide +kernel) (by decide +kernel), by decide, _, _, rfl⟩
theorem mv_X0_tells : Mv mX0_tells 0 1 := ⟨⟨gi3 63 (by decide +kernel) (by decide +kernel), gi1 11 (by decide +kernel) (by decide +kernel), by decide +kernel, by decide +kernel, by decide +kernel⟩, gi3 61 (by decide +kernel) (by decide +kernel), gi3 62 (by decide +kernel) (by decide +kernel), by decide, _, _, rfl⟩
theorem ms_X0_mostOf : Ms mX0_mostOf 1 := ⟨⟨gi3 92 (by decide +kernel) (by decide +kernel), gi1 11 (by decide +kernel) (by decide +kernel), by decide +kernel, by decide +kernel, by decide +kernel⟩, gi3 91 (by decide +kernel) (by decide +kernel)⟩
theorem mv_X0_isBarred : Mv mX0_isBarred 0 3 := ⟨⟨gi3 142 (by decide +kernel) (by decide +kernel), gi1 11 (by decide +kernel) (by decide +kernel), by decide +kernel, by decide +kernel, by decide +kernel⟩, gi3 140 (by decide +kernel) (by decide +kernel), gi3 141 (by decide +kernel) (by decide +kernel), by decide, _, _, rfl⟩
theorem mv_X0_barredFrom : Mv mX0_barredFrom 0 2 := ⟨⟨gi3 137 (by decide +kernel) (by decide +kernel), gi1 11 (by decide +kernel) (by decide +kernel), by decide +kernel, by decide +kernel, by decide +kernel⟩, gi3 135 (by decide +kernel) (by decide +kernel), gi3 136 (by decide +kernel) (by decide +kernel), by decide, _, _, rfl⟩
theorem fl_X0_9 : Fl RX0 9 0 0 2 := ⟨_, _, _, rfl, in_X0, by decide, gi2 47 (by decide +kernel) (by decide +kernel), by decide +kernel, by decide⟩
theorem fl_X0_15 : Fl RX0 15 0 1 2 := ⟨_, _, _, rfl, in_X0, by decide, gi2 48 (by decide +kernel) (by decide +kernel), by decide +kernel, by decide⟩
theorem fl_X0_19 : Fl RX0 19 5 13 0 := ⟨_, _, _, rfl, in_X5, by decide, gi1 101 (by decide +kernel) (by decide +kernel), by decide +kernel, by decide⟩
theorem fl_X0_29 : Fl RX0 29 0 3 2 := ⟨_, _, _, rfl, in_X0, by decide, gi2 50 (by decide +kernel) (by decide +kernel), by decide +kernel, by decide⟩
theorem fl_X0_33 : Fl RX0 33 5 10 2 := ⟨_, _, _, rfl, in_X5, by decide, gi1 91 (by decide +kernel) (by decide +kernel), by decide +kernel, by decide⟩
theorem fl_X0_36 : Fl RX0 36 0 2 0 := ⟨_, _, _, rfl, in_X0, by decide, gi2 49 (by decide +kernel) (by decide +kernel), by decide +kernel, by decide⟩
theorem fl_X0_39 : Fl RX0 39 5 1 2 := ⟨_, _, _, rfl, in_X5, by decide, gi1 59 (by decide +kernel) (by decide +kernel), by decide +kernel, by decide⟩
theorem fl_X0_46 : Fl RX0 46 5 3 2 := ⟨_, _, _, rfl, in_X5, by decide, gi1 69 (by decide +kernel) (by decide +kernel), by decide +kernel, by decide⟩
theorem fl_X0_49 : Fl RX0 49 5 4 2 := ⟨_, _, _, rfl, in_X5, by decide, gi1 73 (by decide +kernel) (by decide +kernel), by decide +kernel, by decide⟩
theorem fl_X0_52 : Fl RX0 52 5 5 2 := ⟨_, _, _, rfl, in_X5, by decide, gi1 77 (by decide +kernel) (by decide +kernel), by decide +kernel, by decide⟩
theorem fl_X0_55 : Fl RX0 55 10 0 0 := ⟨_, _, _, rfl, in_X10, by decide, gi1 163 (by decide +kernel) (by decide +kernel), by decide +kernel, by decide⟩
theorem fl_X0_60 : Fl RX0 60 10 1 2 := ⟨_, _, _, rfl, in_X10, by decide, gi1 166 (by decide +kernel) (by decide +kernel), by decide +kernel, by decide⟩
theorem fl_X0_94 : Fl RX0 94 5 0 0 := ⟨_, _, _, rfl, in_X5, by decide, gi1 54 (by decide +kernel) (by decide +kernel), by decide +kernel, by decide⟩
theorem fp_X0_9 : Fp RX0 9 0 0 2 (.object "NineLives$Reckoner") true := ⟨_, _, _, tyX0, rfl, in_X0, by decide, gi2 47 (by decide +kernel) (by decide +kernel), by decide +kernel, by decide, tyX0_ok, nmX0, by decide +kernel, rfl, fun _ => rfl⟩
theorem fp_X0_15 : Fp RX0 15 0 1 2 (.array .int) true := ⟨_, _, _, tyX0, rfl, in_X0, by decide, gi2 48 (by decide +kernel) (by decide +kernel), by decide +kernel, by decide, tyX0_ok, nmX0, by decide +kernel, rfl, fun _ => rfl⟩
theorem fp_X0_29 : Fp RX0 29 0 3 2 (.object "NineLives$Text") false := ⟨_, _, _, tyX0, rfl, in_X0, by decide, gi2 50 (by decide +kernel) (by decide +kernel), by decide +kernel, by decide, tyX0_ok, nmX0, by decide +kernel, rfl, fun _ => rfl⟩
theorem fp_X0_36 : Fp RX0 36 0 2 0 .int false := ⟨_, _, _, tyX0, rfl, in_X0, by decide, gi2 49 (by decide +kernel) (by decide +kernel), by decide +kernel, by decide, tyX0_ok, nmX0, by decide +kernel, rfl, fun _ => rfl⟩
theorem ml_X0_3 : Cond.methodLink RX0 3 objectInit ∈ gws := gi2 46 (by decide +kernel) (by decide +kernel)
theorem ml_X0_25 : Cond.methodLink RX0 25 yX5_lawOf ∈ gws := gi3 55 (by decide +kernel) (by decide +kernel)
theorem ml_X0_42 : Cond.methodLink RX0 42 yX5_spentBy ∈ gws := gi3 59 (by decide +kernel) (by decide +kernel)
theorem ml_X0_63 : Cond.methodLink RX0 63 yX7_reckon ∈ gws := gi3 64 (by decide +kernel) (by decide +kernel)
theorem ml_X0_71 : Cond.methodLink RX0 71 yX0_mostOf ∈ gws := gi3 90 (by decide +kernel) (by decide +kernel)
theorem ml_X0_90 : Cond.methodLink RX0 90 yX0_about ∈ gws := gi3 143 (by decide +kernel) (by decide +kernel)
theorem ml_X0_97 : Cond.methodLink RX0 97 yX5_isHere ∈ gws := gi3 138 (by decide +kernel) (by decide +kernel)
theorem ml_X0_101 : Cond.methodLink RX0 101 yX0_isBarred ∈ gws := gi3 139 (by decide +kernel) (by decide +kernel)
theorem cs_X0_69 : Cond.constantLong RX0 69 (-9223372036854775808) ∈ gws := gi3 89 (by decide +kernel) (by decide +kernel)
theorem cs_X0_84 : Cond.constantLong RX0 84 (99) ∈ gws := gi3 93 (by decide +kernel) (by decide +kernel)
theorem cs_X0_86 : Cond.constantLong RX0 86 (10) ∈ gws := gi3 94 (by decide +kernel) (by decide +kernel)
theorem cs_X0_88 : Cond.constantLong RX0 88 (9) ∈ gws := gi3 95 (by decide +kernel) (by decide +kernel)
abbrev mX1_init : Mi := (yX1_init, cX1_init, 3, none)
abbrev mX1_act : Mi := (yX1_act, cX1_act, 4, (some .int))
abbrev mX1_signOn : Mi := (yX1_signOn, cX1_signOn, 3, (some .int))
abbrev mX1_dieAs : Mi := (yX1_dieAs, cX1_dieAs, 5, (some .int))
abbrev mX1_clipAs : Mi := (yX1_clipAs, cX1_clipAs, 4, (some .int))
abbrev mX1_takeBack : Mi := (yX1_takeBack, cX1_takeBack, 1, (some .int))
abbrev mX1_howManyKept : Mi := (yX1_howManyKept, cX1_howManyKept, 1, (some .int))
abbrev mX1_forgetPast : Mi := (yX1_forgetPast, cX1_forgetPast, 1, none)
abbrev mX1_remember : Mi := (yX1_remember, cX1_remember, 1, none)
abbrev mX1_restore : Mi := (yX1_restore, cX1_restore, 1, none)
theorem mn_X1_init : Mn mX1_init 2 := ⟨⟨gi2 65 (by decide +kernel) (by decide +kernel), gi1 12 (by decide +kernel) (by decide +kernel), by decide +kernel, by decide +kernel, by decide +kernel⟩, gi2 64 (by decide +kernel) (by decide +kernel), rfl, rfl⟩
theorem mv_X1_act : Mv mX1_act 1 3 := ⟨⟨gi4 126 (by decide +kernel) (by decide +kernel), gi1 12 (by decide +kernel) (by decide +kernel), by decide +kernel, by decide +kernel, by decide +kernel⟩, gi4 124 (by decide +kernel) (by decide +kernel), gi4 125 (by decide +kernel) (by decide +kernel), by decide, _, _, rfl⟩
theorem mv_X1_signOn : Mv mX1_signOn 1 2 := ⟨⟨gi4 130 (by decide +kernel) (by decide +kernel), gi1 12 (by decide +kernel) (by decide +kernel), by decide +kernel, by decide +kernel, by decide +kernel⟩, gi4 129 (by decide +kernel) (by decide +kernel), gi0 30 (by decide +kernel) (by decide +kernel), by decide, _, _, rfl⟩
theorem mv_X1_dieAs : Mv mX1_dieAs 1 2 := ⟨⟨gi4 149 (by decide +kernel) (by decide +kernel), gi1 12 (by decide +kernel) (by decide +kernel), by decide +kernel, by decide +kernel, by decide +kernel⟩, gi4 148 (by decide +kernel) (by decide +kernel), gi0 31 (by decide +kernel) (by decide +kernel), by decide, _, _, rfl⟩
theorem mv_X1_clipAs : Mv mX1_clipAs 1 2 := ⟨⟨gi4 159 (by decide +kernel) (by decide +kernel), gi1 12 (by decide +kernel) (by decide +kernel), by decide +kernel, by decide +kernel, by decide +kernel⟩, gi4 158 (by decide +kernel) (by decide +kernel), gi0 32 (by decide +kernel) (by decide +kernel), by decide, _, _, rfl⟩
theorem mv_X1_takeBack : Mv mX1_takeBack 1 0 := ⟨⟨gi4 215 (by decide +kernel) (by decide +kernel), gi1 12 (by decide +kernel) (by decide +kernel), by decide +kernel, by decide +kernel, by decide +kernel⟩, gi4 213 (by decide +kernel) (by decide +kernel), gi4 214 (by decide +kernel) (by decide +kernel), by decide, _, _, rfl⟩
theorem mv_X1_howManyKept : Mv mX1_howManyKept 1 0 := ⟨⟨gi5 201 (by decide +kernel) (by decide +kernel), gi1 12 (by decide +kernel) (by decide +kernel), by decide +kernel, by decide +kernel, by decide +kernel⟩, gi5 199 (by decide +kernel) (by decide +kernel), gi5 200 (by decide +kernel) (by decide +kernel), by decide, _, _, rfl⟩
theorem mv_X1_forgetPast : Mv mX1_forgetPast 1 0 := ⟨⟨gi3 11 (by decide +kernel) (by decide +kernel), gi1 12 (by decide +kernel) (by decide +kernel), by decide +kernel, by decide +kernel, by decide +kernel⟩, gi3 9 (by decide +kernel) (by decide +kernel), gi3 10 (by decide +kernel) (by decide +kernel), by decide, _, _, rfl⟩
theorem mv_X1_remember : Mv mX1_remember 1 0 := ⟨⟨gi4 94 (by decide +kernel) (by decide +kernel), gi1 12 (by decide +kernel) (by decide +kernel), by decide +kernel, by decide +kernel, by decide +kernel⟩, gi4 92 (by decide +kernel) (by decide +kernel), gi4 93 (by decide +kernel) (by decide +kernel), by decide, _, _, rfl⟩
theorem mv_X1_restore : Mv mX1_restore 1 0 := ⟨⟨gi4 170 (by decide +kernel) (by decide +kernel), gi1 12 (by decide +kernel) (by decide +kernel), by decide +kernel, by decide +kernel, by decide +kernel⟩, gi4 168 (by decide +kernel) (by decide +kernel), gi4 169 (by decide +kernel) (by decide +kernel), by decide, _, _, rfl⟩
theorem fl_X1_9 : Fl RX1 9 1 0 2 := ⟨_, _, _, rfl, in_X1, by decide, gi2 90 (by decide +kernel) (by decide +kernel), by decide +kernel, by decide⟩
theorem fl_X1_15 : Fl RX1 15 1 1 2 := ⟨_, _, _, rfl, in_X1, by decide, gi2 92 (by decide +kernel) (by decide +kernel), by decide +kernel, by decide⟩
theorem fl_X1_22 : Fl RX1 22 1 2 2 := ⟨_, _, _, rfl, in_X1, by decide, gi2 93 (by decide +kernel) (by decide +kernel), by decide +kernel, by decide⟩
theorem fl_X1_29 : Fl RX1 29 1 3 2 := ⟨_, _, _, rfl, in_X1, by decide, gi2 94 (by decide +kernel) (by decide +kernel), by decide +kernel, by decide⟩
theorem fl_X1_32 : Fl RX1 32 1 4 2 := ⟨_, _, _, rfl, in_X1, by decide, gi2 95 (by decide +kernel) (by decide +kernel), by decide +kernel, by decide⟩
theorem fl_X1_45 : Fl RX1 45 5 10 2 := ⟨_, _, _, rfl, in_X5, by decide, gi1 92 (by decide +kernel) (by decide +kernel), by decide +kernel, by decide⟩
theorem fl_X1_67 : Fl RX1 67 5 5 2 := ⟨_, _, _, rfl, in_X5, by decide, gi1 78 (by decide +kernel) (by decide +kernel), by decide +kernel, by decide⟩
theorem fl_X1_88 : Fl RX1 88 5 2 2 := ⟨_, _, _, rfl, in_X5, by decide, gi1 66 (by decide +kernel) (by decide +kernel), by decide +kernel, by decide⟩
theorem fl_X1_99 : Fl RX1 99 5 3 2 := ⟨_, _, _, rfl, in_X5, by decide, gi1 71 (by decide +kernel) (by decide +kernel), by decide +kernel, by decide⟩
theorem fp_X1_9 : Fp RX1 9 1 0 2 (.object "NineLives$Port") true := ⟨_, _, _, tyX1, rfl, in_X1, by decide, gi2 90 (by decide +kernel) (by decide +kernel), by decide +kernel, by decide, tyX1_ok, nmX1, by decide +kernel, rfl, fun _ => rfl⟩
theorem fp_X1_15 : Fp RX1 15 1 1 2 (.object "NineLives$Asking") true := ⟨_, _, _, tyX1, rfl, in_X1, by decide, gi2 92 (by decide +kernel) (by decide +kernel), by decide +kernel, by decide, tyX1_ok, nmX1, by decide +kernel, rfl, fun _ => rfl⟩
theorem fp_X1_22 : Fp RX1 22 1 2 2 (.object "NineLives$Past") true := ⟨_, _, _, tyX1, rfl, in_X1, by decide, gi2 93 (by decide +kernel) (by decide +kernel), by decide +kernel, by decide, tyX1_ok, nmX1, by decide +kernel, rfl, fun _ => rfl⟩
theorem fp_X1_29 : Fp RX1 29 1 3 2 (.object "NineLives$Port") true := ⟨_, _, _, tyX1, rfl, in_X1, by decide, gi2 94 (by decide +kernel) (by decide +kernel), by decide +kernel, by decide, tyX1_ok, nmX1, by decide +kernel, rfl, fun _ => rfl⟩
theorem fp_X1_32 : Fp RX1 32 1 4 2 (.object "NineLives$Past") true := ⟨_, _, _, tyX1, rfl, in_X1, by decide, gi2 95 (by decide +kernel) (by decide +kernel), by decide +kernel, by decide, tyX1_ok, nmX1, by decide +kernel, rfl, fun _ => rfl⟩
theorem ml_X1_3 : Cond.methodLink RX1 3 objectInit ∈ gws := gi2 66 (by decide +kernel) (by decide +kernel)
theorem ml_X1_21 : Cond.methodLink RX1 21 yX4_init ∈ gws := gi2 69 (by decide +kernel) (by decide +kernel)
theorem ml_X1_28 : Cond.methodLink RX1 28 yX5_init ∈ gws := gi2 89 (by decide +kernel) (by decide +kernel)
theorem ml_X1_35 : Cond.methodLink RX1 35 yX1_signOn ∈ gws := gi4 127 (by decide +kernel) (by decide +kernel)
theorem ml_X1_39 : Cond.methodLink RX1 39 yX1_dieAs ∈ gws := gi4 146 (by decide +kernel) (by decide +kernel)
theorem ml_X1_42 : Cond.methodLink RX1 42 yX1_clipAs ∈ gws := gi4 156 (by decide +kernel) (by decide +kernel)
theorem ml_X1_49 : Cond.methodLink RX1 49 yX4_keep ∈ gws := gi4 135 (by decide +kernel) (by decide +kernel)
theorem ml_X1_53 : Cond.methodLink RX1 53 yX5_passYear ∈ gws := gi4 160 (by decide +kernel) (by decide +kernel)
theorem ml_X1_57 : Cond.methodLink RX1 57 yX5_hasCat ∈ gws := gi4 131 (by decide +kernel) (by decide +kernel)
theorem ml_X1_61 : Cond.methodLink RX1 61 yX5_hasShip ∈ gws := gi4 132 (by decide +kernel) (by decide +kernel)
theorem ml_X1_64 : Cond.methodLink RX1 64 yX5_isHere ∈ gws := gi4 133 (by decide +kernel) (by decide +kernel)
theorem ml_X1_70 : Cond.methodLink RX1 70 yX0_isBarred ∈ gws := gi4 134 (by decide +kernel) (by decide +kernel)
theorem ml_X1_76 : Cond.methodLink RX1 76 yX5_crewOf ∈ gws := gi4 144 (by decide +kernel) (by decide +kernel)
theorem ml_X1_95 : Cond.methodLink RX1 95 yX5_endLife ∈ gws := gi4 152 (by decide +kernel) (by decide +kernel)
theorem ml_X1_102 : Cond.methodLink RX1 102 yX4_takeNewest ∈ gws := gi4 216 (by decide +kernel) (by decide +kernel)
theorem ml_X1_106 : Cond.methodLink RX1 106 yX4_howMany ∈ gws := gi5 202 (by decide +kernel) (by decide +kernel)
theorem ml_X1_110 : Cond.methodLink RX1 110 yX4_empty ∈ gws := gi3 12 (by decide +kernel) (by decide +kernel)
theorem ml_X1_113 : Cond.methodLink RX1 113 yX5_copyFrom ∈ gws := gi4 95 (by decide +kernel) (by decide +kernel)
theorem ml_X1_117 : Cond.methodLink RX1 117 yX4_copyFrom ∈ gws := gi4 100 (by decide +kernel) (by decide +kernel)
abbrev mX2_init : Mi := (yX2_init, cX2_init, 2, none)
abbrev mX2_hadBy : Mi := (yX2_hadBy, cX2_hadBy, 4, (some .long))
abbrev mX2_bestNext : Mi := (yX2_bestNext, cX2_bestNext, 11, (some .int))
abbrev mX2_reckonYears : Mi := (yX2_reckonYears, cX2_reckonYears, 7, none)
abbrev mX2_askOfLives : Mi := (yX2_askOfLives, cX2_askOfLives, 8, none)
abbrev mX2_addYear : Mi := (yX2_addYear, cX2_addYear, 8, none)
abbrev mX2_mostByNext : Mi := (yX2_mostByNext, cX2_mostByNext, 5, (some .long))
abbrev mX2_addYearAt : Mi := (yX2_addYearAt, cX2_addYearAt, 11, none)
abbrev mX2_chanceToLast : Mi := (yX2_chanceToLast, cX2_chanceToLast, 9, (some .long))
abbrev mX2_askInTurn : Mi := (yX2_askInTurn, cX2_askInTurn, 6, (some .int))
abbrev mX2_drawYears : Mi := (yX2_drawYears, cX2_drawYears, 7, (some .int))
abbrev mX2_isDrawnToDie : Mi := (yX2_isDrawnToDie, cX2_isDrawnToDie, 3, (some .boolean))
theorem mn_X2_init : Mn mX2_init 1 := ⟨⟨gi2 137 (by decide +kernel) (by decide +kernel), gi1 15 (by decide +kernel) (by decide +kernel), by decide +kernel, by decide +kernel, by decide +kernel⟩, gi2 136 (by decide +kernel) (by decide +kernel), rfl, rfl⟩
theorem mv_X2_hadBy : Mv mX2_hadBy 2 3 := ⟨⟨gi4 232 (by decide +kernel) (by decide +kernel), gi1 15 (by decide +kernel) (by decide +kernel), by decide +kernel, by decide +kernel, by decide +kernel⟩, gi4 230 (by decide +kernel) (by decide +kernel), gi4 231 (by decide +kernel) (by decide +kernel), by decide, _, _, rfl⟩
theorem mv_X2_bestNext : Mv mX2_bestNext 2 3 := ⟨⟨gi5 35 (by decide +kernel) (by decide +kernel), gi1 15 (by decide +kernel) (by decide +kernel), by decide +kernel, by decide +kernel, by decide +kernel⟩, gi5 33 (by decide +kernel) (by decide +kernel), gi5 34 (by decide +kernel) (by decide +kernel), by decide, _, _, rfl⟩
theorem mv_X2_reckonYears : Mv mX2_reckonYears 2 3 := ⟨⟨gi4 236 (by decide +kernel) (by decide +kernel), gi1 15 (by decide +kernel) (by decide +kernel), by decide +kernel, by decide +kernel, by decide +kernel⟩, gi4 235 (by decide +kernel) (by decide +kernel), gi0 34 (by decide +kernel) (by decide +kernel), by decide, _, _, rfl⟩
theorem mv_X2_askOfLives : Mv mX2_askOfLives 2 2 := ⟨⟨gi5 0 (by decide +kernel) (by decide +kernel), gi1 15 (by decide +kernel) (by decide +kernel), by decide +kernel, by decide +kernel, by decide +kernel⟩, gi4 239 (by decide +kernel) (by decide +kernel), gi0 35 (by decide +kernel) (by decide +kernel), by decide, _, _, rfl⟩
theorem mv_X2_addYear : Mv mX2_addYear 2 3 := ⟨⟨gi5 15 (by decide +kernel) (by decide +kernel), gi1 15 (by decide +kernel) (by decide +kernel), by decide +kernel, by decide +kernel, by decide +kernel⟩, gi5 14 (by decide +kernel) (by decide +kernel), gi0 36 (by decide +kernel) (by decide +kernel), by decide, _, _, rfl⟩
theorem mv_X2_mostByNext : Mv mX2_mostByNext 2 1 := ⟨⟨gi5 20 (by decide +kernel) (by decide +kernel), gi1 15 (by decide +kernel) (by decide +kernel), by decide +kernel, by decide +kernel, by decide +kernel⟩, gi5 19 (by decide +kernel) (by decide +kernel), gi0 37 (by decide +kernel) (by decide +kernel), by decide, _, _, rfl⟩
theorem mv_X2_addYearAt : Mv mX2_addYearAt 2 3 := ⟨⟨gi5 25 (by decide +kernel) (by decide +kernel), gi1 15 (by decide +kernel) (by decide +kernel), by decide +kernel, by decide +kernel, by decide +kernel⟩, gi5 24 (by decide +kernel) (by decide +kernel), gi0 38 (by decide +kernel) (by decide +kernel), by decide, _, _, rfl⟩
theorem mv_X2_chanceToLast : Mv mX2_chanceToLast 2 3 := ⟨⟨gi5 44 (by decide +kernel) (by decide +kernel), gi1 15 (by decide +kernel) (by decide +kernel), by decide +kernel, by decide +kernel, by decide +kernel⟩, gi5 42 (by decide +kernel) (by decide +kernel), gi5 43 (by decide +kernel) (by decide +kernel), by decide, _, _, rfl⟩
theorem mv_X2_askInTurn : Mv mX2_askInTurn 2 2 := ⟨⟨gi5 48 (by decide +kernel) (by decide +kernel), gi1 15 (by decide +kernel) (by decide +kernel), by decide +kernel, by decide +kernel, by decide +kernel⟩, gi5 47 (by decide +kernel) (by decide +kernel), gi0 39 (by decide +kernel) (by decide +kernel), by decide, _, _, rfl⟩
theorem mv_X2_drawYears : Mv mX2_drawYears 2 3 := ⟨⟨gi5 168 (by decide +kernel) (by decide +kernel), gi1 15 (by decide +kernel) (by decide +kernel), by decide +kernel, by decide +kernel, by decide +kernel⟩, gi5 166 (by decide +kernel) (by decide +kernel), gi5 167 (by decide +kernel) (by decide +kernel), by decide, _, _, rfl⟩
theorem mv_X2_isDrawnToDie : Mv mX2_isDrawnToDie 2 2 := ⟨⟨gi5 173 (by decide +kernel) (by decide +kernel), gi1 15 (by decide +kernel) (by decide +kernel), by decide +kernel, by decide +kernel, by decide +kernel⟩, gi5 172 (by decide +kernel) (by decide +kernel), gi0 45 (by decide +kernel) (by decide +kernel), by decide, _, _, rfl⟩
theorem fl_X2_9 : Fl RX2 9 2 0 2 := ⟨_, _, _, rfl, in_X2, by decide, gi2 139 (by decide +kernel) (by decide +kernel), by decide +kernel, by decide⟩
theorem fl_X2_15 : Fl RX2 15 2 1 2 := ⟨_, _, _, rfl, in_X2, by decide, gi2 140 (by decide +kernel) (by decide +kernel), by decide +kernel, by decide⟩
theorem fl_X2_19 : Fl RX2 19 2 2 2 := ⟨_, _, _, rfl, in_X2, by decide, gi2 141 (by decide +kernel) (by decide +kernel), by decide +kernel, by decide⟩
theorem fl_X2_23 : Fl RX2 23 2 3 2 := ⟨_, _, _, rfl, in_X2, by decide, gi2 142 (by decide +kernel) (by decide +kernel), by decide +kernel, by decide⟩
theorem fl_X2_26 : Fl RX2 26 2 4 2 := ⟨_, _, _, rfl, in_X2, by decide, gi2 143 (by decide +kernel) (by decide +kernel), by decide +kernel, by decide⟩
theorem fl_X2_29 : Fl RX2 29 2 5 2 := ⟨_, _, _, rfl, in_X2, by decide, gi2 144 (by decide +kernel) (by decide +kernel), by decide +kernel, by decide⟩
theorem fl_X2_36 : Fl RX2 36 5 2 2 := ⟨_, _, _, rfl, in_X5, by decide, gi1 64 (by decide +kernel) (by decide +kernel), by decide +kernel, by decide⟩
theorem fl_X2_41 : Fl RX2 41 5 1 2 := ⟨_, _, _, rfl, in_X5, by decide, gi1 58 (by decide +kernel) (by decide +kernel), by decide +kernel, by decide⟩
theorem fl_X2_109 : Fl RX2 109 2 6 0 := ⟨_, _, _, rfl, in_X2, by decide, gi2 145 (by decide +kernel) (by decide +kernel), by decide +kernel, by decide⟩
theorem fl_X2_113 : Fl RX2 113 5 10 2 := ⟨_, _, _, rfl, in_X5, by decide, gi1 96 (by decide +kernel) (by decide +kernel), by decide +kernel, by decide⟩
theorem fl_X2_116 : Fl RX2 116 5 0 0 := ⟨_, _, _, rfl, in_X5, by decide, gi1 56 (by decide +kernel) (by decide +kernel), by decide +kernel, by decide⟩
theorem fp_X2_9 : Fp RX2 9 2 0 2 (.object "NineLives$Asking") true := ⟨_, _, _, tyX2, rfl, in_X2, by decide, gi2 139 (by decide +kernel) (by decide +kernel), by decide +kernel, by decide, tyX2_ok, nmX2, by decide +kernel, rfl, fun _ => rfl⟩
theorem fp_X2_15 : Fp RX2 15 2 1 2 (.array .long) true := ⟨_, _, _, tyX2, rfl, in_X2, by decide, gi2 140 (by decide +kernel) (by decide +kernel), by decide +kernel, by decide, tyX2_ok, nmX2, by decide +kernel, rfl, fun _ => rfl⟩
theorem fp_X2_19 : Fp RX2 19 2 2 2 (.array .int) true := ⟨_, _, _, tyX2, rfl, in_X2, by decide, gi2 141 (by decide +kernel) (by decide +kernel), by decide +kernel, by decide, tyX2_ok, nmX2, by decide +kernel, rfl, fun _ => rfl⟩
theorem fp_X2_23 : Fp RX2 23 2 3 2 (.array .int) true := ⟨_, _, _, tyX2, rfl, in_X2, by decide, gi2 142 (by decide +kernel) (by decide +kernel), by decide +kernel, by decide, tyX2_ok, nmX2, by decide +kernel, rfl, fun _ => rfl⟩
theorem fp_X2_26 : Fp RX2 26 2 4 2 (.array .int) true := ⟨_, _, _, tyX2, rfl, in_X2, by decide, gi2 143 (by decide +kernel) (by decide +kernel), by decide +kernel, by decide, tyX2_ok, nmX2, by decide +kernel, rfl, fun _ => rfl⟩
theorem fp_X2_29 : Fp RX2 29 2 5 2 (.array .long) true := ⟨_, _, _, tyX2, rfl, in_X2, by decide, gi2 144 (by decide +kernel) (by decide +kernel), by decide +kernel, by decide, tyX2_ok, nmX2, by decide +kernel, rfl, fun _ => rfl⟩
theorem fp_X2_109 : Fp RX2 109 2 6 0 .int false := ⟨_, _, _, tyX2, rfl, in_X2, by decide, gi2 145 (by decide +kernel) (by decide +kernel), by decide +kernel, by decide, tyX2_ok, nmX2, by decide +kernel, rfl, fun _ => rfl⟩
theorem ml_X2_3 : Cond.methodLink RX2 3 objectInit ∈ gws := gi2 138 (by decide +kernel) (by decide +kernel)
theorem ml_X2_32 : Cond.methodLink RX2 32 yX2_reckonYears ∈ gws := gi4 233 (by decide +kernel) (by decide +kernel)
theorem ml_X2_50 : Cond.methodLink RX2 50 yX2_askOfLives ∈ gws := gi4 237 (by decide +kernel) (by decide +kernel)
theorem ml_X2_60 : Cond.methodLink RX2 60 yX2_addYear ∈ gws := gi5 12 (by decide +kernel) (by decide +kernel)
theorem ml_X2_64 : Cond.methodLink RX2 64 yX5_spentBy ∈ gws := gi5 1 (by decide +kernel) (by decide +kernel)
theorem ml_X2_68 : Cond.methodLink RX2 68 yX0_about ∈ gws := gi5 2 (by decide +kernel) (by decide +kernel)
theorem ml_X2_73 : Cond.methodLink RX2 73 yX0_atLife ∈ gws := gi5 4 (by decide +kernel) (by decide +kernel)
theorem ml_X2_77 : Cond.methodLink RX2 77 yX0_tells ∈ gws := gi5 8 (by decide +kernel) (by decide +kernel)
theorem ml_X2_85 : Cond.methodLink RX2 85 yX2_mostByNext ∈ gws := gi5 17 (by decide +kernel) (by decide +kernel)
theorem ml_X2_89 : Cond.methodLink RX2 89 yX2_addYearAt ∈ gws := gi5 22 (by decide +kernel) (by decide +kernel)
theorem ml_X2_103 : Cond.methodLink RX2 103 yX2_askInTurn ∈ gws := gi5 45 (by decide +kernel) (by decide +kernel)
theorem ml_X2_119 : Cond.methodLink RX2 119 yX5_isHere ∈ gws := gi5 169 (by decide +kernel) (by decide +kernel)
theorem ml_X2_123 : Cond.methodLink RX2 123 yX2_isDrawnToDie ∈ gws := gi5 170 (by decide +kernel) (by decide +kernel)
theorem ml_X2_130 : Cond.methodLink RX2 130 yX5_endLife ∈ gws := gi5 179 (by decide +kernel) (by decide +kernel)
theorem ml_X2_133 : Cond.methodLink RX2 133 yX5_passYear ∈ gws := gi5 180 (by decide +kernel) (by decide +kernel)
theorem cs_X2_44 : Cond.constantLong RX2 44 (-1) ∈ gws := gi5 36 (by decide +kernel) (by decide +kernel)
theorem cs_X2_99 : Cond.constantLong RX2 99 (1000000) ∈ gws := gi5 26 (by decide +kernel) (by decide +kernel)
theorem cs_X2_101 : Cond.constantLong RX2 101 (10) ∈ gws := gi5 27 (by decide +kernel) (by decide +kernel)
theorem cs_X2_107 : Cond.constantLong RX2 107 (1000000000000) ∈ gws := gi5 49 (by decide +kernel) (by decide +kernel)
theorem cs_X2_137 : Cond.constant RX2 137 (1000003) ∈ gws := gi5 174 (by decide +kernel) (by decide +kernel)
abbrev mX3_init : Mi := (yX3_init, cX3_init, 3, none)
abbrev mX3_run : Mi := (yX3_run, cX3_run, 4, (some .int))
abbrev mX3_ranOnce : Mi := (yX3_ranOnce, cX3_ranOnce, 9, (some .boolean))
abbrev mX3_tellWords : Mi := (yX3_tellWords, cX3_tellWords, 3, none)
theorem mn_X3_init : Mn mX3_init 2 := ⟨⟨gi2 111 (by decide +kernel) (by decide +kernel), gi1 14 (by decide +kernel) (by decide +kernel), by decide +kernel, by decide +kernel, by decide +kernel⟩, gi2 110 (by decide +kernel) (by decide +kernel), rfl, rfl⟩
theorem mv_X3_run : Mv mX3_run 3 1 := ⟨⟨gi4 90 (by decide +kernel) (by decide +kernel), gi1 14 (by decide +kernel) (by decide +kernel), by decide +kernel, by decide +kernel, by decide +kernel⟩, gi4 88 (by decide +kernel) (by decide +kernel), gi4 89 (by decide +kernel) (by decide +kernel), by decide, _, _, rfl⟩
theorem mv_X3_ranOnce : Mv mX3_ranOnce 3 2 := ⟨⟨gi4 108 (by decide +kernel) (by decide +kernel), gi1 14 (by decide +kernel) (by decide +kernel), by decide +kernel, by decide +kernel, by decide +kernel⟩, gi4 107 (by decide +kernel) (by decide +kernel), gi0 28 (by decide +kernel) (by decide +kernel), by decide, _, _, rfl⟩
theorem mv_X3_tellWords : Mv mX3_tellWords 3 1 := ⟨⟨gi4 112 (by decide +kernel) (by decide +kernel), gi1 14 (by decide +kernel) (by decide +kernel), by decide +kernel, by decide +kernel, by decide +kernel⟩, gi4 111 (by decide +kernel) (by decide +kernel), gi0 29 (by decide +kernel) (by decide +kernel), by decide, _, _, rfl⟩
theorem fl_X3_9 : Fl RX3 9 3 0 2 := ⟨_, _, _, rfl, in_X3, by decide, gi2 113 (by decide +kernel) (by decide +kernel), by decide +kernel, by decide⟩
theorem fl_X3_15 : Fl RX3 15 3 1 2 := ⟨_, _, _, rfl, in_X3, by decide, gi2 114 (by decide +kernel) (by decide +kernel), by decide +kernel, by decide⟩
theorem fl_X3_19 : Fl RX3 19 3 2 2 := ⟨_, _, _, rfl, in_X3, by decide, gi2 115 (by decide +kernel) (by decide +kernel), by decide +kernel, by decide⟩
theorem fl_X3_32 : Fl RX3 32 3 3 0 := ⟨_, _, _, rfl, in_X3, by decide, gi2 116 (by decide +kernel) (by decide +kernel), by decide +kernel, by decide⟩
theorem fl_X3_35 : Fl RX3 35 3 4 0 := ⟨_, _, _, rfl, in_X3, by decide, gi2 117 (by decide +kernel) (by decide +kernel), by decide +kernel, by decide⟩
theorem fl_X3_38 : Fl RX3 38 10 0 0 := ⟨_, _, _, rfl, in_X10, by decide, gi1 162 (by decide +kernel) (by decide +kernel), by decide +kernel, by decide⟩
theorem fl_X3_43 : Fl RX3 43 10 2 2 := ⟨_, _, _, rfl, in_X10, by decide, gi1 168 (by decide +kernel) (by decide +kernel), by decide +kernel, by decide⟩
theorem fl_X3_53 : Fl RX3 53 1 0 2 := ⟨_, _, _, rfl, in_X1, by decide, gi2 91 (by decide +kernel) (by decide +kernel), by decide +kernel, by decide⟩
theorem fl_X3_69 : Fl RX3 69 10 1 2 := ⟨_, _, _, rfl, in_X10, by decide, gi1 165 (by decide +kernel) (by decide +kernel), by decide +kernel, by decide⟩
theorem fl_X3_76 : Fl RX3 76 5 10 2 := ⟨_, _, _, rfl, in_X5, by decide, gi1 94 (by decide +kernel) (by decide +kernel), by decide +kernel, by decide⟩
theorem fl_X3_89 : Fl RX3 89 5 1 2 := ⟨_, _, _, rfl, in_X5, by decide, gi1 61 (by decide +kernel) (by decide +kernel), by decide +kernel, by decide⟩
theorem fl_X3_92 : Fl RX3 92 5 4 2 := ⟨_, _, _, rfl, in_X5, by decide, gi1 75 (by decide +kernel) (by decide +kernel), by decide +kernel, by decide⟩
theorem fp_X3_9 : Fp RX3 9 3 0 2 (.object "NineLives$Doings") true := ⟨_, _, _, tyX3, rfl, in_X3, by decide, gi2 113 (by decide +kernel) (by decide +kernel), by decide +kernel, by decide, tyX3_ok, nmX3, by decide +kernel, rfl, fun _ => rfl⟩
theorem fp_X3_15 : Fp RX3 15 3 1 2 (.object "NineLives$Reckoner") true := ⟨_, _, _, tyX3, rfl, in_X3, by decide, gi2 114 (by decide +kernel) (by decide +kernel), by decide +kernel, by decide, tyX3_ok, nmX3, by decide +kernel, rfl, fun _ => rfl⟩
theorem fp_X3_19 : Fp RX3 19 3 2 2 (.array .int) true := ⟨_, _, _, tyX3, rfl, in_X3, by decide, gi2 115 (by decide +kernel) (by decide +kernel), by decide +kernel, by decide, tyX3_ok, nmX3, by decide +kernel, rfl, fun _ => rfl⟩
theorem fp_X3_23 : Fp RX3 23 3 5 0 .int false := ⟨_, _, _, tyX3, rfl, in_X3, by decide, gi2 118 (by decide +kernel) (by decide +kernel), by decide +kernel, by decide, tyX3_ok, nmX3, by decide +kernel, rfl, fun _ => rfl⟩
theorem fp_X3_32 : Fp RX3 32 3 3 0 .int false := ⟨_, _, _, tyX3, rfl, in_X3, by decide, gi2 116 (by decide +kernel) (by decide +kernel), by decide +kernel, by decide, tyX3_ok, nmX3, by decide +kernel, rfl, fun _ => rfl⟩
theorem fp_X3_35 : Fp RX3 35 3 4 0 .int false := ⟨_, _, _, tyX3, rfl, in_X3, by decide, gi2 117 (by decide +kernel) (by decide +kernel), by decide +kernel, by decide, tyX3_ok, nmX3, by decide +kernel, rfl, fun _ => rfl⟩
theorem ml_X3_3 : Cond.methodLink RX3 3 objectInit ∈ gws := gi2 112 (by decide +kernel) (by decide +kernel)
theorem ml_X3_27 : Cond.methodLink RX3 27 yX1_remember ∈ gws := gi4 91 (by decide +kernel) (by decide +kernel)
theorem ml_X3_46 : Cond.methodLink RX3 46 yX3_ranOnce ∈ gws := gi4 105 (by decide +kernel) (by decide +kernel)
theorem ml_X3_50 : Cond.methodLink RX3 50 yX1_restore ∈ gws := gi4 167 (by decide +kernel) (by decide +kernel)
theorem ml_X3_57 : Cond.methodLink RX3 57 yX3_tellWords ∈ gws := gi4 109 (by decide +kernel) (by decide +kernel)
theorem ml_X3_61 : Cond.methodLink RX3 61 yX7_reckon ∈ gws := gi4 121 (by decide +kernel) (by decide +kernel)
theorem ml_X3_72 : Cond.methodLink RX3 72 yX1_act ∈ gws := gi4 123 (by decide +kernel) (by decide +kernel)
theorem ml_X3_81 : Cond.methodLink RX3 81 yX5_howManyAlive ∈ gws := gi4 113 (by decide +kernel) (by decide +kernel)
theorem ml_X3_85 : Cond.methodLink RX3 85 yX5_hasCat ∈ gws := gi4 117 (by decide +kernel) (by decide +kernel)
theorem ml_X3_95 : Cond.methodLink RX3 95 yX5_hasShip ∈ gws := gi4 118 (by decide +kernel) (by decide +kernel)
theorem ml_X3_98 : Cond.methodLink RX3 98 yX5_crewOf ∈ gws := gi4 119 (by decide +kernel) (by decide +kernel)
theorem cs_X3_67 : Cond.constantLong RX3 67 (-9223372036854775808) ∈ gws := gi4 122 (by decide +kernel) (by decide +kernel)
abbrev mX4_init : Mi := (yX4_init, cX4_init, 1, none)
abbrev mX4_howMany : Mi := (yX4_howMany, cX4_howMany, 1, (some .int))
abbrev mX4_empty : Mi := (yX4_empty, cX4_empty, 1, none)
abbrev mX4_keep : Mi := (yX4_keep, cX4_keep, 3, none)
abbrev mX4_takeNewest : Mi := (yX4_takeNewest, cX4_takeNewest, 3, (some .int))
abbrev mX4_copyFrom : Mi := (yX4_copyFrom, cX4_copyFrom, 3, none)
theorem mn_X4_init : Mn mX4_init 0 := ⟨⟨gi2 71 (by decide +kernel) (by decide +kernel), gi1 13 (by decide +kernel) (by decide +kernel), by decide +kernel, by decide +kernel, by decide +kernel⟩, gi2 70 (by decide +kernel) (by decide +kernel), rfl, rfl⟩
theorem mv_X4_howMany : Mv mX4_howMany 4 0 := ⟨⟨gi5 205 (by decide +kernel) (by decide +kernel), gi1 13 (by decide +kernel) (by decide +kernel), by decide +kernel, by decide +kernel, by decide +kernel⟩, gi5 203 (by decide +kernel) (by decide +kernel), gi5 204 (by decide +kernel) (by decide +kernel), by decide, _, _, rfl⟩
theorem mv_X4_empty : Mv mX4_empty 4 0 := ⟨⟨gi3 15 (by decide +kernel) (by decide +kernel), gi1 13 (by decide +kernel) (by decide +kernel), by decide +kernel, by decide +kernel, by decide +kernel⟩, gi3 13 (by decide +kernel) (by decide +kernel), gi3 14 (by decide +kernel) (by decide +kernel), by decide, _, _, rfl⟩
theorem mv_X4_keep : Mv mX4_keep 4 2 := ⟨⟨gi4 138 (by decide +kernel) (by decide +kernel), gi1 13 (by decide +kernel) (by decide +kernel), by decide +kernel, by decide +kernel, by decide +kernel⟩, gi4 136 (by decide +kernel) (by decide +kernel), gi4 137 (by decide +kernel) (by decide +kernel), by decide, _, _, rfl⟩
theorem mv_X4_takeNewest : Mv mX4_takeNewest 4 1 := ⟨⟨gi4 219 (by decide +kernel) (by decide +kernel), gi1 13 (by decide +kernel) (by decide +kernel), by decide +kernel, by decide +kernel, by decide +kernel⟩, gi4 217 (by decide +kernel) (by decide +kernel), gi4 218 (by decide +kernel) (by decide +kernel), by decide, _, _, rfl⟩
theorem mv_X4_copyFrom : Mv mX4_copyFrom 4 1 := ⟨⟨gi4 103 (by decide +kernel) (by decide +kernel), gi1 13 (by decide +kernel) (by decide +kernel), by decide +kernel, by decide +kernel, by decide +kernel⟩, gi4 101 (by decide +kernel) (by decide +kernel), gi4 102 (by decide +kernel) (by decide +kernel), by decide, _, _, rfl⟩
theorem fl_X4_15 : Fl RX4 15 4 0 2 := ⟨_, _, _, rfl, in_X4, by decide, gi2 75 (by decide +kernel) (by decide +kernel), by decide +kernel, by decide⟩
theorem fl_X4_18 : Fl RX4 18 4 1 2 := ⟨_, _, _, rfl, in_X4, by decide, gi2 76 (by decide +kernel) (by decide +kernel), by decide +kernel, by decide⟩
theorem fl_X4_22 : Fl RX4 22 4 3 0 := ⟨_, _, _, rfl, in_X4, by decide, gi2 78 (by decide +kernel) (by decide +kernel), by decide +kernel, by decide⟩
theorem fl_X4_26 : Fl RX4 26 4 2 0 := ⟨_, _, _, rfl, in_X4, by decide, gi2 77 (by decide +kernel) (by decide +kernel), by decide +kernel, by decide⟩
theorem fp_X4_15 : Fp RX4 15 4 0 2 (.array (.array .int)) true := ⟨_, _, _, tyX4, rfl, in_X4, by decide, gi2 75 (by decide +kernel) (by decide +kernel), by decide +kernel, by decide, tyX4_ok, nmX4, by decide +kernel, rfl, fun _ => rfl⟩
theorem fp_X4_18 : Fp RX4 18 4 1 2 (.array .int) true := ⟨_, _, _, tyX4, rfl, in_X4, by decide, gi2 76 (by decide +kernel) (by decide +kernel), by decide +kernel, by decide, tyX4_ok, nmX4, by decide +kernel, rfl, fun _ => rfl⟩
theorem fp_X4_22 : Fp RX4 22 4 3 0 .int false := ⟨_, _, _, tyX4, rfl, in_X4, by decide, gi2 78 (by decide +kernel) (by decide +kernel), by decide +kernel, by decide, tyX4_ok, nmX4, by decide +kernel, rfl, fun _ => rfl⟩
theorem fp_X4_26 : Fp RX4 26 4 2 0 .int false := ⟨_, _, _, tyX4, rfl, in_X4, by decide, gi2 77 (by decide +kernel) (by decide +kernel), by decide +kernel, by decide, tyX4_ok, nmX4, by decide +kernel, rfl, fun _ => rfl⟩
theorem ml_X4_3 : Cond.methodLink RX4 3 objectInit ∈ gws := gi2 72 (by decide +kernel) (by decide +kernel)
theorem ml_X4_35 : Cond.methodLink RX4 35 yX5_writeTo ∈ gws := gi4 140 (by decide +kernel) (by decide +kernel)
theorem ml_X4_39 : Cond.methodLink RX4 39 yX5_readFrom ∈ gws := gi4 220 (by decide +kernel) (by decide +kernel)
abbrev mX5_init : Mi := (yX5_init, cX5_init, 1, none)
abbrev mX5_hasCat : Mi := (yX5_hasCat, cX5_hasCat, 2, (some .boolean))
abbrev mX5_isHere : Mi := (yX5_isHere, cX5_isHere, 2, (some .boolean))
abbrev mX5_hasShip : Mi := (yX5_hasShip, cX5_hasShip, 2, (some .boolean))
abbrev mX5_hasLaw : Mi := (yX5_hasLaw, cX5_hasLaw, 2, (some .boolean))
abbrev mX5_lawOf : Mi := (yX5_lawOf, cX5_lawOf, 2, (some (.object "NineLives$Text")))
abbrev mX5_addCat : Mi := (yX5_addCat, cX5_addCat, 5, (some .int))
abbrev mX5_addShip : Mi := (yX5_addShip, cX5_addShip, 3, (some .int))
abbrev mX5_addLaw : Mi := (yX5_addLaw, cX5_addLaw, 3, (some .int))
abbrev mX5_spentBy : Mi := (yX5_spentBy, cX5_spentBy, 3, (some .int))
abbrev mX5_howManyAlive : Mi := (yX5_howManyAlive, cX5_howManyAlive, 3, (some .int))
abbrev mX5_allGold : Mi := (yX5_allGold, cX5_allGold, 3, (some .int))
abbrev mX5_crewOf : Mi := (yX5_crewOf, cX5_crewOf, 4, (some .int))
abbrev mX5_withoutShip : Mi := (yX5_withoutShip, cX5_withoutShip, 3, (some .int))
abbrev mX5_livesOf : Mi := (yX5_livesOf, cX5_livesOf, 4, (some .int))
abbrev mX5_missingOn : Mi := (yX5_missingOn, cX5_missingOn, 2, (some .int))
abbrev mX5_endLife : Mi := (yX5_endLife, cX5_endLife, 3, none)
abbrev mX5_passYear : Mi := (yX5_passYear, cX5_passYear, 3, none)
abbrev mX5_copyFrom : Mi := (yX5_copyFrom, cX5_copyFrom, 3, none)
abbrev mX5_writeTo : Mi := (yX5_writeTo, cX5_writeTo, 2, none)
abbrev mX5_readFrom : Mi := (yX5_readFrom, cX5_readFrom, 2, none)
theorem mn_X5_init : Mn mX5_init 0 := ⟨⟨gi1 48 (by decide +kernel) (by decide +kernel), gi1 3 (by decide +kernel) (by decide +kernel), by decide +kernel, by decide +kernel, by decide +kernel⟩, gi1 47 (by decide +kernel) (by decide +kernel), rfl, rfl⟩
theorem mv_X5_hasCat : Mv mX5_hasCat 5 1 := ⟨⟨gi3 31 (by decide +kernel) (by decide +kernel), gi1 3 (by decide +kernel) (by decide +kernel), by decide +kernel, by decide +kernel, by decide +kernel⟩, gi3 29 (by decide +kernel) (by decide +kernel), gi3 30 (by decide +kernel) (by decide +kernel), by decide, _, _, rfl⟩
theorem mv_X5_isHere : Mv mX5_isHere 5 1 := ⟨⟨gi3 49 (by decide +kernel) (by decide +kernel), gi1 3 (by decide +kernel) (by decide +kernel), by decide +kernel, by decide +kernel, by decide +kernel⟩, gi3 47 (by decide +kernel) (by decide +kernel), gi3 48 (by decide +kernel) (by decide +kernel), by decide, _, _, rfl⟩
theorem mv_X5_hasShip : Mv mX5_hasShip 5 1 := ⟨⟨gi3 117 (by decide +kernel) (by decide +kernel), gi1 3 (by decide +kernel) (by decide +kernel), by decide +kernel, by decide +kernel, by decide +kernel⟩, gi3 115 (by decide +kernel) (by decide +kernel), gi3 116 (by decide +kernel) (by decide +kernel), by decide, _, _, rfl⟩
theorem mv_X5_hasLaw : Mv mX5_hasLaw 5 1 := ⟨⟨gi4 190 (by decide +kernel) (by decide +kernel), gi1 3 (by decide +kernel) (by decide +kernel), by decide +kernel, by decide +kernel, by decide +kernel⟩, gi4 188 (by decide +kernel) (by decide +kernel), gi4 189 (by decide +kernel) (by decide +kernel), by decide, _, _, rfl⟩
theorem mv_X5_lawOf : Mv mX5_lawOf 5 1 := ⟨⟨gi3 58 (by decide +kernel) (by decide +kernel), gi1 3 (by decide +kernel) (by decide +kernel), by decide +kernel, by decide +kernel, by decide +kernel⟩, gi3 56 (by decide +kernel) (by decide +kernel), gi3 57 (by decide +kernel) (by decide +kernel), by decide, _, _, rfl⟩
theorem mv_X5_addCat : Mv mX5_addCat 5 3 := ⟨⟨gi3 19 (by decide +kernel) (by decide +kernel), gi1 3 (by decide +kernel) (by decide +kernel), by decide +kernel, by decide +kernel, by decide +kernel⟩, gi3 17 (by decide +kernel) (by decide +kernel), gi3 18 (by decide +kernel) (by decide +kernel), by decide, _, _, rfl⟩
theorem mv_X5_addShip : Mv mX5_addShip 5 1 := ⟨⟨gi3 109 (by decide +kernel) (by decide +kernel), gi1 3 (by decide +kernel) (by decide +kernel), by decide +kernel, by decide +kernel, by decide +kernel⟩, gi3 107 (by decide +kernel) (by decide +kernel), gi3 108 (by decide +kernel) (by decide +kernel), by decide, _, _, rfl⟩
theorem mv_X5_addLaw : Mv mX5_addLaw 5 1 := ⟨⟨gi4 82 (by decide +kernel) (by decide +kernel), gi1 3 (by decide +kernel) (by decide +kernel), by decide +kernel, by decide +kernel, by decide +kernel⟩, gi4 80 (by decide +kernel) (by decide +kernel), gi4 81 (by decide +kernel) (by decide +kernel), by decide, _, _, rfl⟩
theorem mv_X5_spentBy : Mv mX5_spentBy 5 1 := ⟨⟨gi3 35 (by decide +kernel) (by decide +kernel), gi1 3 (by decide +kernel) (by decide +kernel), by decide +kernel, by decide +kernel, by decide +kernel⟩, gi3 33 (by decide +kernel) (by decide +kernel), gi3 34 (by decide +kernel) (by decide +kernel), by decide, _, _, rfl⟩
theorem mv_X5_howManyAlive : Mv mX5_howManyAlive 5 0 := ⟨⟨gi4 116 (by decide +kernel) (by decide +kernel), gi1 3 (by decide +kernel) (by decide +kernel), by decide +kernel, by decide +kernel, by decide +kernel⟩, gi4 114 (by decide +kernel) (by decide +kernel), gi4 115 (by decide +kernel) (by decide +kernel), by decide, _, _, rfl⟩
theorem mv_X5_allGold : Mv mX5_allGold 5 0 := ⟨⟨gi5 209 (by decide +kernel) (by decide +kernel), gi1 3 (by decide +kernel) (by decide +kernel), by decide +kernel, by decide +kernel, by decide +kernel⟩, gi5 207 (by decide +kernel) (by decide +kernel), gi5 208 (by decide +kernel) (by decide +kernel), by decide, _, _, rfl⟩
theorem mv_X5_crewOf : Mv mX5_crewOf 5 1 := ⟨⟨gi3 121 (by decide +kernel) (by decide +kernel), gi1 3 (by decide +kernel) (by decide +kernel), by decide +kernel, by decide +kernel, by decide +kernel⟩, gi3 119 (by decide +kernel) (by decide +kernel), gi3 120 (by decide +kernel) (by decide +kernel), by decide, _, _, rfl⟩
theorem mv_X5_withoutShip : Mv mX5_withoutShip 5 0 := ⟨⟨gi5 124 (by decide +kernel) (by decide +kernel), gi1 3 (by decide +kernel) (by decide +kernel), by decide +kernel, by decide +kernel, by decide +kernel⟩, gi5 122 (by decide +kernel) (by decide +kernel), gi5 123 (by decide +kernel) (by decide +kernel), by decide, _, _, rfl⟩
theorem mv_X5_livesOf : Mv mX5_livesOf 5 1 := ⟨⟨gi3 130 (by decide +kernel) (by decide +kernel), gi1 3 (by decide +kernel) (by decide +kernel), by decide +kernel, by decide +kernel, by decide +kernel⟩, gi3 128 (by decide +kernel) (by decide +kernel), gi3 129 (by decide +kernel) (by decide +kernel), by decide, _, _, rfl⟩
theorem mv_X5_missingOn : Mv mX5_missingOn 5 1 := ⟨⟨gi3 125 (by decide +kernel) (by decide +kernel), gi1 3 (by decide +kernel) (by decide +kernel), by decide +kernel, by decide +kernel, by decide +kernel⟩, gi3 123 (by decide +kernel) (by decide +kernel), gi3 124 (by decide +kernel) (by decide +kernel), by decide, _, _, rfl⟩
theorem mv_X5_endLife : Mv mX5_endLife 5 2 := ⟨⟨gi4 155 (by decide +kernel) (by decide +kernel), gi1 3 (by decide +kernel) (by decide +kernel), by decide +kernel, by decide +kernel, by decide +kernel⟩, gi4 153 (by decide +kernel) (by decide +kernel), gi4 154 (by decide +kernel) (by decide +kernel), by decide, _, _, rfl⟩
theorem mv_X5_passYear : Mv mX5_passYear 5 1 := ⟨⟨gi4 163 (by decide +kernel) (by decide +kernel), gi1 3 (by decide +kernel) (by decide +kernel), by decide +kernel, by decide +kernel, by decide +kernel⟩, gi4 161 (by decide +kernel) (by decide +kernel), gi4 162 (by decide +kernel) (by decide +kernel), by decide, _, _, rfl⟩
theorem mv_X5_copyFrom : Mv mX5_copyFrom 5 1 := ⟨⟨gi4 98 (by decide +kernel) (by decide +kernel), gi1 3 (by decide +kernel) (by decide +kernel), by decide +kernel, by decide +kernel, by decide +kernel⟩, gi4 96 (by decide +kernel) (by decide +kernel), gi4 97 (by decide +kernel) (by decide +kernel), by decide, _, _, rfl⟩
theorem mv_X5_writeTo : Mv mX5_writeTo 5 1 := ⟨⟨gi4 143 (by decide +kernel) (by decide +kernel), gi1 3 (by decide +kernel) (by decide +kernel), by decide +kernel, by decide +kernel, by decide +kernel⟩, gi4 141 (by decide +kernel) (by decide +kernel), gi4 142 (by decide +kernel) (by decide +kernel), by decide, _, _, rfl⟩
theorem mv_X5_readFrom : Mv mX5_readFrom 5 1 := ⟨⟨gi4 223 (by decide +kernel) (by decide +kernel), gi1 3 (by decide +kernel) (by decide +kernel), by decide +kernel, by decide +kernel, by decide +kernel⟩, gi4 221 (by decide +kernel) (by decide +kernel), gi4 222 (by decide +kernel) (by decide +kernel), by decide, _, _, rfl⟩
theorem fl_X5_9 : Fl RX5 9 5 1 2 := ⟨_, _, _, rfl, in_X5, by decide, gi1 57 (by decide +kernel) (by decide +kernel), by decide +kernel, by decide⟩
theorem fl_X5_15 : Fl RX5 15 5 2 2 := ⟨_, _, _, rfl, in_X5, by decide, gi1 63 (by decide +kernel) (by decide +kernel), by decide +kernel, by decide⟩
theorem fl_X5_18 : Fl RX5 18 5 3 2 := ⟨_, _, _, rfl, in_X5, by decide, gi1 68 (by decide +kernel) (by decide +kernel), by decide +kernel, by decide⟩
theorem fl_X5_21 : Fl RX5 21 5 4 2 := ⟨_, _, _, rfl, in_X5, by decide, gi1 72 (by decide +kernel) (by decide +kernel), by decide +kernel, by decide⟩
theorem fl_X5_24 : Fl RX5 24 5 5 2 := ⟨_, _, _, rfl, in_X5, by decide, gi1 76 (by decide +kernel) (by decide +kernel), by decide +kernel, by decide⟩
theorem fl_X5_27 : Fl RX5 27 5 7 2 := ⟨_, _, _, rfl, in_X5, by decide, gi1 82 (by decide +kernel) (by decide +kernel), by decide +kernel, by decide⟩
theorem fl_X5_30 : Fl RX5 30 5 9 2 := ⟨_, _, _, rfl, in_X5, by decide, gi1 87 (by decide +kernel) (by decide +kernel), by decide +kernel, by decide⟩
theorem fl_X5_33 : Fl RX5 33 5 10 2 := ⟨_, _, _, rfl, in_X5, by decide, gi1 90 (by decide +kernel) (by decide +kernel), by decide +kernel, by decide⟩
theorem fl_X5_38 : Fl RX5 38 5 12 2 := ⟨_, _, _, rfl, in_X5, by decide, gi1 99 (by decide +kernel) (by decide +kernel), by decide +kernel, by decide⟩
theorem fl_X5_42 : Fl RX5 42 5 13 0 := ⟨_, _, _, rfl, in_X5, by decide, gi1 100 (by decide +kernel) (by decide +kernel), by decide +kernel, by decide⟩
theorem fl_X5_46 : Fl RX5 46 5 0 0 := ⟨_, _, _, rfl, in_X5, by decide, gi1 52 (by decide +kernel) (by decide +kernel), by decide +kernel, by decide⟩
theorem fl_X5_53 : Fl RX5 53 5 6 0 := ⟨_, _, _, rfl, in_X5, by decide, gi1 80 (by decide +kernel) (by decide +kernel), by decide +kernel, by decide⟩
theorem fl_X5_56 : Fl RX5 56 5 11 0 := ⟨_, _, _, rfl, in_X5, by decide, gi1 97 (by decide +kernel) (by decide +kernel), by decide +kernel, by decide⟩
theorem fl_X5_96 : Fl RX5 96 5 8 0 := ⟨_, _, _, rfl, in_X5, by decide, gi1 85 (by decide +kernel) (by decide +kernel), by decide +kernel, by decide⟩
theorem fp_X5_9 : Fp RX5 9 5 1 2 (.array .int) true := ⟨_, _, _, tyX5, rfl, in_X5, by decide, gi1 57 (by decide +kernel) (by decide +kernel), by decide +kernel, by decide, tyX5_ok, nmX5, by decide +kernel, rfl, fun _ => rfl⟩
theorem fp_X5_15 : Fp RX5 15 5 2 2 (.array .int) true := ⟨_, _, _, tyX5, rfl, in_X5, by decide, gi1 63 (by decide +kernel) (by decide +kernel), by decide +kernel, by decide, tyX5_ok, nmX5, by decide +kernel, rfl, fun _ => rfl⟩
theorem fp_X5_18 : Fp RX5 18 5 3 2 (.array .int) true := ⟨_, _, _, tyX5, rfl, in_X5, by decide, gi1 68 (by decide +kernel) (by decide +kernel), by decide +kernel, by decide, tyX5_ok, nmX5, by decide +kernel, rfl, fun _ => rfl⟩
theorem fp_X5_21 : Fp RX5 21 5 4 2 (.array .int) true := ⟨_, _, _, tyX5, rfl, in_X5, by decide, gi1 72 (by decide +kernel) (by decide +kernel), by decide +kernel, by decide, tyX5_ok, nmX5, by decide +kernel, rfl, fun _ => rfl⟩
theorem fp_X5_24 : Fp RX5 24 5 5 2 (.array .int) true := ⟨_, _, _, tyX5, rfl, in_X5, by decide, gi1 76 (by decide +kernel) (by decide +kernel), by decide +kernel, by decide, tyX5_ok, nmX5, by decide +kernel, rfl, fun _ => rfl⟩
theorem fp_X5_27 : Fp RX5 27 5 7 2 (.array .int) true := ⟨_, _, _, tyX5, rfl, in_X5, by decide, gi1 82 (by decide +kernel) (by decide +kernel), by decide +kernel, by decide, tyX5_ok, nmX5, by decide +kernel, rfl, fun _ => rfl⟩
theorem fp_X5_30 : Fp RX5 30 5 9 2 (.array .int) true := ⟨_, _, _, tyX5, rfl, in_X5, by decide, gi1 87 (by decide +kernel) (by decide +kernel), by decide +kernel, by decide, tyX5_ok, nmX5, by decide +kernel, rfl, fun _ => rfl⟩
theorem fp_X5_33 : Fp RX5 33 5 10 2 (.array .int) true := ⟨_, _, _, tyX5, rfl, in_X5, by decide, gi1 90 (by decide +kernel) (by decide +kernel), by decide +kernel, by decide, tyX5_ok, nmX5, by decide +kernel, rfl, fun _ => rfl⟩
theorem fp_X5_38 : Fp RX5 38 5 12 2 (.array (.object "NineLives$Text")) true := ⟨_, _, _, tyX5, rfl, in_X5, by decide, gi1 99 (by decide +kernel) (by decide +kernel), by decide +kernel, by decide, tyX5_ok, nmX5, by decide +kernel, rfl, fun _ => rfl⟩
theorem fp_X5_42 : Fp RX5 42 5 13 0 .int false := ⟨_, _, _, tyX5, rfl, in_X5, by decide, gi1 100 (by decide +kernel) (by decide +kernel), by decide +kernel, by decide, tyX5_ok, nmX5, by decide +kernel, rfl, fun _ => rfl⟩
theorem fp_X5_46 : Fp RX5 46 5 0 0 .int false := ⟨_, _, _, tyX5, rfl, in_X5, by decide, gi1 52 (by decide +kernel) (by decide +kernel), by decide +kernel, by decide, tyX5_ok, nmX5, by decide +kernel, rfl, fun _ => rfl⟩
theorem fp_X5_53 : Fp RX5 53 5 6 0 .int false := ⟨_, _, _, tyX5, rfl, in_X5, by decide, gi1 80 (by decide +kernel) (by decide +kernel), by decide +kernel, by decide, tyX5_ok, nmX5, by decide +kernel, rfl, fun _ => rfl⟩
theorem fp_X5_56 : Fp RX5 56 5 11 0 .int false := ⟨_, _, _, tyX5, rfl, in_X5, by decide, gi1 97 (by decide +kernel) (by decide +kernel), by decide +kernel, by decide, tyX5_ok, nmX5, by decide +kernel, rfl, fun _ => rfl⟩
theorem fp_X5_96 : Fp RX5 96 5 8 0 .int false := ⟨_, _, _, tyX5, rfl, in_X5, by decide, gi1 85 (by decide +kernel) (by decide +kernel), by decide +kernel, by decide, tyX5_ok, nmX5, by decide +kernel, rfl, fun _ => rfl⟩
theorem ml_X5_3 : Cond.methodLink RX5 3 objectInit ∈ gws := gi1 49 (by decide +kernel) (by decide +kernel)
theorem ml_X5_49 : Cond.methodLink RX5 49 yX5_hasCat ∈ gws := gi3 50 (by decide +kernel) (by decide +kernel)
theorem ml_X5_69 : Cond.methodLink RX5 69 yX5_crewOf ∈ gws := gi3 126 (by decide +kernel) (by decide +kernel)
theorem ml_X5_72 : Cond.methodLink RX5 72 yX5_livesOf ∈ gws := gi3 127 (by decide +kernel) (by decide +kernel)
theorem ml_X5_75 : Cond.methodLink RX5 75 yX0_about ∈ gws := gi4 164 (by decide +kernel) (by decide +kernel)
theorem ml_X5_81 : Cond.methodLink RX5 81 yX0_tells ∈ gws := gi4 165 (by decide +kernel) (by decide +kernel)
abbrev mX6_init : Mi := (yX6_init, cX6_init, 1, none)
abbrev mX6_learnWords : Mi := (yX6_learnWords, cX6_learnWords, 4, none)
abbrev mX6_withLetter : Mi := (yX6_withLetter, cX6_withLetter, 2, (some .int))
abbrev mX6_read : Mi := (yX6_read, cX6_read, 6, (some .int))
abbrev mX6_split : Mi := (yX6_split, cX6_split, 8, none)
abbrev mX6_sortOf : Mi := (yX6_sortOf, cX6_sortOf, 1, (some .int))
abbrev mX6_addToken : Mi := (yX6_addToken, cX6_addToken, 3, none)
abbrev mX6_addDigit : Mi := (yX6_addDigit, cX6_addDigit, 3, none)
abbrev mX6_addLetter : Mi := (yX6_addLetter, cX6_addLetter, 4, none)
abbrev mX6_wordOf : Mi := (yX6_wordOf, cX6_wordOf, 3, (some .int))
abbrev mX6_kindNow : Mi := (yX6_kindNow, cX6_kindNow, 1, (some .int))
abbrev mX6_takes : Mi := (yX6_takes, cX6_takes, 2, (some .boolean))
abbrev mX6_takeNumber : Mi := (yX6_takeNumber, cX6_takeNumber, 4, (some .int))
abbrev mX6_hasClause : Mi := (yX6_hasClause, cX6_hasClause, 3, (some .boolean))
abbrev mX6_hasLawDoing : Mi := (yX6_hasLawDoing, cX6_hasLawDoing, 2, (some .boolean))
abbrev mX6_hasOrderDoing : Mi := (yX6_hasOrderDoing, cX6_hasOrderDoing, 2, (some .boolean))
abbrev mX6_hasTimes : Mi := (yX6_hasTimes, cX6_hasTimes, 2, (some .boolean))
abbrev mX6_hasTest : Mi := (yX6_hasTest, cX6_hasTest, 5, (some .boolean))
abbrev mX6_hasPlain : Mi := (yX6_hasPlain, cX6_hasPlain, 4, (some .boolean))
abbrev mX6_hasComparison : Mi := (yX6_hasComparison, cX6_hasComparison, 3, (some .boolean))
abbrev mX6_hasBracketed : Mi := (yX6_hasBracketed, cX6_hasBracketed, 3, (some .boolean))
abbrev mX6_hasSum : Mi := (yX6_hasSum, cX6_hasSum, 3, (some .boolean))
abbrev mX6_hasTerm : Mi := (yX6_hasTerm, cX6_hasTerm, 3, (some .boolean))
abbrev mX6_hasPart : Mi := (yX6_hasPart, cX6_hasPart, 5, (some .boolean))
abbrev mX6_takeLawWord : Mi := (yX6_takeLawWord, cX6_takeLawWord, 2, (some .int))
abbrev mX6_takeOrderWord : Mi := (yX6_takeOrderWord, cX6_takeOrderWord, 4, (some .int))
abbrev mX6_placeOfOrderWord : Mi := (yX6_placeOfOrderWord, cX6_placeOfOrderWord, 1, (some .int))
theorem mn_X6_init : Mn mX6_init 0 := ⟨⟨gi1 153 (by decide +kernel) (by decide +kernel), gi1 5 (by decide +kernel) (by decide +kernel), by decide +kernel, by decide +kernel, by decide +kernel⟩, gi1 152 (by decide +kernel) (by decide +kernel), rfl, rfl⟩
theorem mv_X6_learnWords : Mv mX6_learnWords 6 0 := ⟨⟨gi1 198 (by decide +kernel) (by decide +kernel), gi1 5 (by decide +kernel) (by decide +kernel), by decide +kernel, by decide +kernel, by decide +kernel⟩, gi1 197 (by decide +kernel) (by decide +kernel), gi0 0 (by decide +kernel) (by decide +kernel), by decide, _, _, rfl⟩
theorem ms_X6_withLetter : Ms mX6_withLetter 2 := ⟨⟨gi2 10 (by decide +kernel) (by decide +kernel), gi1 5 (by decide +kernel) (by decide +kernel), by decide +kernel, by decide +kernel, by decide +kernel⟩, gi2 9 (by decide +kernel) (by decide +kernel)⟩
theorem mv_X6_read : Mv mX6_read 6 2 := ⟨⟨gi3 192 (by decide +kernel) (by decide +kernel), gi1 5 (by decide +kernel) (by decide +kernel), by decide +kernel, by decide +kernel, by decide +kernel⟩, gi3 190 (by decide +kernel) (by decide +kernel), gi3 191 (by decide +kernel) (by decide +kernel), by decide, _, _, rfl⟩
theorem mv_X6_split : Mv mX6_split 6 1 := ⟨⟨gi3 196 (by decide +kernel) (by decide +kernel), gi1 5 (by decide +kernel) (by decide +kernel), by decide +kernel, by decide +kernel, by decide +kernel⟩, gi3 195 (by decide +kernel) (by decide +kernel), gi0 7 (by decide +kernel) (by decide +kernel), by decide, _, _, rfl⟩
theorem ms_X6_sortOf : Ms mX6_sortOf 1 := ⟨⟨gi3 200 (by decide +kernel) (by decide +kernel), gi1 5 (by decide +kernel) (by decide +kernel), by decide +kernel, by decide +kernel, by decide +kernel⟩, gi3 199 (by decide +kernel) (by decide +kernel)⟩
theorem mv_X6_addToken : Mv mX6_addToken 6 2 := ⟨⟨gi3 204 (by decide +kernel) (by decide +kernel), gi1 5 (by decide +kernel) (by decide +kernel), by decide +kernel, by decide +kernel, by decide +kernel⟩, gi3 203 (by decide +kernel) (by decide +kernel), gi0 8 (by decide +kernel) (by decide +kernel), by decide, _, _, rfl⟩
theorem mv_X6_addDigit : Mv mX6_addDigit 6 1 := ⟨⟨gi3 216 (by decide +kernel) (by decide +kernel), gi1 5 (by decide +kernel) (by decide +kernel), by decide +kernel, by decide +kernel, by decide +kernel⟩, gi3 215 (by decide +kernel) (by decide +kernel), gi0 11 (by decide +kernel) (by decide +kernel), by decide, _, _, rfl⟩
theorem mv_X6_addLetter : Mv mX6_addLetter 6 2 := ⟨⟨gi3 208 (by decide +kernel) (by decide +kernel), gi1 5 (by decide +kernel) (by decide +kernel), by decide +kernel, by decide +kernel, by decide +kernel⟩, gi3 207 (by decide +kernel) (by decide +kernel), gi0 9 (by decide +kernel) (by decide +kernel), by decide, _, _, rfl⟩
theorem mv_X6_wordOf : Mv mX6_wordOf 6 1 := ⟨⟨gi3 212 (by decide +kernel) (by decide +kernel), gi1 5 (by decide +kernel) (by decide +kernel), by decide +kernel, by decide +kernel, by decide +kernel⟩, gi3 211 (by decide +kernel) (by decide +kernel), gi0 10 (by decide +kernel) (by decide +kernel), by decide, _, _, rfl⟩
theorem mv_X6_kindNow : Mv mX6_kindNow 6 0 := ⟨⟨gi3 230 (by decide +kernel) (by decide +kernel), gi1 5 (by decide +kernel) (by decide +kernel), by decide +kernel, by decide +kernel, by decide +kernel⟩, gi3 229 (by decide +kernel) (by decide +kernel), gi0 13 (by decide +kernel) (by decide +kernel), by decide, _, _, rfl⟩
theorem mv_X6_takes : Mv mX6_takes 6 1 := ⟨⟨gi4 38 (by decide +kernel) (by decide +kernel), gi1 5 (by decide +kernel) (by decide +kernel), by decide +kernel, by decide +kernel, by decide +kernel⟩, gi4 37 (by decide +kernel) (by decide +kernel), gi0 22 (by decide +kernel) (by decide +kernel), by decide, _, _, rfl⟩
theorem mv_X6_takeNumber : Mv mX6_takeNumber 6 2 := ⟨⟨gi4 42 (by decide +kernel) (by decide +kernel), gi1 5 (by decide +kernel) (by decide +kernel), by decide +kernel, by decide +kernel, by decide +kernel⟩, gi4 41 (by decide +kernel) (by decide +kernel), gi0 23 (by decide +kernel) (by decide +kernel), by decide, _, _, rfl⟩
theorem mv_X6_hasClause : Mv mX6_hasClause 6 0 := ⟨⟨gi3 226 (by decide +kernel) (by decide +kernel), gi1 5 (by decide +kernel) (by decide +kernel), by decide +kernel, by decide +kernel, by decide +kernel⟩, gi3 225 (by decide +kernel) (by decide +kernel), gi0 12 (by decide +kernel) (by decide +kernel), by decide, _, _, rfl⟩
theorem mv_X6_hasLawDoing : Mv mX6_hasLawDoing 6 1 := ⟨⟨gi3 234 (by decide +kernel) (by decide +kernel), gi1 5 (by decide +kernel) (by decide +kernel), by decide +kernel, by decide +kernel, by decide +kernel⟩, gi3 233 (by decide +kernel) (by decide +kernel), gi0 14 (by decide +kernel) (by decide +kernel), by decide, _, _, rfl⟩
theorem mv_X6_hasOrderDoing : Mv mX6_hasOrderDoing 6 1 := ⟨⟨gi4 61 (by decide +kernel) (by decide +kernel), gi1 5 (by decide +kernel) (by decide +kernel), by decide +kernel, by decide +kernel, by decide +kernel⟩, gi4 60 (by decide +kernel) (by decide +kernel), gi0 26 (by decide +kernel) (by decide +kernel), by decide, _, _, rfl⟩
theorem mv_X6_hasTimes : Mv mX6_hasTimes 6 0 := ⟨⟨gi4 65 (by decide +kernel) (by decide +kernel), gi1 5 (by decide +kernel) (by decide +kernel), by decide +kernel, by decide +kernel, by decide +kernel⟩, gi4 64 (by decide +kernel) (by decide +kernel), gi0 27 (by decide +kernel) (by decide +kernel), by decide, _, _, rfl⟩
theorem mv_X6_hasTest : Mv mX6_hasTest 6 1 := ⟨⟨gi4 18 (by decide +kernel) (by decide +kernel), gi1 5 (by decide +kernel) (by decide +kernel), by decide +kernel, by decide +kernel, by decide +kernel⟩, gi4 17 (by decide +kernel) (by decide +kernel), gi0 19 (by decide +kernel) (by decide +kernel), by decide, _, _, rfl⟩
theorem mv_X6_hasPlain : Mv mX6_hasPlain 6 1 := ⟨⟨gi4 22 (by decide +kernel) (by decide +kernel), gi1 5 (by decide +kernel) (by decide +kernel), by decide +kernel, by decide +kernel, by decide +kernel⟩, gi4 21 (by decide +kernel) (by decide +kernel), gi0 20 (by decide +kernel) (by decide +kernel), by decide, _, _, rfl⟩
theorem mv_X6_hasComparison : Mv mX6_hasComparison 6 1 := ⟨⟨gi4 26 (by decide +kernel) (by decide +kernel), gi1 5 (by decide +kernel) (by decide +kernel), by decide +kernel, by decide +kernel, by decide +kernel⟩, gi4 25 (by decide +kernel) (by decide +kernel), gi0 21 (by decide +kernel) (by decide +kernel), by decide, _, _, rfl⟩
theorem mv_X6_hasBracketed : Mv mX6_hasBracketed 6 2 := ⟨⟨gi4 14 (by decide +kernel) (by decide +kernel), gi1 5 (by decide +kernel) (by decide +kernel), by decide +kernel, by decide +kernel, by decide +kernel⟩, gi4 13 (by decide +kernel) (by decide +kernel), gi0 18 (by decide +kernel) (by decide +kernel), by decide, _, _, rfl⟩
theorem mv_X6_hasSum : Mv mX6_hasSum 6 1 := ⟨⟨gi4 2 (by decide +kernel) (by decide +kernel), gi1 5 (by decide +kernel) (by decide +kernel), by decide +kernel, by decide +kernel, by decide +kernel⟩, gi4 1 (by decide +kernel) (by decide +kernel), gi0 15 (by decide +kernel) (by decide +kernel), by decide, _, _, rfl⟩
theorem mv_X6_hasTerm : Mv mX6_hasTerm 6 1 := ⟨⟨gi4 6 (by decide +kernel) (by decide +kernel), gi1 5 (by decide +kernel) (by decide +kernel), by decide +kernel, by decide +kernel, by decide +kernel⟩, gi4 5 (by decide +kernel) (by decide +kernel), gi0 16 (by decide +kernel) (by decide +kernel), by decide, _, _, rfl⟩
theorem mv_X6_hasPart : Mv mX6_hasPart 6 1 := ⟨⟨gi4 10 (by decide +kernel) (by decide +kernel), gi1 5 (by decide +kernel) (by decide +kernel), by decide +kernel, by decide +kernel, by decide +kernel⟩, gi4 9 (by decide +kernel) (by decide +kernel), gi0 17 (by decide +kernel) (by decide +kernel), by decide, _, _, rfl⟩
theorem mv_X6_takeLawWord : Mv mX6_takeLawWord 6 1 := ⟨⟨gi4 46 (by decide +kernel) (by decide +kernel), gi1 5 (by decide +kernel) (by decide +kernel), by decide +kernel, by decide +kernel, by decide +kernel⟩, gi4 45 (by decide +kernel) (by decide +kernel), gi0 24 (by decide +kernel) (by decide +kernel), by decide, _, _, rfl⟩
theorem mv_X6_takeOrderWord : Mv mX6_takeOrderWord 6 1 := ⟨⟨gi4 50 (by decide +kernel) (by decide +kernel), gi1 5 (by decide +kernel) (by decide +kernel), by decide +kernel, by decide +kernel, by decide +kernel⟩, gi4 49 (by decide +kernel) (by decide +kernel), gi0 25 (by decide +kernel) (by decide +kernel), by decide, _, _, rfl⟩
theorem ms_X6_placeOfOrderWord : Ms mX6_placeOfOrderWord 1 := ⟨⟨gi4 53 (by decide +kernel) (by decide +kernel), gi1 5 (by decide +kernel) (by decide +kernel), by decide +kernel, by decide +kernel, by decide +kernel⟩, gi4 52 (by decide +kernel) (by decide +kernel)⟩
theorem fl_X6_14 : Fl RX6 14 6 0 2 := ⟨_, _, _, rfl, in_X6, by decide, gi2 11 (by decide +kernel) (by decide +kernel), by decide +kernel, by decide⟩
theorem fl_X6_20 : Fl RX6 20 6 1 2 := ⟨_, _, _, rfl, in_X6, by decide, gi2 13 (by decide +kernel) (by decide +kernel), by decide +kernel, by decide⟩
theorem fl_X6_24 : Fl RX6 24 6 2 2 := ⟨_, _, _, rfl, in_X6, by decide, gi2 14 (by decide +kernel) (by decide +kernel), by decide +kernel, by decide⟩
theorem fl_X6_27 : Fl RX6 27 6 3 2 := ⟨_, _, _, rfl, in_X6, by decide, gi2 15 (by decide +kernel) (by decide +kernel), by decide +kernel, by decide⟩
theorem fl_X6_30 : Fl RX6 30 6 4 2 := ⟨_, _, _, rfl, in_X6, by decide, gi2 16 (by decide +kernel) (by decide +kernel), by decide +kernel, by decide⟩
theorem fl_X6_52 : Fl RX6 52 6 8 0 := ⟨_, _, _, rfl, in_X6, by decide, gi2 20 (by decide +kernel) (by decide +kernel), by decide +kernel, by decide⟩
theorem fl_X6_60 : Fl RX6 60 9 1 0 := ⟨_, _, _, rfl, in_X9, by decide, gi1 142 (by decide +kernel) (by decide +kernel), by decide +kernel, by decide⟩
theorem fl_X6_69 : Fl RX6 69 6 6 0 := ⟨_, _, _, rfl, in_X6, by decide, gi2 18 (by decide +kernel) (by decide +kernel), by decide +kernel, by decide⟩
theorem fl_X6_72 : Fl RX6 72 6 7 0 := ⟨_, _, _, rfl, in_X6, by decide, gi2 19 (by decide +kernel) (by decide +kernel), by decide +kernel, by decide⟩
theorem fl_X6_86 : Fl RX6 86 6 5 0 := ⟨_, _, _, rfl, in_X6, by decide, gi2 17 (by decide +kernel) (by decide +kernel), by decide +kernel, by decide⟩
theorem fp_X6_14 : Fp RX6 14 6 0 2 (.object "NineLives$Text") true := ⟨_, _, _, tyX6, rfl, in_X6, by decide, gi2 11 (by decide +kernel) (by decide +kernel), by decide +kernel, by decide, tyX6_ok, nmX6, by decide +kernel, rfl, fun _ => rfl⟩
theorem fp_X6_20 : Fp RX6 20 6 1 2 (.array .int) true := ⟨_, _, _, tyX6, rfl, in_X6, by decide, gi2 13 (by decide +kernel) (by decide +kernel), by decide +kernel, by decide, tyX6_ok, nmX6, by decide +kernel, rfl, fun _ => rfl⟩
theorem fp_X6_24 : Fp RX6 24 6 2 2 (.array .int) true := ⟨_, _, _, tyX6, rfl, in_X6, by decide, gi2 14 (by decide +kernel) (by decide +kernel), by decide +kernel, by decide, tyX6_ok, nmX6, by decide +kernel, rfl, fun _ => rfl⟩
theorem fp_X6_27 : Fp RX6 27 6 3 2 (.array .int) true := ⟨_, _, _, tyX6, rfl, in_X6, by decide, gi2 15 (by decide +kernel) (by decide +kernel), by decide +kernel, by decide, tyX6_ok, nmX6, by decide +kernel, rfl, fun _ => rfl⟩
theorem fp_X6_30 : Fp RX6 30 6 4 2 (.array .int) true := ⟨_, _, _, tyX6, rfl, in_X6, by decide, gi2 16 (by decide +kernel) (by decide +kernel), by decide +kernel, by decide, tyX6_ok, nmX6, by decide +kernel, rfl, fun _ => rfl⟩
theorem fp_X6_52 : Fp RX6 52 6 8 0 .boolean false := ⟨_, _, _, tyX6, rfl, in_X6, by decide, gi2 20 (by decide +kernel) (by decide +kernel), by decide +kernel, by decide, tyX6_ok, nmX6, by decide +kernel, rfl, fun _ => rfl⟩
theorem fp_X6_60 : Fp RX6 60 9 1 0 .int false := ⟨_, _, _, tyX9, rfl, in_X9, by decide, gi1 142 (by decide +kernel) (by decide +kernel), by decide +kernel, by decide, tyX9_ok, nmX9, by decide +kernel, rfl, fun z => by cases z⟩
theorem fp_X6_69 : Fp RX6 69 6 6 0 .int false := ⟨_, _, _, tyX6, rfl, in_X6, by decide, gi2 18 (by decide +kernel) (by decide +kernel), by decide +kernel, by decide, tyX6_ok, nmX6, by decide +kernel, rfl, fun _ => rfl⟩
theorem fp_X6_72 : Fp RX6 72 6 7 0 .int false := ⟨_, _, _, tyX6, rfl, in_X6, by decide, gi2 19 (by decide +kernel) (by decide +kernel), by decide +kernel, by decide, tyX6_ok, nmX6, by decide +kernel, rfl, fun _ => rfl⟩
theorem fp_X6_86 : Fp RX6 86 6 5 0 .int false := ⟨_, _, _, tyX6, rfl, in_X6, by decide, gi2 17 (by decide +kernel) (by decide +kernel), by decide +kernel, by decide, tyX6_ok, nmX6, by decide +kernel, rfl, fun _ => rfl⟩
theorem ml_X6_3 : Cond.methodLink RX6 3 objectInit ∈ gws := gi1 154 (by decide +kernel) (by decide +kernel)
theorem ml_X6_11 : Cond.methodLink RX6 11 yX10_init ∈ gws := gi1 157 (by decide +kernel) (by decide +kernel)
theorem ml_X6_33 : Cond.methodLink RX6 33 yX6_learnWords ∈ gws := gi1 195 (by decide +kernel) (by decide +kernel)
theorem ml_X6_48 : Cond.methodLink RX6 48 yX6_withLetter ∈ gws := gi2 8 (by decide +kernel) (by decide +kernel)
theorem ml_X6_56 : Cond.methodLink RX6 56 yX6_split ∈ gws := gi3 193 (by decide +kernel) (by decide +kernel)
theorem ml_X6_66 : Cond.methodLink RX6 66 yX10_empty ∈ gws := gi3 219 (by decide +kernel) (by decide +kernel)
theorem ml_X6_75 : Cond.methodLink RX6 75 yX6_hasClause ∈ gws := gi3 223 (by decide +kernel) (by decide +kernel)
theorem ml_X6_79 : Cond.methodLink RX6 79 yX6_kindNow ∈ gws := gi3 227 (by decide +kernel) (by decide +kernel)
theorem ml_X6_82 : Cond.methodLink RX6 82 yX6_takes ∈ gws := gi4 35 (by decide +kernel) (by decide +kernel)
theorem ml_X6_89 : Cond.methodLink RX6 89 yX9_byteAt ∈ gws := gi3 197 (by decide +kernel) (by decide +kernel)
theorem ml_X6_93 : Cond.methodLink RX6 93 yX6_sortOf ∈ gws := gi3 198 (by decide +kernel) (by decide +kernel)
theorem ml_X6_96 : Cond.methodLink RX6 96 yX6_addToken ∈ gws := gi3 201 (by decide +kernel) (by decide +kernel)
theorem ml_X6_100 : Cond.methodLink RX6 100 yX6_addLetter ∈ gws := gi3 205 (by decide +kernel) (by decide +kernel)
theorem ml_X6_103 : Cond.methodLink RX6 103 yX6_addDigit ∈ gws := gi3 213 (by decide +kernel) (by decide +kernel)
theorem ml_X6_112 : Cond.methodLink RX6 112 yX6_wordOf ∈ gws := gi3 209 (by decide +kernel) (by decide +kernel)
theorem ml_X6_115 : Cond.methodLink RX6 115 yX6_hasLawDoing ∈ gws := gi3 231 (by decide +kernel) (by decide +kernel)
theorem ml_X6_118 : Cond.methodLink RX6 118 yX6_hasOrderDoing ∈ gws := gi4 58 (by decide +kernel) (by decide +kernel)
theorem ml_X6_121 : Cond.methodLink RX6 121 yX6_hasTest ∈ gws := gi4 15 (by decide +kernel) (by decide +kernel)
theorem ml_X6_124 : Cond.methodLink RX6 124 yX10_endPiece ∈ gws := gi4 54 (by decide +kernel) (by decide +kernel)
theorem ml_X6_127 : Cond.methodLink RX6 127 yX10_beginClause ∈ gws := gi3 235 (by decide +kernel) (by decide +kernel)
theorem ml_X6_130 : Cond.methodLink RX6 130 yX6_hasSum ∈ gws := gi3 239 (by decide +kernel) (by decide +kernel)
theorem ml_X6_133 : Cond.methodLink RX6 133 yX6_hasTimes ∈ gws := gi4 62 (by decide +kernel) (by decide +kernel)
theorem ml_X6_136 : Cond.methodLink RX6 136 yX6_takeNumber ∈ gws := gi4 39 (by decide +kernel) (by decide +kernel)
theorem ml_X6_139 : Cond.methodLink RX6 139 yX10_setTimes ∈ gws := gi4 66 (by decide +kernel) (by decide +kernel)
theorem ml_X6_142 : Cond.methodLink RX6 142 yX6_hasPlain ∈ gws := gi4 19 (by decide +kernel) (by decide +kernel)
theorem ml_X6_145 : Cond.methodLink RX6 145 yX10_leadHere ∈ gws := gi4 31 (by decide +kernel) (by decide +kernel)
theorem ml_X6_148 : Cond.methodLink RX6 148 yX10_add ∈ gws := gi4 27 (by decide +kernel) (by decide +kernel)
theorem ml_X6_151 : Cond.methodLink RX6 151 yX6_hasBracketed ∈ gws := gi4 11 (by decide +kernel) (by decide +kernel)
theorem ml_X6_155 : Cond.methodLink RX6 155 yX6_hasComparison ∈ gws := gi4 23 (by decide +kernel) (by decide +kernel)
theorem ml_X6_158 : Cond.methodLink RX6 158 yX6_hasTerm ∈ gws := gi4 3 (by decide +kernel) (by decide +kernel)
theorem ml_X6_161 : Cond.methodLink RX6 161 yX6_hasPart ∈ gws := gi4 7 (by decide +kernel) (by decide +kernel)
theorem ml_X6_164 : Cond.methodLink RX6 164 yX6_takeLawWord ∈ gws := gi4 43 (by decide +kernel) (by decide +kernel)
theorem ml_X6_167 : Cond.methodLink RX6 167 yX6_takeOrderWord ∈ gws := gi4 47 (by decide +kernel) (by decide +kernel)
theorem ml_X6_170 : Cond.methodLink RX6 170 yX6_placeOfOrderWord ∈ gws := gi4 51 (by decide +kernel) (by decide +kernel)
theorem cs_X6_106 : Cond.constant RX6 106 (1000000) ∈ gws := gi3 217 (by decide +kernel) (by decide +kernel)
abbrev mX7_init : Mi := (yX7_init, cX7_init, 1, none)
abbrev mX7_reckon : Mi := (yX7_reckon, cX7_reckon, 14, (some .long))
abbrev mX7_push : Mi := (yX7_push, cX7_push, 3, none)
abbrev mX7_pop : Mi := (yX7_pop, cX7_pop, 1, (some .long))
abbrev mX7_joined : Mi := (yX7_joined, cX7_joined, 5, (some .long))
theorem mn_X7_init : Mn mX7_init 0 := ⟨⟨gi1 34 (by decide +kernel) (by decide +kernel), gi1 2 (by decide +kernel) (by decide +kernel), by decide +kernel, by decide +kernel, by decide +kernel⟩, gi1 33 (by decide +kernel) (by decide +kernel), rfl, rfl⟩
theorem mv_X7_reckon : Mv mX7_reckon 7 4 := ⟨⟨gi3 67 (by decide +kernel) (by decide +kernel), gi1 2 (by decide +kernel) (by decide +kernel), by decide +kernel, by decide +kernel, by decide +kernel⟩, gi3 65 (by decide +kernel) (by decide +kernel), gi3 66 (by decide +kernel) (by decide +kernel), by decide, _, _, rfl⟩
theorem mv_X7_push : Mv mX7_push 7 1 := ⟨⟨gi3 75 (by decide +kernel) (by decide +kernel), gi1 2 (by decide +kernel) (by decide +kernel), by decide +kernel, by decide +kernel, by decide +kernel⟩, gi3 74 (by decide +kernel) (by decide +kernel), gi0 4 (by decide +kernel) (by decide +kernel), by decide, _, _, rfl⟩
theorem mv_X7_pop : Mv mX7_pop 7 0 := ⟨⟨gi3 80 (by decide +kernel) (by decide +kernel), gi1 2 (by decide +kernel) (by decide +kernel), by decide +kernel, by decide +kernel, by decide +kernel⟩, gi3 79 (by decide +kernel) (by decide +kernel), gi0 5 (by decide +kernel) (by decide +kernel), by decide, _, _, rfl⟩
theorem ms_X7_joined : Ms mX7_joined 3 := ⟨⟨gi3 86 (by decide +kernel) (by decide +kernel), gi1 2 (by decide +kernel) (by decide +kernel), by decide +kernel, by decide +kernel, by decide +kernel⟩, gi3 85 (by decide +kernel) (by decide +kernel)⟩
theorem fl_X7_9 : Fl RX7 9 7 0 2 := ⟨_, _, _, rfl, in_X7, by decide, gi1 36 (by decide +kernel) (by decide +kernel), by decide +kernel, by decide⟩
theorem fl_X7_15 : Fl RX7 15 10 3 2 := ⟨_, _, _, rfl, in_X10, by decide, gi1 170 (by decide +kernel) (by decide +kernel), by decide +kernel, by decide⟩
theorem fl_X7_23 : Fl RX7 23 10 6 0 := ⟨_, _, _, rfl, in_X10, by decide, gi1 176 (by decide +kernel) (by decide +kernel), by decide +kernel, by decide⟩
theorem fl_X7_33 : Fl RX7 33 7 1 0 := ⟨_, _, _, rfl, in_X7, by decide, gi1 37 (by decide +kernel) (by decide +kernel), by decide +kernel, by decide⟩
theorem fl_X7_36 : Fl RX7 36 10 4 2 := ⟨_, _, _, rfl, in_X10, by decide, gi1 172 (by decide +kernel) (by decide +kernel), by decide +kernel, by decide⟩
theorem fl_X7_39 : Fl RX7 39 10 5 2 := ⟨_, _, _, rfl, in_X10, by decide, gi1 174 (by decide +kernel) (by decide +kernel), by decide +kernel, by decide⟩
theorem fp_X7_9 : Fp RX7 9 7 0 2 (.array .long) true := ⟨_, _, _, tyX7, rfl, in_X7, by decide, gi1 36 (by decide +kernel) (by decide +kernel), by decide +kernel, by decide, tyX7_ok, nmX7, by decide +kernel, rfl, fun _ => rfl⟩
theorem fp_X7_33 : Fp RX7 33 7 1 0 .int false := ⟨_, _, _, tyX7, rfl, in_X7, by decide, gi1 37 (by decide +kernel) (by decide +kernel), by decide +kernel, by decide, tyX7_ok, nmX7, by decide +kernel, rfl, fun _ => rfl⟩
theorem ml_X7_3 : Cond.methodLink RX7 3 objectInit ∈ gws := gi1 35 (by decide +kernel) (by decide +kernel)
theorem ml_X7_42 : Cond.methodLink RX7 42 yX7_push ∈ gws := gi3 72 (by decide +kernel) (by decide +kernel)
theorem ml_X7_48 : Cond.methodLink RX7 48 yX7_pop ∈ gws := gi3 77 (by decide +kernel) (by decide +kernel)
theorem ml_X7_55 : Cond.methodLink RX7 55 yX7_joined ∈ gws := gi3 84 (by decide +kernel) (by decide +kernel)
theorem cs_X7_21 : Cond.constantLong RX7 21 (-9223372036854775808) ∈ gws := gi3 68 (by decide +kernel) (by decide +kernel)
theorem cs_X7_46 : Cond.constantLong RX7 46 (-1) ∈ gws := gi3 76 (by decide +kernel) (by decide +kernel)
theorem cs_X7_59 : Cond.constantLong RX7 59 (1000000000) ∈ gws := gi3 87 (by decide +kernel) (by decide +kernel)
theorem cs_X7_61 : Cond.constantLong RX7 61 (-1000000000) ∈ gws := gi3 88 (by decide +kernel) (by decide +kernel)
abbrev mX8_init : Mi := (yX8_init, cX8_init, 2, none)
abbrev mX8_livesItCanBe : Mi := (yX8_livesItCanBe, cX8_livesItCanBe, 6, (some .int))
abbrev mX8_livesThatShow : Mi := (yX8_livesThatShow, cX8_livesThatShow, 7, (some .int))
abbrev mX8_hasFoundYear : Mi := (yX8_hasFoundYear, cX8_hasFoundYear, 7, (some .boolean))
abbrev mX8_mostAlike : Mi := (yX8_mostAlike, cX8_mostAlike, 6, (some .int))
abbrev mX8_fewestLives : Mi := (yX8_fewestLives, cX8_fewestLives, 7, (some .int))
abbrev mX8_findFitting : Mi := (yX8_findFitting, cX8_findFitting, 8, none)
abbrev mX8_addDoing : Mi := (yX8_addDoing, cX8_addDoing, 5, none)
abbrev mX8_newlyTaken : Mi := (yX8_newlyTaken, cX8_newlyTaken, 4, (some .int))
abbrev mX8_lookAhead : Mi := (yX8_lookAhead, cX8_lookAhead, 4, none)
abbrev mX8_passForOneAnother : Mi := (yX8_passForOneAnother, cX8_passForOneAnother, 5, (some .boolean))
theorem mn_X8_init : Mn mX8_init 1 := ⟨⟨gi2 165 (by decide +kernel) (by decide +kernel), gi1 16 (by decide +kernel) (by decide +kernel), by decide +kernel, by decide +kernel, by decide +kernel⟩, gi2 164 (by decide +kernel) (by decide +kernel), rfl, rfl⟩
theorem mv_X8_livesItCanBe : Mv mX8_livesItCanBe 8 2 := ⟨⟨gi5 65 (by decide +kernel) (by decide +kernel), gi1 16 (by decide +kernel) (by decide +kernel), by decide +kernel, by decide +kernel, by decide +kernel⟩, gi5 63 (by decide +kernel) (by decide +kernel), gi5 64 (by decide +kernel) (by decide +kernel), by decide, _, _, rfl⟩
theorem mv_X8_livesThatShow : Mv mX8_livesThatShow 8 4 := ⟨⟨gi5 71 (by decide +kernel) (by decide +kernel), gi1 16 (by decide +kernel) (by decide +kernel), by decide +kernel, by decide +kernel, by decide +kernel⟩, gi5 70 (by decide +kernel) (by decide +kernel), gi0 40 (by decide +kernel) (by decide +kernel), by decide, _, _, rfl⟩
theorem mv_X8_hasFoundYear : Mv mX8_hasFoundYear 8 2 := ⟨⟨gi5 86 (by decide +kernel) (by decide +kernel), gi1 16 (by decide +kernel) (by decide +kernel), by decide +kernel, by decide +kernel, by decide +kernel⟩, gi5 84 (by decide +kernel) (by decide +kernel), gi5 85 (by decide +kernel) (by decide +kernel), by decide, _, _, rfl⟩
theorem mv_X8_mostAlike : Mv mX8_mostAlike 8 2 := ⟨⟨gi5 91 (by decide +kernel) (by decide +kernel), gi1 16 (by decide +kernel) (by decide +kernel), by decide +kernel, by decide +kernel, by decide +kernel⟩, gi5 90 (by decide +kernel) (by decide +kernel), gi0 41 (by decide +kernel) (by decide +kernel), by decide, _, _, rfl⟩
theorem mv_X8_fewestLives : Mv mX8_fewestLives 8 2 := ⟨⟨gi5 103 (by decide +kernel) (by decide +kernel), gi1 16 (by decide +kernel) (by decide +kernel), by decide +kernel, by decide +kernel, by decide +kernel⟩, gi5 101 (by decide +kernel) (by decide +kernel), gi5 102 (by decide +kernel) (by decide +kernel), by decide, _, _, rfl⟩
theorem mv_X8_findFitting : Mv mX8_findFitting 8 2 := ⟨⟨gi5 107 (by decide +kernel) (by decide +kernel), gi1 16 (by decide +kernel) (by decide +kernel), by decide +kernel, by decide +kernel, by decide +kernel⟩, gi5 106 (by decide +kernel) (by decide +kernel), gi0 42 (by decide +kernel) (by decide +kernel), by decide, _, _, rfl⟩
theorem mv_X8_addDoing : Mv mX8_addDoing 8 2 := ⟨⟨gi5 112 (by decide +kernel) (by decide +kernel), gi1 16 (by decide +kernel) (by decide +kernel), by decide +kernel, by decide +kernel, by decide +kernel⟩, gi5 111 (by decide +kernel) (by decide +kernel), gi0 43 (by decide +kernel) (by decide +kernel), by decide, _, _, rfl⟩
theorem mv_X8_newlyTaken : Mv mX8_newlyTaken 8 1 := ⟨⟨gi5 116 (by decide +kernel) (by decide +kernel), gi1 16 (by decide +kernel) (by decide +kernel), by decide +kernel, by decide +kernel, by decide +kernel⟩, gi5 115 (by decide +kernel) (by decide +kernel), gi0 44 (by decide +kernel) (by decide +kernel), by decide, _, _, rfl⟩
theorem mv_X8_lookAhead : Mv mX8_lookAhead 8 1 := ⟨⟨gi5 144 (by decide +kernel) (by decide +kernel), gi1 16 (by decide +kernel) (by decide +kernel), by decide +kernel, by decide +kernel, by decide +kernel⟩, gi5 142 (by decide +kernel) (by decide +kernel), gi5 143 (by decide +kernel) (by decide +kernel), by decide, _, _, rfl⟩
theorem mv_X8_passForOneAnother : Mv mX8_passForOneAnother 8 3 := ⟨⟨gi5 149 (by decide +kernel) (by decide +kernel), gi1 16 (by decide +kernel) (by decide +kernel), by decide +kernel, by decide +kernel, by decide +kernel⟩, gi5 147 (by decide +kernel) (by decide +kernel), gi5 148 (by decide +kernel) (by decide +kernel), by decide, _, _, rfl⟩
theorem fl_X8_9 : Fl RX8 9 8 0 2 := ⟨_, _, _, rfl, in_X8, by decide, gi2 167 (by decide +kernel) (by decide +kernel), by decide +kernel, by decide⟩
theorem fl_X8_15 : Fl RX8 15 8 1 2 := ⟨_, _, _, rfl, in_X8, by decide, gi2 168 (by decide +kernel) (by decide +kernel), by decide +kernel, by decide⟩
theorem fl_X8_19 : Fl RX8 19 8 2 2 := ⟨_, _, _, rfl, in_X8, by decide, gi2 169 (by decide +kernel) (by decide +kernel), by decide +kernel, by decide⟩
theorem fl_X8_22 : Fl RX8 22 8 3 2 := ⟨_, _, _, rfl, in_X8, by decide, gi2 170 (by decide +kernel) (by decide +kernel), by decide +kernel, by decide⟩
theorem fl_X8_25 : Fl RX8 25 8 4 2 := ⟨_, _, _, rfl, in_X8, by decide, gi2 171 (by decide +kernel) (by decide +kernel), by decide +kernel, by decide⟩
theorem fl_X8_40 : Fl RX8 40 5 8 0 := ⟨_, _, _, rfl, in_X5, by decide, gi1 84 (by decide +kernel) (by decide +kernel), by decide +kernel, by decide⟩
theorem fl_X8_48 : Fl RX8 48 5 10 2 := ⟨_, _, _, rfl, in_X5, by decide, gi1 93 (by decide +kernel) (by decide +kernel), by decide +kernel, by decide⟩
theorem fl_X8_66 : Fl RX8 66 5 9 2 := ⟨_, _, _, rfl, in_X5, by decide, gi1 88 (by decide +kernel) (by decide +kernel), by decide +kernel, by decide⟩
theorem fl_X8_76 : Fl RX8 76 8 6 0 := ⟨_, _, _, rfl, in_X8, by decide, gi2 174 (by decide +kernel) (by decide +kernel), by decide +kernel, by decide⟩
theorem fl_X8_94 : Fl RX8 94 5 2 2 := ⟨_, _, _, rfl, in_X5, by decide, gi1 67 (by decide +kernel) (by decide +kernel), by decide +kernel, by decide⟩
theorem fl_X8_108 : Fl RX8 108 5 1 2 := ⟨_, _, _, rfl, in_X5, by decide, gi1 62 (by decide +kernel) (by decide +kernel), by decide +kernel, by decide⟩
theorem fl_X8_114 : Fl RX8 114 5 0 0 := ⟨_, _, _, rfl, in_X5, by decide, gi1 55 (by decide +kernel) (by decide +kernel), by decide +kernel, by decide⟩
theorem fp_X8_9 : Fp RX8 9 8 0 2 (.object "NineLives$Asking") true := ⟨_, _, _, tyX8, rfl, in_X8, by decide, gi2 167 (by decide +kernel) (by decide +kernel), by decide +kernel, by decide, tyX8_ok, nmX8, by decide +kernel, rfl, fun _ => rfl⟩
theorem fp_X8_15 : Fp RX8 15 8 1 2 (.array .int) true := ⟨_, _, _, tyX8, rfl, in_X8, by decide, gi2 168 (by decide +kernel) (by decide +kernel), by decide +kernel, by decide, tyX8_ok, nmX8, by decide +kernel, rfl, fun _ => rfl⟩
theorem fp_X8_19 : Fp RX8 19 8 2 2 (.array .int) true := ⟨_, _, _, tyX8, rfl, in_X8, by decide, gi2 169 (by decide +kernel) (by decide +kernel), by decide +kernel, by decide, tyX8_ok, nmX8, by decide +kernel, rfl, fun _ => rfl⟩
theorem fp_X8_22 : Fp RX8 22 8 3 2 (.array .int) true := ⟨_, _, _, tyX8, rfl, in_X8, by decide, gi2 170 (by decide +kernel) (by decide +kernel), by decide +kernel, by decide, tyX8_ok, nmX8, by decide +kernel, rfl, fun _ => rfl⟩
theorem fp_X8_25 : Fp RX8 25 8 4 2 (.array .int) true := ⟨_, _, _, tyX8, rfl, in_X8, by decide, gi2 171 (by decide +kernel) (by decide +kernel), by decide +kernel, by decide, tyX8_ok, nmX8, by decide +kernel, rfl, fun _ => rfl⟩
theorem fp_X8_73 : Fp RX8 73 8 5 0 .int false := ⟨_, _, _, tyX8, rfl, in_X8, by decide, gi2 172 (by decide +kernel) (by decide +kernel), by decide +kernel, by decide, tyX8_ok, nmX8, by decide +kernel, rfl, fun _ => rfl⟩
theorem fp_X8_76 : Fp RX8 76 8 6 0 .int false := ⟨_, _, _, tyX8, rfl, in_X8, by decide, gi2 174 (by decide +kernel) (by decide +kernel), by decide +kernel, by decide, tyX8_ok, nmX8, by decide +kernel, rfl, fun _ => rfl⟩
theorem ml_X8_3 : Cond.methodLink RX8 3 objectInit ∈ gws := gi2 166 (by decide +kernel) (by decide +kernel)
theorem ml_X8_28 : Cond.methodLink RX8 28 yX5_spentBy ∈ gws := gi5 66 (by decide +kernel) (by decide +kernel)
theorem ml_X8_34 : Cond.methodLink RX8 34 yX0_about ∈ gws := gi5 67 (by decide +kernel) (by decide +kernel)
theorem ml_X8_44 : Cond.methodLink RX8 44 yX8_livesThatShow ∈ gws := gi5 68 (by decide +kernel) (by decide +kernel)
theorem ml_X8_51 : Cond.methodLink RX8 51 yX0_inYear ∈ gws := gi5 72 (by decide +kernel) (by decide +kernel)
theorem ml_X8_59 : Cond.methodLink RX8 59 yX0_atLife ∈ gws := gi5 77 (by decide +kernel) (by decide +kernel)
theorem ml_X8_63 : Cond.methodLink RX8 63 yX0_tells ∈ gws := gi5 78 (by decide +kernel) (by decide +kernel)
theorem ml_X8_69 : Cond.methodLink RX8 69 yX8_livesItCanBe ∈ gws := gi5 87 (by decide +kernel) (by decide +kernel)
theorem ml_X8_79 : Cond.methodLink RX8 79 yX8_mostAlike ∈ gws := gi5 88 (by decide +kernel) (by decide +kernel)
theorem ml_X8_97 : Cond.methodLink RX8 97 yX8_findFitting ∈ gws := gi5 104 (by decide +kernel) (by decide +kernel)
theorem ml_X8_100 : Cond.methodLink RX8 100 yX8_addDoing ∈ gws := gi5 109 (by decide +kernel) (by decide +kernel)
theorem ml_X8_111 : Cond.methodLink RX8 111 yX8_newlyTaken ∈ gws := gi5 113 (by decide +kernel) (by decide +kernel)
theorem ml_X8_117 : Cond.methodLink RX8 117 yX5_isHere ∈ gws := gi5 145 (by decide +kernel) (by decide +kernel)
abbrev mX9_init : Mi := (yX9_init, cX9_init, 1, none)
abbrev mX9_hasRoomForFive : Mi := (yX9_hasRoomForFive, cX9_hasRoomForFive, 1, (some .boolean))
abbrev mX9_add : Mi := (yX9_add, cX9_add, 3, none)
abbrev mX9_byteAt : Mi := (yX9_byteAt, cX9_byteAt, 2, (some .int))
theorem mn_X9_init : Mn mX9_init 0 := ⟨⟨gi1 138 (by decide +kernel) (by decide +kernel), gi1 4 (by decide +kernel) (by decide +kernel), by decide +kernel, by decide +kernel, by decide +kernel⟩, gi1 137 (by decide +kernel) (by decide +kernel), rfl, rfl⟩
theorem mv_X9_hasRoomForFive : Mv mX9_hasRoomForFive 9 0 := ⟨⟨gi3 157 (by decide +kernel) (by decide +kernel), gi1 4 (by decide +kernel) (by decide +kernel), by decide +kernel, by decide +kernel, by decide +kernel⟩, gi3 155 (by decide +kernel) (by decide +kernel), gi3 156 (by decide +kernel) (by decide +kernel), by decide, _, _, rfl⟩
theorem mv_X9_add : Mv mX9_add 9 1 := ⟨⟨gi3 161 (by decide +kernel) (by decide +kernel), gi1 4 (by decide +kernel) (by decide +kernel), by decide +kernel, by decide +kernel, by decide +kernel⟩, gi3 159 (by decide +kernel) (by decide +kernel), gi3 160 (by decide +kernel) (by decide +kernel), by decide, _, _, rfl⟩
theorem mv_X9_byteAt : Mv mX9_byteAt 9 1 := ⟨⟨gi3 177 (by decide +kernel) (by decide +kernel), gi1 4 (by decide +kernel) (by decide +kernel), by decide +kernel, by decide +kernel, by decide +kernel⟩, gi3 175 (by decide +kernel) (by decide +kernel), gi3 176 (by decide +kernel) (by decide +kernel), by decide, _, _, rfl⟩
theorem fl_X9_9 : Fl RX9 9 9 0 2 := ⟨_, _, _, rfl, in_X9, by decide, gi1 140 (by decide +kernel) (by decide +kernel), by decide +kernel, by decide⟩
theorem fl_X9_15 : Fl RX9 15 9 1 0 := ⟨_, _, _, rfl, in_X9, by decide, gi1 141 (by decide +kernel) (by decide +kernel), by decide +kernel, by decide⟩
theorem fp_X9_9 : Fp RX9 9 9 0 2 (.array .int) true := ⟨_, _, _, tyX9, rfl, in_X9, by decide, gi1 140 (by decide +kernel) (by decide +kernel), by decide +kernel, by decide, tyX9_ok, nmX9, by decide +kernel, rfl, fun _ => rfl⟩
theorem fp_X9_15 : Fp RX9 15 9 1 0 .int false := ⟨_, _, _, tyX9, rfl, in_X9, by decide, gi1 141 (by decide +kernel) (by decide +kernel), by decide +kernel, by decide, tyX9_ok, nmX9, by decide +kernel, rfl, fun _ => rfl⟩
theorem ml_X9_3 : Cond.methodLink RX9 3 objectInit ∈ gws := gi1 139 (by decide +kernel) (by decide +kernel)
abbrev mX10_init : Mi := (yX10_init, cX10_init, 2, none)
abbrev mX10_empty : Mi := (yX10_empty, cX10_empty, 1, none)
abbrev mX10_beginClause : Mi := (yX10_beginClause, cX10_beginClause, 2, none)
abbrev mX10_setTimes : Mi := (yX10_setTimes, cX10_setTimes, 2, none)
abbrev mX10_endPiece : Mi := (yX10_endPiece, cX10_endPiece, 1, none)
abbrev mX10_add : Mi := (yX10_add, cX10_add, 4, (some .int))
abbrev mX10_leadHere : Mi := (yX10_leadHere, cX10_leadHere, 2, none)
abbrev mX10_copied : Mi := (yX10_copied, cX10_copied, 2, (some (.object "NineLives$Text")))
theorem mn_X10_init : Mn mX10_init 1 := ⟨⟨gi1 159 (by decide +kernel) (by decide +kernel), gi1 6 (by decide +kernel) (by decide +kernel), by decide +kernel, by decide +kernel, by decide +kernel⟩, gi1 158 (by decide +kernel) (by decide +kernel), rfl, rfl⟩
theorem mv_X10_empty : Mv mX10_empty 10 0 := ⟨⟨gi3 222 (by decide +kernel) (by decide +kernel), gi1 6 (by decide +kernel) (by decide +kernel), by decide +kernel, by decide +kernel, by decide +kernel⟩, gi3 220 (by decide +kernel) (by decide +kernel), gi3 221 (by decide +kernel) (by decide +kernel), by decide, _, _, rfl⟩
theorem mv_X10_beginClause : Mv mX10_beginClause 10 1 := ⟨⟨gi3 238 (by decide +kernel) (by decide +kernel), gi1 6 (by decide +kernel) (by decide +kernel), by decide +kernel, by decide +kernel, by decide +kernel⟩, gi3 236 (by decide +kernel) (by decide +kernel), gi3 237 (by decide +kernel) (by decide +kernel), by decide, _, _, rfl⟩
theorem mv_X10_setTimes : Mv mX10_setTimes 10 1 := ⟨⟨gi4 69 (by decide +kernel) (by decide +kernel), gi1 6 (by decide +kernel) (by decide +kernel), by decide +kernel, by decide +kernel, by decide +kernel⟩, gi4 67 (by decide +kernel) (by decide +kernel), gi4 68 (by decide +kernel) (by decide +kernel), by decide, _, _, rfl⟩
theorem mv_X10_endPiece : Mv mX10_endPiece 10 0 := ⟨⟨gi4 57 (by decide +kernel) (by decide +kernel), gi1 6 (by decide +kernel) (by decide +kernel), by decide +kernel, by decide +kernel, by decide +kernel⟩, gi4 55 (by decide +kernel) (by decide +kernel), gi4 56 (by decide +kernel) (by decide +kernel), by decide, _, _, rfl⟩
theorem mv_X10_add : Mv mX10_add 10 2 := ⟨⟨gi4 30 (by decide +kernel) (by decide +kernel), gi1 6 (by decide +kernel) (by decide +kernel), by decide +kernel, by decide +kernel, by decide +kernel⟩, gi4 28 (by decide +kernel) (by decide +kernel), gi4 29 (by decide +kernel) (by decide +kernel), by decide, _, _, rfl⟩
theorem mv_X10_leadHere : Mv mX10_leadHere 10 1 := ⟨⟨gi4 34 (by decide +kernel) (by decide +kernel), gi1 6 (by decide +kernel) (by decide +kernel), by decide +kernel, by decide +kernel, by decide +kernel⟩, gi4 32 (by decide +kernel) (by decide +kernel), gi4 33 (by decide +kernel) (by decide +kernel), by decide, _, _, rfl⟩
theorem mv_X10_copied : Mv mX10_copied 10 0 := ⟨⟨gi4 73 (by decide +kernel) (by decide +kernel), gi1 6 (by decide +kernel) (by decide +kernel), by decide +kernel, by decide +kernel, by decide +kernel⟩, gi4 71 (by decide +kernel) (by decide +kernel), gi4 72 (by decide +kernel) (by decide +kernel), by decide, _, _, rfl⟩
theorem fl_X10_9 : Fl RX10 9 10 1 2 := ⟨_, _, _, rfl, in_X10, by decide, gi1 164 (by decide +kernel) (by decide +kernel), by decide +kernel, by decide⟩
theorem fl_X10_15 : Fl RX10 15 10 2 2 := ⟨_, _, _, rfl, in_X10, by decide, gi1 167 (by decide +kernel) (by decide +kernel), by decide +kernel, by decide⟩
theorem fl_X10_18 : Fl RX10 18 10 3 2 := ⟨_, _, _, rfl, in_X10, by decide, gi1 169 (by decide +kernel) (by decide +kernel), by decide +kernel, by decide⟩
theorem fl_X10_21 : Fl RX10 21 10 4 2 := ⟨_, _, _, rfl, in_X10, by decide, gi1 171 (by decide +kernel) (by decide +kernel), by decide +kernel, by decide⟩
theorem fl_X10_24 : Fl RX10 24 10 5 2 := ⟨_, _, _, rfl, in_X10, by decide, gi1 173 (by decide +kernel) (by decide +kernel), by decide +kernel, by decide⟩
theorem fl_X10_27 : Fl RX10 27 10 0 0 := ⟨_, _, _, rfl, in_X10, by decide, gi1 161 (by decide +kernel) (by decide +kernel), by decide +kernel, by decide⟩
theorem fl_X10_31 : Fl RX10 31 10 6 0 := ⟨_, _, _, rfl, in_X10, by decide, gi1 175 (by decide +kernel) (by decide +kernel), by decide +kernel, by decide⟩
theorem fl_X10_34 : Fl RX10 34 10 7 0 := ⟨_, _, _, rfl, in_X10, by decide, gi1 177 (by decide +kernel) (by decide +kernel), by decide +kernel, by decide⟩
theorem fp_X10_9 : Fp RX10 9 10 1 2 (.array .int) true := ⟨_, _, _, tyX10, rfl, in_X10, by decide, gi1 164 (by decide +kernel) (by decide +kernel), by decide +kernel, by decide, tyX10_ok, nmX10, by decide +kernel, rfl, fun _ => rfl⟩
theorem fp_X10_15 : Fp RX10 15 10 2 2 (.array .int) true := ⟨_, _, _, tyX10, rfl, in_X10, by decide, gi1 167 (by decide +kernel) (by decide +kernel), by decide +kernel, by decide, tyX10_ok, nmX10, by decide +kernel, rfl, fun _ => rfl⟩
theorem fp_X10_18 : Fp RX10 18 10 3 2 (.array .int) true := ⟨_, _, _, tyX10, rfl, in_X10, by decide, gi1 169 (by decide +kernel) (by decide +kernel), by decide +kernel, by decide, tyX10_ok, nmX10, by decide +kernel, rfl, fun _ => rfl⟩
theorem fp_X10_21 : Fp RX10 21 10 4 2 (.array .int) true := ⟨_, _, _, tyX10, rfl, in_X10, by decide, gi1 171 (by decide +kernel) (by decide +kernel), by decide +kernel, by decide, tyX10_ok, nmX10, by decide +kernel, rfl, fun _ => rfl⟩
theorem fp_X10_24 : Fp RX10 24 10 5 2 (.array .int) true := ⟨_, _, _, tyX10, rfl, in_X10, by decide, gi1 173 (by decide +kernel) (by decide +kernel), by decide +kernel, by decide, tyX10_ok, nmX10, by decide +kernel, rfl, fun _ => rfl⟩
theorem fp_X10_27 : Fp RX10 27 10 0 0 .int false := ⟨_, _, _, tyX10, rfl, in_X10, by decide, gi1 161 (by decide +kernel) (by decide +kernel), by decide +kernel, by decide, tyX10_ok, nmX10, by decide +kernel, rfl, fun _ => rfl⟩
theorem fp_X10_31 : Fp RX10 31 10 6 0 .int false := ⟨_, _, _, tyX10, rfl, in_X10, by decide, gi1 175 (by decide +kernel) (by decide +kernel), by decide +kernel, by decide, tyX10_ok, nmX10, by decide +kernel, rfl, fun _ => rfl⟩
theorem fp_X10_34 : Fp RX10 34 10 7 0 .int false := ⟨_, _, _, tyX10, rfl, in_X10, by decide, gi1 177 (by decide +kernel) (by decide +kernel), by decide +kernel, by decide, tyX10_ok, nmX10, by decide +kernel, rfl, fun _ => rfl⟩
theorem ml_X10_3 : Cond.methodLink RX10 3 objectInit ∈ gws := gi1 160 (by decide +kernel) (by decide +kernel)
theorem ml_X10_37 : Cond.methodLink RX10 37 yX10_init ∈ gws := gi4 75 (by decide +kernel) (by decide +kernel)
abbrev mX11_init : Mi := (yX11_init, cX11_init, 2, none)
abbrev mX11_cat : Mi := (yX11_cat, cX11_cat, 2, (some .int))
abbrev mX11_of : Mi := (yX11_of, cX11_of, 3, (some .int))
abbrev mX11_askedNow : Mi := (yX11_askedNow, cX11_askedNow, 3, (some .int))
abbrev mX11_ship : Mi := (yX11_ship, cX11_ship, 2, (some .int))
abbrev mX11_at : Mi := (yX11_at, cX11_at, 3, (some .int))
abbrev mX11_terms : Mi := (yX11_terms, cX11_terms, 4, (some .int))
abbrev mX11_feed : Mi := (yX11_feed, cX11_feed, 6, (some .int))
abbrev mX11_end : Mi := (yX11_end, cX11_end, 2, (some .int))
abbrev mX11_row : Mi := (yX11_row, cX11_row, 3, (some .int))
abbrev mX11_cameFrom : Mi := (yX11_cameFrom, cX11_cameFrom, 5, (some .boolean))
abbrev mX11_lowestBeside : Mi := (yX11_lowestBeside, cX11_lowestBeside, 5, (some .int))
abbrev mX11_mice : Mi := (yX11_mice, cX11_mice, 1, (some .int))
abbrev mX11_law : Mi := (yX11_law, cX11_law, 1, (some .int))
abbrev mX11_orders : Mi := (yX11_orders, cX11_orders, 2, (some .int))
abbrev mX11_fault : Mi := (yX11_fault, cX11_fault, 1, (some .int))
abbrev mX11_stopped : Mi := (yX11_stopped, cX11_stopped, 1, (some .int))
abbrev mX11_force : Mi := (yX11_force, cX11_force, 3, (some .int))
abbrev mX11_sign : Mi := (yX11_sign, cX11_sign, 3, (some .int))
abbrev mX11_die : Mi := (yX11_die, cX11_die, 3, (some .int))
abbrev mX11_clip : Mi := (yX11_clip, cX11_clip, 3, (some .int))
abbrev mX11_pass : Mi := (yX11_pass, cX11_pass, 1, (some .int))
abbrev mX11_undo : Mi := (yX11_undo, cX11_undo, 2, (some .int))
abbrev mX11_had : Mi := (yX11_had, cX11_had, 3, (some .long))
abbrev mX11_next : Mi := (yX11_next, cX11_next, 3, (some .int))
abbrev mX11_likely : Mi := (yX11_likely, cX11_likely, 3, (some .long))
abbrev mX11_seen : Mi := (yX11_seen, cX11_seen, 2, (some .int))
abbrev mX11_forget : Mi := (yX11_forget, cX11_forget, 2, (some .int))
abbrev mX11_canBe : Mi := (yX11_canBe, cX11_canBe, 2, (some .int))
abbrev mX11_look : Mi := (yX11_look, cX11_look, 3, (some .int))
abbrev mX11_explained : Mi := (yX11_explained, cX11_explained, 2, (some .int))
abbrev mX11_complete : Mi := (yX11_complete, cX11_complete, 8, (some .int))
abbrev mX11_safe : Mi := (yX11_safe, cX11_safe, 5, (some .long))
abbrev mX11_frauds : Mi := (yX11_frauds, cX11_frauds, 4, (some .int))
abbrev mX11_passing : Mi := (yX11_passing, cX11_passing, 5, (some .int))
abbrev mX11_unused : Mi := (yX11_unused, cX11_unused, 1, (some .int))
abbrev mX11_rich : Mi := (yX11_rich, cX11_rich, 4, (some .int))
abbrev mX11_years : Mi := (yX11_years, cX11_years, 3, (some .int))
abbrev mX11_drawn : Mi := (yX11_drawn, cX11_drawn, 3, (some .int))
abbrev mX11_image : Mi := (yX11_image, cX11_image, 2, (some .int))
abbrev mX11_back : Mi := (yX11_back, cX11_back, 2, (some .int))
abbrev mX11_count : Mi := (yX11_count, cX11_count, 2, (some .int))
abbrev mX11_status : Mi := (yX11_status, cX11_status, 1, (some .int))
abbrev mX11_allowed : Mi := (yX11_allowed, cX11_allowed, 2, (some .int))
abbrev mX11_refused : Mi := (yX11_refused, cX11_refused, 2, (some .int))
abbrev mX11_told : Mi := (yX11_told, cX11_told, 2, (some .int))
abbrev mX11_isLife : Mi := (yX11_isLife, cX11_isLife, 1, (some .boolean))
abbrev mX11_hasBit : Mi := (yX11_hasBit, cX11_hasBit, 2, (some .boolean))
abbrev mX11_lowestOf : Mi := (yX11_lowestOf, cX11_lowestOf, 2, (some .int))
theorem mn_X11_init : Mn mX11_init 0 := ⟨⟨gi1 26 (by decide +kernel) (by decide +kernel), gi1 1 (by decide +kernel) (by decide +kernel), by decide +kernel, by decide +kernel, by decide +kernel⟩, gi1 25 (by decide +kernel) (by decide +kernel), rfl, rfl⟩
theorem mv_X11_cat : Mv mX11_cat 11 1 := ⟨⟨gi3 0 (by decide +kernel) (by decide +kernel), gi1 1 (by decide +kernel) (by decide +kernel), by decide +kernel, by decide +kernel, by decide +kernel⟩, gi2 238 (by decide +kernel) (by decide +kernel), gi2 239 (by decide +kernel) (by decide +kernel), by decide, _, _, rfl⟩
theorem mv_X11_of : Mv mX11_of 11 2 := ⟨⟨gi3 27 (by decide +kernel) (by decide +kernel), gi1 1 (by decide +kernel) (by decide +kernel), by decide +kernel, by decide +kernel, by decide +kernel⟩, gi3 25 (by decide +kernel) (by decide +kernel), gi3 26 (by decide +kernel) (by decide +kernel), by decide, _, _, rfl⟩
theorem mv_X11_askedNow : Mv mX11_askedNow 11 2 := ⟨⟨gi3 45 (by decide +kernel) (by decide +kernel), gi1 1 (by decide +kernel) (by decide +kernel), by decide +kernel, by decide +kernel, by decide +kernel⟩, gi3 44 (by decide +kernel) (by decide +kernel), gi0 3 (by decide +kernel) (by decide +kernel), by decide, _, _, rfl⟩
theorem mv_X11_ship : Mv mX11_ship 11 1 := ⟨⟨gi3 105 (by decide +kernel) (by decide +kernel), gi1 1 (by decide +kernel) (by decide +kernel), by decide +kernel, by decide +kernel, by decide +kernel⟩, gi3 103 (by decide +kernel) (by decide +kernel), gi3 104 (by decide +kernel) (by decide +kernel), by decide, _, _, rfl⟩
theorem mv_X11_at : Mv mX11_at 11 2 := ⟨⟨gi3 113 (by decide +kernel) (by decide +kernel), gi1 1 (by decide +kernel) (by decide +kernel), by decide +kernel, by decide +kernel, by decide +kernel⟩, gi3 111 (by decide +kernel) (by decide +kernel), gi3 112 (by decide +kernel) (by decide +kernel), by decide, _, _, rfl⟩
theorem mv_X11_terms : Mv mX11_terms 11 2 := ⟨⟨gi3 147 (by decide +kernel) (by decide +kernel), gi1 1 (by decide +kernel) (by decide +kernel), by decide +kernel, by decide +kernel, by decide +kernel⟩, gi3 145 (by decide +kernel) (by decide +kernel), gi3 146 (by decide +kernel) (by decide +kernel), by decide, _, _, rfl⟩
theorem mv_X11_feed : Mv mX11_feed 11 5 := ⟨⟨gi3 153 (by decide +kernel) (by decide +kernel), gi1 1 (by decide +kernel) (by decide +kernel), by decide +kernel, by decide +kernel, by decide +kernel⟩, gi3 151 (by decide +kernel) (by decide +kernel), gi3 152 (by decide +kernel) (by decide +kernel), by decide, _, _, rfl⟩
theorem mv_X11_end : Mv mX11_end 11 1 := ⟨⟨gi3 165 (by decide +kernel) (by decide +kernel), gi1 1 (by decide +kernel) (by decide +kernel), by decide +kernel, by decide +kernel, by decide +kernel⟩, gi3 163 (by decide +kernel) (by decide +kernel), gi3 164 (by decide +kernel) (by decide +kernel), by decide, _, _, rfl⟩
theorem mv_X11_row : Mv mX11_row 11 0 := ⟨⟨gi3 169 (by decide +kernel) (by decide +kernel), gi1 1 (by decide +kernel) (by decide +kernel), by decide +kernel, by decide +kernel, by decide +kernel⟩, gi3 167 (by decide +kernel) (by decide +kernel), gi3 168 (by decide +kernel) (by decide +kernel), by decide, _, _, rfl⟩
theorem mv_X11_cameFrom : Mv mX11_cameFrom 11 1 := ⟨⟨gi3 173 (by decide +kernel) (by decide +kernel), gi1 1 (by decide +kernel) (by decide +kernel), by decide +kernel, by decide +kernel, by decide +kernel⟩, gi3 172 (by decide +kernel) (by decide +kernel), gi0 6 (by decide +kernel) (by decide +kernel), by decide, _, _, rfl⟩
theorem ms_X11_lowestBeside : Ms mX11_lowestBeside 2 := ⟨⟨gi3 180 (by decide +kernel) (by decide +kernel), gi1 1 (by decide +kernel) (by decide +kernel), by decide +kernel, by decide +kernel, by decide +kernel⟩, gi3 179 (by decide +kernel) (by decide +kernel)⟩
theorem mv_X11_mice : Mv mX11_mice 11 0 := ⟨⟨gi3 184 (by decide +kernel) (by decide +kernel), gi1 1 (by decide +kernel) (by decide +kernel), by decide +kernel, by decide +kernel, by decide +kernel⟩, gi3 182 (by decide +kernel) (by decide +kernel), gi3 183 (by decide +kernel) (by decide +kernel), by decide, _, _, rfl⟩
theorem mv_X11_law : Mv mX11_law 11 0 := ⟨⟨gi3 188 (by decide +kernel) (by decide +kernel), gi1 1 (by decide +kernel) (by decide +kernel), by decide +kernel, by decide +kernel, by decide +kernel⟩, gi3 186 (by decide +kernel) (by decide +kernel), gi3 187 (by decide +kernel) (by decide +kernel), by decide, _, _, rfl⟩
theorem mv_X11_orders : Mv mX11_orders 11 0 := ⟨⟨gi4 86 (by decide +kernel) (by decide +kernel), gi1 1 (by decide +kernel) (by decide +kernel), by decide +kernel, by decide +kernel, by decide +kernel⟩, gi4 84 (by decide +kernel) (by decide +kernel), gi4 85 (by decide +kernel) (by decide +kernel), by decide, _, _, rfl⟩
theorem mv_X11_fault : Mv mX11_fault 11 0 := ⟨⟨gi4 178 (by decide +kernel) (by decide +kernel), gi1 1 (by decide +kernel) (by decide +kernel), by decide +kernel, by decide +kernel, by decide +kernel⟩, gi4 176 (by decide +kernel) (by decide +kernel), gi4 177 (by decide +kernel) (by decide +kernel), by decide, _, _, rfl⟩
theorem mv_X11_stopped : Mv mX11_stopped 11 0 := ⟨⟨gi4 182 (by decide +kernel) (by decide +kernel), gi1 1 (by decide +kernel) (by decide +kernel), by decide +kernel, by decide +kernel, by decide +kernel⟩, gi4 180 (by decide +kernel) (by decide +kernel), gi4 181 (by decide +kernel) (by decide +kernel), by decide, _, _, rfl⟩
theorem mv_X11_force : Mv mX11_force 11 1 := ⟨⟨gi4 186 (by decide +kernel) (by decide +kernel), gi1 1 (by decide +kernel) (by decide +kernel), by decide +kernel, by decide +kernel, by decide +kernel⟩, gi4 184 (by decide +kernel) (by decide +kernel), gi4 185 (by decide +kernel) (by decide +kernel), by decide, _, _, rfl⟩
theorem mv_X11_sign : Mv mX11_sign 11 2 := ⟨⟨gi4 194 (by decide +kernel) (by decide +kernel), gi1 1 (by decide +kernel) (by decide +kernel), by decide +kernel, by decide +kernel, by decide +kernel⟩, gi4 192 (by decide +kernel) (by decide +kernel), gi4 193 (by decide +kernel) (by decide +kernel), by decide, _, _, rfl⟩
theorem mv_X11_die : Mv mX11_die 11 2 := ⟨⟨gi4 199 (by decide +kernel) (by decide +kernel), gi1 1 (by decide +kernel) (by decide +kernel), by decide +kernel, by decide +kernel, by decide +kernel⟩, gi4 197 (by decide +kernel) (by decide +kernel), gi4 198 (by decide +kernel) (by decide +kernel), by decide, _, _, rfl⟩
theorem mv_X11_clip : Mv mX11_clip 11 2 := ⟨⟨gi4 203 (by decide +kernel) (by decide +kernel), gi1 1 (by decide +kernel) (by decide +kernel), by decide +kernel, by decide +kernel, by decide +kernel⟩, gi4 201 (by decide +kernel) (by decide +kernel), gi4 202 (by decide +kernel) (by decide +kernel), by decide, _, _, rfl⟩
theorem mv_X11_pass : Mv mX11_pass 11 0 := ⟨⟨gi4 207 (by decide +kernel) (by decide +kernel), gi1 1 (by decide +kernel) (by decide +kernel), by decide +kernel, by decide +kernel, by decide +kernel⟩, gi4 205 (by decide +kernel) (by decide +kernel), gi4 206 (by decide +kernel) (by decide +kernel), by decide, _, _, rfl⟩
theorem mv_X11_undo : Mv mX11_undo 11 0 := ⟨⟨gi4 211 (by decide +kernel) (by decide +kernel), gi1 1 (by decide +kernel) (by decide +kernel), by decide +kernel, by decide +kernel, by decide +kernel⟩, gi4 209 (by decide +kernel) (by decide +kernel), gi4 210 (by decide +kernel) (by decide +kernel), by decide, _, _, rfl⟩
theorem mv_X11_had : Mv mX11_had 11 2 := ⟨⟨gi4 227 (by decide +kernel) (by decide +kernel), gi1 1 (by decide +kernel) (by decide +kernel), by decide +kernel, by decide +kernel, by decide +kernel⟩, gi4 225 (by decide +kernel) (by decide +kernel), gi4 226 (by decide +kernel) (by decide +kernel), by decide, _, _, rfl⟩
theorem mv_X11_next : Mv mX11_next 11 2 := ⟨⟨gi5 31 (by decide +kernel) (by decide +kernel), gi1 1 (by decide +kernel) (by decide +kernel), by decide +kernel, by decide +kernel, by decide +kernel⟩, gi5 29 (by decide +kernel) (by decide +kernel), gi5 30 (by decide +kernel) (by decide +kernel), by decide, _, _, rfl⟩
theorem mv_X11_likely : Mv mX11_likely 11 2 := ⟨⟨gi5 40 (by decide +kernel) (by decide +kernel), gi1 1 (by decide +kernel) (by decide +kernel), by decide +kernel, by decide +kernel, by decide +kernel⟩, gi5 38 (by decide +kernel) (by decide +kernel), gi5 39 (by decide +kernel) (by decide +kernel), by decide, _, _, rfl⟩
theorem mv_X11_seen : Mv mX11_seen 11 1 := ⟨⟨gi5 53 (by decide +kernel) (by decide +kernel), gi1 1 (by decide +kernel) (by decide +kernel), by decide +kernel, by decide +kernel, by decide +kernel⟩, gi5 51 (by decide +kernel) (by decide +kernel), gi5 52 (by decide +kernel) (by decide +kernel), by decide, _, _, rfl⟩
theorem mv_X11_forget : Mv mX11_forget 11 0 := ⟨⟨gi5 57 (by decide +kernel) (by decide +kernel), gi1 1 (by decide +kernel) (by decide +kernel), by decide +kernel, by decide +kernel, by decide +kernel⟩, gi5 55 (by decide +kernel) (by decide +kernel), gi5 56 (by decide +kernel) (by decide +kernel), by decide, _, _, rfl⟩
theorem mv_X11_canBe : Mv mX11_canBe 11 1 := ⟨⟨gi5 61 (by decide +kernel) (by decide +kernel), gi1 1 (by decide +kernel) (by decide +kernel), by decide +kernel, by decide +kernel, by decide +kernel⟩, gi5 59 (by decide +kernel) (by decide +kernel), gi5 60 (by decide +kernel) (by decide +kernel), by decide, _, _, rfl⟩
theorem mv_X11_look : Mv mX11_look 11 2 := ⟨⟨gi5 82 (by decide +kernel) (by decide +kernel), gi1 1 (by decide +kernel) (by decide +kernel), by decide +kernel, by decide +kernel, by decide +kernel⟩, gi5 80 (by decide +kernel) (by decide +kernel), gi5 81 (by decide +kernel) (by decide +kernel), by decide, _, _, rfl⟩
theorem mv_X11_explained : Mv mX11_explained 11 1 := ⟨⟨gi5 99 (by decide +kernel) (by decide +kernel), gi1 1 (by decide +kernel) (by decide +kernel), by decide +kernel, by decide +kernel, by decide +kernel⟩, gi5 97 (by decide +kernel) (by decide +kernel), gi5 98 (by decide +kernel) (by decide +kernel), by decide, _, _, rfl⟩
theorem mv_X11_complete : Mv mX11_complete 11 2 := ⟨⟨gi5 120 (by decide +kernel) (by decide +kernel), gi1 1 (by decide +kernel) (by decide +kernel), by decide +kernel, by decide +kernel, by decide +kernel⟩, gi5 118 (by decide +kernel) (by decide +kernel), gi5 119 (by decide +kernel) (by decide +kernel), by decide, _, _, rfl⟩
theorem mv_X11_safe : Mv mX11_safe 11 1 := ⟨⟨gi5 130 (by decide +kernel) (by decide +kernel), gi1 1 (by decide +kernel) (by decide +kernel), by decide +kernel, by decide +kernel, by decide +kernel⟩, gi5 128 (by decide +kernel) (by decide +kernel), gi5 129 (by decide +kernel) (by decide +kernel), by decide, _, _, rfl⟩
theorem mv_X11_frauds : Mv mX11_frauds 11 0 := ⟨⟨gi5 136 (by decide +kernel) (by decide +kernel), gi1 1 (by decide +kernel) (by decide +kernel), by decide +kernel, by decide +kernel, by decide +kernel⟩, gi5 134 (by decide +kernel) (by decide +kernel), gi5 135 (by decide +kernel) (by decide +kernel), by decide, _, _, rfl⟩
theorem mv_X11_passing : Mv mX11_passing 11 1 := ⟨⟨gi5 140 (by decide +kernel) (by decide +kernel), gi1 1 (by decide +kernel) (by decide +kernel), by decide +kernel, by decide +kernel, by decide +kernel⟩, gi5 138 (by decide +kernel) (by decide +kernel), gi5 139 (by decide +kernel) (by decide +kernel), by decide, _, _, rfl⟩
theorem mv_X11_unused : Mv mX11_unused 11 0 := ⟨⟨gi5 153 (by decide +kernel) (by decide +kernel), gi1 1 (by decide +kernel) (by decide +kernel), by decide +kernel, by decide +kernel, by decide +kernel⟩, gi5 151 (by decide +kernel) (by decide +kernel), gi5 152 (by decide +kernel) (by decide +kernel), by decide, _, _, rfl⟩
theorem mv_X11_rich : Mv mX11_rich 11 1 := ⟨⟨gi5 157 (by decide +kernel) (by decide +kernel), gi1 1 (by decide +kernel) (by decide +kernel), by decide +kernel, by decide +kernel, by decide +kernel⟩, gi5 155 (by decide +kernel) (by decide +kernel), gi5 156 (by decide +kernel) (by decide +kernel), by decide, _, _, rfl⟩
theorem mv_X11_years : Mv mX11_years 11 2 := ⟨⟨gi5 162 (by decide +kernel) (by decide +kernel), gi1 1 (by decide +kernel) (by decide +kernel), by decide +kernel, by decide +kernel, by decide +kernel⟩, gi5 160 (by decide +kernel) (by decide +kernel), gi5 161 (by decide +kernel) (by decide +kernel), by decide, _, _, rfl⟩
theorem mv_X11_drawn : Mv mX11_drawn 11 2 := ⟨⟨gi5 184 (by decide +kernel) (by decide +kernel), gi1 1 (by decide +kernel) (by decide +kernel), by decide +kernel, by decide +kernel, by decide +kernel⟩, gi5 182 (by decide +kernel) (by decide +kernel), gi5 183 (by decide +kernel) (by decide +kernel), by decide, _, _, rfl⟩
theorem mv_X11_image : Mv mX11_image 11 1 := ⟨⟨gi5 188 (by decide +kernel) (by decide +kernel), gi1 1 (by decide +kernel) (by decide +kernel), by decide +kernel, by decide +kernel, by decide +kernel⟩, gi5 186 (by decide +kernel) (by decide +kernel), gi5 187 (by decide +kernel) (by decide +kernel), by decide, _, _, rfl⟩
theorem mv_X11_back : Mv mX11_back 11 1 := ⟨⟨gi5 192 (by decide +kernel) (by decide +kernel), gi1 1 (by decide +kernel) (by decide +kernel), by decide +kernel, by decide +kernel, by decide +kernel⟩, gi5 190 (by decide +kernel) (by decide +kernel), gi5 191 (by decide +kernel) (by decide +kernel), by decide, _, _, rfl⟩
theorem mv_X11_count : Mv mX11_count 11 1 := ⟨⟨gi5 196 (by decide +kernel) (by decide +kernel), gi1 1 (by decide +kernel) (by decide +kernel), by decide +kernel, by decide +kernel, by decide +kernel⟩, gi5 194 (by decide +kernel) (by decide +kernel), gi5 195 (by decide +kernel) (by decide +kernel), by decide, _, _, rfl⟩
theorem mv_X11_status : Mv mX11_status 11 0 := ⟨⟨gi5 213 (by decide +kernel) (by decide +kernel), gi1 1 (by decide +kernel) (by decide +kernel), by decide +kernel, by decide +kernel, by decide +kernel⟩, gi5 211 (by decide +kernel) (by decide +kernel), gi5 212 (by decide +kernel) (by decide +kernel), by decide, _, _, rfl⟩
theorem mv_X11_allowed : Mv mX11_allowed 11 1 := ⟨⟨gi3 23 (by decide +kernel) (by decide +kernel), gi1 1 (by decide +kernel) (by decide +kernel), by decide +kernel, by decide +kernel, by decide +kernel⟩, gi3 22 (by decide +kernel) (by decide +kernel), gi0 2 (by decide +kernel) (by decide +kernel), by decide, _, _, rfl⟩
theorem mv_X11_refused : Mv mX11_refused 11 1 := ⟨⟨gi3 7 (by decide +kernel) (by decide +kernel), gi1 1 (by decide +kernel) (by decide +kernel), by decide +kernel, by decide +kernel, by decide +kernel⟩, gi3 6 (by decide +kernel) (by decide +kernel), gi0 1 (by decide +kernel) (by decide +kernel), by decide, _, _, rfl⟩
theorem mv_X11_told : Mv mX11_told 11 1 := ⟨⟨gi4 174 (by decide +kernel) (by decide +kernel), gi1 1 (by decide +kernel) (by decide +kernel), by decide +kernel, by decide +kernel, by decide +kernel⟩, gi4 173 (by decide +kernel) (by decide +kernel), gi0 33 (by decide +kernel) (by decide +kernel), by decide, _, _, rfl⟩
theorem ms_X11_isLife : Ms mX11_isLife 1 := ⟨⟨gi3 3 (by decide +kernel) (by decide +kernel), gi1 1 (by decide +kernel) (by decide +kernel), by decide +kernel, by decide +kernel, by decide +kernel⟩, gi3 2 (by decide +kernel) (by decide +kernel)⟩
theorem ms_X11_hasBit : Ms mX11_hasBit 2 := ⟨⟨gi3 133 (by decide +kernel) (by decide +kernel), gi1 1 (by decide +kernel) (by decide +kernel), by decide +kernel, by decide +kernel, by decide +kernel⟩, gi3 132 (by decide +kernel) (by decide +kernel)⟩
theorem ms_X11_lowestOf : Ms mX11_lowestOf 1 := ⟨⟨gi5 177 (by decide +kernel) (by decide +kernel), gi1 1 (by decide +kernel) (by decide +kernel), by decide +kernel, by decide +kernel, by decide +kernel⟩, gi5 176 (by decide +kernel) (by decide +kernel)⟩
theorem fl_X11_15 : Fl RX11 15 11 0 2 := ⟨_, _, _, rfl, in_X11, by decide, gi2 191 (by decide +kernel) (by decide +kernel), by decide +kernel, by decide⟩
theorem fl_X11_21 : Fl RX11 21 11 1 2 := ⟨_, _, _, rfl, in_X11, by decide, gi2 192 (by decide +kernel) (by decide +kernel), by decide +kernel, by decide⟩
theorem fl_X11_25 : Fl RX11 25 11 2 2 := ⟨_, _, _, rfl, in_X11, by decide, gi2 193 (by decide +kernel) (by decide +kernel), by decide +kernel, by decide⟩
theorem fl_X11_31 : Fl RX11 31 11 3 2 := ⟨_, _, _, rfl, in_X11, by decide, gi2 194 (by decide +kernel) (by decide +kernel), by decide +kernel, by decide⟩
theorem fl_X11_38 : Fl RX11 38 11 4 2 := ⟨_, _, _, rfl, in_X11, by decide, gi2 195 (by decide +kernel) (by decide +kernel), by decide +kernel, by decide⟩
theorem fl_X11_47 : Fl RX11 47 11 5 2 := ⟨_, _, _, rfl, in_X11, by decide, gi2 196 (by decide +kernel) (by decide +kernel), by decide +kernel, by decide⟩
theorem fl_X11_56 : Fl RX11 56 11 6 2 := ⟨_, _, _, rfl, in_X11, by decide, gi2 197 (by decide +kernel) (by decide +kernel), by decide +kernel, by decide⟩
theorem fl_X11_65 : Fl RX11 65 11 7 2 := ⟨_, _, _, rfl, in_X11, by decide, gi2 198 (by decide +kernel) (by decide +kernel), by decide +kernel, by decide⟩
theorem fl_X11_74 : Fl RX11 74 11 8 2 := ⟨_, _, _, rfl, in_X11, by decide, gi2 199 (by decide +kernel) (by decide +kernel), by decide +kernel, by decide⟩
theorem fl_X11_81 : Fl RX11 81 11 9 2 := ⟨_, _, _, rfl, in_X11, by decide, gi2 200 (by decide +kernel) (by decide +kernel), by decide +kernel, by decide⟩
theorem fl_X11_85 : Fl RX11 85 11 10 2 := ⟨_, _, _, rfl, in_X11, by decide, gi2 201 (by decide +kernel) (by decide +kernel), by decide +kernel, by decide⟩
theorem fl_X11_89 : Fl RX11 89 11 11 0 := ⟨_, _, _, rfl, in_X11, by decide, gi2 202 (by decide +kernel) (by decide +kernel), by decide +kernel, by decide⟩
theorem fl_X11_93 : Fl RX11 93 11 12 0 := ⟨_, _, _, rfl, in_X11, by decide, gi2 203 (by decide +kernel) (by decide +kernel), by decide +kernel, by decide⟩
theorem fl_X11_96 : Fl RX11 96 11 13 0 := ⟨_, _, _, rfl, in_X11, by decide, gi2 204 (by decide +kernel) (by decide +kernel), by decide +kernel, by decide⟩
theorem fl_X11_99 : Fl RX11 99 11 14 0 := ⟨_, _, _, rfl, in_X11, by decide, gi2 205 (by decide +kernel) (by decide +kernel), by decide +kernel, by decide⟩
theorem fl_X11_110 : Fl RX11 110 5 0 0 := ⟨_, _, _, rfl, in_X5, by decide, gi1 53 (by decide +kernel) (by decide +kernel), by decide +kernel, by decide⟩
theorem fl_X11_126 : Fl RX11 126 5 1 2 := ⟨_, _, _, rfl, in_X5, by decide, gi1 60 (by decide +kernel) (by decide +kernel), by decide +kernel, by decide⟩
theorem fl_X11_129 : Fl RX11 129 5 2 2 := ⟨_, _, _, rfl, in_X5, by decide, gi1 65 (by decide +kernel) (by decide +kernel), by decide +kernel, by decide⟩
theorem fl_X11_132 : Fl RX11 132 5 3 2 := ⟨_, _, _, rfl, in_X5, by decide, gi1 70 (by decide +kernel) (by decide +kernel), by decide +kernel, by decide⟩
theorem fl_X11_135 : Fl RX11 135 5 4 2 := ⟨_, _, _, rfl, in_X5, by decide, gi1 74 (by decide +kernel) (by decide +kernel), by decide +kernel, by decide⟩
theorem fl_X11_138 : Fl RX11 138 5 5 2 := ⟨_, _, _, rfl, in_X5, by decide, gi1 79 (by decide +kernel) (by decide +kernel), by decide +kernel, by decide⟩
theorem fl_X11_158 : Fl RX11 158 5 6 0 := ⟨_, _, _, rfl, in_X5, by decide, gi1 81 (by decide +kernel) (by decide +kernel), by decide +kernel, by decide⟩
theorem fl_X11_167 : Fl RX11 167 5 7 2 := ⟨_, _, _, rfl, in_X5, by decide, gi1 83 (by decide +kernel) (by decide +kernel), by decide +kernel, by decide⟩
theorem fl_X11_183 : Fl RX11 183 5 10 2 := ⟨_, _, _, rfl, in_X5, by decide, gi1 95 (by decide +kernel) (by decide +kernel), by decide +kernel, by decide⟩
theorem fl_X11_194 : Fl RX11 194 9 1 0 := ⟨_, _, _, rfl, in_X9, by decide, gi1 143 (by decide +kernel) (by decide +kernel), by decide +kernel, by decide⟩
theorem fl_X11_206 : Fl RX11 206 5 11 0 := ⟨_, _, _, rfl, in_X5, by decide, gi1 98 (by decide +kernel) (by decide +kernel), by decide +kernel, by decide⟩
theorem fl_X11_213 : Fl RX11 213 6 0 2 := ⟨_, _, _, rfl, in_X6, by decide, gi2 12 (by decide +kernel) (by decide +kernel), by decide +kernel, by decide⟩
theorem fl_X11_230 : Fl RX11 230 3 5 0 := ⟨_, _, _, rfl, in_X3, by decide, gi2 119 (by decide +kernel) (by decide +kernel), by decide +kernel, by decide⟩
theorem fl_X11_239 : Fl RX11 239 5 13 0 := ⟨_, _, _, rfl, in_X5, by decide, gi1 102 (by decide +kernel) (by decide +kernel), by decide +kernel, by decide⟩
theorem fl_X11_262 : Fl RX11 262 5 8 0 := ⟨_, _, _, rfl, in_X5, by decide, gi1 86 (by decide +kernel) (by decide +kernel), by decide +kernel, by decide⟩
theorem fl_X11_265 : Fl RX11 265 5 9 2 := ⟨_, _, _, rfl, in_X5, by decide, gi1 89 (by decide +kernel) (by decide +kernel), by decide +kernel, by decide⟩
theorem fl_X11_275 : Fl RX11 275 8 5 0 := ⟨_, _, _, rfl, in_X8, by decide, gi2 173 (by decide +kernel) (by decide +kernel), by decide +kernel, by decide⟩
theorem fl_X11_278 : Fl RX11 278 8 6 0 := ⟨_, _, _, rfl, in_X8, by decide, gi2 175 (by decide +kernel) (by decide +kernel), by decide +kernel, by decide⟩
theorem fp_X11_15 : Fp RX11 15 11 0 2 (.object "NineLives$Port") true := ⟨_, _, _, tyX11, rfl, in_X11, by decide, gi2 191 (by decide +kernel) (by decide +kernel), by decide +kernel, by decide, tyX11_ok, nmX11, by decide +kernel, rfl, fun _ => rfl⟩
theorem fp_X11_21 : Fp RX11 21 11 1 2 (.array (.object "NineLives$Port")) true := ⟨_, _, _, tyX11, rfl, in_X11, by decide, gi2 192 (by decide +kernel) (by decide +kernel), by decide +kernel, by decide, tyX11_ok, nmX11, by decide +kernel, rfl, fun _ => rfl⟩
theorem fp_X11_25 : Fp RX11 25 11 2 2 (.object "NineLives$Port") true := ⟨_, _, _, tyX11, rfl, in_X11, by decide, gi2 193 (by decide +kernel) (by decide +kernel), by decide +kernel, by decide, tyX11_ok, nmX11, by decide +kernel, rfl, fun _ => rfl⟩
theorem fp_X11_31 : Fp RX11 31 11 3 2 (.object "NineLives$Tape") true := ⟨_, _, _, tyX11, rfl, in_X11, by decide, gi2 194 (by decide +kernel) (by decide +kernel), by decide +kernel, by decide, tyX11_ok, nmX11, by decide +kernel, rfl, fun _ => rfl⟩
theorem fp_X11_38 : Fp RX11 38 11 4 2 (.object "NineLives$Reader") true := ⟨_, _, _, tyX11, rfl, in_X11, by decide, gi2 195 (by decide +kernel) (by decide +kernel), by decide +kernel, by decide, tyX11_ok, nmX11, by decide +kernel, rfl, fun _ => rfl⟩
theorem fp_X11_47 : Fp RX11 47 11 5 2 (.object "NineLives$Asking") true := ⟨_, _, _, tyX11, rfl, in_X11, by decide, gi2 196 (by decide +kernel) (by decide +kernel), by decide +kernel, by decide, tyX11_ok, nmX11, by decide +kernel, rfl, fun _ => rfl⟩
theorem fp_X11_56 : Fp RX11 56 11 6 2 (.object "NineLives$Doings") true := ⟨_, _, _, tyX11, rfl, in_X11, by decide, gi2 197 (by decide +kernel) (by decide +kernel), by decide +kernel, by decide, tyX11_ok, nmX11, by decide +kernel, rfl, fun _ => rfl⟩
theorem fp_X11_65 : Fp RX11 65 11 7 2 (.object "NineLives$Orders") true := ⟨_, _, _, tyX11, rfl, in_X11, by decide, gi2 198 (by decide +kernel) (by decide +kernel), by decide +kernel, by decide, tyX11_ok, nmX11, by decide +kernel, rfl, fun _ => rfl⟩
theorem fp_X11_74 : Fp RX11 74 11 8 2 (.object "NineLives$Fortune") true := ⟨_, _, _, tyX11, rfl, in_X11, by decide, gi2 199 (by decide +kernel) (by decide +kernel), by decide +kernel, by decide, tyX11_ok, nmX11, by decide +kernel, rfl, fun _ => rfl⟩
theorem fp_X11_81 : Fp RX11 81 11 9 2 (.object "NineLives$Sight") true := ⟨_, _, _, tyX11, rfl, in_X11, by decide, gi2 200 (by decide +kernel) (by decide +kernel), by decide +kernel, by decide, tyX11_ok, nmX11, by decide +kernel, rfl, fun _ => rfl⟩
theorem fp_X11_85 : Fp RX11 85 11 10 2 (.array .int) true := ⟨_, _, _, tyX11, rfl, in_X11, by decide, gi2 201 (by decide +kernel) (by decide +kernel), by decide +kernel, by decide, tyX11_ok, nmX11, by decide +kernel, rfl, fun _ => rfl⟩
theorem fp_X11_89 : Fp RX11 89 11 11 0 .int false := ⟨_, _, _, tyX11, rfl, in_X11, by decide, gi2 202 (by decide +kernel) (by decide +kernel), by decide +kernel, by decide, tyX11_ok, nmX11, by decide +kernel, rfl, fun _ => rfl⟩
theorem fp_X11_93 : Fp RX11 93 11 12 0 .int false := ⟨_, _, _, tyX11, rfl, in_X11, by decide, gi2 203 (by decide +kernel) (by decide +kernel), by decide +kernel, by decide, tyX11_ok, nmX11, by decide +kernel, rfl, fun _ => rfl⟩
theorem fp_X11_96 : Fp RX11 96 11 13 0 .int false := ⟨_, _, _, tyX11, rfl, in_X11, by decide, gi2 204 (by decide +kernel) (by decide +kernel), by decide +kernel, by decide, tyX11_ok, nmX11, by decide +kernel, rfl, fun _ => rfl⟩
theorem fp_X11_99 : Fp RX11 99 11 14 0 .int false := ⟨_, _, _, tyX11, rfl, in_X11, by decide, gi2 205 (by decide +kernel) (by decide +kernel), by decide +kernel, by decide, tyX11_ok, nmX11, by decide +kernel, rfl, fun _ => rfl⟩
theorem fp_X11_194 : Fp RX11 194 9 1 0 .int false := ⟨_, _, _, tyX9, rfl, in_X9, by decide, gi1 143 (by decide +kernel) (by decide +kernel), by decide +kernel, by decide, tyX9_ok, nmX9, by decide +kernel, rfl, fun z => by cases z⟩
theorem fp_X11_239 : Fp RX11 239 5 13 0 .int false := ⟨_, _, _, tyX5, rfl, in_X5, by decide, gi1 102 (by decide +kernel) (by decide +kernel), by decide +kernel, by decide, tyX5_ok, nmX5, by decide +kernel, rfl, fun z => by cases z⟩
theorem fp_X11_262 : Fp RX11 262 5 8 0 .int false := ⟨_, _, _, tyX5, rfl, in_X5, by decide, gi1 86 (by decide +kernel) (by decide +kernel), by decide +kernel, by decide, tyX5_ok, nmX5, by decide +kernel, rfl, fun z => by cases z⟩
theorem fp_X11_311 : Fp RX11 311 0 3 2 (.object "NineLives$Text") false := ⟨_, _, _, tyX0, rfl, in_X0, by decide, gi2 51 (by decide +kernel) (by decide +kernel), by decide +kernel, by decide, tyX0_ok, nmX0, by decide +kernel, rfl, fun z => by cases z⟩
theorem ml_X11_3 : Cond.methodLink RX11 3 objectInit ∈ gws := gi1 27 (by decide +kernel) (by decide +kernel)
theorem ml_X11_11 : Cond.methodLink RX11 11 yX7_init ∈ gws := gi1 32 (by decide +kernel) (by decide +kernel)
theorem ml_X11_14 : Cond.methodLink RX11 14 yX5_init ∈ gws := gi1 46 (by decide +kernel) (by decide +kernel)
theorem ml_X11_30 : Cond.methodLink RX11 30 yX9_init ∈ gws := gi1 136 (by decide +kernel) (by decide +kernel)
theorem ml_X11_37 : Cond.methodLink RX11 37 yX6_init ∈ gws := gi1 151 (by decide +kernel) (by decide +kernel)
theorem ml_X11_44 : Cond.methodLink RX11 44 yX0_init ∈ gws := gi2 43 (by decide +kernel) (by decide +kernel)
theorem ml_X11_53 : Cond.methodLink RX11 53 yX1_init ∈ gws := gi2 63 (by decide +kernel) (by decide +kernel)
theorem ml_X11_62 : Cond.methodLink RX11 62 yX3_init ∈ gws := gi2 109 (by decide +kernel) (by decide +kernel)
theorem ml_X11_71 : Cond.methodLink RX11 71 yX2_init ∈ gws := gi2 135 (by decide +kernel) (by decide +kernel)
theorem ml_X11_80 : Cond.methodLink RX11 80 yX8_init ∈ gws := gi2 163 (by decide +kernel) (by decide +kernel)
theorem ml_X11_102 : Cond.methodLink RX11 102 yX11_isLife ∈ gws := gi3 1 (by decide +kernel) (by decide +kernel)
theorem ml_X11_106 : Cond.methodLink RX11 106 yX11_refused ∈ gws := gi3 4 (by decide +kernel) (by decide +kernel)
theorem ml_X11_113 : Cond.methodLink RX11 113 yX1_forgetPast ∈ gws := gi3 8 (by decide +kernel) (by decide +kernel)
theorem ml_X11_116 : Cond.methodLink RX11 116 yX5_addCat ∈ gws := gi3 16 (by decide +kernel) (by decide +kernel)
theorem ml_X11_120 : Cond.methodLink RX11 120 yX11_allowed ∈ gws := gi3 20 (by decide +kernel) (by decide +kernel)
theorem ml_X11_123 : Cond.methodLink RX11 123 yX5_hasCat ∈ gws := gi3 28 (by decide +kernel) (by decide +kernel)
theorem ml_X11_141 : Cond.methodLink RX11 141 yX5_spentBy ∈ gws := gi3 32 (by decide +kernel) (by decide +kernel)
theorem ml_X11_144 : Cond.methodLink RX11 144 yX11_askedNow ∈ gws := gi3 42 (by decide +kernel) (by decide +kernel)
theorem ml_X11_148 : Cond.methodLink RX11 148 yX5_isHere ∈ gws := gi3 46 (by decide +kernel) (by decide +kernel)
theorem ml_X11_151 : Cond.methodLink RX11 151 yX0_about ∈ gws := gi3 51 (by decide +kernel) (by decide +kernel)
theorem ml_X11_155 : Cond.methodLink RX11 155 yX0_tells ∈ gws := gi3 60 (by decide +kernel) (by decide +kernel)
theorem ml_X11_161 : Cond.methodLink RX11 161 yX5_addShip ∈ gws := gi3 106 (by decide +kernel) (by decide +kernel)
theorem ml_X11_164 : Cond.methodLink RX11 164 yX5_hasShip ∈ gws := gi3 114 (by decide +kernel) (by decide +kernel)
theorem ml_X11_170 : Cond.methodLink RX11 170 yX5_crewOf ∈ gws := gi3 118 (by decide +kernel) (by decide +kernel)
theorem ml_X11_173 : Cond.methodLink RX11 173 yX5_missingOn ∈ gws := gi3 122 (by decide +kernel) (by decide +kernel)
theorem ml_X11_176 : Cond.methodLink RX11 176 yX0_barredFrom ∈ gws := gi3 134 (by decide +kernel) (by decide +kernel)
theorem ml_X11_186 : Cond.methodLink RX11 186 yX9_hasRoomForFive ∈ gws := gi3 154 (by decide +kernel) (by decide +kernel)
theorem ml_X11_190 : Cond.methodLink RX11 190 yX9_add ∈ gws := gi3 158 (by decide +kernel) (by decide +kernel)
theorem ml_X11_197 : Cond.methodLink RX11 197 yX11_cameFrom ∈ gws := gi3 170 (by decide +kernel) (by decide +kernel)
theorem ml_X11_200 : Cond.methodLink RX11 200 yX9_byteAt ∈ gws := gi3 174 (by decide +kernel) (by decide +kernel)
theorem ml_X11_203 : Cond.methodLink RX11 203 yX11_lowestBeside ∈ gws := gi3 178 (by decide +kernel) (by decide +kernel)
theorem ml_X11_209 : Cond.methodLink RX11 209 yX6_read ∈ gws := gi3 189 (by decide +kernel) (by decide +kernel)
theorem ml_X11_217 : Cond.methodLink RX11 217 yX10_copied ∈ gws := gi4 70 (by decide +kernel) (by decide +kernel)
theorem ml_X11_223 : Cond.methodLink RX11 223 yX5_addLaw ∈ gws := gi4 79 (by decide +kernel) (by decide +kernel)
theorem ml_X11_227 : Cond.methodLink RX11 227 yX3_run ∈ gws := gi4 87 (by decide +kernel) (by decide +kernel)
theorem ml_X11_233 : Cond.methodLink RX11 233 yX11_told ∈ gws := gi4 171 (by decide +kernel) (by decide +kernel)
theorem ml_X11_236 : Cond.methodLink RX11 236 yX5_hasLaw ∈ gws := gi4 187 (by decide +kernel) (by decide +kernel)
theorem ml_X11_242 : Cond.methodLink RX11 242 yX1_act ∈ gws := gi4 195 (by decide +kernel) (by decide +kernel)
theorem ml_X11_245 : Cond.methodLink RX11 245 yX1_takeBack ∈ gws := gi4 212 (by decide +kernel) (by decide +kernel)
theorem ml_X11_251 : Cond.methodLink RX11 251 yX2_hadBy ∈ gws := gi4 229 (by decide +kernel) (by decide +kernel)
theorem ml_X11_255 : Cond.methodLink RX11 255 yX2_bestNext ∈ gws := gi5 32 (by decide +kernel) (by decide +kernel)
theorem ml_X11_259 : Cond.methodLink RX11 259 yX2_chanceToLast ∈ gws := gi5 41 (by decide +kernel) (by decide +kernel)
theorem ml_X11_268 : Cond.methodLink RX11 268 yX8_livesItCanBe ∈ gws := gi5 62 (by decide +kernel) (by decide +kernel)
theorem ml_X11_271 : Cond.methodLink RX11 271 yX8_hasFoundYear ∈ gws := gi5 83 (by decide +kernel) (by decide +kernel)
theorem ml_X11_281 : Cond.methodLink RX11 281 yX8_fewestLives ∈ gws := gi5 100 (by decide +kernel) (by decide +kernel)
theorem ml_X11_284 : Cond.methodLink RX11 284 yX5_withoutShip ∈ gws := gi5 121 (by decide +kernel) (by decide +kernel)
theorem ml_X11_287 : Cond.methodLink RX11 287 yX5_livesOf ∈ gws := gi5 125 (by decide +kernel) (by decide +kernel)
theorem ml_X11_299 : Cond.methodLink RX11 299 yX8_lookAhead ∈ gws := gi5 141 (by decide +kernel) (by decide +kernel)
theorem ml_X11_303 : Cond.methodLink RX11 303 yX8_passForOneAnother ∈ gws := gi5 146 (by decide +kernel) (by decide +kernel)
theorem ml_X11_307 : Cond.methodLink RX11 307 yX5_lawOf ∈ gws := gi5 158 (by decide +kernel) (by decide +kernel)
theorem ml_X11_315 : Cond.methodLink RX11 315 yX5_copyFrom ∈ gws := gi5 164 (by decide +kernel) (by decide +kernel)
theorem ml_X11_318 : Cond.methodLink RX11 318 yX2_drawYears ∈ gws := gi5 165 (by decide +kernel) (by decide +kernel)
theorem ml_X11_321 : Cond.methodLink RX11 321 yX5_howManyAlive ∈ gws := gi5 197 (by decide +kernel) (by decide +kernel)
theorem ml_X11_324 : Cond.methodLink RX11 324 yX1_howManyKept ∈ gws := gi5 198 (by decide +kernel) (by decide +kernel)
theorem ml_X11_327 : Cond.methodLink RX11 327 yX5_allGold ∈ gws := gi5 206 (by decide +kernel) (by decide +kernel)
theorem ml_X11_330 : Cond.methodLink RX11 330 yX11_hasBit ∈ gws := gi5 178 (by decide +kernel) (by decide +kernel)
theorem cs_X11_249 : Cond.constantLong RX11 249 (-1) ∈ gws := gi4 228 (by decide +kernel) (by decide +kernel)
theorem cs_X11_295 : Cond.constantLong RX11 295 (1000000000000) ∈ gws := gi5 131 (by decide +kernel) (by decide +kernel)
theorem cs_X11_297 : Cond.constantLong RX11 297 (10) ∈ gws := gi5 132 (by decide +kernel) (by decide +kernel)
theorem cs_X11_314 : Cond.constant RX11 314 (1000000) ∈ gws := gi5 163 (by decide +kernel) (by decide +kernel)
abbrev mJ6_bitCount_0f7a4 : Mi := (yJ6_bitCount_0f7a4, cJ6_bitCount_0f7a4, 1, (some .int))
theorem ms_J6_bitCount_0f7a4 : Ms mJ6_bitCount_0f7a4 1 := ⟨⟨gi3 38 (by decide +kernel) (by decide +kernel), gi1 18 (by decide +kernel) (by decide +kernel), by decide +kernel, by decide +kernel, by decide +kernel⟩, gi3 37 (by decide +kernel) (by decide +kernel)⟩
abbrev mJ9_max_7cf53 : Mi := (yJ9_max_7cf53, cJ9_max_7cf53, 2, (some .int))
theorem ms_J9_max_7cf53 : Ms mJ9_max_7cf53 2 := ⟨⟨gi3 83 (by decide +kernel) (by decide +kernel), gi1 19 (by decide +kernel) (by decide +kernel), by decide +kernel, by decide +kernel, by decide +kernel⟩, gi3 82 (by decide +kernel) (by decide +kernel)⟩
abbrev mJ9_max_f86c9 : Mi := (yJ9_max_f86c9, cJ9_max_f86c9, 4, (some .long))
theorem ms_J9_max_f86c9 : Ms mJ9_max_f86c9 2 := ⟨⟨gi3 101 (by decide +kernel) (by decide +kernel), gi1 19 (by decide +kernel) (by decide +kernel), by decide +kernel, by decide +kernel, by decide +kernel⟩, gi3 100 (by decide +kernel) (by decide +kernel)⟩
abbrev mJ9_min_7cf53 : Mi := (yJ9_min_7cf53, cJ9_min_7cf53, 2, (some .int))
theorem ms_J9_min_7cf53 : Ms mJ9_min_7cf53 2 := ⟨⟨gi3 71 (by decide +kernel) (by decide +kernel), gi1 19 (by decide +kernel) (by decide +kernel), by decide +kernel, by decide +kernel, by decide +kernel⟩, gi3 70 (by decide +kernel) (by decide +kernel)⟩
abbrev mJ9_min_f86c9 : Mi := (yJ9_min_f86c9, cJ9_min_f86c9, 4, (some .long))
theorem ms_J9_min_f86c9 : Ms mJ9_min_f86c9 2 := ⟨⟨gi3 98 (by decide +kernel) (by decide +kernel), gi1 19 (by decide +kernel) (by decide +kernel), by decide +kernel, by decide +kernel, by decide +kernel⟩, gi3 97 (by decide +kernel) (by decide +kernel)⟩
abbrev mJ7_fill_d0a16 : Mi := (yJ7_fill_d0a16, cJ7_fill_d0a16, 5, none)
theorem ms_J7_fill_d0a16 : Ms mJ7_fill_d0a16 2 := ⟨⟨gi5 11 (by decide +kernel) (by decide +kernel), gi1 21 (by decide +kernel) (by decide +kernel), by decide +kernel, by decide +kernel, by decide +kernel⟩, gi5 10 (by decide +kernel) (by decide +kernel)⟩
abbrev mJ7_fill_53178 : Mi := (yJ7_fill_53178, cJ7_fill_53178, 4, none)
theorem ms_J7_fill_53178 : Ms mJ7_fill_53178 2 := ⟨⟨gi5 94 (by decide +kernel) (by decide +kernel), gi1 21 (by decide +kernel) (by decide +kernel), by decide +kernel, by decide +kernel, by decide +kernel⟩, gi5 93 (by decide +kernel) (by decide +kernel)⟩
theorem ml_X0_75 : Cond.methodLink RX0 75 yJ9_min_f86c9 ∈ gws := gi3 96 (by decide +kernel) (by decide +kernel)
theorem ml_X0_81 : Cond.methodLink RX0 81 yJ9_max_f86c9 ∈ gws := gi3 99 (by decide +kernel) (by decide +kernel)
theorem ml_X1_80 : Cond.methodLink RX1 80 yJ6_bitCount_0f7a4 ∈ gws := gi4 145 (by decide +kernel) (by decide +kernel)
theorem ml_X2_54 : Cond.methodLink RX2 54 yJ7_fill_d0a16 ∈ gws := gi5 9 (by decide +kernel) (by decide +kernel)
theorem ml_X2_80 : Cond.methodLink RX2 80 yJ6_bitCount_0f7a4 ∈ gws := gi5 16 (by decide +kernel) (by decide +kernel)
theorem ml_X2_93 : Cond.methodLink RX2 93 yJ9_max_f86c9 ∈ gws := gi5 21 (by decide +kernel) (by decide +kernel)
theorem ml_X3_102 : Cond.methodLink RX3 102 yJ6_bitCount_0f7a4 ∈ gws := gi4 120 (by decide +kernel) (by decide +kernel)
theorem ml_X4_29 : Cond.methodLink RX4 29 yJ9_min_7cf53 ∈ gws := gi4 139 (by decide +kernel) (by decide +kernel)
theorem ml_X5_59 : Cond.methodLink RX5 59 yJ6_bitCount_0f7a4 ∈ gws := gi3 36 (by decide +kernel) (by decide +kernel)
theorem ml_X5_84 : Cond.methodLink RX5 84 yJ9_min_7cf53 ∈ gws := gi4 166 (by decide +kernel) (by decide +kernel)
theorem ml_X6_107 : Cond.methodLink RX6 107 yJ9_min_7cf53 ∈ gws := gi3 218 (by decide +kernel) (by decide +kernel)
theorem ml_X7_27 : Cond.methodLink RX7 27 yJ9_min_7cf53 ∈ gws := gi3 69 (by decide +kernel) (by decide +kernel)
theorem ml_X7_52 : Cond.methodLink RX7 52 yJ9_max_7cf53 ∈ gws := gi3 81 (by decide +kernel) (by decide +kernel)
theorem ml_X8_83 : Cond.methodLink RX8 83 yJ7_fill_53178 ∈ gws := gi5 92 (by decide +kernel) (by decide +kernel)
theorem ml_X8_89 : Cond.methodLink RX8 89 yJ9_max_7cf53 ∈ gws := gi5 95 (by decide +kernel) (by decide +kernel)
theorem ml_X8_103 : Cond.methodLink RX8 103 yJ6_bitCount_0f7a4 ∈ gws := gi5 108 (by decide +kernel) (by decide +kernel)
theorem ml_X11_290 : Cond.methodLink RX11 290 yJ6_bitCount_0f7a4 ∈ gws := gi5 126 (by decide +kernel) (by decide +kernel)
