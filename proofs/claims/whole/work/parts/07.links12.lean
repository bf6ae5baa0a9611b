/-! links of the reference -/
abbrev mX12_init : Mi := (yX12_init, cX12_init, 1, none)
abbrev mX12_in : Mi := (yX12_in, cX12_in, 6, (some .boolean))
abbrev mX12_is : Mi := (yX12_is, cX12_is, 2, (some .boolean))
abbrev mX12_ones : Mi := (yX12_ones, cX12_ones, 3, (some .int))
abbrev mX12_within : Mi := (yX12_within, cX12_within, 4, (some .int))
abbrev mX12_tell : Mi := (yX12_tell, cX12_tell, 2, (some .int))
abbrev mX12_change : Mi := (yX12_change, cX12_change, 4, (some .int))
abbrev mX12_settled : Mi := (yX12_settled, cX12_settled, 2, (some .int))
abbrev mX12_keepAll : Mi := (yX12_keepAll, cX12_keepAll, 3, none)
abbrev mX12_putBack : Mi := (yX12_putBack, cX12_putBack, 3, none)
abbrev mX12_remember : Mi := (yX12_remember, cX12_remember, 3, none)
abbrev mX12_undo : Mi := (yX12_undo, cX12_undo, 1, (some .int))
abbrev mX12_image : Mi := (yX12_image, cX12_image, 3, (some .int))
abbrev mX12_back : Mi := (yX12_back, cX12_back, 3, (some .int))
abbrev mX12_isCat : Mi := (yX12_isCat, cX12_isCat, 2, (some .boolean))
abbrev mX12_isShip : Mi := (yX12_isShip, cX12_isShip, 2, (some .boolean))
abbrev mX12_isAlive : Mi := (yX12_isAlive, cX12_isAlive, 2, (some .boolean))
abbrev mX12_isLife : Mi := (yX12_isLife, cX12_isLife, 1, (some .boolean))
abbrev mX12_spentOf : Mi := (yX12_spentOf, cX12_spentOf, 2, (some .int))
abbrev mX12_crewOf : Mi := (yX12_crewOf, cX12_crewOf, 4, (some .int))
abbrev mX12_livesOf : Mi := (yX12_livesOf, cX12_livesOf, 4, (some .int))
abbrev mX12_aliveOnes : Mi := (yX12_aliveOnes, cX12_aliveOnes, 3, (some .int))
abbrev mX12_come : Mi := (yX12_come, cX12_come, 7, (some .int))
abbrev mX12_cat : Mi := (yX12_cat, cX12_cat, 2, (some .int))
abbrev mX12_of : Mi := (yX12_of, cX12_of, 3, (some .int))
abbrev mX12_ship : Mi := (yX12_ship, cX12_ship, 3, (some .int))
abbrev mX12_at : Mi := (yX12_at, cX12_at, 3, (some .int))
abbrev mX12_terms : Mi := (yX12_terms, cX12_terms, 4, (some .int))
abbrev mX12_row : Mi := (yX12_row, cX12_row, 4, (some .int))
abbrev mX12_mice : Mi := (yX12_mice, cX12_mice, 1, (some .int))
abbrev mX12_four : Mi := (yX12_four, cX12_four, 3, none)
abbrev mX12_feed : Mi := (yX12_feed, cX12_feed, 6, (some .int))
abbrev mX12_end : Mi := (yX12_end, cX12_end, 2, (some .int))
abbrev mX12_isSmall : Mi := (yX12_isSmall, cX12_isSmall, 1, (some .boolean))
abbrev mX12_isDigit : Mi := (yX12_isDigit, cX12_isDigit, 1, (some .boolean))
abbrev mX12_begin : Mi := (yX12_begin, cX12_begin, 1, none)
abbrev mX12_onward : Mi := (yX12_onward, cX12_onward, 1, none)
abbrev mX12_isWord : Mi := (yX12_isWord, cX12_isWord, 3, (some .boolean))
abbrev mX12_isSign : Mi := (yX12_isSign, cX12_isSign, 2, (some .boolean))
abbrev mX12_must : Mi := (yX12_must, cX12_must, 2, none)
abbrev mX12_number : Mi := (yX12_number, cX12_number, 6, (some .int))
abbrev mX12_fault : Mi := (yX12_fault, cX12_fault, 1, (some .int))
abbrev mX12_emit : Mi := (yX12_emit, cX12_emit, 3, none)
abbrev mX12_push : Mi := (yX12_push, cX12_push, 3, none)
abbrev mX12_binds : Mi := (yX12_binds, cX12_binds, 1, (some .int))
abbrev mX12_settle : Mi := (yX12_settle, cX12_settle, 2, none)
abbrev mX12_inner : Mi := (yX12_inner, cX12_inner, 3, (some .int))
abbrev mX12_isCompared : Mi := (yX12_isCompared, cX12_isCompared, 2, (some .boolean))
abbrev mX12_partAt : Mi := (yX12_partAt, cX12_partAt, 3, (some .int))
abbrev mX12_orderPartAt : Mi := (yX12_orderPartAt, cX12_orderPartAt, 3, (some .int))
abbrev mX12_openBracket : Mi := (yX12_openBracket, cX12_openBracket, 2, none)
abbrev mX12_leaf : Mi := (yX12_leaf, cX12_leaf, 4, none)
abbrev mX12_readPart : Mi := (yX12_readPart, cX12_readPart, 4, (some .int))
abbrev mX12_readPlain : Mi := (yX12_readPlain, cX12_readPlain, 1, (some .int))
abbrev mX12_behindSum : Mi := (yX12_behindSum, cX12_behindSum, 4, (some .int))
abbrev mX12_behindTest : Mi := (yX12_behindTest, cX12_behindTest, 2, (some .int))
abbrev mX12_readExpression : Mi := (yX12_readExpression, cX12_readExpression, 3, none)
abbrev mX12_beginText : Mi := (yX12_beginText, cX12_beginText, 2, none)
abbrev mX12_endText : Mi := (yX12_endText, cX12_endText, 1, none)
abbrev mX12_readLaw : Mi := (yX12_readLaw, cX12_readLaw, 4, none)
abbrev mX12_law : Mi := (yX12_law, cX12_law, 3, (some .int))
abbrev mX12_isLaw : Mi := (yX12_isLaw, cX12_isLaw, 2, (some .boolean))
abbrev mX12_force : Mi := (yX12_force, cX12_force, 2, (some .int))
abbrev mX12_reckon : Mi := (yX12_reckon, cX12_reckon, 6, (some .long))
abbrev mX12_reckonAll : Mi := (yX12_reckonAll, cX12_reckonAll, 7, none)
abbrev mX12_isSo : Mi := (yX12_isSo, cX12_isSo, 2, (some .boolean))
abbrev mX12_tells : Mi := (yX12_tells, cX12_tells, 13, (some .long))
abbrev mX12_earnsOf : Mi := (yX12_earnsOf, cX12_earnsOf, 4, (some .int))
abbrev mX12_daresOf : Mi := (yX12_daresOf, cX12_daresOf, 4, (some .int))
abbrev mX12_showsOf : Mi := (yX12_showsOf, cX12_showsOf, 5, (some .int))
abbrev mX12_isBarred : Mi := (yX12_isBarred, cX12_isBarred, 3, (some .boolean))
abbrev mX12_barredFrom : Mi := (yX12_barredFrom, cX12_barredFrom, 4, (some .int))
abbrev mX12_signNow : Mi := (yX12_signNow, cX12_signNow, 3, (some .int))
abbrev mX12_sign : Mi := (yX12_sign, cX12_sign, 3, (some .int))
abbrev mX12_dieIt : Mi := (yX12_dieIt, cX12_dieIt, 3, none)
abbrev mX12_dieNow : Mi := (yX12_dieNow, cX12_dieNow, 4, (some .int))
abbrev mX12_die : Mi := (yX12_die, cX12_die, 3, (some .int))
abbrev mX12_clipNow : Mi := (yX12_clipNow, cX12_clipNow, 4, (some .int))
abbrev mX12_clip : Mi := (yX12_clip, cX12_clip, 3, (some .int))
abbrev mX12_passIt : Mi := (yX12_passIt, cX12_passIt, 2, none)
abbrev mX12_passNow : Mi := (yX12_passNow, cX12_passNow, 1, (some .int))
abbrev mX12_pass : Mi := (yX12_pass, cX12_pass, 1, (some .int))
abbrev mX12_mostNext : Mi := (yX12_mostNext, cX12_mostNext, 7, (some .long))
abbrev mX12_layHad : Mi := (yX12_layHad, cX12_layHad, 12, none)
abbrev mX12_had : Mi := (yX12_had, cX12_had, 3, (some .long))
abbrev mX12_next : Mi := (yX12_next, cX12_next, 8, (some .int))
abbrev mX12_likely : Mi := (yX12_likely, cX12_likely, 9, (some .long))
abbrev mX12_seen : Mi := (yX12_seen, cX12_seen, 3, (some .int))
abbrev mX12_forget : Mi := (yX12_forget, cX12_forget, 2, (some .int))
abbrev mX12_livesThatCan : Mi := (yX12_livesThatCan, cX12_livesThatCan, 6, (some .int))
abbrev mX12_canBe : Mi := (yX12_canBe, cX12_canBe, 2, (some .int))
abbrev mX12_look : Mi := (yX12_look, cX12_look, 10, (some .int))
abbrev mX12_layDoing : Mi := (yX12_layDoing, cX12_layDoing, 7, none)
abbrev mX12_explained : Mi := (yX12_explained, cX12_explained, 5, (some .int))
abbrev mX12_complete : Mi := (yX12_complete, cX12_complete, 8, (some .int))
abbrev mX12_safe : Mi := (yX12_safe, cX12_safe, 5, (some .long))
abbrev mX12_frauds : Mi := (yX12_frauds, cX12_frauds, 3, (some .int))
abbrev mX12_passFor : Mi := (yX12_passFor, cX12_passFor, 5, (some .boolean))
abbrev mX12_passing : Mi := (yX12_passing, cX12_passing, 6, (some .int))
abbrev mX12_unused : Mi := (yX12_unused, cX12_unused, 1, (some .int))
abbrev mX12_rich : Mi := (yX12_rich, cX12_rich, 5, (some .int))
abbrev mX12_readSum : Mi := (yX12_readSum, cX12_readSum, 2, none)
abbrev mX12_readOrder : Mi := (yX12_readOrder, cX12_readOrder, 4, none)
abbrev mX12_sumOf : Mi := (yX12_sumOf, cX12_sumOf, 2, (some .int))
abbrev mX12_act : Mi := (yX12_act, cX12_act, 4, (some .int))
abbrev mX12_run : Mi := (yX12_run, cX12_run, 5, (some .int))
abbrev mX12_orders : Mi := (yX12_orders, cX12_orders, 4, (some .int))
abbrev mX12_giveBack : Mi := (yX12_giveBack, cX12_giveBack, 3, none)
abbrev mX12_stopped : Mi := (yX12_stopped, cX12_stopped, 1, (some .int))
abbrev mX12_draw : Mi := (yX12_draw, cX12_draw, 2, (some .int))
abbrev mX12_lowestYet : Mi := (yX12_lowestYet, cX12_lowestYet, 3, (some .int))
abbrev mX12_years : Mi := (yX12_years, cX12_years, 6, (some .int))
abbrev mX12_drawn : Mi := (yX12_drawn, cX12_drawn, 3, (some .int))
abbrev mX12_count : Mi := (yX12_count, cX12_count, 4, (some .int))
abbrev mX12_status : Mi := (yX12_status, cX12_status, 1, (some .int))
theorem mn_X12_init : Mn mX12_init 0 := ⟨⟨gi5 218 (by decide +kernel) (by decide +kernel), gi1 17 (by decide +kernel) (by decide +kernel), by decide +kernel, by decide +kernel, by decide +kernel⟩, gi5 217 (by decide +kernel) (by decide +kernel), rfl, rfl⟩
theorem ms_X12_in : Ms mX12_in 3 := ⟨⟨gi6 200 (by decide +kernel) (by decide +kernel), gi1 17 (by decide +kernel) (by decide +kernel), by decide +kernel, by decide +kernel, by decide +kernel⟩, gi6 199 (by decide +kernel) (by decide +kernel)⟩
theorem ms_X12_is : Ms mX12_is 2 := ⟨⟨gi7 58 (by decide +kernel) (by decide +kernel), gi1 17 (by decide +kernel) (by decide +kernel), by decide +kernel, by decide +kernel, by decide +kernel⟩, gi7 57 (by decide +kernel) (by decide +kernel)⟩
theorem ms_X12_ones : Ms mX12_ones 1 := ⟨⟨gi7 0 (by decide +kernel) (by decide +kernel), gi1 17 (by decide +kernel) (by decide +kernel), by decide +kernel, by decide +kernel, by decide +kernel⟩, gi6 239 (by decide +kernel) (by decide +kernel)⟩
theorem ms_X12_within : Ms mX12_within 3 := ⟨⟨gi7 34 (by decide +kernel) (by decide +kernel), gi1 17 (by decide +kernel) (by decide +kernel), by decide +kernel, by decide +kernel, by decide +kernel⟩, gi7 33 (by decide +kernel) (by decide +kernel)⟩
theorem mv_X12_tell : Mv mX12_tell 12 1 := ⟨⟨gi6 189 (by decide +kernel) (by decide +kernel), gi1 17 (by decide +kernel) (by decide +kernel), by decide +kernel, by decide +kernel, by decide +kernel⟩, gi6 188 (by decide +kernel) (by decide +kernel), gi0 46 (by decide +kernel) (by decide +kernel), by decide, _, _, rfl⟩
theorem mv_X12_change : Mv mX12_change 12 2 := ⟨⟨gi7 76 (by decide +kernel) (by decide +kernel), gi1 17 (by decide +kernel) (by decide +kernel), by decide +kernel, by decide +kernel, by decide +kernel⟩, gi7 75 (by decide +kernel) (by decide +kernel), gi0 65 (by decide +kernel) (by decide +kernel), by decide, _, _, rfl⟩
theorem mv_X12_settled : Mv mX12_settled 12 1 := ⟨⟨gi6 208 (by decide +kernel) (by decide +kernel), gi1 17 (by decide +kernel) (by decide +kernel), by decide +kernel, by decide +kernel, by decide +kernel⟩, gi6 207 (by decide +kernel) (by decide +kernel), gi0 48 (by decide +kernel) (by decide +kernel), by decide, _, _, rfl⟩
theorem mv_X12_keepAll : Mv mX12_keepAll 12 1 := ⟨⟨gi8 4 (by decide +kernel) (by decide +kernel), gi1 17 (by decide +kernel) (by decide +kernel), by decide +kernel, by decide +kernel, by decide +kernel⟩, gi8 3 (by decide +kernel) (by decide +kernel), gi0 93 (by decide +kernel) (by decide +kernel), by decide, _, _, rfl⟩
theorem mv_X12_putBack : Mv mX12_putBack 12 1 := ⟨⟨gi6 193 (by decide +kernel) (by decide +kernel), gi1 17 (by decide +kernel) (by decide +kernel), by decide +kernel, by decide +kernel, by decide +kernel⟩, gi6 192 (by decide +kernel) (by decide +kernel), gi0 47 (by decide +kernel) (by decide +kernel), by decide, _, _, rfl⟩
theorem mv_X12_remember : Mv mX12_remember 12 1 := ⟨⟨gi8 0 (by decide +kernel) (by decide +kernel), gi1 17 (by decide +kernel) (by decide +kernel), by decide +kernel, by decide +kernel, by decide +kernel⟩, gi7 239 (by decide +kernel) (by decide +kernel), gi0 92 (by decide +kernel) (by decide +kernel), by decide, _, _, rfl⟩
theorem mv_X12_undo : Mv mX12_undo 12 0 := ⟨⟨gi6 185 (by decide +kernel) (by decide +kernel), gi1 17 (by decide +kernel) (by decide +kernel), by decide +kernel, by decide +kernel, by decide +kernel⟩, gi6 183 (by decide +kernel) (by decide +kernel), gi6 184 (by decide +kernel) (by decide +kernel), by decide, _, _, rfl⟩
theorem mv_X12_image : Mv mX12_image 12 1 := ⟨⟨gi6 197 (by decide +kernel) (by decide +kernel), gi1 17 (by decide +kernel) (by decide +kernel), by decide +kernel, by decide +kernel, by decide +kernel⟩, gi6 195 (by decide +kernel) (by decide +kernel), gi6 196 (by decide +kernel) (by decide +kernel), by decide, _, _, rfl⟩
theorem mv_X12_back : Mv mX12_back 12 1 := ⟨⟨gi6 204 (by decide +kernel) (by decide +kernel), gi1 17 (by decide +kernel) (by decide +kernel), by decide +kernel, by decide +kernel, by decide +kernel⟩, gi6 202 (by decide +kernel) (by decide +kernel), gi6 203 (by decide +kernel) (by decide +kernel), by decide, _, _, rfl⟩
theorem mv_X12_isCat : Mv mX12_isCat 12 1 := ⟨⟨gi6 229 (by decide +kernel) (by decide +kernel), gi1 17 (by decide +kernel) (by decide +kernel), by decide +kernel, by decide +kernel, by decide +kernel⟩, gi6 228 (by decide +kernel) (by decide +kernel), gi0 50 (by decide +kernel) (by decide +kernel), by decide, _, _, rfl⟩
theorem mv_X12_isShip : Mv mX12_isShip 12 1 := ⟨⟨gi7 20 (by decide +kernel) (by decide +kernel), gi1 17 (by decide +kernel) (by decide +kernel), by decide +kernel, by decide +kernel, by decide +kernel⟩, gi7 19 (by decide +kernel) (by decide +kernel), gi0 57 (by decide +kernel) (by decide +kernel), by decide, _, _, rfl⟩
theorem mv_X12_isAlive : Mv mX12_isAlive 12 1 := ⟨⟨gi6 233 (by decide +kernel) (by decide +kernel), gi1 17 (by decide +kernel) (by decide +kernel), by decide +kernel, by decide +kernel, by decide +kernel⟩, gi6 232 (by decide +kernel) (by decide +kernel), gi0 51 (by decide +kernel) (by decide +kernel), by decide, _, _, rfl⟩
theorem ms_X12_isLife : Ms mX12_isLife 1 := ⟨⟨gi6 219 (by decide +kernel) (by decide +kernel), gi1 17 (by decide +kernel) (by decide +kernel), by decide +kernel, by decide +kernel, by decide +kernel⟩, gi6 218 (by decide +kernel) (by decide +kernel)⟩
theorem mv_X12_spentOf : Mv mX12_spentOf 12 1 := ⟨⟨gi6 237 (by decide +kernel) (by decide +kernel), gi1 17 (by decide +kernel) (by decide +kernel), by decide +kernel, by decide +kernel, by decide +kernel⟩, gi6 236 (by decide +kernel) (by decide +kernel), gi0 52 (by decide +kernel) (by decide +kernel), by decide, _, _, rfl⟩
theorem mv_X12_crewOf : Mv mX12_crewOf 12 1 := ⟨⟨gi7 24 (by decide +kernel) (by decide +kernel), gi1 17 (by decide +kernel) (by decide +kernel), by decide +kernel, by decide +kernel, by decide +kernel⟩, gi7 23 (by decide +kernel) (by decide +kernel), gi0 58 (by decide +kernel) (by decide +kernel), by decide, _, _, rfl⟩
theorem mv_X12_livesOf : Mv mX12_livesOf 12 1 := ⟨⟨gi7 55 (by decide +kernel) (by decide +kernel), gi1 17 (by decide +kernel) (by decide +kernel), by decide +kernel, by decide +kernel, by decide +kernel⟩, gi7 54 (by decide +kernel) (by decide +kernel), gi0 62 (by decide +kernel) (by decide +kernel), by decide, _, _, rfl⟩
theorem mv_X12_aliveOnes : Mv mX12_aliveOnes 12 0 := ⟨⟨gi8 95 (by decide +kernel) (by decide +kernel), gi1 17 (by decide +kernel) (by decide +kernel), by decide +kernel, by decide +kernel, by decide +kernel⟩, gi8 94 (by decide +kernel) (by decide +kernel), gi0 103 (by decide +kernel) (by decide +kernel), by decide, _, _, rfl⟩
theorem mv_X12_come : Mv mX12_come 12 3 := ⟨⟨gi6 216 (by decide +kernel) (by decide +kernel), gi1 17 (by decide +kernel) (by decide +kernel), by decide +kernel, by decide +kernel, by decide +kernel⟩, gi6 215 (by decide +kernel) (by decide +kernel), gi0 49 (by decide +kernel) (by decide +kernel), by decide, _, _, rfl⟩
theorem mv_X12_cat : Mv mX12_cat 12 1 := ⟨⟨gi6 212 (by decide +kernel) (by decide +kernel), gi1 17 (by decide +kernel) (by decide +kernel), by decide +kernel, by decide +kernel, by decide +kernel⟩, gi6 210 (by decide +kernel) (by decide +kernel), gi6 211 (by decide +kernel) (by decide +kernel), by decide, _, _, rfl⟩
theorem mv_X12_of : Mv mX12_of 12 2 := ⟨⟨gi6 225 (by decide +kernel) (by decide +kernel), gi1 17 (by decide +kernel) (by decide +kernel), by decide +kernel, by decide +kernel, by decide +kernel⟩, gi6 223 (by decide +kernel) (by decide +kernel), gi6 224 (by decide +kernel) (by decide +kernel), by decide, _, _, rfl⟩
theorem mv_X12_ship : Mv mX12_ship 12 1 := ⟨⟨gi7 46 (by decide +kernel) (by decide +kernel), gi1 17 (by decide +kernel) (by decide +kernel), by decide +kernel, by decide +kernel, by decide +kernel⟩, gi7 44 (by decide +kernel) (by decide +kernel), gi7 45 (by decide +kernel) (by decide +kernel), by decide, _, _, rfl⟩
theorem mv_X12_at : Mv mX12_at 12 2 := ⟨⟨gi7 51 (by decide +kernel) (by decide +kernel), gi1 17 (by decide +kernel) (by decide +kernel), by decide +kernel, by decide +kernel, by decide +kernel⟩, gi7 49 (by decide +kernel) (by decide +kernel), gi7 50 (by decide +kernel) (by decide +kernel), by decide, _, _, rfl⟩
theorem mv_X12_terms : Mv mX12_terms 12 2 := ⟨⟨gi7 70 (by decide +kernel) (by decide +kernel), gi1 17 (by decide +kernel) (by decide +kernel), by decide +kernel, by decide +kernel, by decide +kernel⟩, gi7 68 (by decide +kernel) (by decide +kernel), gi7 69 (by decide +kernel) (by decide +kernel), by decide, _, _, rfl⟩
theorem mv_X12_row : Mv mX12_row 12 0 := ⟨⟨gi7 80 (by decide +kernel) (by decide +kernel), gi1 17 (by decide +kernel) (by decide +kernel), by decide +kernel, by decide +kernel, by decide +kernel⟩, gi7 78 (by decide +kernel) (by decide +kernel), gi7 79 (by decide +kernel) (by decide +kernel), by decide, _, _, rfl⟩
theorem mv_X12_mice : Mv mX12_mice 12 0 := ⟨⟨gi7 84 (by decide +kernel) (by decide +kernel), gi1 17 (by decide +kernel) (by decide +kernel), by decide +kernel, by decide +kernel, by decide +kernel⟩, gi7 82 (by decide +kernel) (by decide +kernel), gi7 83 (by decide +kernel) (by decide +kernel), by decide, _, _, rfl⟩
theorem mv_X12_four : Mv mX12_four 12 1 := ⟨⟨gi7 92 (by decide +kernel) (by decide +kernel), gi1 17 (by decide +kernel) (by decide +kernel), by decide +kernel, by decide +kernel, by decide +kernel⟩, gi7 91 (by decide +kernel) (by decide +kernel), gi0 66 (by decide +kernel) (by decide +kernel), by decide, _, _, rfl⟩
theorem mv_X12_feed : Mv mX12_feed 12 5 := ⟨⟨gi7 88 (by decide +kernel) (by decide +kernel), gi1 17 (by decide +kernel) (by decide +kernel), by decide +kernel, by decide +kernel, by decide +kernel⟩, gi7 86 (by decide +kernel) (by decide +kernel), gi7 87 (by decide +kernel) (by decide +kernel), by decide, _, _, rfl⟩
theorem mv_X12_end : Mv mX12_end 12 1 := ⟨⟨gi7 96 (by decide +kernel) (by decide +kernel), gi1 17 (by decide +kernel) (by decide +kernel), by decide +kernel, by decide +kernel, by decide +kernel⟩, gi7 94 (by decide +kernel) (by decide +kernel), gi7 95 (by decide +kernel) (by decide +kernel), by decide, _, _, rfl⟩
theorem ms_X12_isSmall : Ms mX12_isSmall 1 := ⟨⟨gi7 119 (by decide +kernel) (by decide +kernel), gi1 17 (by decide +kernel) (by decide +kernel), by decide +kernel, by decide +kernel, by decide +kernel⟩, gi7 118 (by decide +kernel) (by decide +kernel)⟩
theorem ms_X12_isDigit : Ms mX12_isDigit 1 := ⟨⟨gi7 122 (by decide +kernel) (by decide +kernel), gi1 17 (by decide +kernel) (by decide +kernel), by decide +kernel, by decide +kernel, by decide +kernel⟩, gi7 121 (by decide +kernel) (by decide +kernel)⟩
theorem mv_X12_begin : Mv mX12_begin 12 0 := ⟨⟨gi7 112 (by decide +kernel) (by decide +kernel), gi1 17 (by decide +kernel) (by decide +kernel), by decide +kernel, by decide +kernel, by decide +kernel⟩, gi7 111 (by decide +kernel) (by decide +kernel), gi0 68 (by decide +kernel) (by decide +kernel), by decide, _, _, rfl⟩
theorem mv_X12_onward : Mv mX12_onward 12 0 := ⟨⟨gi7 116 (by decide +kernel) (by decide +kernel), gi1 17 (by decide +kernel) (by decide +kernel), by decide +kernel, by decide +kernel, by decide +kernel⟩, gi7 115 (by decide +kernel) (by decide +kernel), gi0 69 (by decide +kernel) (by decide +kernel), by decide, _, _, rfl⟩
theorem mv_X12_isWord : Mv mX12_isWord 12 1 := ⟨⟨gi7 134 (by decide +kernel) (by decide +kernel), gi1 17 (by decide +kernel) (by decide +kernel), by decide +kernel, by decide +kernel, by decide +kernel⟩, gi7 133 (by decide +kernel) (by decide +kernel), gi0 71 (by decide +kernel) (by decide +kernel), by decide, _, _, rfl⟩
theorem mv_X12_isSign : Mv mX12_isSign 12 1 := ⟨⟨gi7 155 (by decide +kernel) (by decide +kernel), gi1 17 (by decide +kernel) (by decide +kernel), by decide +kernel, by decide +kernel, by decide +kernel⟩, gi7 154 (by decide +kernel) (by decide +kernel), gi0 76 (by decide +kernel) (by decide +kernel), by decide, _, _, rfl⟩
theorem mv_X12_must : Mv mX12_must 12 1 := ⟨⟨gi7 138 (by decide +kernel) (by decide +kernel), gi1 17 (by decide +kernel) (by decide +kernel), by decide +kernel, by decide +kernel, by decide +kernel⟩, gi7 137 (by decide +kernel) (by decide +kernel), gi0 72 (by decide +kernel) (by decide +kernel), by decide, _, _, rfl⟩
theorem mv_X12_number : Mv mX12_number 12 2 := ⟨⟨gi7 186 (by decide +kernel) (by decide +kernel), gi1 17 (by decide +kernel) (by decide +kernel), by decide +kernel, by decide +kernel, by decide +kernel⟩, gi7 185 (by decide +kernel) (by decide +kernel), gi0 83 (by decide +kernel) (by decide +kernel), by decide, _, _, rfl⟩
theorem mv_X12_fault : Mv mX12_fault 12 0 := ⟨⟨gi7 100 (by decide +kernel) (by decide +kernel), gi1 17 (by decide +kernel) (by decide +kernel), by decide +kernel, by decide +kernel, by decide +kernel⟩, gi7 98 (by decide +kernel) (by decide +kernel), gi7 99 (by decide +kernel) (by decide +kernel), by decide, _, _, rfl⟩
theorem mv_X12_emit : Mv mX12_emit 12 2 := ⟨⟨gi7 180 (by decide +kernel) (by decide +kernel), gi1 17 (by decide +kernel) (by decide +kernel), by decide +kernel, by decide +kernel, by decide +kernel⟩, gi7 179 (by decide +kernel) (by decide +kernel), gi0 82 (by decide +kernel) (by decide +kernel), by decide, _, _, rfl⟩
theorem mv_X12_push : Mv mX12_push 12 2 := ⟨⟨gi7 151 (by decide +kernel) (by decide +kernel), gi1 17 (by decide +kernel) (by decide +kernel), by decide +kernel, by decide +kernel, by decide +kernel⟩, gi7 150 (by decide +kernel) (by decide +kernel), gi0 75 (by decide +kernel) (by decide +kernel), by decide, _, _, rfl⟩
theorem ms_X12_binds : Ms mX12_binds 1 := ⟨⟨gi7 193 (by decide +kernel) (by decide +kernel), gi1 17 (by decide +kernel) (by decide +kernel), by decide +kernel, by decide +kernel, by decide +kernel⟩, gi7 192 (by decide +kernel) (by decide +kernel)⟩
theorem mv_X12_settle : Mv mX12_settle 12 1 := ⟨⟨gi7 197 (by decide +kernel) (by decide +kernel), gi1 17 (by decide +kernel) (by decide +kernel), by decide +kernel, by decide +kernel, by decide +kernel⟩, gi7 196 (by decide +kernel) (by decide +kernel), gi0 85 (by decide +kernel) (by decide +kernel), by decide, _, _, rfl⟩
theorem mv_X12_inner : Mv mX12_inner 12 0 := ⟨⟨gi7 201 (by decide +kernel) (by decide +kernel), gi1 17 (by decide +kernel) (by decide +kernel), by decide +kernel, by decide +kernel, by decide +kernel⟩, gi7 200 (by decide +kernel) (by decide +kernel), gi0 86 (by decide +kernel) (by decide +kernel), by decide, _, _, rfl⟩
theorem mv_X12_isCompared : Mv mX12_isCompared 12 0 := ⟨⟨gi7 205 (by decide +kernel) (by decide +kernel), gi1 17 (by decide +kernel) (by decide +kernel), by decide +kernel, by decide +kernel, by decide +kernel⟩, gi7 204 (by decide +kernel) (by decide +kernel), gi0 87 (by decide +kernel) (by decide +kernel), by decide, _, _, rfl⟩
theorem mv_X12_partAt : Mv mX12_partAt 12 0 := ⟨⟨gi7 171 (by decide +kernel) (by decide +kernel), gi1 17 (by decide +kernel) (by decide +kernel), by decide +kernel, by decide +kernel, by decide +kernel⟩, gi7 170 (by decide +kernel) (by decide +kernel), gi0 80 (by decide +kernel) (by decide +kernel), by decide, _, _, rfl⟩
theorem mv_X12_orderPartAt : Mv mX12_orderPartAt 12 0 := ⟨⟨gi7 167 (by decide +kernel) (by decide +kernel), gi1 17 (by decide +kernel) (by decide +kernel), by decide +kernel, by decide +kernel, by decide +kernel⟩, gi7 166 (by decide +kernel) (by decide +kernel), gi0 79 (by decide +kernel) (by decide +kernel), by decide, _, _, rfl⟩
theorem mv_X12_openBracket : Mv mX12_openBracket 12 1 := ⟨⟨gi7 159 (by decide +kernel) (by decide +kernel), gi1 17 (by decide +kernel) (by decide +kernel), by decide +kernel, by decide +kernel, by decide +kernel⟩, gi7 158 (by decide +kernel) (by decide +kernel), gi0 77 (by decide +kernel) (by decide +kernel), by decide, _, _, rfl⟩
theorem mv_X12_leaf : Mv mX12_leaf 12 3 := ⟨⟨gi7 176 (by decide +kernel) (by decide +kernel), gi1 17 (by decide +kernel) (by decide +kernel), by decide +kernel, by decide +kernel, by decide +kernel⟩, gi7 175 (by decide +kernel) (by decide +kernel), gi0 81 (by decide +kernel) (by decide +kernel), by decide, _, _, rfl⟩
theorem mv_X12_readPart : Mv mX12_readPart 12 0 := ⟨⟨gi7 163 (by decide +kernel) (by decide +kernel), gi1 17 (by decide +kernel) (by decide +kernel), by decide +kernel, by decide +kernel, by decide +kernel⟩, gi7 162 (by decide +kernel) (by decide +kernel), gi0 78 (by decide +kernel) (by decide +kernel), by decide, _, _, rfl⟩
theorem mv_X12_readPlain : Mv mX12_readPlain 12 0 := ⟨⟨gi7 146 (by decide +kernel) (by decide +kernel), gi1 17 (by decide +kernel) (by decide +kernel), by decide +kernel, by decide +kernel, by decide +kernel⟩, gi7 145 (by decide +kernel) (by decide +kernel), gi0 74 (by decide +kernel) (by decide +kernel), by decide, _, _, rfl⟩
theorem mv_X12_behindSum : Mv mX12_behindSum 12 1 := ⟨⟨gi7 190 (by decide +kernel) (by decide +kernel), gi1 17 (by decide +kernel) (by decide +kernel), by decide +kernel, by decide +kernel, by decide +kernel⟩, gi7 189 (by decide +kernel) (by decide +kernel), gi0 84 (by decide +kernel) (by decide +kernel), by decide, _, _, rfl⟩
theorem mv_X12_behindTest : Mv mX12_behindTest 12 0 := ⟨⟨gi7 213 (by decide +kernel) (by decide +kernel), gi1 17 (by decide +kernel) (by decide +kernel), by decide +kernel, by decide +kernel, by decide +kernel⟩, gi7 212 (by decide +kernel) (by decide +kernel), gi0 88 (by decide +kernel) (by decide +kernel), by decide, _, _, rfl⟩
theorem mv_X12_readExpression : Mv mX12_readExpression 12 1 := ⟨⟨gi7 142 (by decide +kernel) (by decide +kernel), gi1 17 (by decide +kernel) (by decide +kernel), by decide +kernel, by decide +kernel, by decide +kernel⟩, gi7 141 (by decide +kernel) (by decide +kernel), gi0 73 (by decide +kernel) (by decide +kernel), by decide, _, _, rfl⟩
theorem mv_X12_beginText : Mv mX12_beginText 12 1 := ⟨⟨gi7 108 (by decide +kernel) (by decide +kernel), gi1 17 (by decide +kernel) (by decide +kernel), by decide +kernel, by decide +kernel, by decide +kernel⟩, gi7 107 (by decide +kernel) (by decide +kernel), gi0 67 (by decide +kernel) (by decide +kernel), by decide, _, _, rfl⟩
theorem mv_X12_endText : Mv mX12_endText 12 0 := ⟨⟨gi7 220 (by decide +kernel) (by decide +kernel), gi1 17 (by decide +kernel) (by decide +kernel), by decide +kernel, by decide +kernel, by decide +kernel⟩, gi7 219 (by decide +kernel) (by decide +kernel), gi0 89 (by decide +kernel) (by decide +kernel), by decide, _, _, rfl⟩
theorem mv_X12_readLaw : Mv mX12_readLaw 12 0 := ⟨⟨gi7 130 (by decide +kernel) (by decide +kernel), gi1 17 (by decide +kernel) (by decide +kernel), by decide +kernel, by decide +kernel, by decide +kernel⟩, gi7 129 (by decide +kernel) (by decide +kernel), gi0 70 (by decide +kernel) (by decide +kernel), by decide, _, _, rfl⟩
theorem mv_X12_law : Mv mX12_law 12 0 := ⟨⟨gi7 104 (by decide +kernel) (by decide +kernel), gi1 17 (by decide +kernel) (by decide +kernel), by decide +kernel, by decide +kernel, by decide +kernel⟩, gi7 102 (by decide +kernel) (by decide +kernel), gi7 103 (by decide +kernel) (by decide +kernel), by decide, _, _, rfl⟩
theorem mv_X12_isLaw : Mv mX12_isLaw 12 1 := ⟨⟨gi7 228 (by decide +kernel) (by decide +kernel), gi1 17 (by decide +kernel) (by decide +kernel), by decide +kernel, by decide +kernel, by decide +kernel⟩, gi7 227 (by decide +kernel) (by decide +kernel), gi0 90 (by decide +kernel) (by decide +kernel), by decide, _, _, rfl⟩
theorem mv_X12_force : Mv mX12_force 12 1 := ⟨⟨gi7 224 (by decide +kernel) (by decide +kernel), gi1 17 (by decide +kernel) (by decide +kernel), by decide +kernel, by decide +kernel, by decide +kernel⟩, gi7 222 (by decide +kernel) (by decide +kernel), gi7 223 (by decide +kernel) (by decide +kernel), by decide, _, _, rfl⟩
theorem mv_X12_reckon : Mv mX12_reckon 12 3 := ⟨⟨gi7 29 (by decide +kernel) (by decide +kernel), gi1 17 (by decide +kernel) (by decide +kernel), by decide +kernel, by decide +kernel, by decide +kernel⟩, gi7 28 (by decide +kernel) (by decide +kernel), gi0 59 (by decide +kernel) (by decide +kernel), by decide, _, _, rfl⟩
theorem mv_X12_reckonAll : Mv mX12_reckonAll 12 2 := ⟨⟨gi7 16 (by decide +kernel) (by decide +kernel), gi1 17 (by decide +kernel) (by decide +kernel), by decide +kernel, by decide +kernel, by decide +kernel⟩, gi7 15 (by decide +kernel) (by decide +kernel), gi0 56 (by decide +kernel) (by decide +kernel), by decide, _, _, rfl⟩
theorem mv_X12_isSo : Mv mX12_isSo 12 1 := ⟨⟨gi7 12 (by decide +kernel) (by decide +kernel), gi1 17 (by decide +kernel) (by decide +kernel), by decide +kernel, by decide +kernel, by decide +kernel⟩, gi7 11 (by decide +kernel) (by decide +kernel), gi0 55 (by decide +kernel) (by decide +kernel), by decide, _, _, rfl⟩
theorem mv_X12_tells : Mv mX12_tells 12 7 := ⟨⟨gi7 8 (by decide +kernel) (by decide +kernel), gi1 17 (by decide +kernel) (by decide +kernel), by decide +kernel, by decide +kernel, by decide +kernel⟩, gi7 7 (by decide +kernel) (by decide +kernel), gi0 54 (by decide +kernel) (by decide +kernel), by decide, _, _, rfl⟩
theorem mv_X12_earnsOf : Mv mX12_earnsOf 12 3 := ⟨⟨gi7 4 (by decide +kernel) (by decide +kernel), gi1 17 (by decide +kernel) (by decide +kernel), by decide +kernel, by decide +kernel, by decide +kernel⟩, gi7 3 (by decide +kernel) (by decide +kernel), gi0 53 (by decide +kernel) (by decide +kernel), by decide, _, _, rfl⟩
theorem mv_X12_daresOf : Mv mX12_daresOf 12 3 := ⟨⟨gi7 38 (by decide +kernel) (by decide +kernel), gi1 17 (by decide +kernel) (by decide +kernel), by decide +kernel, by decide +kernel, by decide +kernel⟩, gi7 37 (by decide +kernel) (by decide +kernel), gi0 60 (by decide +kernel) (by decide +kernel), by decide, _, _, rfl⟩
theorem mv_X12_showsOf : Mv mX12_showsOf 12 4 := ⟨⟨gi7 42 (by decide +kernel) (by decide +kernel), gi1 17 (by decide +kernel) (by decide +kernel), by decide +kernel, by decide +kernel, by decide +kernel⟩, gi7 41 (by decide +kernel) (by decide +kernel), gi0 61 (by decide +kernel) (by decide +kernel), by decide, _, _, rfl⟩
theorem mv_X12_isBarred : Mv mX12_isBarred 12 2 := ⟨⟨gi7 66 (by decide +kernel) (by decide +kernel), gi1 17 (by decide +kernel) (by decide +kernel), by decide +kernel, by decide +kernel, by decide +kernel⟩, gi7 65 (by decide +kernel) (by decide +kernel), gi0 64 (by decide +kernel) (by decide +kernel), by decide, _, _, rfl⟩
theorem mv_X12_barredFrom : Mv mX12_barredFrom 12 1 := ⟨⟨gi7 62 (by decide +kernel) (by decide +kernel), gi1 17 (by decide +kernel) (by decide +kernel), by decide +kernel, by decide +kernel, by decide +kernel⟩, gi7 61 (by decide +kernel) (by decide +kernel), gi0 63 (by decide +kernel) (by decide +kernel), by decide, _, _, rfl⟩
theorem mv_X12_signNow : Mv mX12_signNow 12 2 := ⟨⟨gi7 236 (by decide +kernel) (by decide +kernel), gi1 17 (by decide +kernel) (by decide +kernel), by decide +kernel, by decide +kernel, by decide +kernel⟩, gi7 235 (by decide +kernel) (by decide +kernel), gi0 91 (by decide +kernel) (by decide +kernel), by decide, _, _, rfl⟩
theorem mv_X12_sign : Mv mX12_sign 12 2 := ⟨⟨gi7 232 (by decide +kernel) (by decide +kernel), gi1 17 (by decide +kernel) (by decide +kernel), by decide +kernel, by decide +kernel, by decide +kernel⟩, gi7 230 (by decide +kernel) (by decide +kernel), gi7 231 (by decide +kernel) (by decide +kernel), by decide, _, _, rfl⟩
theorem mv_X12_dieIt : Mv mX12_dieIt 12 2 := ⟨⟨gi8 16 (by decide +kernel) (by decide +kernel), gi1 17 (by decide +kernel) (by decide +kernel), by decide +kernel, by decide +kernel, by decide +kernel⟩, gi8 15 (by decide +kernel) (by decide +kernel), gi0 95 (by decide +kernel) (by decide +kernel), by decide, _, _, rfl⟩
theorem mv_X12_dieNow : Mv mX12_dieNow 12 2 := ⟨⟨gi8 12 (by decide +kernel) (by decide +kernel), gi1 17 (by decide +kernel) (by decide +kernel), by decide +kernel, by decide +kernel, by decide +kernel⟩, gi8 11 (by decide +kernel) (by decide +kernel), gi0 94 (by decide +kernel) (by decide +kernel), by decide, _, _, rfl⟩
theorem mv_X12_die : Mv mX12_die 12 2 := ⟨⟨gi8 8 (by decide +kernel) (by decide +kernel), gi1 17 (by decide +kernel) (by decide +kernel), by decide +kernel, by decide +kernel, by decide +kernel⟩, gi8 6 (by decide +kernel) (by decide +kernel), gi8 7 (by decide +kernel) (by decide +kernel), by decide, _, _, rfl⟩
theorem mv_X12_clipNow : Mv mX12_clipNow 12 2 := ⟨⟨gi8 24 (by decide +kernel) (by decide +kernel), gi1 17 (by decide +kernel) (by decide +kernel), by decide +kernel, by decide +kernel, by decide +kernel⟩, gi8 23 (by decide +kernel) (by decide +kernel), gi0 96 (by decide +kernel) (by decide +kernel), by decide, _, _, rfl⟩
theorem mv_X12_clip : Mv mX12_clip 12 2 := ⟨⟨gi8 20 (by decide +kernel) (by decide +kernel), gi1 17 (by decide +kernel) (by decide +kernel), by decide +kernel, by decide +kernel, by decide +kernel⟩, gi8 18 (by decide +kernel) (by decide +kernel), gi8 19 (by decide +kernel) (by decide +kernel), by decide, _, _, rfl⟩
theorem mv_X12_passIt : Mv mX12_passIt 12 0 := ⟨⟨gi8 36 (by decide +kernel) (by decide +kernel), gi1 17 (by decide +kernel) (by decide +kernel), by decide +kernel, by decide +kernel, by decide +kernel⟩, gi8 35 (by decide +kernel) (by decide +kernel), gi0 98 (by decide +kernel) (by decide +kernel), by decide, _, _, rfl⟩
theorem mv_X12_passNow : Mv mX12_passNow 12 0 := ⟨⟨gi8 32 (by decide +kernel) (by decide +kernel), gi1 17 (by decide +kernel) (by decide +kernel), by decide +kernel, by decide +kernel, by decide +kernel⟩, gi8 31 (by decide +kernel) (by decide +kernel), gi0 97 (by decide +kernel) (by decide +kernel), by decide, _, _, rfl⟩
theorem mv_X12_pass : Mv mX12_pass 12 0 := ⟨⟨gi8 28 (by decide +kernel) (by decide +kernel), gi1 17 (by decide +kernel) (by decide +kernel), by decide +kernel, by decide +kernel, by decide +kernel⟩, gi8 26 (by decide +kernel) (by decide +kernel), gi8 27 (by decide +kernel) (by decide +kernel), by decide, _, _, rfl⟩
theorem mv_X12_mostNext : Mv mX12_mostNext 12 1 := ⟨⟨gi8 48 (by decide +kernel) (by decide +kernel), gi1 17 (by decide +kernel) (by decide +kernel), by decide +kernel, by decide +kernel, by decide +kernel⟩, gi8 47 (by decide +kernel) (by decide +kernel), gi0 100 (by decide +kernel) (by decide +kernel), by decide, _, _, rfl⟩
theorem mv_X12_layHad : Mv mX12_layHad 12 2 := ⟨⟨gi8 44 (by decide +kernel) (by decide +kernel), gi1 17 (by decide +kernel) (by decide +kernel), by decide +kernel, by decide +kernel, by decide +kernel⟩, gi8 43 (by decide +kernel) (by decide +kernel), gi0 99 (by decide +kernel) (by decide +kernel), by decide, _, _, rfl⟩
theorem mv_X12_had : Mv mX12_had 12 2 := ⟨⟨gi8 40 (by decide +kernel) (by decide +kernel), gi1 17 (by decide +kernel) (by decide +kernel), by decide +kernel, by decide +kernel, by decide +kernel⟩, gi8 38 (by decide +kernel) (by decide +kernel), gi8 39 (by decide +kernel) (by decide +kernel), by decide, _, _, rfl⟩
theorem mv_X12_next : Mv mX12_next 12 2 := ⟨⟨gi8 52 (by decide +kernel) (by decide +kernel), gi1 17 (by decide +kernel) (by decide +kernel), by decide +kernel, by decide +kernel, by decide +kernel⟩, gi8 50 (by decide +kernel) (by decide +kernel), gi8 51 (by decide +kernel) (by decide +kernel), by decide, _, _, rfl⟩
theorem mv_X12_likely : Mv mX12_likely 12 2 := ⟨⟨gi8 56 (by decide +kernel) (by decide +kernel), gi1 17 (by decide +kernel) (by decide +kernel), by decide +kernel, by decide +kernel, by decide +kernel⟩, gi8 54 (by decide +kernel) (by decide +kernel), gi8 55 (by decide +kernel) (by decide +kernel), by decide, _, _, rfl⟩
theorem mv_X12_seen : Mv mX12_seen 12 1 := ⟨⟨gi8 62 (by decide +kernel) (by decide +kernel), gi1 17 (by decide +kernel) (by decide +kernel), by decide +kernel, by decide +kernel, by decide +kernel⟩, gi8 60 (by decide +kernel) (by decide +kernel), gi8 61 (by decide +kernel) (by decide +kernel), by decide, _, _, rfl⟩
theorem mv_X12_forget : Mv mX12_forget 12 0 := ⟨⟨gi8 66 (by decide +kernel) (by decide +kernel), gi1 17 (by decide +kernel) (by decide +kernel), by decide +kernel, by decide +kernel, by decide +kernel⟩, gi8 64 (by decide +kernel) (by decide +kernel), gi8 65 (by decide +kernel) (by decide +kernel), by decide, _, _, rfl⟩
theorem mv_X12_livesThatCan : Mv mX12_livesThatCan 12 1 := ⟨⟨gi8 74 (by decide +kernel) (by decide +kernel), gi1 17 (by decide +kernel) (by decide +kernel), by decide +kernel, by decide +kernel, by decide +kernel⟩, gi8 73 (by decide +kernel) (by decide +kernel), gi0 101 (by decide +kernel) (by decide +kernel), by decide, _, _, rfl⟩
theorem mv_X12_canBe : Mv mX12_canBe 12 1 := ⟨⟨gi8 70 (by decide +kernel) (by decide +kernel), gi1 17 (by decide +kernel) (by decide +kernel), by decide +kernel, by decide +kernel, by decide +kernel⟩, gi8 68 (by decide +kernel) (by decide +kernel), gi8 69 (by decide +kernel) (by decide +kernel), by decide, _, _, rfl⟩
theorem mv_X12_look : Mv mX12_look 12 2 := ⟨⟨gi8 78 (by decide +kernel) (by decide +kernel), gi1 17 (by decide +kernel) (by decide +kernel), by decide +kernel, by decide +kernel, by decide +kernel⟩, gi8 76 (by decide +kernel) (by decide +kernel), gi8 77 (by decide +kernel) (by decide +kernel), by decide, _, _, rfl⟩
theorem mv_X12_layDoing : Mv mX12_layDoing 12 2 := ⟨⟨gi8 87 (by decide +kernel) (by decide +kernel), gi1 17 (by decide +kernel) (by decide +kernel), by decide +kernel, by decide +kernel, by decide +kernel⟩, gi8 86 (by decide +kernel) (by decide +kernel), gi0 102 (by decide +kernel) (by decide +kernel), by decide, _, _, rfl⟩
theorem mv_X12_explained : Mv mX12_explained 12 1 := ⟨⟨gi8 83 (by decide +kernel) (by decide +kernel), gi1 17 (by decide +kernel) (by decide +kernel), by decide +kernel, by decide +kernel, by decide +kernel⟩, gi8 81 (by decide +kernel) (by decide +kernel), gi8 82 (by decide +kernel) (by decide +kernel), by decide, _, _, rfl⟩
theorem mv_X12_complete : Mv mX12_complete 12 2 := ⟨⟨gi8 91 (by decide +kernel) (by decide +kernel), gi1 17 (by decide +kernel) (by decide +kernel), by decide +kernel, by decide +kernel, by decide +kernel⟩, gi8 89 (by decide +kernel) (by decide +kernel), gi8 90 (by decide +kernel) (by decide +kernel), by decide, _, _, rfl⟩
theorem mv_X12_safe : Mv mX12_safe 12 1 := ⟨⟨gi8 99 (by decide +kernel) (by decide +kernel), gi1 17 (by decide +kernel) (by decide +kernel), by decide +kernel, by decide +kernel, by decide +kernel⟩, gi8 97 (by decide +kernel) (by decide +kernel), gi8 98 (by decide +kernel) (by decide +kernel), by decide, _, _, rfl⟩
theorem mv_X12_frauds : Mv mX12_frauds 12 0 := ⟨⟨gi8 103 (by decide +kernel) (by decide +kernel), gi1 17 (by decide +kernel) (by decide +kernel), by decide +kernel, by decide +kernel, by decide +kernel⟩, gi8 101 (by decide +kernel) (by decide +kernel), gi8 102 (by decide +kernel) (by decide +kernel), by decide, _, _, rfl⟩
theorem mv_X12_passFor : Mv mX12_passFor 12 2 := ⟨⟨gi8 111 (by decide +kernel) (by decide +kernel), gi1 17 (by decide +kernel) (by decide +kernel), by decide +kernel, by decide +kernel, by decide +kernel⟩, gi8 110 (by decide +kernel) (by decide +kernel), gi0 104 (by decide +kernel) (by decide +kernel), by decide, _, _, rfl⟩
theorem mv_X12_passing : Mv mX12_passing 12 1 := ⟨⟨gi8 107 (by decide +kernel) (by decide +kernel), gi1 17 (by decide +kernel) (by decide +kernel), by decide +kernel, by decide +kernel, by decide +kernel⟩, gi8 105 (by decide +kernel) (by decide +kernel), gi8 106 (by decide +kernel) (by decide +kernel), by decide, _, _, rfl⟩
theorem mv_X12_unused : Mv mX12_unused 12 0 := ⟨⟨gi8 115 (by decide +kernel) (by decide +kernel), gi1 17 (by decide +kernel) (by decide +kernel), by decide +kernel, by decide +kernel, by decide +kernel⟩, gi8 113 (by decide +kernel) (by decide +kernel), gi8 114 (by decide +kernel) (by decide +kernel), by decide, _, _, rfl⟩
theorem mv_X12_rich : Mv mX12_rich 12 1 := ⟨⟨gi8 119 (by decide +kernel) (by decide +kernel), gi1 17 (by decide +kernel) (by decide +kernel), by decide +kernel, by decide +kernel, by decide +kernel⟩, gi8 117 (by decide +kernel) (by decide +kernel), gi8 118 (by decide +kernel) (by decide +kernel), by decide, _, _, rfl⟩
theorem mv_X12_readSum : Mv mX12_readSum 12 1 := ⟨⟨gi8 131 (by decide +kernel) (by decide +kernel), gi1 17 (by decide +kernel) (by decide +kernel), by decide +kernel, by decide +kernel, by decide +kernel⟩, gi8 130 (by decide +kernel) (by decide +kernel), gi0 106 (by decide +kernel) (by decide +kernel), by decide, _, _, rfl⟩
theorem mv_X12_readOrder : Mv mX12_readOrder 12 0 := ⟨⟨gi8 127 (by decide +kernel) (by decide +kernel), gi1 17 (by decide +kernel) (by decide +kernel), by decide +kernel, by decide +kernel, by decide +kernel⟩, gi8 126 (by decide +kernel) (by decide +kernel), gi0 105 (by decide +kernel) (by decide +kernel), by decide, _, _, rfl⟩
theorem mv_X12_sumOf : Mv mX12_sumOf 12 1 := ⟨⟨gi8 142 (by decide +kernel) (by decide +kernel), gi1 17 (by decide +kernel) (by decide +kernel), by decide +kernel, by decide +kernel, by decide +kernel⟩, gi8 141 (by decide +kernel) (by decide +kernel), gi0 108 (by decide +kernel) (by decide +kernel), by decide, _, _, rfl⟩
theorem mv_X12_act : Mv mX12_act 12 3 := ⟨⟨gi8 146 (by decide +kernel) (by decide +kernel), gi1 17 (by decide +kernel) (by decide +kernel), by decide +kernel, by decide +kernel, by decide +kernel⟩, gi8 145 (by decide +kernel) (by decide +kernel), gi0 109 (by decide +kernel) (by decide +kernel), by decide, _, _, rfl⟩
theorem mv_X12_run : Mv mX12_run 12 1 := ⟨⟨gi8 138 (by decide +kernel) (by decide +kernel), gi1 17 (by decide +kernel) (by decide +kernel), by decide +kernel, by decide +kernel, by decide +kernel⟩, gi8 137 (by decide +kernel) (by decide +kernel), gi0 107 (by decide +kernel) (by decide +kernel), by decide, _, _, rfl⟩
theorem mv_X12_orders : Mv mX12_orders 12 0 := ⟨⟨gi8 123 (by decide +kernel) (by decide +kernel), gi1 17 (by decide +kernel) (by decide +kernel), by decide +kernel, by decide +kernel, by decide +kernel⟩, gi8 121 (by decide +kernel) (by decide +kernel), gi8 122 (by decide +kernel) (by decide +kernel), by decide, _, _, rfl⟩
theorem mv_X12_giveBack : Mv mX12_giveBack 12 1 := ⟨⟨gi8 150 (by decide +kernel) (by decide +kernel), gi1 17 (by decide +kernel) (by decide +kernel), by decide +kernel, by decide +kernel, by decide +kernel⟩, gi8 149 (by decide +kernel) (by decide +kernel), gi0 110 (by decide +kernel) (by decide +kernel), by decide, _, _, rfl⟩
theorem mv_X12_stopped : Mv mX12_stopped 12 0 := ⟨⟨gi8 154 (by decide +kernel) (by decide +kernel), gi1 17 (by decide +kernel) (by decide +kernel), by decide +kernel, by decide +kernel, by decide +kernel⟩, gi8 152 (by decide +kernel) (by decide +kernel), gi8 153 (by decide +kernel) (by decide +kernel), by decide, _, _, rfl⟩
theorem mv_X12_draw : Mv mX12_draw 12 1 := ⟨⟨gi8 162 (by decide +kernel) (by decide +kernel), gi1 17 (by decide +kernel) (by decide +kernel), by decide +kernel, by decide +kernel, by decide +kernel⟩, gi8 161 (by decide +kernel) (by decide +kernel), gi0 111 (by decide +kernel) (by decide +kernel), by decide, _, _, rfl⟩
theorem mv_X12_lowestYet : Mv mX12_lowestYet 12 1 := ⟨⟨gi8 169 (by decide +kernel) (by decide +kernel), gi1 17 (by decide +kernel) (by decide +kernel), by decide +kernel, by decide +kernel, by decide +kernel⟩, gi8 168 (by decide +kernel) (by decide +kernel), gi0 112 (by decide +kernel) (by decide +kernel), by decide, _, _, rfl⟩
theorem mv_X12_years : Mv mX12_years 12 2 := ⟨⟨gi8 158 (by decide +kernel) (by decide +kernel), gi1 17 (by decide +kernel) (by decide +kernel), by decide +kernel, by decide +kernel, by decide +kernel⟩, gi8 156 (by decide +kernel) (by decide +kernel), gi8 157 (by decide +kernel) (by decide +kernel), by decide, _, _, rfl⟩
theorem mv_X12_drawn : Mv mX12_drawn 12 2 := ⟨⟨gi8 173 (by decide +kernel) (by decide +kernel), gi1 17 (by decide +kernel) (by decide +kernel), by decide +kernel, by decide +kernel, by decide +kernel⟩, gi8 171 (by decide +kernel) (by decide +kernel), gi8 172 (by decide +kernel) (by decide +kernel), by decide, _, _, rfl⟩
theorem mv_X12_count : Mv mX12_count 12 1 := ⟨⟨gi8 177 (by decide +kernel) (by decide +kernel), gi1 17 (by decide +kernel) (by decide +kernel), by decide +kernel, by decide +kernel, by decide +kernel⟩, gi8 175 (by decide +kernel) (by decide +kernel), gi8 176 (by decide +kernel) (by decide +kernel), by decide, _, _, rfl⟩
theorem mv_X12_status : Mv mX12_status 12 0 := ⟨⟨gi8 183 (by decide +kernel) (by decide +kernel), gi1 17 (by decide +kernel) (by decide +kernel), by decide +kernel, by decide +kernel, by decide +kernel⟩, gi8 181 (by decide +kernel) (by decide +kernel), gi8 182 (by decide +kernel) (by decide +kernel), by decide, _, _, rfl⟩
theorem fl_X12_7 : Fl RX12 7 12 2 2 := ⟨_, _, _, rfl, in_X12, by decide, gi6 2 (by decide +kernel) (by decide +kernel), by decide +kernel, by decide⟩
theorem fl_X12_13 : Fl RX12 13 12 3 2 := ⟨_, _, _, rfl, in_X12, by decide, gi6 3 (by decide +kernel) (by decide +kernel), by decide +kernel, by decide⟩
theorem fl_X12_16 : Fl RX12 16 12 4 2 := ⟨_, _, _, rfl, in_X12, by decide, gi6 4 (by decide +kernel) (by decide +kernel), by decide +kernel, by decide⟩
theorem fl_X12_19 : Fl RX12 19 12 5 2 := ⟨_, _, _, rfl, in_X12, by decide, gi6 5 (by decide +kernel) (by decide +kernel), by decide +kernel, by decide⟩
theorem fl_X12_23 : Fl RX12 23 12 6 2 := ⟨_, _, _, rfl, in_X12, by decide, gi6 6 (by decide +kernel) (by decide +kernel), by decide +kernel, by decide⟩
theorem fl_X12_26 : Fl RX12 26 12 7 2 := ⟨_, _, _, rfl, in_X12, by decide, gi6 7 (by decide +kernel) (by decide +kernel), by decide +kernel, by decide⟩
theorem fl_X12_29 : Fl RX12 29 12 9 2 := ⟨_, _, _, rfl, in_X12, by decide, gi6 9 (by decide +kernel) (by decide +kernel), by decide +kernel, by decide⟩
theorem fl_X12_32 : Fl RX12 32 12 10 2 := ⟨_, _, _, rfl, in_X12, by decide, gi6 10 (by decide +kernel) (by decide +kernel), by decide +kernel, by decide⟩
theorem fl_X12_35 : Fl RX12 35 12 12 2 := ⟨_, _, _, rfl, in_X12, by decide, gi6 12 (by decide +kernel) (by decide +kernel), by decide +kernel, by decide⟩
theorem fl_X12_38 : Fl RX12 38 12 18 0 := ⟨_, _, _, rfl, in_X12, by decide, gi6 18 (by decide +kernel) (by decide +kernel), by decide +kernel, by decide⟩
theorem fl_X12_42 : Fl RX12 42 12 22 2 := ⟨_, _, _, rfl, in_X12, by decide, gi6 22 (by decide +kernel) (by decide +kernel), by decide +kernel, by decide⟩
theorem fl_X12_45 : Fl RX12 45 12 24 2 := ⟨_, _, _, rfl, in_X12, by decide, gi6 24 (by decide +kernel) (by decide +kernel), by decide +kernel, by decide⟩
theorem fl_X12_48 : Fl RX12 48 12 25 2 := ⟨_, _, _, rfl, in_X12, by decide, gi6 25 (by decide +kernel) (by decide +kernel), by decide +kernel, by decide⟩
theorem fl_X12_51 : Fl RX12 51 12 27 2 := ⟨_, _, _, rfl, in_X12, by decide, gi6 27 (by decide +kernel) (by decide +kernel), by decide +kernel, by decide⟩
theorem fl_X12_54 : Fl RX12 54 12 28 2 := ⟨_, _, _, rfl, in_X12, by decide, gi6 28 (by decide +kernel) (by decide +kernel), by decide +kernel, by decide⟩
theorem fl_X12_73 : Fl RX12 73 12 31 2 := ⟨_, _, _, rfl, in_X12, by decide, gi6 31 (by decide +kernel) (by decide +kernel), by decide +kernel, by decide⟩
theorem fl_X12_85 : Fl RX12 85 12 32 2 := ⟨_, _, _, rfl, in_X12, by decide, gi6 32 (by decide +kernel) (by decide +kernel), by decide +kernel, by decide⟩
theorem fl_X12_96 : Fl RX12 96 12 33 2 := ⟨_, _, _, rfl, in_X12, by decide, gi6 33 (by decide +kernel) (by decide +kernel), by decide +kernel, by decide⟩
theorem fl_X12_99 : Fl RX12 99 12 35 2 := ⟨_, _, _, rfl, in_X12, by decide, gi6 35 (by decide +kernel) (by decide +kernel), by decide +kernel, by decide⟩
theorem fl_X12_102 : Fl RX12 102 12 36 2 := ⟨_, _, _, rfl, in_X12, by decide, gi6 36 (by decide +kernel) (by decide +kernel), by decide +kernel, by decide⟩
theorem fl_X12_105 : Fl RX12 105 12 37 2 := ⟨_, _, _, rfl, in_X12, by decide, gi6 37 (by decide +kernel) (by decide +kernel), by decide +kernel, by decide⟩
theorem fl_X12_108 : Fl RX12 108 12 41 2 := ⟨_, _, _, rfl, in_X12, by decide, gi6 41 (by decide +kernel) (by decide +kernel), by decide +kernel, by decide⟩
theorem fl_X12_111 : Fl RX12 111 12 42 2 := ⟨_, _, _, rfl, in_X12, by decide, gi6 42 (by decide +kernel) (by decide +kernel), by decide +kernel, by decide⟩
theorem fl_X12_114 : Fl RX12 114 12 43 2 := ⟨_, _, _, rfl, in_X12, by decide, gi6 43 (by decide +kernel) (by decide +kernel), by decide +kernel, by decide⟩
theorem fl_X12_117 : Fl RX12 117 12 44 2 := ⟨_, _, _, rfl, in_X12, by decide, gi6 44 (by decide +kernel) (by decide +kernel), by decide +kernel, by decide⟩
theorem fl_X12_120 : Fl RX12 120 12 45 2 := ⟨_, _, _, rfl, in_X12, by decide, gi6 45 (by decide +kernel) (by decide +kernel), by decide +kernel, by decide⟩
theorem fl_X12_123 : Fl RX12 123 12 46 2 := ⟨_, _, _, rfl, in_X12, by decide, gi6 46 (by decide +kernel) (by decide +kernel), by decide +kernel, by decide⟩
theorem fl_X12_126 : Fl RX12 126 12 47 2 := ⟨_, _, _, rfl, in_X12, by decide, gi6 47 (by decide +kernel) (by decide +kernel), by decide +kernel, by decide⟩
theorem fl_X12_129 : Fl RX12 129 12 48 2 := ⟨_, _, _, rfl, in_X12, by decide, gi6 48 (by decide +kernel) (by decide +kernel), by decide +kernel, by decide⟩
theorem fl_X12_132 : Fl RX12 132 12 49 2 := ⟨_, _, _, rfl, in_X12, by decide, gi6 49 (by decide +kernel) (by decide +kernel), by decide +kernel, by decide⟩
theorem fl_X12_135 : Fl RX12 135 12 50 2 := ⟨_, _, _, rfl, in_X12, by decide, gi6 50 (by decide +kernel) (by decide +kernel), by decide +kernel, by decide⟩
theorem fl_X12_146 : Fl RX12 146 12 51 2 := ⟨_, _, _, rfl, in_X12, by decide, gi6 51 (by decide +kernel) (by decide +kernel), by decide +kernel, by decide⟩
theorem fl_X12_149 : Fl RX12 149 12 52 2 := ⟨_, _, _, rfl, in_X12, by decide, gi6 52 (by decide +kernel) (by decide +kernel), by decide +kernel, by decide⟩
theorem fl_X12_152 : Fl RX12 152 12 55 0 := ⟨_, _, _, rfl, in_X12, by decide, gi6 55 (by decide +kernel) (by decide +kernel), by decide +kernel, by decide⟩
theorem fl_X12_155 : Fl RX12 155 12 58 2 := ⟨_, _, _, rfl, in_X12, by decide, gi6 58 (by decide +kernel) (by decide +kernel), by decide +kernel, by decide⟩
theorem fl_X12_158 : Fl RX12 158 12 59 0 := ⟨_, _, _, rfl, in_X12, by decide, gi6 59 (by decide +kernel) (by decide +kernel), by decide +kernel, by decide⟩
theorem fl_X12_164 : Fl RX12 164 12 1 0 := ⟨_, _, _, rfl, in_X12, by decide, gi6 1 (by decide +kernel) (by decide +kernel), by decide +kernel, by decide⟩
theorem fl_X12_167 : Fl RX12 167 12 8 0 := ⟨_, _, _, rfl, in_X12, by decide, gi6 8 (by decide +kernel) (by decide +kernel), by decide +kernel, by decide⟩
theorem fl_X12_248 : Fl RX12 248 12 13 0 := ⟨_, _, _, rfl, in_X12, by decide, gi6 13 (by decide +kernel) (by decide +kernel), by decide +kernel, by decide⟩
theorem fl_X12_251 : Fl RX12 251 12 11 0 := ⟨_, _, _, rfl, in_X12, by decide, gi6 11 (by decide +kernel) (by decide +kernel), by decide +kernel, by decide⟩
theorem fl_X12_257 : Fl RX12 257 12 15 0 := ⟨_, _, _, rfl, in_X12, by decide, gi6 15 (by decide +kernel) (by decide +kernel), by decide +kernel, by decide⟩
theorem fl_X12_260 : Fl RX12 260 12 19 0 := ⟨_, _, _, rfl, in_X12, by decide, gi6 19 (by decide +kernel) (by decide +kernel), by decide +kernel, by decide⟩
theorem fl_X12_267 : Fl RX12 267 12 14 0 := ⟨_, _, _, rfl, in_X12, by decide, gi6 14 (by decide +kernel) (by decide +kernel), by decide +kernel, by decide⟩
theorem fl_X12_270 : Fl RX12 270 12 17 1 := ⟨_, _, _, rfl, in_X12, by decide, gi6 17 (by decide +kernel) (by decide +kernel), by decide +kernel, by decide⟩
theorem fl_X12_280 : Fl RX12 280 12 16 0 := ⟨_, _, _, rfl, in_X12, by decide, gi6 16 (by decide +kernel) (by decide +kernel), by decide +kernel, by decide⟩
theorem fl_X12_297 : Fl RX12 297 12 23 0 := ⟨_, _, _, rfl, in_X12, by decide, gi6 23 (by decide +kernel) (by decide +kernel), by decide +kernel, by decide⟩
theorem fl_X12_300 : Fl RX12 300 12 29 0 := ⟨_, _, _, rfl, in_X12, by decide, gi6 29 (by decide +kernel) (by decide +kernel), by decide +kernel, by decide⟩
theorem fl_X12_322 : Fl RX12 322 12 30 0 := ⟨_, _, _, rfl, in_X12, by decide, gi6 30 (by decide +kernel) (by decide +kernel), by decide +kernel, by decide⟩
theorem fl_X12_328 : Fl RX12 328 12 26 0 := ⟨_, _, _, rfl, in_X12, by decide, gi6 26 (by decide +kernel) (by decide +kernel), by decide +kernel, by decide⟩
theorem fl_X12_337 : Fl RX12 337 12 20 0 := ⟨_, _, _, rfl, in_X12, by decide, gi6 20 (by decide +kernel) (by decide +kernel), by decide +kernel, by decide⟩
theorem fl_X12_393 : Fl RX12 393 12 21 0 := ⟨_, _, _, rfl, in_X12, by decide, gi6 21 (by decide +kernel) (by decide +kernel), by decide +kernel, by decide⟩
theorem fl_X12_413 : Fl RX12 413 12 38 0 := ⟨_, _, _, rfl, in_X12, by decide, gi6 38 (by decide +kernel) (by decide +kernel), by decide +kernel, by decide⟩
theorem fl_X12_416 : Fl RX12 416 12 34 0 := ⟨_, _, _, rfl, in_X12, by decide, gi6 34 (by decide +kernel) (by decide +kernel), by decide +kernel, by decide⟩
theorem fl_X12_427 : Fl RX12 427 12 39 1 := ⟨_, _, _, rfl, in_X12, by decide, gi6 39 (by decide +kernel) (by decide +kernel), by decide +kernel, by decide⟩
theorem fl_X12_433 : Fl RX12 433 12 40 1 := ⟨_, _, _, rfl, in_X12, by decide, gi6 40 (by decide +kernel) (by decide +kernel), by decide +kernel, by decide⟩
theorem fl_X12_504 : Fl RX12 504 12 56 0 := ⟨_, _, _, rfl, in_X12, by decide, gi6 56 (by decide +kernel) (by decide +kernel), by decide +kernel, by decide⟩
theorem fl_X12_507 : Fl RX12 507 12 53 0 := ⟨_, _, _, rfl, in_X12, by decide, gi6 53 (by decide +kernel) (by decide +kernel), by decide +kernel, by decide⟩
theorem fl_X12_510 : Fl RX12 510 12 54 0 := ⟨_, _, _, rfl, in_X12, by decide, gi6 54 (by decide +kernel) (by decide +kernel), by decide +kernel, by decide⟩
theorem fl_X12_528 : Fl RX12 528 12 57 1 := ⟨_, _, _, rfl, in_X12, by decide, gi6 57 (by decide +kernel) (by decide +kernel), by decide +kernel, by decide⟩
theorem fp_X12_7 : Fp RX12 7 12 2 2 (.array .int) true := ⟨_, _, _, tyX12, rfl, in_X12, by decide, gi6 2 (by decide +kernel) (by decide +kernel), by decide +kernel, by decide, tyX12_ok, nmX12, by decide +kernel, rfl, fun _ => rfl⟩
theorem fp_X12_13 : Fp RX12 13 12 3 2 (.array .int) true := ⟨_, _, _, tyX12, rfl, in_X12, by decide, gi6 3 (by decide +kernel) (by decide +kernel), by decide +kernel, by decide, tyX12_ok, nmX12, by decide +kernel, rfl, fun _ => rfl⟩
theorem fp_X12_16 : Fp RX12 16 12 4 2 (.array .int) true := ⟨_, _, _, tyX12, rfl, in_X12, by decide, gi6 4 (by decide +kernel) (by decide +kernel), by decide +kernel, by decide, tyX12_ok, nmX12, by decide +kernel, rfl, fun _ => rfl⟩
theorem fp_X12_19 : Fp RX12 19 12 5 2 (.array .boolean) true := ⟨_, _, _, tyX12, rfl, in_X12, by decide, gi6 5 (by decide +kernel) (by decide +kernel), by decide +kernel, by decide, tyX12_ok, nmX12, by decide +kernel, rfl, fun _ => rfl⟩
theorem fp_X12_23 : Fp RX12 23 12 6 2 (.array .int) true := ⟨_, _, _, tyX12, rfl, in_X12, by decide, gi6 6 (by decide +kernel) (by decide +kernel), by decide +kernel, by decide, tyX12_ok, nmX12, by decide +kernel, rfl, fun _ => rfl⟩
theorem fp_X12_26 : Fp RX12 26 12 7 2 (.array .int) true := ⟨_, _, _, tyX12, rfl, in_X12, by decide, gi6 7 (by decide +kernel) (by decide +kernel), by decide +kernel, by decide, tyX12_ok, nmX12, by decide +kernel, rfl, fun _ => rfl⟩
theorem fp_X12_29 : Fp RX12 29 12 9 2 (.array .int) true := ⟨_, _, _, tyX12, rfl, in_X12, by decide, gi6 9 (by decide +kernel) (by decide +kernel), by decide +kernel, by decide, tyX12_ok, nmX12, by decide +kernel, rfl, fun _ => rfl⟩
theorem fp_X12_32 : Fp RX12 32 12 10 2 (.array .int) true := ⟨_, _, _, tyX12, rfl, in_X12, by decide, gi6 10 (by decide +kernel) (by decide +kernel), by decide +kernel, by decide, tyX12_ok, nmX12, by decide +kernel, rfl, fun _ => rfl⟩
theorem fp_X12_35 : Fp RX12 35 12 12 2 (.array .int) true := ⟨_, _, _, tyX12, rfl, in_X12, by decide, gi6 12 (by decide +kernel) (by decide +kernel), by decide +kernel, by decide, tyX12_ok, nmX12, by decide +kernel, rfl, fun _ => rfl⟩
theorem fp_X12_38 : Fp RX12 38 12 18 0 .int false := ⟨_, _, _, tyX12, rfl, in_X12, by decide, gi6 18 (by decide +kernel) (by decide +kernel), by decide +kernel, by decide, tyX12_ok, nmX12, by decide +kernel, rfl, fun _ => rfl⟩
theorem fp_X12_42 : Fp RX12 42 12 22 2 (.array .int) true := ⟨_, _, _, tyX12, rfl, in_X12, by decide, gi6 22 (by decide +kernel) (by decide +kernel), by decide +kernel, by decide, tyX12_ok, nmX12, by decide +kernel, rfl, fun _ => rfl⟩
theorem fp_X12_45 : Fp RX12 45 12 24 2 (.array .int) true := ⟨_, _, _, tyX12, rfl, in_X12, by decide, gi6 24 (by decide +kernel) (by decide +kernel), by decide +kernel, by decide, tyX12_ok, nmX12, by decide +kernel, rfl, fun _ => rfl⟩
theorem fp_X12_48 : Fp RX12 48 12 25 2 (.array .int) true := ⟨_, _, _, tyX12, rfl, in_X12, by decide, gi6 25 (by decide +kernel) (by decide +kernel), by decide +kernel, by decide, tyX12_ok, nmX12, by decide +kernel, rfl, fun _ => rfl⟩
theorem fp_X12_51 : Fp RX12 51 12 27 2 (.array .int) true := ⟨_, _, _, tyX12, rfl, in_X12, by decide, gi6 27 (by decide +kernel) (by decide +kernel), by decide +kernel, by decide, tyX12_ok, nmX12, by decide +kernel, rfl, fun _ => rfl⟩
theorem fp_X12_54 : Fp RX12 54 12 28 2 (.array .int) true := ⟨_, _, _, tyX12, rfl, in_X12, by decide, gi6 28 (by decide +kernel) (by decide +kernel), by decide +kernel, by decide, tyX12_ok, nmX12, by decide +kernel, rfl, fun _ => rfl⟩
theorem fp_X12_73 : Fp RX12 73 12 31 2 (.array .long) true := ⟨_, _, _, tyX12, rfl, in_X12, by decide, gi6 31 (by decide +kernel) (by decide +kernel), by decide +kernel, by decide, tyX12_ok, nmX12, by decide +kernel, rfl, fun _ => rfl⟩
theorem fp_X12_85 : Fp RX12 85 12 32 2 (.array .long) true := ⟨_, _, _, tyX12, rfl, in_X12, by decide, gi6 32 (by decide +kernel) (by decide +kernel), by decide +kernel, by decide, tyX12_ok, nmX12, by decide +kernel, rfl, fun _ => rfl⟩
theorem fp_X12_96 : Fp RX12 96 12 33 2 (.array .long) true := ⟨_, _, _, tyX12, rfl, in_X12, by decide, gi6 33 (by decide +kernel) (by decide +kernel), by decide +kernel, by decide, tyX12_ok, nmX12, by decide +kernel, rfl, fun _ => rfl⟩
theorem fp_X12_99 : Fp RX12 99 12 35 2 (.array .long) true := ⟨_, _, _, tyX12, rfl, in_X12, by decide, gi6 35 (by decide +kernel) (by decide +kernel), by decide +kernel, by decide, tyX12_ok, nmX12, by decide +kernel, rfl, fun _ => rfl⟩
theorem fp_X12_102 : Fp RX12 102 12 36 2 (.array .long) true := ⟨_, _, _, tyX12, rfl, in_X12, by decide, gi6 36 (by decide +kernel) (by decide +kernel), by decide +kernel, by decide, tyX12_ok, nmX12, by decide +kernel, rfl, fun _ => rfl⟩
theorem fp_X12_105 : Fp RX12 105 12 37 2 (.array .long) true := ⟨_, _, _, tyX12, rfl, in_X12, by decide, gi6 37 (by decide +kernel) (by decide +kernel), by decide +kernel, by decide, tyX12_ok, nmX12, by decide +kernel, rfl, fun _ => rfl⟩
theorem fp_X12_108 : Fp RX12 108 12 41 2 (.array .int) true := ⟨_, _, _, tyX12, rfl, in_X12, by decide, gi6 41 (by decide +kernel) (by decide +kernel), by decide +kernel, by decide, tyX12_ok, nmX12, by decide +kernel, rfl, fun _ => rfl⟩
theorem fp_X12_111 : Fp RX12 111 12 42 2 (.array .int) true := ⟨_, _, _, tyX12, rfl, in_X12, by decide, gi6 42 (by decide +kernel) (by decide +kernel), by decide +kernel, by decide, tyX12_ok, nmX12, by decide +kernel, rfl, fun _ => rfl⟩
theorem fp_X12_114 : Fp RX12 114 12 43 2 (.array .int) true := ⟨_, _, _, tyX12, rfl, in_X12, by decide, gi6 43 (by decide +kernel) (by decide +kernel), by decide +kernel, by decide, tyX12_ok, nmX12, by decide +kernel, rfl, fun _ => rfl⟩
theorem fp_X12_117 : Fp RX12 117 12 44 2 (.array .long) true := ⟨_, _, _, tyX12, rfl, in_X12, by decide, gi6 44 (by decide +kernel) (by decide +kernel), by decide +kernel, by decide, tyX12_ok, nmX12, by decide +kernel, rfl, fun _ => rfl⟩
theorem fp_X12_120 : Fp RX12 120 12 45 2 (.array .long) true := ⟨_, _, _, tyX12, rfl, in_X12, by decide, gi6 45 (by decide +kernel) (by decide +kernel), by decide +kernel, by decide, tyX12_ok, nmX12, by decide +kernel, rfl, fun _ => rfl⟩
theorem fp_X12_123 : Fp RX12 123 12 46 2 (.array .long) true := ⟨_, _, _, tyX12, rfl, in_X12, by decide, gi6 46 (by decide +kernel) (by decide +kernel), by decide +kernel, by decide, tyX12_ok, nmX12, by decide +kernel, rfl, fun _ => rfl⟩
theorem fp_X12_126 : Fp RX12 126 12 47 2 (.array .int) true := ⟨_, _, _, tyX12, rfl, in_X12, by decide, gi6 47 (by decide +kernel) (by decide +kernel), by decide +kernel, by decide, tyX12_ok, nmX12, by decide +kernel, rfl, fun _ => rfl⟩
theorem fp_X12_129 : Fp RX12 129 12 48 2 (.array .int) true := ⟨_, _, _, tyX12, rfl, in_X12, by decide, gi6 48 (by decide +kernel) (by decide +kernel), by decide +kernel, by decide, tyX12_ok, nmX12, by decide +kernel, rfl, fun _ => rfl⟩
theorem fp_X12_132 : Fp RX12 132 12 49 2 (.array .boolean) true := ⟨_, _, _, tyX12, rfl, in_X12, by decide, gi6 49 (by decide +kernel) (by decide +kernel), by decide +kernel, by decide, tyX12_ok, nmX12, by decide +kernel, rfl, fun _ => rfl⟩
theorem fp_X12_135 : Fp RX12 135 12 50 2 (.array .boolean) true := ⟨_, _, _, tyX12, rfl, in_X12, by decide, gi6 50 (by decide +kernel) (by decide +kernel), by decide +kernel, by decide, tyX12_ok, nmX12, by decide +kernel, rfl, fun _ => rfl⟩
theorem fp_X12_146 : Fp RX12 146 12 51 2 (.array .long) true := ⟨_, _, _, tyX12, rfl, in_X12, by decide, gi6 51 (by decide +kernel) (by decide +kernel), by decide +kernel, by decide, tyX12_ok, nmX12, by decide +kernel, rfl, fun _ => rfl⟩
theorem fp_X12_149 : Fp RX12 149 12 52 2 (.array .int) true := ⟨_, _, _, tyX12, rfl, in_X12, by decide, gi6 52 (by decide +kernel) (by decide +kernel), by decide +kernel, by decide, tyX12_ok, nmX12, by decide +kernel, rfl, fun _ => rfl⟩
theorem fp_X12_152 : Fp RX12 152 12 55 0 .int false := ⟨_, _, _, tyX12, rfl, in_X12, by decide, gi6 55 (by decide +kernel) (by decide +kernel), by decide +kernel, by decide, tyX12_ok, nmX12, by decide +kernel, rfl, fun _ => rfl⟩
theorem fp_X12_155 : Fp RX12 155 12 58 2 (.array .int) true := ⟨_, _, _, tyX12, rfl, in_X12, by decide, gi6 58 (by decide +kernel) (by decide +kernel), by decide +kernel, by decide, tyX12_ok, nmX12, by decide +kernel, rfl, fun _ => rfl⟩
theorem fp_X12_158 : Fp RX12 158 12 59 0 .int false := ⟨_, _, _, tyX12, rfl, in_X12, by decide, gi6 59 (by decide +kernel) (by decide +kernel), by decide +kernel, by decide, tyX12_ok, nmX12, by decide +kernel, rfl, fun _ => rfl⟩
theorem fp_X12_161 : Fp RX12 161 12 0 0 .int false := ⟨_, _, _, tyX12, rfl, in_X12, by decide, gi6 0 (by decide +kernel) (by decide +kernel), by decide +kernel, by decide, tyX12_ok, nmX12, by decide +kernel, rfl, fun _ => rfl⟩
theorem fp_X12_164 : Fp RX12 164 12 1 0 .int false := ⟨_, _, _, tyX12, rfl, in_X12, by decide, gi6 1 (by decide +kernel) (by decide +kernel), by decide +kernel, by decide, tyX12_ok, nmX12, by decide +kernel, rfl, fun _ => rfl⟩
theorem fp_X12_167 : Fp RX12 167 12 8 0 .int false := ⟨_, _, _, tyX12, rfl, in_X12, by decide, gi6 8 (by decide +kernel) (by decide +kernel), by decide +kernel, by decide, tyX12_ok, nmX12, by decide +kernel, rfl, fun _ => rfl⟩
theorem fp_X12_248 : Fp RX12 248 12 13 0 .int false := ⟨_, _, _, tyX12, rfl, in_X12, by decide, gi6 13 (by decide +kernel) (by decide +kernel), by decide +kernel, by decide, tyX12_ok, nmX12, by decide +kernel, rfl, fun _ => rfl⟩
theorem fp_X12_251 : Fp RX12 251 12 11 0 .int false := ⟨_, _, _, tyX12, rfl, in_X12, by decide, gi6 11 (by decide +kernel) (by decide +kernel), by decide +kernel, by decide, tyX12_ok, nmX12, by decide +kernel, rfl, fun _ => rfl⟩
theorem fp_X12_257 : Fp RX12 257 12 15 0 .int false := ⟨_, _, _, tyX12, rfl, in_X12, by decide, gi6 15 (by decide +kernel) (by decide +kernel), by decide +kernel, by decide, tyX12_ok, nmX12, by decide +kernel, rfl, fun _ => rfl⟩
theorem fp_X12_260 : Fp RX12 260 12 19 0 .boolean false := ⟨_, _, _, tyX12, rfl, in_X12, by decide, gi6 19 (by decide +kernel) (by decide +kernel), by decide +kernel, by decide, tyX12_ok, nmX12, by decide +kernel, rfl, fun _ => rfl⟩
theorem fp_X12_267 : Fp RX12 267 12 14 0 .int false := ⟨_, _, _, tyX12, rfl, in_X12, by decide, gi6 14 (by decide +kernel) (by decide +kernel), by decide +kernel, by decide, tyX12_ok, nmX12, by decide +kernel, rfl, fun _ => rfl⟩
theorem fp_X12_270 : Fp RX12 270 12 17 1 .long false := ⟨_, _, _, tyX12, rfl, in_X12, by decide, gi6 17 (by decide +kernel) (by decide +kernel), by decide +kernel, by decide, tyX12_ok, nmX12, by decide +kernel, rfl, fun _ => rfl⟩
theorem fp_X12_280 : Fp RX12 280 12 16 0 .int false := ⟨_, _, _, tyX12, rfl, in_X12, by decide, gi6 16 (by decide +kernel) (by decide +kernel), by decide +kernel, by decide, tyX12_ok, nmX12, by decide +kernel, rfl, fun _ => rfl⟩
theorem fp_X12_297 : Fp RX12 297 12 23 0 .int false := ⟨_, _, _, tyX12, rfl, in_X12, by decide, gi6 23 (by decide +kernel) (by decide +kernel), by decide +kernel, by decide, tyX12_ok, nmX12, by decide +kernel, rfl, fun _ => rfl⟩
theorem fp_X12_300 : Fp RX12 300 12 29 0 .int false := ⟨_, _, _, tyX12, rfl, in_X12, by decide, gi6 29 (by decide +kernel) (by decide +kernel), by decide +kernel, by decide, tyX12_ok, nmX12, by decide +kernel, rfl, fun _ => rfl⟩
theorem fp_X12_322 : Fp RX12 322 12 30 0 .int false := ⟨_, _, _, tyX12, rfl, in_X12, by decide, gi6 30 (by decide +kernel) (by decide +kernel), by decide +kernel, by decide, tyX12_ok, nmX12, by decide +kernel, rfl, fun _ => rfl⟩
theorem fp_X12_328 : Fp RX12 328 12 26 0 .int false := ⟨_, _, _, tyX12, rfl, in_X12, by decide, gi6 26 (by decide +kernel) (by decide +kernel), by decide +kernel, by decide, tyX12_ok, nmX12, by decide +kernel, rfl, fun _ => rfl⟩
theorem fp_X12_337 : Fp RX12 337 12 20 0 .boolean false := ⟨_, _, _, tyX12, rfl, in_X12, by decide, gi6 20 (by decide +kernel) (by decide +kernel), by decide +kernel, by decide, tyX12_ok, nmX12, by decide +kernel, rfl, fun _ => rfl⟩
theorem fp_X12_393 : Fp RX12 393 12 21 0 .int false := ⟨_, _, _, tyX12, rfl, in_X12, by decide, gi6 21 (by decide +kernel) (by decide +kernel), by decide +kernel, by decide, tyX12_ok, nmX12, by decide +kernel, rfl, fun _ => rfl⟩
theorem fp_X12_413 : Fp RX12 413 12 38 0 .boolean false := ⟨_, _, _, tyX12, rfl, in_X12, by decide, gi6 38 (by decide +kernel) (by decide +kernel), by decide +kernel, by decide, tyX12_ok, nmX12, by decide +kernel, rfl, fun _ => rfl⟩
theorem fp_X12_416 : Fp RX12 416 12 34 0 .int false := ⟨_, _, _, tyX12, rfl, in_X12, by decide, gi6 34 (by decide +kernel) (by decide +kernel), by decide +kernel, by decide, tyX12_ok, nmX12, by decide +kernel, rfl, fun _ => rfl⟩
theorem fp_X12_427 : Fp RX12 427 12 39 1 .long false := ⟨_, _, _, tyX12, rfl, in_X12, by decide, gi6 39 (by decide +kernel) (by decide +kernel), by decide +kernel, by decide, tyX12_ok, nmX12, by decide +kernel, rfl, fun _ => rfl⟩
theorem fp_X12_433 : Fp RX12 433 12 40 1 .long false := ⟨_, _, _, tyX12, rfl, in_X12, by decide, gi6 40 (by decide +kernel) (by decide +kernel), by decide +kernel, by decide, tyX12_ok, nmX12, by decide +kernel, rfl, fun _ => rfl⟩
theorem fp_X12_504 : Fp RX12 504 12 56 0 .boolean false := ⟨_, _, _, tyX12, rfl, in_X12, by decide, gi6 56 (by decide +kernel) (by decide +kernel), by decide +kernel, by decide, tyX12_ok, nmX12, by decide +kernel, rfl, fun _ => rfl⟩
theorem fp_X12_507 : Fp RX12 507 12 53 0 .int false := ⟨_, _, _, tyX12, rfl, in_X12, by decide, gi6 53 (by decide +kernel) (by decide +kernel), by decide +kernel, by decide, tyX12_ok, nmX12, by decide +kernel, rfl, fun _ => rfl⟩
theorem fp_X12_510 : Fp RX12 510 12 54 0 .int false := ⟨_, _, _, tyX12, rfl, in_X12, by decide, gi6 54 (by decide +kernel) (by decide +kernel), by decide +kernel, by decide, tyX12_ok, nmX12, by decide +kernel, rfl, fun _ => rfl⟩
theorem fp_X12_528 : Fp RX12 528 12 57 1 .long false := ⟨_, _, _, tyX12, rfl, in_X12, by decide, gi6 57 (by decide +kernel) (by decide +kernel), by decide +kernel, by decide, tyX12_ok, nmX12, by decide +kernel, rfl, fun _ => rfl⟩
theorem ml_X12_1 : Cond.methodLink RX12 1 objectInit ∈ gws := gi5 219 (by decide +kernel) (by decide +kernel)
theorem ml_X12_170 : Cond.methodLink RX12 170 yX12_tell ∈ gws := gi6 186 (by decide +kernel) (by decide +kernel)
theorem ml_X12_174 : Cond.methodLink RX12 174 yX12_keepAll ∈ gws := gi8 1 (by decide +kernel) (by decide +kernel)
theorem ml_X12_178 : Cond.methodLink RX12 178 yX12_putBack ∈ gws := gi6 190 (by decide +kernel) (by decide +kernel)
theorem ml_X12_181 : Cond.methodLink RX12 181 yX12_in ∈ gws := gi6 198 (by decide +kernel) (by decide +kernel)
theorem ml_X12_185 : Cond.methodLink RX12 185 yX12_settled ∈ gws := gi6 205 (by decide +kernel) (by decide +kernel)
theorem ml_X12_190 : Cond.methodLink RX12 190 yX12_ones ∈ gws := gi6 238 (by decide +kernel) (by decide +kernel)
theorem ml_X12_193 : Cond.methodLink RX12 193 yX12_isAlive ∈ gws := gi6 230 (by decide +kernel) (by decide +kernel)
theorem ml_X12_197 : Cond.methodLink RX12 197 yX12_is ∈ gws := gi7 56 (by decide +kernel) (by decide +kernel)
theorem ml_X12_201 : Cond.methodLink RX12 201 yX12_isLife ∈ gws := gi6 217 (by decide +kernel) (by decide +kernel)
theorem ml_X12_206 : Cond.methodLink RX12 206 yX12_come ∈ gws := gi6 213 (by decide +kernel) (by decide +kernel)
theorem ml_X12_210 : Cond.methodLink RX12 210 yX12_isCat ∈ gws := gi6 226 (by decide +kernel) (by decide +kernel)
theorem ml_X12_213 : Cond.methodLink RX12 213 yX12_spentOf ∈ gws := gi6 234 (by decide +kernel) (by decide +kernel)
theorem ml_X12_216 : Cond.methodLink RX12 216 yX12_earnsOf ∈ gws := gi7 1 (by decide +kernel) (by decide +kernel)
theorem ml_X12_219 : Cond.methodLink RX12 219 yX12_daresOf ∈ gws := gi7 35 (by decide +kernel) (by decide +kernel)
theorem ml_X12_222 : Cond.methodLink RX12 222 yX12_showsOf ∈ gws := gi7 39 (by decide +kernel) (by decide +kernel)
theorem ml_X12_228 : Cond.methodLink RX12 228 yX12_isShip ∈ gws := gi7 17 (by decide +kernel) (by decide +kernel)
theorem ml_X12_231 : Cond.methodLink RX12 231 yX12_crewOf ∈ gws := gi7 21 (by decide +kernel) (by decide +kernel)
theorem ml_X12_234 : Cond.methodLink RX12 234 yX12_livesOf ∈ gws := gi7 52 (by decide +kernel) (by decide +kernel)
theorem ml_X12_237 : Cond.methodLink RX12 237 yX12_barredFrom ∈ gws := gi7 59 (by decide +kernel) (by decide +kernel)
theorem ml_X12_244 : Cond.methodLink RX12 244 yX12_change ∈ gws := gi7 73 (by decide +kernel) (by decide +kernel)
theorem ml_X12_254 : Cond.methodLink RX12 254 yX12_four ∈ gws := gi7 89 (by decide +kernel) (by decide +kernel)
theorem ml_X12_264 : Cond.methodLink RX12 264 yX12_onward ∈ gws := gi7 113 (by decide +kernel) (by decide +kernel)
theorem ml_X12_274 : Cond.methodLink RX12 274 yX12_isSmall ∈ gws := gi7 117 (by decide +kernel) (by decide +kernel)
theorem ml_X12_277 : Cond.methodLink RX12 277 yX12_isDigit ∈ gws := gi7 120 (by decide +kernel) (by decide +kernel)
theorem ml_X12_293 : Cond.methodLink RX12 293 yX12_must ∈ gws := gi7 135 (by decide +kernel) (by decide +kernel)
theorem ml_X12_303 : Cond.methodLink RX12 303 yX12_binds ∈ gws := gi7 191 (by decide +kernel) (by decide +kernel)
theorem ml_X12_306 : Cond.methodLink RX12 306 yX12_emit ∈ gws := gi7 177 (by decide +kernel) (by decide +kernel)
theorem ml_X12_318 : Cond.methodLink RX12 318 yX12_isWord ∈ gws := gi7 131 (by decide +kernel) (by decide +kernel)
theorem ml_X12_325 : Cond.methodLink RX12 325 yX12_push ∈ gws := gi7 148 (by decide +kernel) (by decide +kernel)
theorem ml_X12_331 : Cond.methodLink RX12 331 yX12_isSign ∈ gws := gi7 152 (by decide +kernel) (by decide +kernel)
theorem ml_X12_334 : Cond.methodLink RX12 334 yX12_openBracket ∈ gws := gi7 156 (by decide +kernel) (by decide +kernel)
theorem ml_X12_340 : Cond.methodLink RX12 340 yX12_orderPartAt ∈ gws := gi7 164 (by decide +kernel) (by decide +kernel)
theorem ml_X12_344 : Cond.methodLink RX12 344 yX12_partAt ∈ gws := gi7 168 (by decide +kernel) (by decide +kernel)
theorem ml_X12_349 : Cond.methodLink RX12 349 yX12_leaf ∈ gws := gi7 173 (by decide +kernel) (by decide +kernel)
theorem ml_X12_357 : Cond.methodLink RX12 357 yX12_number ∈ gws := gi7 183 (by decide +kernel) (by decide +kernel)
theorem ml_X12_363 : Cond.methodLink RX12 363 yX12_readPart ∈ gws := gi7 160 (by decide +kernel) (by decide +kernel)
theorem ml_X12_366 : Cond.methodLink RX12 366 yX12_settle ∈ gws := gi7 194 (by decide +kernel) (by decide +kernel)
theorem ml_X12_369 : Cond.methodLink RX12 369 yX12_inner ∈ gws := gi7 198 (by decide +kernel) (by decide +kernel)
theorem ml_X12_372 : Cond.methodLink RX12 372 yX12_isCompared ∈ gws := gi7 202 (by decide +kernel) (by decide +kernel)
theorem ml_X12_380 : Cond.methodLink RX12 380 yX12_readPlain ∈ gws := gi7 143 (by decide +kernel) (by decide +kernel)
theorem ml_X12_383 : Cond.methodLink RX12 383 yX12_behindSum ∈ gws := gi7 187 (by decide +kernel) (by decide +kernel)
theorem ml_X12_387 : Cond.methodLink RX12 387 yX12_behindTest ∈ gws := gi7 210 (by decide +kernel) (by decide +kernel)
theorem ml_X12_390 : Cond.methodLink RX12 390 yX12_begin ∈ gws := gi7 109 (by decide +kernel) (by decide +kernel)
theorem ml_X12_396 : Cond.methodLink RX12 396 yX12_readExpression ∈ gws := gi7 139 (by decide +kernel) (by decide +kernel)
theorem ml_X12_401 : Cond.methodLink RX12 401 yX12_beginText ∈ gws := gi7 105 (by decide +kernel) (by decide +kernel)
theorem ml_X12_404 : Cond.methodLink RX12 404 yX12_readLaw ∈ gws := gi7 127 (by decide +kernel) (by decide +kernel)
theorem ml_X12_407 : Cond.methodLink RX12 407 yX12_endText ∈ gws := gi7 217 (by decide +kernel) (by decide +kernel)
theorem ml_X12_410 : Cond.methodLink RX12 410 yX12_isLaw ∈ gws := gi7 225 (by decide +kernel) (by decide +kernel)
theorem ml_X12_419 : Cond.methodLink RX12 419 yX12_reckon ∈ gws := gi7 26 (by decide +kernel) (by decide +kernel)
theorem ml_X12_430 : Cond.methodLink RX12 430 yX12_reckonAll ∈ gws := gi7 13 (by decide +kernel) (by decide +kernel)
theorem ml_X12_436 : Cond.methodLink RX12 436 yX12_isSo ∈ gws := gi7 9 (by decide +kernel) (by decide +kernel)
theorem ml_X12_439 : Cond.methodLink RX12 439 yX12_tells ∈ gws := gi7 5 (by decide +kernel) (by decide +kernel)
theorem ml_X12_443 : Cond.methodLink RX12 443 yX12_within ∈ gws := gi7 32 (by decide +kernel) (by decide +kernel)
theorem ml_X12_447 : Cond.methodLink RX12 447 yX12_isBarred ∈ gws := gi7 63 (by decide +kernel) (by decide +kernel)
theorem ml_X12_450 : Cond.methodLink RX12 450 yX12_remember ∈ gws := gi7 237 (by decide +kernel) (by decide +kernel)
theorem ml_X12_453 : Cond.methodLink RX12 453 yX12_signNow ∈ gws := gi7 233 (by decide +kernel) (by decide +kernel)
theorem ml_X12_456 : Cond.methodLink RX12 456 yX12_dieIt ∈ gws := gi8 13 (by decide +kernel) (by decide +kernel)
theorem ml_X12_459 : Cond.methodLink RX12 459 yX12_dieNow ∈ gws := gi8 9 (by decide +kernel) (by decide +kernel)
theorem ml_X12_462 : Cond.methodLink RX12 462 yX12_clipNow ∈ gws := gi8 21 (by decide +kernel) (by decide +kernel)
theorem ml_X12_465 : Cond.methodLink RX12 465 yX12_passIt ∈ gws := gi8 33 (by decide +kernel) (by decide +kernel)
theorem ml_X12_468 : Cond.methodLink RX12 468 yX12_passNow ∈ gws := gi8 29 (by decide +kernel) (by decide +kernel)
theorem ml_X12_471 : Cond.methodLink RX12 471 yX12_mostNext ∈ gws := gi8 45 (by decide +kernel) (by decide +kernel)
theorem ml_X12_475 : Cond.methodLink RX12 475 yX12_layHad ∈ gws := gi8 41 (by decide +kernel) (by decide +kernel)
theorem ml_X12_482 : Cond.methodLink RX12 482 yX12_livesThatCan ∈ gws := gi8 71 (by decide +kernel) (by decide +kernel)
theorem ml_X12_486 : Cond.methodLink RX12 486 yX12_layDoing ∈ gws := gi8 84 (by decide +kernel) (by decide +kernel)
theorem ml_X12_489 : Cond.methodLink RX12 489 yX12_aliveOnes ∈ gws := gi8 92 (by decide +kernel) (by decide +kernel)
theorem ml_X12_492 : Cond.methodLink RX12 492 yX12_passFor ∈ gws := gi8 108 (by decide +kernel) (by decide +kernel)
theorem ml_X12_495 : Cond.methodLink RX12 495 yX12_readSum ∈ gws := gi8 128 (by decide +kernel) (by decide +kernel)
theorem ml_X12_513 : Cond.methodLink RX12 513 yX12_sumOf ∈ gws := gi8 139 (by decide +kernel) (by decide +kernel)
theorem ml_X12_516 : Cond.methodLink RX12 516 yX12_act ∈ gws := gi8 143 (by decide +kernel) (by decide +kernel)
theorem ml_X12_519 : Cond.methodLink RX12 519 yX12_readOrder ∈ gws := gi8 124 (by decide +kernel) (by decide +kernel)
theorem ml_X12_522 : Cond.methodLink RX12 522 yX12_run ∈ gws := gi8 135 (by decide +kernel) (by decide +kernel)
theorem ml_X12_525 : Cond.methodLink RX12 525 yX12_giveBack ∈ gws := gi8 147 (by decide +kernel) (by decide +kernel)
theorem ml_X12_537 : Cond.methodLink RX12 537 yX12_draw ∈ gws := gi8 159 (by decide +kernel) (by decide +kernel)
theorem ml_X12_540 : Cond.methodLink RX12 540 yX12_lowestYet ∈ gws := gi8 166 (by decide +kernel) (by decide +kernel)
theorem cs_X12_57 : Cond.constantLong RX12 57 (3124) ∈ gws := gi5 220 (by decide +kernel) (by decide +kernel)
theorem cs_X12_59 : Cond.constantLong RX12 59 (402629) ∈ gws := gi5 221 (by decide +kernel) (by decide +kernel)
theorem cs_X12_61 : Cond.constantLong RX12 61 (20452820) ∈ gws := gi5 222 (by decide +kernel) (by decide +kernel)
theorem cs_X12_63 : Cond.constantLong RX12 63 (5170) ∈ gws := gi5 223 (by decide +kernel) (by decide +kernel)
theorem cs_X12_65 : Cond.constantLong RX12 65 (245124) ∈ gws := gi5 224 (by decide +kernel) (by decide +kernel)
theorem cs_X12_67 : Cond.constantLong RX12 67 (631088) ∈ gws := gi5 225 (by decide +kernel) (by decide +kernel)
theorem cs_X12_69 : Cond.constantLong RX12 69 (824370) ∈ gws := gi5 226 (by decide +kernel) (by decide +kernel)
theorem cs_X12_71 : Cond.constantLong RX12 71 (441828) ∈ gws := gi5 227 (by decide +kernel) (by decide +kernel)
theorem cs_X12_77 : Cond.constantLong RX12 77 (146885) ∈ gws := gi5 228 (by decide +kernel) (by decide +kernel)
theorem cs_X12_79 : Cond.constantLong RX12 79 (404362868) ∈ gws := gi5 229 (by decide +kernel) (by decide +kernel)
theorem cs_X12_81 : Cond.constantLong RX12 81 (1451717) ∈ gws := gi5 230 (by decide +kernel) (by decide +kernel)
theorem cs_X12_83 : Cond.constantLong RX12 83 (116919) ∈ gws := gi5 231 (by decide +kernel) (by decide +kernel)
theorem cs_X12_88 : Cond.constantLong RX12 88 (5294547) ∈ gws := gi5 232 (by decide +kernel) (by decide +kernel)
theorem cs_X12_90 : Cond.constantLong RX12 90 (4245683) ∈ gws := gi5 233 (by decide +kernel) (by decide +kernel)
theorem cs_X12_92 : Cond.constantLong RX12 92 (20201203) ∈ gws := gi5 234 (by decide +kernel) (by decide +kernel)
theorem cs_X12_94 : Cond.constantLong RX12 94 (67155) ∈ gws := gi5 235 (by decide +kernel) (by decide +kernel)
theorem cs_X12_138 : Cond.constantLong RX12 138 (632046) ∈ gws := gi5 236 (by decide +kernel) (by decide +kernel)
theorem cs_X12_140 : Cond.constantLong RX12 140 (4389) ∈ gws := gi5 237 (by decide +kernel) (by decide +kernel)
theorem cs_X12_142 : Cond.constantLong RX12 142 (110896) ∈ gws := gi5 238 (by decide +kernel) (by decide +kernel)
theorem cs_X12_144 : Cond.constantLong RX12 144 (525939) ∈ gws := gi5 239 (by decide +kernel) (by decide +kernel)
theorem cs_X12_188 : Cond.constantLong RX12 188 (8) ∈ gws := gi6 220 (by decide +kernel) (by decide +kernel)
theorem cs_X12_204 : Cond.constantLong RX12 204 (9) ∈ gws := gi6 221 (by decide +kernel) (by decide +kernel)
theorem cs_X12_226 : Cond.constantLong RX12 226 (511) ∈ gws := gi7 47 (by decide +kernel) (by decide +kernel)
theorem cs_X12_240 : Cond.constantLong RX12 240 (999) ∈ gws := gi7 71 (by decide +kernel) (by decide +kernel)
theorem cs_X12_242 : Cond.constantLong RX12 242 (10) ∈ gws := gi7 72 (by decide +kernel) (by decide +kernel)
theorem cs_X12_283 : Cond.constantLong RX12 283 (32) ∈ gws := gi7 123 (by decide +kernel) (by decide +kernel)
theorem cs_X12_285 : Cond.constantLong RX12 285 (96) ∈ gws := gi7 124 (by decide +kernel) (by decide +kernel)
theorem cs_X12_287 : Cond.constantLong RX12 287 (-1) ∈ gws := gi7 25 (by decide +kernel) (by decide +kernel)
theorem cs_X12_289 : Cond.constantLong RX12 289 (1000000) ∈ gws := gi7 125 (by decide +kernel) (by decide +kernel)
theorem cs_X12_291 : Cond.constantLong RX12 291 (48) ∈ gws := gi7 126 (by decide +kernel) (by decide +kernel)
theorem cs_X12_310 : Cond.constantLong RX12 310 (20) ∈ gws := gi7 206 (by decide +kernel) (by decide +kernel)
theorem cs_X12_312 : Cond.constantLong RX12 312 (24) ∈ gws := gi7 207 (by decide +kernel) (by decide +kernel)
theorem cs_X12_314 : Cond.constantLong RX12 314 (25) ∈ gws := gi7 208 (by decide +kernel) (by decide +kernel)
theorem cs_X12_316 : Cond.constantLong RX12 316 (27) ∈ gws := gi7 209 (by decide +kernel) (by decide +kernel)
theorem cs_X12_347 : Cond.constantLong RX12 347 (1000) ∈ gws := gi7 172 (by decide +kernel) (by decide +kernel)
theorem cs_X12_353 : Cond.constantLong RX12 353 (2) ∈ gws := gi7 181 (by decide +kernel) (by decide +kernel)
theorem cs_X12_355 : Cond.constantLong RX12 355 (5) ∈ gws := gi7 182 (by decide +kernel) (by decide +kernel)
theorem cs_X12_361 : Cond.constantLong RX12 361 (14836) ∈ gws := gi7 147 (by decide +kernel) (by decide +kernel)
theorem cs_X12_376 : Cond.constantLong RX12 376 (1476) ∈ gws := gi7 214 (by decide +kernel) (by decide +kernel)
theorem cs_X12_378 : Cond.constantLong RX12 378 (498) ∈ gws := gi7 215 (by decide +kernel) (by decide +kernel)
theorem cs_X12_399 : Cond.constantLong RX12 399 (294) ∈ gws := gi7 216 (by decide +kernel) (by decide +kernel)
theorem cs_X12_423 : Cond.constantLong RX12 423 (-1000000000) ∈ gws := gi7 30 (by decide +kernel) (by decide +kernel)
theorem cs_X12_425 : Cond.constantLong RX12 425 (1000000000) ∈ gws := gi7 31 (by decide +kernel) (by decide +kernel)
theorem cs_X12_478 : Cond.constantLong RX12 478 (60) ∈ gws := gi8 57 (by decide +kernel) (by decide +kernel)
theorem cs_X12_480 : Cond.constantLong RX12 480 (1000000000000) ∈ gws := gi8 58 (by decide +kernel) (by decide +kernel)
theorem cs_X12_485 : Cond.constant RX12 485 (100000000) ∈ gws := gi8 79 (by decide +kernel) (by decide +kernel)
theorem cs_X12_498 : Cond.constantLong RX12 498 (494) ∈ gws := gi8 132 (by decide +kernel) (by decide +kernel)
theorem cs_X12_500 : Cond.constantLong RX12 500 (51) ∈ gws := gi8 133 (by decide +kernel) (by decide +kernel)
theorem cs_X12_502 : Cond.constantLong RX12 502 (21279923) ∈ gws := gi8 134 (by decide +kernel) (by decide +kernel)
theorem cs_X12_531 : Cond.constantLong RX12 531 (1103) ∈ gws := gi8 163 (by decide +kernel) (by decide +kernel)
theorem cs_X12_533 : Cond.constantLong RX12 533 (12345) ∈ gws := gi8 164 (by decide +kernel) (by decide +kernel)
theorem cs_X12_535 : Cond.constantLong RX12 535 (1000003) ∈ gws := gi8 165 (by decide +kernel) (by decide +kernel)
theorem cs_X12_543 : Cond.constantLong RX12 543 (13) ∈ gws := gi8 178 (by decide +kernel) (by decide +kernel)
theorem cs_X12_545 : Cond.constantLong RX12 545 (15) ∈ gws := gi8 179 (by decide +kernel) (by decide +kernel)
