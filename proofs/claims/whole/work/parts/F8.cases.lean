/-! the law: one call of both -/
section CASES
variable {E : En} {g : Hp} {μ : Mu} {l : La} {Q : Qg} {b L i cl sl : Nat} {xs : Nat → Int32} {nm : String}
abbrev mL (nm : String) : Mi := (⟨"NineLivesLaw", nm, "([I)Z"⟩, cL_law, 4, ret)
/-- the locals between two calls -/
abbrev lvL (E : En) (b i : Nat) : List (Nat × Value) := [(0, .ref b), (1, .ref (eZ E)), (2, .ref (eZ E + 102)), (3, .int (nI i))]
theorem lc_cat (hi : Inv E g μ l) (har : ArK E b L xs) (hL3 : L ≤ 3072) (hij : i + 6 ≤ L) (hcl : cl + 10 ≤ 6000) (hsl : sl + 869 ≤ 500000) (next : ∀ g2 μ2 l2 cl2 sl2, Inv E g2 μ2 l2 → cl2 ≤ cl + 10 → sl2 ≤ sl + 869 → Wp E (mL nm) room_1 Q 1154 (lvL E b i) [] g2 cl2 sl2) : Wp E (mL nm) room_1 Q 204 (lvL E b i) [] g cl sl := by
  obtain ⟨p1, c1, k1⟩ := tw_cat hi (xs (i + 1))
  refine r_aload_n (pc := 204) 1 dL_law_204 rfl ?_
  refine r_aload_n (pc := 205) 0 dL_law_205 rfl ?_
  refine r_iload_n (pc := 206) 3 dL_law_206 rfl ?_
  refine r_iconst (pc := 207) (1) dL_law_207 rfl ?_
  refine r_iadd (pc := 208) dL_law_208 ?_
  refine r_sld (pc := 209) (j := i + 1) har (nI_add i 1) (by omega) (by omega) dL_law_209 ?_
  refine r_callV (pc := 210) (As := [_]) mv_X11_cat ml_L_13 c1 (show isA E g (eZ E) 11 from ca_0 hi.1.1) rfl rfl (Nat.le_of_ble_eq_true rfl) (Nat.le_of_ble_eq_true rfl) (Nat.le_of_ble_eq_true rfl) (by show cl + 0 ≤ 600000; omega) (by show sl + 0 ≤ 7302250; omega) dL_law_210 (fun r1 h1 q1 => ?_)
  obtain ⟨v, rfl, p2, c2, hm1, k2⟩ := k1 r1 h1 q1
  show Wp E _ _ _ _ _ [.int v] _ _ _
  refine r_aload_n (pc := 213) 2 dL_law_213 rfl ?_
  refine r_aload_n (pc := 214) 0 dL_law_214 rfl ?_
  refine r_iload_n (pc := 215) 3 dL_law_215 rfl ?_
  refine r_iconst (pc := 216) (1) dL_law_216 rfl ?_
  refine r_iadd (pc := 217) dL_law_217 ?_
  refine r_sld (pc := 218) (j := i + 1) har (nI_add i 1) (by omega) (by omega) dL_law_218 ?_
  refine r_callV (pc := 219) (As := [_]) mv_X12_cat ml_L_17 c2 (md_is hm1) rfl rfl (Nat.le_of_ble_eq_true rfl) (Nat.le_of_ble_eq_true rfl) (Nat.le_of_ble_eq_true rfl) (by show cl + 0 + 0 ≤ 600000; omega) (by show sl + 0 + 0 ≤ 7302250; omega) dL_law_219 (fun r2 g2 q2 => ?_)
  obtain ⟨rfl, μ2, l2, hi2⟩ := k2 r2 g2 q2
  show Wp E _ _ _ _ _ [.int v, .int v] _ _ _
  refine r_icmp_eq (pc := 222) (tgt := 1154) dL_law_222 (by decide) (fun _ => next _ _ _ _ _ hi2 (by omega) (by omega)) (fun z => absurd rfl z)
theorem lc_of (hi : Inv E g μ l) (har : ArK E b L xs) (hL3 : L ≤ 3072) (hij : i + 6 ≤ L) (hcl : cl + 10 ≤ 6000) (hsl : sl + 869 ≤ 500000) (next : ∀ g2 μ2 l2 cl2 sl2, Inv E g2 μ2 l2 → cl2 ≤ cl + 10 → sl2 ≤ sl + 869 → Wp E (mL nm) room_1 Q 1154 (lvL E b i) [] g2 cl2 sl2) : Wp E (mL nm) room_1 Q 227 (lvL E b i) [] g cl sl := by
  obtain ⟨p1, c1, k1⟩ := tw_of hi (xs (i + 1)) (xs (i + 2))
  refine r_aload_n (pc := 227) 1 dL_law_227 rfl ?_
  refine r_aload_n (pc := 228) 0 dL_law_228 rfl ?_
  refine r_iload_n (pc := 229) 3 dL_law_229 rfl ?_
  refine r_iconst (pc := 230) (1) dL_law_230 rfl ?_
  refine r_iadd (pc := 231) dL_law_231 ?_
  refine r_sld (pc := 232) (j := i + 1) har (nI_add i 1) (by omega) (by omega) dL_law_232 ?_
  refine r_aload_n (pc := 233) 0 dL_law_233 rfl ?_
  refine r_iload_n (pc := 234) 3 dL_law_234 rfl ?_
  refine r_iconst (pc := 235) (2) dL_law_235 rfl ?_
  refine r_iadd (pc := 236) dL_law_236 ?_
  refine r_sld (pc := 237) (j := i + 2) har (nI_add i 2) (by omega) (by omega) dL_law_237 ?_
  refine r_callV (pc := 238) (As := [_, _]) mv_X11_of ml_L_18 c1 (show isA E g (eZ E) 11 from ca_0 hi.1.1) rfl rfl (Nat.le_of_ble_eq_true rfl) (Nat.le_of_ble_eq_true rfl) (Nat.le_of_ble_eq_true rfl) (by show cl + 0 ≤ 600000; omega) (by show sl + 0 ≤ 7302250; omega) dL_law_238 (fun r1 h1 q1 => ?_)
  obtain ⟨v, rfl, p2, c2, hm1, k2⟩ := k1 r1 h1 q1
  show Wp E _ _ _ _ _ [.int v] _ _ _
  refine r_aload_n (pc := 241) 2 dL_law_241 rfl ?_
  refine r_aload_n (pc := 242) 0 dL_law_242 rfl ?_
  refine r_iload_n (pc := 243) 3 dL_law_243 rfl ?_
  refine r_iconst (pc := 244) (1) dL_law_244 rfl ?_
  refine r_iadd (pc := 245) dL_law_245 ?_
  refine r_sld (pc := 246) (j := i + 1) har (nI_add i 1) (by omega) (by omega) dL_law_246 ?_
  refine r_aload_n (pc := 247) 0 dL_law_247 rfl ?_
  refine r_iload_n (pc := 248) 3 dL_law_248 rfl ?_
  refine r_iconst (pc := 249) (2) dL_law_249 rfl ?_
  refine r_iadd (pc := 250) dL_law_250 ?_
  refine r_sld (pc := 251) (j := i + 2) har (nI_add i 2) (by omega) (by omega) dL_law_251 ?_
  refine r_callV (pc := 252) (As := [_, _]) mv_X12_of ml_L_22 c2 (md_is hm1) rfl rfl (Nat.le_of_ble_eq_true rfl) (Nat.le_of_ble_eq_true rfl) (Nat.le_of_ble_eq_true rfl) (by show cl + 0 + 0 ≤ 600000; omega) (by show sl + 0 + 0 ≤ 7302250; omega) dL_law_252 (fun r2 g2 q2 => ?_)
  obtain ⟨rfl, μ2, l2, hi2⟩ := k2 r2 g2 q2
  show Wp E _ _ _ _ _ [.int v, .int v] _ _ _
  refine r_icmp_eq (pc := 255) (tgt := 1154) dL_law_255 (by decide) (fun _ => next _ _ _ _ _ hi2 (by omega) (by omega)) (fun z => absurd rfl z)
theorem lc_ship (hi : Inv E g μ l) (har : ArK E b L xs) (hL3 : L ≤ 3072) (hij : i + 6 ≤ L) (hcl : cl + 10 ≤ 6000) (hsl : sl + 869 ≤ 500000) (next : ∀ g2 μ2 l2 cl2 sl2, Inv E g2 μ2 l2 → cl2 ≤ cl + 10 → sl2 ≤ sl + 869 → Wp E (mL nm) room_1 Q 1154 (lvL E b i) [] g2 cl2 sl2) : Wp E (mL nm) room_1 Q 260 (lvL E b i) [] g cl sl := by
  obtain ⟨p1, c1, k1⟩ := tw_ship hi (xs (i + 1))
  refine r_aload_n (pc := 260) 1 dL_law_260 rfl ?_
  refine r_aload_n (pc := 261) 0 dL_law_261 rfl ?_
  refine r_iload_n (pc := 262) 3 dL_law_262 rfl ?_
  refine r_iconst (pc := 263) (1) dL_law_263 rfl ?_
  refine r_iadd (pc := 264) dL_law_264 ?_
  refine r_sld (pc := 265) (j := i + 1) har (nI_add i 1) (by omega) (by omega) dL_law_265 ?_
  refine r_callV (pc := 266) (As := [_]) mv_X11_ship ml_L_23 c1 (show isA E g (eZ E) 11 from ca_0 hi.1.1) rfl rfl (Nat.le_of_ble_eq_true rfl) (Nat.le_of_ble_eq_true rfl) (Nat.le_of_ble_eq_true rfl) (by show cl + 0 ≤ 600000; omega) (by show sl + 0 ≤ 7302250; omega) dL_law_266 (fun r1 h1 q1 => ?_)
  obtain ⟨v, rfl, p2, c2, hm1, k2⟩ := k1 r1 h1 q1
  show Wp E _ _ _ _ _ [.int v] _ _ _
  refine r_aload_n (pc := 269) 2 dL_law_269 rfl ?_
  refine r_aload_n (pc := 270) 0 dL_law_270 rfl ?_
  refine r_iload_n (pc := 271) 3 dL_law_271 rfl ?_
  refine r_iconst (pc := 272) (1) dL_law_272 rfl ?_
  refine r_iadd (pc := 273) dL_law_273 ?_
  refine r_sld (pc := 274) (j := i + 1) har (nI_add i 1) (by omega) (by omega) dL_law_274 ?_
  refine r_callV (pc := 275) (As := [_]) mv_X12_ship ml_L_26 c2 (md_is hm1) rfl rfl (Nat.le_of_ble_eq_true rfl) (Nat.le_of_ble_eq_true rfl) (Nat.le_of_ble_eq_true rfl) (by show cl + 0 + 0 ≤ 600000; omega) (by show sl + 0 + 0 ≤ 7302250; omega) dL_law_275 (fun r2 g2 q2 => ?_)
  obtain ⟨rfl, μ2, l2, hi2⟩ := k2 r2 g2 q2
  show Wp E _ _ _ _ _ [.int v, .int v] _ _ _
  refine r_icmp_eq (pc := 278) (tgt := 1154) dL_law_278 (by decide) (fun _ => next _ _ _ _ _ hi2 (by omega) (by omega)) (fun z => absurd rfl z)
theorem lc_at (hi : Inv E g μ l) (har : ArK E b L xs) (hL3 : L ≤ 3072) (hij : i + 6 ≤ L) (hcl : cl + 10 ≤ 6000) (hsl : sl + 869 ≤ 500000) (next : ∀ g2 μ2 l2 cl2 sl2, Inv E g2 μ2 l2 → cl2 ≤ cl + 10 → sl2 ≤ sl + 869 → Wp E (mL nm) room_1 Q 1154 (lvL E b i) [] g2 cl2 sl2) : Wp E (mL nm) room_1 Q 283 (lvL E b i) [] g cl sl := by
  obtain ⟨p1, c1, k1⟩ := tw_at hi (xs (i + 1)) (xs (i + 2))
  refine r_aload_n (pc := 283) 1 dL_law_283 rfl ?_
  refine r_aload_n (pc := 284) 0 dL_law_284 rfl ?_
  refine r_iload_n (pc := 285) 3 dL_law_285 rfl ?_
  refine r_iconst (pc := 286) (1) dL_law_286 rfl ?_
  refine r_iadd (pc := 287) dL_law_287 ?_
  refine r_sld (pc := 288) (j := i + 1) har (nI_add i 1) (by omega) (by omega) dL_law_288 ?_
  refine r_aload_n (pc := 289) 0 dL_law_289 rfl ?_
  refine r_iload_n (pc := 290) 3 dL_law_290 rfl ?_
  refine r_iconst (pc := 291) (2) dL_law_291 rfl ?_
  refine r_iadd (pc := 292) dL_law_292 ?_
  refine r_sld (pc := 293) (j := i + 2) har (nI_add i 2) (by omega) (by omega) dL_law_293 ?_
  refine r_callV (pc := 294) (As := [_, _]) mv_X11_at ml_L_27 c1 (show isA E g (eZ E) 11 from ca_0 hi.1.1) rfl rfl (Nat.le_of_ble_eq_true rfl) (Nat.le_of_ble_eq_true rfl) (Nat.le_of_ble_eq_true rfl) (by show cl + 0 ≤ 600000; omega) (by show sl + 0 ≤ 7302250; omega) dL_law_294 (fun r1 h1 q1 => ?_)
  obtain ⟨v, rfl, p2, c2, hm1, k2⟩ := k1 r1 h1 q1
  show Wp E _ _ _ _ _ [.int v] _ _ _
  refine r_aload_n (pc := 297) 2 dL_law_297 rfl ?_
  refine r_aload_n (pc := 298) 0 dL_law_298 rfl ?_
  refine r_iload_n (pc := 299) 3 dL_law_299 rfl ?_
  refine r_iconst (pc := 300) (1) dL_law_300 rfl ?_
  refine r_iadd (pc := 301) dL_law_301 ?_
  refine r_sld (pc := 302) (j := i + 1) har (nI_add i 1) (by omega) (by omega) dL_law_302 ?_
  refine r_aload_n (pc := 303) 0 dL_law_303 rfl ?_
  refine r_iload_n (pc := 304) 3 dL_law_304 rfl ?_
  refine r_iconst (pc := 305) (2) dL_law_305 rfl ?_
  refine r_iadd (pc := 306) dL_law_306 ?_
  refine r_sld (pc := 307) (j := i + 2) har (nI_add i 2) (by omega) (by omega) dL_law_307 ?_
  refine r_callV (pc := 308) (As := [_, _]) mv_X12_at ml_L_30 c2 (md_is hm1) rfl rfl (Nat.le_of_ble_eq_true rfl) (Nat.le_of_ble_eq_true rfl) (Nat.le_of_ble_eq_true rfl) (by show cl + 0 + 0 ≤ 600000; omega) (by show sl + 0 + 0 ≤ 7302250; omega) dL_law_308 (fun r2 g2 q2 => ?_)
  obtain ⟨rfl, μ2, l2, hi2⟩ := k2 r2 g2 q2
  show Wp E _ _ _ _ _ [.int v, .int v] _ _ _
  refine r_icmp_eq (pc := 311) (tgt := 1154) dL_law_311 (by decide) (fun _ => next _ _ _ _ _ hi2 (by omega) (by omega)) (fun z => absurd rfl z)
theorem lc_terms (hi : Inv E g μ l) (har : ArK E b L xs) (hL3 : L ≤ 3072) (hij : i + 6 ≤ L) (hcl : cl + 10 ≤ 6000) (hsl : sl + 869 ≤ 500000) {T : Nat} (hst : StK E "NineLives" "MOST_OF_TERM" "[I" (.ref T)) (haM : TaK E T 3 mostF) (next : ∀ g2 μ2 l2 cl2 sl2, Inv E g2 μ2 l2 → cl2 ≤ cl + 10 → sl2 ≤ sl + 869 → Wp E (mL nm) room_1 Q 1154 (lvL E b i) [] g2 cl2 sl2) : Wp E (mL nm) room_1 Q 316 (lvL E b i) [] g cl sl := by
  obtain ⟨p1, c1, k1⟩ := tw_terms hi hst haM (xs (i + 1)) (xs (i + 2))
  refine r_aload_n (pc := 316) 1 dL_law_316 rfl ?_
  refine r_aload_n (pc := 317) 0 dL_law_317 rfl ?_
  refine r_iload_n (pc := 318) 3 dL_law_318 rfl ?_
  refine r_iconst (pc := 319) (1) dL_law_319 rfl ?_
  refine r_iadd (pc := 320) dL_law_320 ?_
  refine r_sld (pc := 321) (j := i + 1) har (nI_add i 1) (by omega) (by omega) dL_law_321 ?_
  refine r_aload_n (pc := 322) 0 dL_law_322 rfl ?_
  refine r_iload_n (pc := 323) 3 dL_law_323 rfl ?_
  refine r_iconst (pc := 324) (2) dL_law_324 rfl ?_
  refine r_iadd (pc := 325) dL_law_325 ?_
  refine r_sld (pc := 326) (j := i + 2) har (nI_add i 2) (by omega) (by omega) dL_law_326 ?_
  refine r_callV (pc := 327) (As := [_, _]) mv_X11_terms ml_L_31 c1 (show isA E g (eZ E) 11 from ca_0 hi.1.1) rfl rfl (Nat.le_of_ble_eq_true rfl) (Nat.le_of_ble_eq_true rfl) (Nat.le_of_ble_eq_true rfl) (by show cl + 0 ≤ 600000; omega) (by show sl + 0 ≤ 7302250; omega) dL_law_327 (fun r1 h1 q1 => ?_)
  obtain ⟨v, rfl, p2, c2, hm1, k2⟩ := k1 r1 h1 q1
  show Wp E _ _ _ _ _ [.int v] _ _ _
  refine r_aload_n (pc := 330) 2 dL_law_330 rfl ?_
  refine r_aload_n (pc := 331) 0 dL_law_331 rfl ?_
  refine r_iload_n (pc := 332) 3 dL_law_332 rfl ?_
  refine r_iconst (pc := 333) (1) dL_law_333 rfl ?_
  refine r_iadd (pc := 334) dL_law_334 ?_
  refine r_sld (pc := 335) (j := i + 1) har (nI_add i 1) (by omega) (by omega) dL_law_335 ?_
  refine r_aload_n (pc := 336) 0 dL_law_336 rfl ?_
  refine r_iload_n (pc := 337) 3 dL_law_337 rfl ?_
  refine r_iconst (pc := 338) (2) dL_law_338 rfl ?_
  refine r_iadd (pc := 339) dL_law_339 ?_
  refine r_sld (pc := 340) (j := i + 2) har (nI_add i 2) (by omega) (by omega) dL_law_340 ?_
  refine r_callV (pc := 341) (As := [_, _]) mv_X12_terms ml_L_34 c2 (md_is hm1) rfl rfl (Nat.le_of_ble_eq_true rfl) (Nat.le_of_ble_eq_true rfl) (Nat.le_of_ble_eq_true rfl) (by show cl + 0 + 0 ≤ 600000; omega) (by show sl + 0 + 0 ≤ 7302250; omega) dL_law_341 (fun r2 g2 q2 => ?_)
  obtain ⟨rfl, μ2, l2, hi2⟩ := k2 r2 g2 q2
  show Wp E _ _ _ _ _ [.int v, .int v] _ _ _
  refine r_icmp_eq (pc := 344) (tgt := 1154) dL_law_344 (by decide) (fun _ => next _ _ _ _ _ hi2 (by omega) (by omega)) (fun z => absurd rfl z)
theorem lc_feed (hi : Inv E g μ l) (har : ArK E b L xs) (hL3 : L ≤ 3072) (hij : i + 6 ≤ L) (hcl : cl + 10 ≤ 6000) (hsl : sl + 869 ≤ 500000) (next : ∀ g2 μ2 l2 cl2 sl2, Inv E g2 μ2 l2 → cl2 ≤ cl + 10 → sl2 ≤ sl + 869 → Wp E (mL nm) room_1 Q 1154 (lvL E b i) [] g2 cl2 sl2) : Wp E (mL nm) room_1 Q 349 (lvL E b i) [] g cl sl := by
  obtain ⟨p1, c1, k1⟩ := tw_feed hi (xs (i + 1)) (xs (i + 2)) (xs (i + 3)) (xs (i + 4)) (xs (i + 5))
  refine r_aload_n (pc := 349) 1 dL_law_349 rfl ?_
  refine r_aload_n (pc := 350) 0 dL_law_350 rfl ?_
  refine r_iload_n (pc := 351) 3 dL_law_351 rfl ?_
  refine r_iconst (pc := 352) (1) dL_law_352 rfl ?_
  refine r_iadd (pc := 353) dL_law_353 ?_
  refine r_sld (pc := 354) (j := i + 1) har (nI_add i 1) (by omega) (by omega) dL_law_354 ?_
  refine r_aload_n (pc := 355) 0 dL_law_355 rfl ?_
  refine r_iload_n (pc := 356) 3 dL_law_356 rfl ?_
  refine r_iconst (pc := 357) (2) dL_law_357 rfl ?_
  refine r_iadd (pc := 358) dL_law_358 ?_
  refine r_sld (pc := 359) (j := i + 2) har (nI_add i 2) (by omega) (by omega) dL_law_359 ?_
  refine r_aload_n (pc := 360) 0 dL_law_360 rfl ?_
  refine r_iload_n (pc := 361) 3 dL_law_361 rfl ?_
  refine r_iconst (pc := 362) (3) dL_law_362 rfl ?_
  refine r_iadd (pc := 363) dL_law_363 ?_
  refine r_sld (pc := 364) (j := i + 3) har (nI_add i 3) (by omega) (by omega) dL_law_364 ?_
  refine r_aload_n (pc := 365) 0 dL_law_365 rfl ?_
  refine r_iload_n (pc := 366) 3 dL_law_366 rfl ?_
  refine r_iconst (pc := 367) (4) dL_law_367 rfl ?_
  refine r_iadd (pc := 368) dL_law_368 ?_
  refine r_sld (pc := 369) (j := i + 4) har (nI_add i 4) (by omega) (by omega) dL_law_369 ?_
  refine r_aload_n (pc := 370) 0 dL_law_370 rfl ?_
  refine r_iload_n (pc := 371) 3 dL_law_371 rfl ?_
  refine r_iconst (pc := 372) (5) dL_law_372 rfl ?_
  refine r_iadd (pc := 373) dL_law_373 ?_
  refine r_sld (pc := 374) (j := i + 5) har (nI_add i 5) (by omega) (by omega) dL_law_374 ?_
  refine r_callV (pc := 375) (As := [_, _, _, _, _]) mv_X11_feed ml_L_35 c1 (show isA E g (eZ E) 11 from ca_0 hi.1.1) rfl rfl (Nat.le_of_ble_eq_true rfl) (Nat.le_of_ble_eq_true rfl) (Nat.le_of_ble_eq_true rfl) (by show cl + 0 ≤ 600000; omega) (by show sl + 0 ≤ 7302250; omega) dL_law_375 (fun r1 h1 q1 => ?_)
  obtain ⟨v, rfl, p2, c2, hm1, k2⟩ := k1 r1 h1 q1
  show Wp E _ _ _ _ _ [.int v] _ _ _
  refine r_aload_n (pc := 378) 2 dL_law_378 rfl ?_
  refine r_aload_n (pc := 379) 0 dL_law_379 rfl ?_
  refine r_iload_n (pc := 380) 3 dL_law_380 rfl ?_
  refine r_iconst (pc := 381) (1) dL_law_381 rfl ?_
  refine r_iadd (pc := 382) dL_law_382 ?_
  refine r_sld (pc := 383) (j := i + 1) har (nI_add i 1) (by omega) (by omega) dL_law_383 ?_
  refine r_aload_n (pc := 384) 0 dL_law_384 rfl ?_
  refine r_iload_n (pc := 385) 3 dL_law_385 rfl ?_
  refine r_iconst (pc := 386) (2) dL_law_386 rfl ?_
  refine r_iadd (pc := 387) dL_law_387 ?_
  refine r_sld (pc := 388) (j := i + 2) har (nI_add i 2) (by omega) (by omega) dL_law_388 ?_
  refine r_aload_n (pc := 389) 0 dL_law_389 rfl ?_
  refine r_iload_n (pc := 390) 3 dL_law_390 rfl ?_
  refine r_iconst (pc := 391) (3) dL_law_391 rfl ?_
  refine r_iadd (pc := 392) dL_law_392 ?_
  refine r_sld (pc := 393) (j := i + 3) har (nI_add i 3) (by omega) (by omega) dL_law_393 ?_
  refine r_aload_n (pc := 394) 0 dL_law_394 rfl ?_
  refine r_iload_n (pc := 395) 3 dL_law_395 rfl ?_
  refine r_iconst (pc := 396) (4) dL_law_396 rfl ?_
  refine r_iadd (pc := 397) dL_law_397 ?_
  refine r_sld (pc := 398) (j := i + 4) har (nI_add i 4) (by omega) (by omega) dL_law_398 ?_
  refine r_aload_n (pc := 399) 0 dL_law_399 rfl ?_
  refine r_iload_n (pc := 400) 3 dL_law_400 rfl ?_
  refine r_iconst (pc := 401) (5) dL_law_401 rfl ?_
  refine r_iadd (pc := 402) dL_law_402 ?_
  refine r_sld (pc := 403) (j := i + 5) har (nI_add i 5) (by omega) (by omega) dL_law_403 ?_
  refine r_callV (pc := 404) (As := [_, _, _, _, _]) mv_X12_feed ml_L_39 c2 (md_is hm1) rfl rfl (Nat.le_of_ble_eq_true rfl) (Nat.le_of_ble_eq_true rfl) (Nat.le_of_ble_eq_true rfl) (by show cl + 0 + 0 ≤ 600000; omega) (by show sl + 0 + 0 ≤ 7302250; omega) dL_law_404 (fun r2 g2 q2 => ?_)
  obtain ⟨rfl, μ2, l2, hi2⟩ := k2 r2 g2 q2
  show Wp E _ _ _ _ _ [.int v, .int v] _ _ _
  refine r_icmp_eq (pc := 407) (tgt := 1154) dL_law_407 (by decide) (fun _ => next _ _ _ _ _ hi2 (by omega) (by omega)) (fun z => absurd rfl z)
theorem lc_end (hi : Inv E g μ l) (har : ArK E b L xs) (hL3 : L ≤ 3072) (hij : i + 6 ≤ L) (hcl : cl + 10 ≤ 6000) (hsl : sl + 869 ≤ 500000) (next : ∀ g2 μ2 l2 cl2 sl2, Inv E g2 μ2 l2 → cl2 ≤ cl + 10 → sl2 ≤ sl + 869 → Wp E (mL nm) room_1 Q 1154 (lvL E b i) [] g2 cl2 sl2) : Wp E (mL nm) room_1 Q 412 (lvL E b i) [] g cl sl := by
  obtain ⟨p1, c1, k1⟩ := tw_end hi (xs (i + 1))
  refine r_aload_n (pc := 412) 1 dL_law_412 rfl ?_
  refine r_aload_n (pc := 413) 0 dL_law_413 rfl ?_
  refine r_iload_n (pc := 414) 3 dL_law_414 rfl ?_
  refine r_iconst (pc := 415) (1) dL_law_415 rfl ?_
  refine r_iadd (pc := 416) dL_law_416 ?_
  refine r_sld (pc := 417) (j := i + 1) har (nI_add i 1) (by omega) (by omega) dL_law_417 ?_
  refine r_callV (pc := 418) (As := [_]) mv_X11_end ml_L_40 c1 (show isA E g (eZ E) 11 from ca_0 hi.1.1) rfl rfl (Nat.le_of_ble_eq_true rfl) (Nat.le_of_ble_eq_true rfl) (Nat.le_of_ble_eq_true rfl) (by show cl + 0 ≤ 600000; omega) (by show sl + 0 ≤ 7302250; omega) dL_law_418 (fun r1 h1 q1 => ?_)
  obtain ⟨v, rfl, p2, c2, hm1, k2⟩ := k1 r1 h1 q1
  show Wp E _ _ _ _ _ [.int v] _ _ _
  refine r_aload_n (pc := 421) 2 dL_law_421 rfl ?_
  refine r_aload_n (pc := 422) 0 dL_law_422 rfl ?_
  refine r_iload_n (pc := 423) 3 dL_law_423 rfl ?_
  refine r_iconst (pc := 424) (1) dL_law_424 rfl ?_
  refine r_iadd (pc := 425) dL_law_425 ?_
  refine r_sld (pc := 426) (j := i + 1) har (nI_add i 1) (by omega) (by omega) dL_law_426 ?_
  refine r_callV (pc := 427) (As := [_]) mv_X12_end ml_L_43 c2 (md_is hm1) rfl rfl (Nat.le_of_ble_eq_true rfl) (Nat.le_of_ble_eq_true rfl) (Nat.le_of_ble_eq_true rfl) (by show cl + 0 + 0 ≤ 600000; omega) (by show sl + 0 + 0 ≤ 7302250; omega) dL_law_427 (fun r2 g2 q2 => ?_)
  obtain ⟨rfl, μ2, l2, hi2⟩ := k2 r2 g2 q2
  show Wp E _ _ _ _ _ [.int v, .int v] _ _ _
  refine r_icmp_eq (pc := 430) (tgt := 1154) dL_law_430 (by decide) (fun _ => next _ _ _ _ _ hi2 (by omega) (by omega)) (fun z => absurd rfl z)
theorem lc_row (hi : Inv E g μ l) (har : ArK E b L xs) (hL3 : L ≤ 3072) (hij : i + 6 ≤ L) (hcl : cl + 10 ≤ 6000) (hsl : sl + 869 ≤ 500000) (next : ∀ g2 μ2 l2 cl2 sl2, Inv E g2 μ2 l2 → cl2 ≤ cl + 10 → sl2 ≤ sl + 869 → Wp E (mL nm) room_1 Q 1154 (lvL E b i) [] g2 cl2 sl2) : Wp E (mL nm) room_1 Q 435 (lvL E b i) [] g cl sl := by
  obtain ⟨p1, c1, k1⟩ := tw_row hi
  refine r_aload_n (pc := 435) 1 dL_law_435 rfl ?_
  refine r_callV (pc := 436) (As := []) mv_X11_row ml_L_44 c1 (show isA E g (eZ E) 11 from ca_0 hi.1.1) rfl rfl (Nat.le_of_ble_eq_true rfl) (Nat.le_of_ble_eq_true rfl) (Nat.le_of_ble_eq_true rfl) (by show cl + 0 ≤ 600000; omega) (by show sl + 0 ≤ 7302250; omega) dL_law_436 (fun r1 h1 q1 => ?_)
  obtain ⟨v, rfl, p2, c2, hm1, k2⟩ := k1 r1 h1 q1
  show Wp E _ _ _ _ _ [.int v] _ _ _
  refine r_aload_n (pc := 439) 2 dL_law_439 rfl ?_
  refine r_callV (pc := 440) (As := []) mv_X12_row ml_L_48 c2 (md_is hm1) rfl rfl (Nat.le_of_ble_eq_true rfl) (Nat.le_of_ble_eq_true rfl) (Nat.le_of_ble_eq_true rfl) (by show cl + 0 + 0 ≤ 600000; omega) (by show sl + 0 + 0 ≤ 7302250; omega) dL_law_440 (fun r2 g2 q2 => ?_)
  obtain ⟨rfl, μ2, l2, hi2⟩ := k2 r2 g2 q2
  show Wp E _ _ _ _ _ [.int v, .int v] _ _ _
  refine r_icmp_eq (pc := 443) (tgt := 1154) dL_law_443 (by decide) (fun _ => next _ _ _ _ _ hi2 (by omega) (by omega)) (fun z => absurd rfl z)
theorem lc_mice (hi : Inv E g μ l) (har : ArK E b L xs) (hL3 : L ≤ 3072) (hij : i + 6 ≤ L) (hcl : cl + 10 ≤ 6000) (hsl : sl + 869 ≤ 500000) (next : ∀ g2 μ2 l2 cl2 sl2, Inv E g2 μ2 l2 → cl2 ≤ cl + 10 → sl2 ≤ sl + 869 → Wp E (mL nm) room_1 Q 1154 (lvL E b i) [] g2 cl2 sl2) : Wp E (mL nm) room_1 Q 448 (lvL E b i) [] g cl sl := by
  obtain ⟨p1, c1, k1⟩ := tw_mice hi
  refine r_aload_n (pc := 448) 1 dL_law_448 rfl ?_
  refine r_callV (pc := 449) (As := []) mv_X11_mice ml_L_49 c1 (show isA E g (eZ E) 11 from ca_0 hi.1.1) rfl rfl (Nat.le_of_ble_eq_true rfl) (Nat.le_of_ble_eq_true rfl) (Nat.le_of_ble_eq_true rfl) (by show cl + 0 ≤ 600000; omega) (by show sl + 0 ≤ 7302250; omega) dL_law_449 (fun r1 h1 q1 => ?_)
  obtain ⟨v, rfl, p2, c2, hm1, k2⟩ := k1 r1 h1 q1
  show Wp E _ _ _ _ _ [.int v] _ _ _
  refine r_aload_n (pc := 452) 2 dL_law_452 rfl ?_
  refine r_callV (pc := 453) (As := []) mv_X12_mice ml_L_52 c2 (md_is hm1) rfl rfl (Nat.le_of_ble_eq_true rfl) (Nat.le_of_ble_eq_true rfl) (Nat.le_of_ble_eq_true rfl) (by show cl + 0 + 0 ≤ 600000; omega) (by show sl + 0 + 0 ≤ 7302250; omega) dL_law_453 (fun r2 g2 q2 => ?_)
  obtain ⟨rfl, μ2, l2, hi2⟩ := k2 r2 g2 q2
  show Wp E _ _ _ _ _ [.int v, .int v] _ _ _
  refine r_icmp_eq (pc := 456) (tgt := 1154) dL_law_456 (by decide) (fun _ => next _ _ _ _ _ hi2 (by omega) (by omega)) (fun z => absurd rfl z)
theorem lc_law (hi : Inv E g μ l) (har : ArK E b L xs) (hL3 : L ≤ 3072) (hij : i + 6 ≤ L) (hcl : cl + 10 ≤ 6000) (hsl : sl + 869 ≤ 500000) (next : ∀ g2 μ2 l2 cl2 sl2, Inv E g2 μ2 l2 → cl2 ≤ cl + 10 → sl2 ≤ sl + 869 → Wp E (mL nm) room_1 Q 1154 (lvL E b i) [] g2 cl2 sl2) : Wp E (mL nm) room_1 Q 461 (lvL E b i) [] g cl sl := by
  obtain ⟨p1, c1, k1⟩ := tw_law hi
  refine r_aload_n (pc := 461) 1 dL_law_461 rfl ?_
  refine r_callV (pc := 462) (As := []) mv_X11_law ml_L_53 c1 (show isA E g (eZ E) 11 from ca_0 hi.1.1) rfl rfl (Nat.le_of_ble_eq_true rfl) (Nat.le_of_ble_eq_true rfl) (Nat.le_of_ble_eq_true rfl) (by show cl + 6 ≤ 600000; omega) (by show sl + 869 ≤ 7302250; omega) dL_law_462 (fun r1 h1 q1 => ?_)
  obtain ⟨v, rfl, p2, c2, hm1, k2⟩ := k1 r1 h1 q1
  show Wp E _ _ _ _ _ [.int v] _ _ _
  refine r_aload_n (pc := 465) 2 dL_law_465 rfl ?_
  refine r_callV (pc := 466) (As := []) mv_X12_law ml_L_56 c2 (md_is hm1) rfl rfl (Nat.le_of_ble_eq_true rfl) (Nat.le_of_ble_eq_true rfl) (Nat.le_of_ble_eq_true rfl) (by show cl + 6 + 0 ≤ 600000; omega) (by show sl + 869 + 0 ≤ 7302250; omega) dL_law_466 (fun r2 g2 q2 => ?_)
  obtain ⟨rfl, μ2, l2, hi2⟩ := k2 r2 g2 q2
  show Wp E _ _ _ _ _ [.int v, .int v] _ _ _
  refine r_icmp_eq (pc := 469) (tgt := 1154) dL_law_469 (by decide) (fun _ => next _ _ _ _ _ hi2 (by omega) (by omega)) (fun z => absurd rfl z)
theorem lc_orders (hi : Inv E g μ l) (har : ArK E b L xs) (hL3 : L ≤ 3072) (hij : i + 6 ≤ L) (hcl : cl + 10 ≤ 6000) (hsl : sl + 869 ≤ 500000) (next : ∀ g2 μ2 l2 cl2 sl2, Inv E g2 μ2 l2 → cl2 ≤ cl + 10 → sl2 ≤ sl + 869 → Wp E (mL nm) room_1 Q 1154 (lvL E b i) [] g2 cl2 sl2) : Wp E (mL nm) room_1 Q 474 (lvL E b i) [] g cl sl := by
  obtain ⟨p1, c1, k1⟩ := tw_orders hi
  refine r_aload_n (pc := 474) 1 dL_law_474 rfl ?_
  refine r_callV (pc := 475) (As := []) mv_X11_orders ml_L_57 c1 (show isA E g (eZ E) 11 from ca_0 hi.1.1) rfl rfl (Nat.le_of_ble_eq_true rfl) (Nat.le_of_ble_eq_true rfl) (Nat.le_of_ble_eq_true rfl) (by show cl + 0 ≤ 600000; omega) (by show sl + 0 ≤ 7302250; omega) dL_law_475 (fun r1 h1 q1 => ?_)
  obtain ⟨v, rfl, p2, c2, hm1, k2⟩ := k1 r1 h1 q1
  show Wp E _ _ _ _ _ [.int v] _ _ _
  refine r_aload_n (pc := 478) 2 dL_law_478 rfl ?_
  refine r_callV (pc := 479) (As := []) mv_X12_orders ml_L_60 c2 (md_is hm1) rfl rfl (Nat.le_of_ble_eq_true rfl) (Nat.le_of_ble_eq_true rfl) (Nat.le_of_ble_eq_true rfl) (by show cl + 0 + 0 ≤ 600000; omega) (by show sl + 0 + 0 ≤ 7302250; omega) dL_law_479 (fun r2 g2 q2 => ?_)
  obtain ⟨rfl, μ2, l2, hi2⟩ := k2 r2 g2 q2
  show Wp E _ _ _ _ _ [.int v, .int v] _ _ _
  refine r_icmp_eq (pc := 482) (tgt := 1154) dL_law_482 (by decide) (fun _ => next _ _ _ _ _ hi2 (by omega) (by omega)) (fun z => absurd rfl z)
theorem lc_fault (hi : Inv E g μ l) (har : ArK E b L xs) (hL3 : L ≤ 3072) (hij : i + 6 ≤ L) (hcl : cl + 10 ≤ 6000) (hsl : sl + 869 ≤ 500000) (next : ∀ g2 μ2 l2 cl2 sl2, Inv E g2 μ2 l2 → cl2 ≤ cl + 10 → sl2 ≤ sl + 869 → Wp E (mL nm) room_1 Q 1154 (lvL E b i) [] g2 cl2 sl2) : Wp E (mL nm) room_1 Q 487 (lvL E b i) [] g cl sl := by
  obtain ⟨p1, c1, k1⟩ := tw_fault hi
  refine r_aload_n (pc := 487) 1 dL_law_487 rfl ?_
  refine r_callV (pc := 488) (As := []) mv_X11_fault ml_L_61 c1 (show isA E g (eZ E) 11 from ca_0 hi.1.1) rfl rfl (Nat.le_of_ble_eq_true rfl) (Nat.le_of_ble_eq_true rfl) (Nat.le_of_ble_eq_true rfl) (by show cl + 0 ≤ 600000; omega) (by show sl + 0 ≤ 7302250; omega) dL_law_488 (fun r1 h1 q1 => ?_)
  obtain ⟨v, rfl, p2, c2, hm1, k2⟩ := k1 r1 h1 q1
  show Wp E _ _ _ _ _ [.int v] _ _ _
  refine r_aload_n (pc := 491) 2 dL_law_491 rfl ?_
  refine r_callV (pc := 492) (As := []) mv_X12_fault ml_L_64 c2 (md_is hm1) rfl rfl (Nat.le_of_ble_eq_true rfl) (Nat.le_of_ble_eq_true rfl) (Nat.le_of_ble_eq_true rfl) (by show cl + 0 + 0 ≤ 600000; omega) (by show sl + 0 + 0 ≤ 7302250; omega) dL_law_492 (fun r2 g2 q2 => ?_)
  obtain ⟨rfl, μ2, l2, hi2⟩ := k2 r2 g2 q2
  show Wp E _ _ _ _ _ [.int v, .int v] _ _ _
  refine r_icmp_eq (pc := 495) (tgt := 1154) dL_law_495 (by decide) (fun _ => next _ _ _ _ _ hi2 (by omega) (by omega)) (fun z => absurd rfl z)
theorem lc_stopped (hi : Inv E g μ l) (har : ArK E b L xs) (hL3 : L ≤ 3072) (hij : i + 6 ≤ L) (hcl : cl + 10 ≤ 6000) (hsl : sl + 869 ≤ 500000) (next : ∀ g2 μ2 l2 cl2 sl2, Inv E g2 μ2 l2 → cl2 ≤ cl + 10 → sl2 ≤ sl + 869 → Wp E (mL nm) room_1 Q 1154 (lvL E b i) [] g2 cl2 sl2) : Wp E (mL nm) room_1 Q 500 (lvL E b i) [] g cl sl := by
  obtain ⟨p1, c1, k1⟩ := tw_stopped hi
  refine r_aload_n (pc := 500) 1 dL_law_500 rfl ?_
  refine r_callV (pc := 501) (As := []) mv_X11_stopped ml_L_65 c1 (show isA E g (eZ E) 11 from ca_0 hi.1.1) rfl rfl (Nat.le_of_ble_eq_true rfl) (Nat.le_of_ble_eq_true rfl) (Nat.le_of_ble_eq_true rfl) (by show cl + 0 ≤ 600000; omega) (by show sl + 0 ≤ 7302250; omega) dL_law_501 (fun r1 h1 q1 => ?_)
  obtain ⟨v, rfl, p2, c2, hm1, k2⟩ := k1 r1 h1 q1
  show Wp E _ _ _ _ _ [.int v] _ _ _
  refine r_aload_n (pc := 504) 2 dL_law_504 rfl ?_
  refine r_callV (pc := 505) (As := []) mv_X12_stopped ml_L_68 c2 (md_is hm1) rfl rfl (Nat.le_of_ble_eq_true rfl) (Nat.le_of_ble_eq_true rfl) (Nat.le_of_ble_eq_true rfl) (by show cl + 0 + 0 ≤ 600000; omega) (by show sl + 0 + 0 ≤ 7302250; omega) dL_law_505 (fun r2 g2 q2 => ?_)
  obtain ⟨rfl, μ2, l2, hi2⟩ := k2 r2 g2 q2
  show Wp E _ _ _ _ _ [.int v, .int v] _ _ _
  refine r_icmp_eq (pc := 508) (tgt := 1154) dL_law_508 (by decide) (fun _ => next _ _ _ _ _ hi2 (by omega) (by omega)) (fun z => absurd rfl z)
theorem lc_force (hi : Inv E g μ l) (har : ArK E b L xs) (hL3 : L ≤ 3072) (hij : i + 6 ≤ L) (hcl : cl + 10 ≤ 6000) (hsl : sl + 869 ≤ 500000) (next : ∀ g2 μ2 l2 cl2 sl2, Inv E g2 μ2 l2 → cl2 ≤ cl + 10 → sl2 ≤ sl + 869 → Wp E (mL nm) room_1 Q 1154 (lvL E b i) [] g2 cl2 sl2) : Wp E (mL nm) room_1 Q 513 (lvL E b i) [] g cl sl := by
  obtain ⟨p1, c1, k1⟩ := tw_force hi (xs (i + 1))
  refine r_aload_n (pc := 513) 1 dL_law_513 rfl ?_
  refine r_aload_n (pc := 514) 0 dL_law_514 rfl ?_
  refine r_iload_n (pc := 515) 3 dL_law_515 rfl ?_
  refine r_iconst (pc := 516) (1) dL_law_516 rfl ?_
  refine r_iadd (pc := 517) dL_law_517 ?_
  refine r_sld (pc := 518) (j := i + 1) har (nI_add i 1) (by omega) (by omega) dL_law_518 ?_
  refine r_callV (pc := 519) (As := [_]) mv_X11_force ml_L_69 c1 (show isA E g (eZ E) 11 from ca_0 hi.1.1) rfl rfl (Nat.le_of_ble_eq_true rfl) (Nat.le_of_ble_eq_true rfl) (Nat.le_of_ble_eq_true rfl) (by show cl + 0 ≤ 600000; omega) (by show sl + 0 ≤ 7302250; omega) dL_law_519 (fun r1 h1 q1 => ?_)
  obtain ⟨v, rfl, p2, c2, hm1, k2⟩ := k1 r1 h1 q1
  show Wp E _ _ _ _ _ [.int v] _ _ _
  refine r_aload_n (pc := 522) 2 dL_law_522 rfl ?_
  refine r_aload_n (pc := 523) 0 dL_law_523 rfl ?_
  refine r_iload_n (pc := 524) 3 dL_law_524 rfl ?_
  refine r_iconst (pc := 525) (1) dL_law_525 rfl ?_
  refine r_iadd (pc := 526) dL_law_526 ?_
  refine r_sld (pc := 527) (j := i + 1) har (nI_add i 1) (by omega) (by omega) dL_law_527 ?_
  refine r_callV (pc := 528) (As := [_]) mv_X12_force ml_L_72 c2 (md_is hm1) rfl rfl (Nat.le_of_ble_eq_true rfl) (Nat.le_of_ble_eq_true rfl) (Nat.le_of_ble_eq_true rfl) (by show cl + 0 + 0 ≤ 600000; omega) (by show sl + 0 + 0 ≤ 7302250; omega) dL_law_528 (fun r2 g2 q2 => ?_)
  obtain ⟨rfl, μ2, l2, hi2⟩ := k2 r2 g2 q2
  show Wp E _ _ _ _ _ [.int v, .int v] _ _ _
  refine r_icmp_eq (pc := 531) (tgt := 1154) dL_law_531 (by decide) (fun _ => next _ _ _ _ _ hi2 (by omega) (by omega)) (fun z => absurd rfl z)
theorem lc_sign (hi : Inv E g μ l) (har : ArK E b L xs) (hL3 : L ≤ 3072) (hij : i + 6 ≤ L) (hcl : cl + 10 ≤ 6000) (hsl : sl + 869 ≤ 500000) (next : ∀ g2 μ2 l2 cl2 sl2, Inv E g2 μ2 l2 → cl2 ≤ cl + 10 → sl2 ≤ sl + 869 → Wp E (mL nm) room_1 Q 1154 (lvL E b i) [] g2 cl2 sl2) : Wp E (mL nm) room_1 Q 536 (lvL E b i) [] g cl sl := by
  obtain ⟨p1, c1, k1⟩ := tw_sign hi (xs (i + 1)) (xs (i + 2))
  refine r_aload_n (pc := 536) 1 dL_law_536 rfl ?_
  refine r_aload_n (pc := 537) 0 dL_law_537 rfl ?_
  refine r_iload_n (pc := 538) 3 dL_law_538 rfl ?_
  refine r_iconst (pc := 539) (1) dL_law_539 rfl ?_
  refine r_iadd (pc := 540) dL_law_540 ?_
  refine r_sld (pc := 541) (j := i + 1) har (nI_add i 1) (by omega) (by omega) dL_law_541 ?_
  refine r_aload_n (pc := 542) 0 dL_law_542 rfl ?_
  refine r_iload_n (pc := 543) 3 dL_law_543 rfl ?_
  refine r_iconst (pc := 544) (2) dL_law_544 rfl ?_
  refine r_iadd (pc := 545) dL_law_545 ?_
  refine r_sld (pc := 546) (j := i + 2) har (nI_add i 2) (by omega) (by omega) dL_law_546 ?_
  refine r_callV (pc := 547) (As := [_, _]) mv_X11_sign ml_L_73 c1 (show isA E g (eZ E) 11 from ca_0 hi.1.1) rfl rfl (Nat.le_of_ble_eq_true rfl) (Nat.le_of_ble_eq_true rfl) (Nat.le_of_ble_eq_true rfl) (by show cl + 0 ≤ 600000; omega) (by show sl + 0 ≤ 7302250; omega) dL_law_547 (fun r1 h1 q1 => ?_)
  obtain ⟨v, rfl, p2, c2, hm1, k2⟩ := k1 r1 h1 q1
  show Wp E _ _ _ _ _ [.int v] _ _ _
  refine r_aload_n (pc := 550) 2 dL_law_550 rfl ?_
  refine r_aload_n (pc := 551) 0 dL_law_551 rfl ?_
  refine r_iload_n (pc := 552) 3 dL_law_552 rfl ?_
  refine r_iconst (pc := 553) (1) dL_law_553 rfl ?_
  refine r_iadd (pc := 554) dL_law_554 ?_
  refine r_sld (pc := 555) (j := i + 1) har (nI_add i 1) (by omega) (by omega) dL_law_555 ?_
  refine r_aload_n (pc := 556) 0 dL_law_556 rfl ?_
  refine r_iload_n (pc := 557) 3 dL_law_557 rfl ?_
  refine r_iconst (pc := 558) (2) dL_law_558 rfl ?_
  refine r_iadd (pc := 559) dL_law_559 ?_
  refine r_sld (pc := 560) (j := i + 2) har (nI_add i 2) (by omega) (by omega) dL_law_560 ?_
  refine r_callV (pc := 561) (As := [_, _]) mv_X12_sign ml_L_76 c2 (md_is hm1) rfl rfl (Nat.le_of_ble_eq_true rfl) (Nat.le_of_ble_eq_true rfl) (Nat.le_of_ble_eq_true rfl) (by show cl + 0 + 0 ≤ 600000; omega) (by show sl + 0 + 0 ≤ 7302250; omega) dL_law_561 (fun r2 g2 q2 => ?_)
  obtain ⟨rfl, μ2, l2, hi2⟩ := k2 r2 g2 q2
  show Wp E _ _ _ _ _ [.int v, .int v] _ _ _
  refine r_icmp_eq (pc := 564) (tgt := 1154) dL_law_564 (by decide) (fun _ => next _ _ _ _ _ hi2 (by omega) (by omega)) (fun z => absurd rfl z)
theorem lc_die (hi : Inv E g μ l) (har : ArK E b L xs) (hL3 : L ≤ 3072) (hij : i + 6 ≤ L) (hcl : cl + 10 ≤ 6000) (hsl : sl + 869 ≤ 500000) (next : ∀ g2 μ2 l2 cl2 sl2, Inv E g2 μ2 l2 → cl2 ≤ cl + 10 → sl2 ≤ sl + 869 → Wp E (mL nm) room_1 Q 1154 (lvL E b i) [] g2 cl2 sl2) : Wp E (mL nm) room_1 Q 569 (lvL E b i) [] g cl sl := by
  obtain ⟨p1, c1, k1⟩ := tw_die hi (xs (i + 1)) (xs (i + 2))
  refine r_aload_n (pc := 569) 1 dL_law_569 rfl ?_
  refine r_aload_n (pc := 570) 0 dL_law_570 rfl ?_
  refine r_iload_n (pc := 571) 3 dL_law_571 rfl ?_
  refine r_iconst (pc := 572) (1) dL_law_572 rfl ?_
  refine r_iadd (pc := 573) dL_law_573 ?_
  refine r_sld (pc := 574) (j := i + 1) har (nI_add i 1) (by omega) (by omega) dL_law_574 ?_
  refine r_aload_n (pc := 575) 0 dL_law_575 rfl ?_
  refine r_iload_n (pc := 576) 3 dL_law_576 rfl ?_
  refine r_iconst (pc := 577) (2) dL_law_577 rfl ?_
  refine r_iadd (pc := 578) dL_law_578 ?_
  refine r_sld (pc := 579) (j := i + 2) har (nI_add i 2) (by omega) (by omega) dL_law_579 ?_
  refine r_callV (pc := 580) (As := [_, _]) mv_X11_die ml_L_77 c1 (show isA E g (eZ E) 11 from ca_0 hi.1.1) rfl rfl (Nat.le_of_ble_eq_true rfl) (Nat.le_of_ble_eq_true rfl) (Nat.le_of_ble_eq_true rfl) (by show cl + 0 ≤ 600000; omega) (by show sl + 0 ≤ 7302250; omega) dL_law_580 (fun r1 h1 q1 => ?_)
  obtain ⟨v, rfl, p2, c2, hm1, k2⟩ := k1 r1 h1 q1
  show Wp E _ _ _ _ _ [.int v] _ _ _
  refine r_aload_n (pc := 583) 2 dL_law_583 rfl ?_
  refine r_aload_n (pc := 584) 0 dL_law_584 rfl ?_
  refine r_iload_n (pc := 585) 3 dL_law_585 rfl ?_
  refine r_iconst (pc := 586) (1) dL_law_586 rfl ?_
  refine r_iadd (pc := 587) dL_law_587 ?_
  refine r_sld (pc := 588) (j := i + 1) har (nI_add i 1) (by omega) (by omega) dL_law_588 ?_
  refine r_aload_n (pc := 589) 0 dL_law_589 rfl ?_
  refine r_iload_n (pc := 590) 3 dL_law_590 rfl ?_
  refine r_iconst (pc := 591) (2) dL_law_591 rfl ?_
  refine r_iadd (pc := 592) dL_law_592 ?_
  refine r_sld (pc := 593) (j := i + 2) har (nI_add i 2) (by omega) (by omega) dL_law_593 ?_
  refine r_callV (pc := 594) (As := [_, _]) mv_X12_die ml_L_80 c2 (md_is hm1) rfl rfl (Nat.le_of_ble_eq_true rfl) (Nat.le_of_ble_eq_true rfl) (Nat.le_of_ble_eq_true rfl) (by show cl + 0 + 0 ≤ 600000; omega) (by show sl + 0 + 0 ≤ 7302250; omega) dL_law_594 (fun r2 g2 q2 => ?_)
  obtain ⟨rfl, μ2, l2, hi2⟩ := k2 r2 g2 q2
  show Wp E _ _ _ _ _ [.int v, .int v] _ _ _
  refine r_icmp_eq (pc := 597) (tgt := 1154) dL_law_597 (by decide) (fun _ => next _ _ _ _ _ hi2 (by omega) (by omega)) (fun z => absurd rfl z)
theorem lc_clip (hi : Inv E g μ l) (har : ArK E b L xs) (hL3 : L ≤ 3072) (hij : i + 6 ≤ L) (hcl : cl + 10 ≤ 6000) (hsl : sl + 869 ≤ 500000) (next : ∀ g2 μ2 l2 cl2 sl2, Inv E g2 μ2 l2 → cl2 ≤ cl + 10 → sl2 ≤ sl + 869 → Wp E (mL nm) room_1 Q 1154 (lvL E b i) [] g2 cl2 sl2) : Wp E (mL nm) room_1 Q 602 (lvL E b i) [] g cl sl := by
  obtain ⟨p1, c1, k1⟩ := tw_clip hi (xs (i + 1)) (xs (i + 2))
  refine r_aload_n (pc := 602) 1 dL_law_602 rfl ?_
  refine r_aload_n (pc := 603) 0 dL_law_603 rfl ?_
  refine r_iload_n (pc := 604) 3 dL_law_604 rfl ?_
  refine r_iconst (pc := 605) (1) dL_law_605 rfl ?_
  refine r_iadd (pc := 606) dL_law_606 ?_
  refine r_sld (pc := 607) (j := i + 1) har (nI_add i 1) (by omega) (by omega) dL_law_607 ?_
  refine r_aload_n (pc := 608) 0 dL_law_608 rfl ?_
  refine r_iload_n (pc := 609) 3 dL_law_609 rfl ?_
  refine r_iconst (pc := 610) (2) dL_law_610 rfl ?_
  refine r_iadd (pc := 611) dL_law_611 ?_
  refine r_sld (pc := 612) (j := i + 2) har (nI_add i 2) (by omega) (by omega) dL_law_612 ?_
  refine r_callV (pc := 613) (As := [_, _]) mv_X11_clip ml_L_81 c1 (show isA E g (eZ E) 11 from ca_0 hi.1.1) rfl rfl (Nat.le_of_ble_eq_true rfl) (Nat.le_of_ble_eq_true rfl) (Nat.le_of_ble_eq_true rfl) (by show cl + 0 ≤ 600000; omega) (by show sl + 0 ≤ 7302250; omega) dL_law_613 (fun r1 h1 q1 => ?_)
  obtain ⟨v, rfl, p2, c2, hm1, k2⟩ := k1 r1 h1 q1
  show Wp E _ _ _ _ _ [.int v] _ _ _
  refine r_aload_n (pc := 616) 2 dL_law_616 rfl ?_
  refine r_aload_n (pc := 617) 0 dL_law_617 rfl ?_
  refine r_iload_n (pc := 618) 3 dL_law_618 rfl ?_
  refine r_iconst (pc := 619) (1) dL_law_619 rfl ?_
  refine r_iadd (pc := 620) dL_law_620 ?_
  refine r_sld (pc := 621) (j := i + 1) har (nI_add i 1) (by omega) (by omega) dL_law_621 ?_
  refine r_aload_n (pc := 622) 0 dL_law_622 rfl ?_
  refine r_iload_n (pc := 623) 3 dL_law_623 rfl ?_
  refine r_iconst (pc := 624) (2) dL_law_624 rfl ?_
  refine r_iadd (pc := 625) dL_law_625 ?_
  refine r_sld (pc := 626) (j := i + 2) har (nI_add i 2) (by omega) (by omega) dL_law_626 ?_
  refine r_callV (pc := 627) (As := [_, _]) mv_X12_clip ml_L_84 c2 (md_is hm1) rfl rfl (Nat.le_of_ble_eq_true rfl) (Nat.le_of_ble_eq_true rfl) (Nat.le_of_ble_eq_true rfl) (by show cl + 0 + 0 ≤ 600000; omega) (by show sl + 0 + 0 ≤ 7302250; omega) dL_law_627 (fun r2 g2 q2 => ?_)
  obtain ⟨rfl, μ2, l2, hi2⟩ := k2 r2 g2 q2
  show Wp E _ _ _ _ _ [.int v, .int v] _ _ _
  refine r_icmp_eq (pc := 630) (tgt := 1154) dL_law_630 (by decide) (fun _ => next _ _ _ _ _ hi2 (by omega) (by omega)) (fun z => absurd rfl z)
theorem lc_pass (hi : Inv E g μ l) (har : ArK E b L xs) (hL3 : L ≤ 3072) (hij : i + 6 ≤ L) (hcl : cl + 10 ≤ 6000) (hsl : sl + 869 ≤ 500000) (next : ∀ g2 μ2 l2 cl2 sl2, Inv E g2 μ2 l2 → cl2 ≤ cl + 10 → sl2 ≤ sl + 869 → Wp E (mL nm) room_1 Q 1154 (lvL E b i) [] g2 cl2 sl2) : Wp E (mL nm) room_1 Q 635 (lvL E b i) [] g cl sl := by
  obtain ⟨p1, c1, k1⟩ := tw_pass hi
  refine r_aload_n (pc := 635) 1 dL_law_635 rfl ?_
  refine r_callV (pc := 636) (As := []) mv_X11_pass ml_L_85 c1 (show isA E g (eZ E) 11 from ca_0 hi.1.1) rfl rfl (Nat.le_of_ble_eq_true rfl) (Nat.le_of_ble_eq_true rfl) (Nat.le_of_ble_eq_true rfl) (by show cl + 0 ≤ 600000; omega) (by show sl + 0 ≤ 7302250; omega) dL_law_636 (fun r1 h1 q1 => ?_)
  obtain ⟨v, rfl, p2, c2, hm1, k2⟩ := k1 r1 h1 q1
  show Wp E _ _ _ _ _ [.int v] _ _ _
  refine r_aload_n (pc := 639) 2 dL_law_639 rfl ?_
  refine r_callV (pc := 640) (As := []) mv_X12_pass ml_L_88 c2 (md_is hm1) rfl rfl (Nat.le_of_ble_eq_true rfl) (Nat.le_of_ble_eq_true rfl) (Nat.le_of_ble_eq_true rfl) (by show cl + 0 + 0 ≤ 600000; omega) (by show sl + 0 + 0 ≤ 7302250; omega) dL_law_640 (fun r2 g2 q2 => ?_)
  obtain ⟨rfl, μ2, l2, hi2⟩ := k2 r2 g2 q2
  show Wp E _ _ _ _ _ [.int v, .int v] _ _ _
  refine r_icmp_eq (pc := 643) (tgt := 1154) dL_law_643 (by decide) (fun _ => next _ _ _ _ _ hi2 (by omega) (by omega)) (fun z => absurd rfl z)
theorem lc_undo (hi : Inv E g μ l) (har : ArK E b L xs) (hL3 : L ≤ 3072) (hij : i + 6 ≤ L) (hcl : cl + 10 ≤ 6000) (hsl : sl + 869 ≤ 500000) (next : ∀ g2 μ2 l2 cl2 sl2, Inv E g2 μ2 l2 → cl2 ≤ cl + 10 → sl2 ≤ sl + 869 → Wp E (mL nm) room_1 Q 1154 (lvL E b i) [] g2 cl2 sl2) : Wp E (mL nm) room_1 Q 648 (lvL E b i) [] g cl sl := by
  obtain ⟨p1, c1, k1⟩ := tw_undo hi
  refine r_aload_n (pc := 648) 1 dL_law_648 rfl ?_
  refine r_callV (pc := 649) (As := []) mv_X11_undo ml_L_89 c1 (show isA E g (eZ E) 11 from ca_0 hi.1.1) rfl rfl (Nat.le_of_ble_eq_true rfl) (Nat.le_of_ble_eq_true rfl) (Nat.le_of_ble_eq_true rfl) (by show cl + 0 ≤ 600000; omega) (by show sl + 0 ≤ 7302250; omega) dL_law_649 (fun r1 h1 q1 => ?_)
  obtain ⟨v, rfl, p2, c2, hm1, k2⟩ := k1 r1 h1 q1
  show Wp E _ _ _ _ _ [.int v] _ _ _
  refine r_aload_n (pc := 652) 2 dL_law_652 rfl ?_
  refine r_callV (pc := 653) (As := []) mv_X12_undo ml_L_92 c2 (md_is hm1) rfl rfl (Nat.le_of_ble_eq_true rfl) (Nat.le_of_ble_eq_true rfl) (Nat.le_of_ble_eq_true rfl) (by show cl + 0 + 0 ≤ 600000; omega) (by show sl + 0 + 0 ≤ 7302250; omega) dL_law_653 (fun r2 g2 q2 => ?_)
  obtain ⟨rfl, μ2, l2, hi2⟩ := k2 r2 g2 q2
  show Wp E _ _ _ _ _ [.int v, .int v] _ _ _
  refine r_icmp_eq (pc := 656) (tgt := 1154) dL_law_656 (by decide) (fun _ => next _ _ _ _ _ hi2 (by omega) (by omega)) (fun z => absurd rfl z)
theorem lc_had (hi : Inv E g μ l) (har : ArK E b L xs) (hL3 : L ≤ 3072) (hij : i + 6 ≤ L) (hcl : cl + 10 ≤ 6000) (hsl : sl + 869 ≤ 500000) (next : ∀ g2 μ2 l2 cl2 sl2, Inv E g2 μ2 l2 → cl2 ≤ cl + 10 → sl2 ≤ sl + 869 → Wp E (mL nm) room_1 Q 1154 (lvL E b i) [] g2 cl2 sl2) : Wp E (mL nm) room_1 Q 661 (lvL E b i) [] g cl sl := by
  obtain ⟨p1, c1, k1⟩ := tw_had hi (xs (i + 1)) (xs (i + 2))
  refine r_aload_n (pc := 661) 1 dL_law_661 rfl ?_
  refine r_aload_n (pc := 662) 0 dL_law_662 rfl ?_
  refine r_iload_n (pc := 663) 3 dL_law_663 rfl ?_
  refine r_iconst (pc := 664) (1) dL_law_664 rfl ?_
  refine r_iadd (pc := 665) dL_law_665 ?_
  refine r_sld (pc := 666) (j := i + 1) har (nI_add i 1) (by omega) (by omega) dL_law_666 ?_
  refine r_aload_n (pc := 667) 0 dL_law_667 rfl ?_
  refine r_iload_n (pc := 668) 3 dL_law_668 rfl ?_
  refine r_iconst (pc := 669) (2) dL_law_669 rfl ?_
  refine r_iadd (pc := 670) dL_law_670 ?_
  refine r_sld (pc := 671) (j := i + 2) har (nI_add i 2) (by omega) (by omega) dL_law_671 ?_
  refine r_callV (pc := 672) (As := [_, _]) mv_X11_had ml_L_93 c1 (show isA E g (eZ E) 11 from ca_0 hi.1.1) rfl rfl (Nat.le_of_ble_eq_true rfl) (Nat.le_of_ble_eq_true rfl) (Nat.le_of_ble_eq_true rfl) (by show cl + 0 ≤ 600000; omega) (by show sl + 0 ≤ 7302250; omega) dL_law_672 (fun r1 h1 q1 => ?_)
  obtain ⟨v, rfl, p2, c2, hm1, k2⟩ := k1 r1 h1 q1
  show Wp E _ _ _ _ _ [.long v] _ _ _
  refine r_aload_n (pc := 675) 2 dL_law_675 rfl ?_
  refine r_aload_n (pc := 676) 0 dL_law_676 rfl ?_
  refine r_iload_n (pc := 677) 3 dL_law_677 rfl ?_
  refine r_iconst (pc := 678) (1) dL_law_678 rfl ?_
  refine r_iadd (pc := 679) dL_law_679 ?_
  refine r_sld (pc := 680) (j := i + 1) har (nI_add i 1) (by omega) (by omega) dL_law_680 ?_
  refine r_aload_n (pc := 681) 0 dL_law_681 rfl ?_
  refine r_iload_n (pc := 682) 3 dL_law_682 rfl ?_
  refine r_iconst (pc := 683) (2) dL_law_683 rfl ?_
  refine r_iadd (pc := 684) dL_law_684 ?_
  refine r_sld (pc := 685) (j := i + 2) har (nI_add i 2) (by omega) (by omega) dL_law_685 ?_
  refine r_callV (pc := 686) (As := [_, _]) mv_X12_had ml_L_97 c2 (md_is hm1) rfl rfl (Nat.le_of_ble_eq_true rfl) (Nat.le_of_ble_eq_true rfl) (Nat.le_of_ble_eq_true rfl) (by show cl + 0 + 0 ≤ 600000; omega) (by show sl + 0 + 0 ≤ 7302250; omega) dL_law_686 (fun r2 g2 q2 => ?_)
  obtain ⟨rfl, μ2, l2, hi2⟩ := k2 r2 g2 q2
  show Wp E _ _ _ _ _ [.long v, .long v] _ _ _
  refine r_lcmp_eq (pc := 689) (tgt := 1154) dL_law_689 dL_law_690 (by decide) (fun _ => next _ _ _ _ _ hi2 (by omega) (by omega)) (fun z => absurd rfl z)
theorem lc_next (hi : Inv E g μ l) (har : ArK E b L xs) (hL3 : L ≤ 3072) (hij : i + 6 ≤ L) (hcl : cl + 10 ≤ 6000) (hsl : sl + 869 ≤ 500000) (next : ∀ g2 μ2 l2 cl2 sl2, Inv E g2 μ2 l2 → cl2 ≤ cl + 10 → sl2 ≤ sl + 869 → Wp E (mL nm) room_1 Q 1154 (lvL E b i) [] g2 cl2 sl2) : Wp E (mL nm) room_1 Q 695 (lvL E b i) [] g cl sl := by
  obtain ⟨p1, c1, k1⟩ := tw_next hi (xs (i + 1)) (xs (i + 2))
  refine r_aload_n (pc := 695) 1 dL_law_695 rfl ?_
  refine r_aload_n (pc := 696) 0 dL_law_696 rfl ?_
  refine r_iload_n (pc := 697) 3 dL_law_697 rfl ?_
  refine r_iconst (pc := 698) (1) dL_law_698 rfl ?_
  refine r_iadd (pc := 699) dL_law_699 ?_
  refine r_sld (pc := 700) (j := i + 1) har (nI_add i 1) (by omega) (by omega) dL_law_700 ?_
  refine r_aload_n (pc := 701) 0 dL_law_701 rfl ?_
  refine r_iload_n (pc := 702) 3 dL_law_702 rfl ?_
  refine r_iconst (pc := 703) (2) dL_law_703 rfl ?_
  refine r_iadd (pc := 704) dL_law_704 ?_
  refine r_sld (pc := 705) (j := i + 2) har (nI_add i 2) (by omega) (by omega) dL_law_705 ?_
  refine r_callV (pc := 706) (As := [_, _]) mv_X11_next ml_L_98 c1 (show isA E g (eZ E) 11 from ca_0 hi.1.1) rfl rfl (Nat.le_of_ble_eq_true rfl) (Nat.le_of_ble_eq_true rfl) (Nat.le_of_ble_eq_true rfl) (by show cl + 0 ≤ 600000; omega) (by show sl + 0 ≤ 7302250; omega) dL_law_706 (fun r1 h1 q1 => ?_)
  obtain ⟨v, rfl, p2, c2, hm1, k2⟩ := k1 r1 h1 q1
  show Wp E _ _ _ _ _ [.int v] _ _ _
  refine r_aload_n (pc := 709) 2 dL_law_709 rfl ?_
  refine r_aload_n (pc := 710) 0 dL_law_710 rfl ?_
  refine r_iload_n (pc := 711) 3 dL_law_711 rfl ?_
  refine r_iconst (pc := 712) (1) dL_law_712 rfl ?_
  refine r_iadd (pc := 713) dL_law_713 ?_
  refine r_sld (pc := 714) (j := i + 1) har (nI_add i 1) (by omega) (by omega) dL_law_714 ?_
  refine r_aload_n (pc := 715) 0 dL_law_715 rfl ?_
  refine r_iload_n (pc := 716) 3 dL_law_716 rfl ?_
  refine r_iconst (pc := 717) (2) dL_law_717 rfl ?_
  refine r_iadd (pc := 718) dL_law_718 ?_
  refine r_sld (pc := 719) (j := i + 2) har (nI_add i 2) (by omega) (by omega) dL_law_719 ?_
  refine r_callV (pc := 720) (As := [_, _]) mv_X12_next ml_L_101 c2 (md_is hm1) rfl rfl (Nat.le_of_ble_eq_true rfl) (Nat.le_of_ble_eq_true rfl) (Nat.le_of_ble_eq_true rfl) (by show cl + 0 + 0 ≤ 600000; omega) (by show sl + 0 + 0 ≤ 7302250; omega) dL_law_720 (fun r2 g2 q2 => ?_)
  obtain ⟨rfl, μ2, l2, hi2⟩ := k2 r2 g2 q2
  show Wp E _ _ _ _ _ [.int v, .int v] _ _ _
  refine r_icmp_eq (pc := 723) (tgt := 1154) dL_law_723 (by decide) (fun _ => next _ _ _ _ _ hi2 (by omega) (by omega)) (fun z => absurd rfl z)
theorem lc_likely (hi : Inv E g μ l) (har : ArK E b L xs) (hL3 : L ≤ 3072) (hij : i + 6 ≤ L) (hcl : cl + 10 ≤ 6000) (hsl : sl + 869 ≤ 500000) (next : ∀ g2 μ2 l2 cl2 sl2, Inv E g2 μ2 l2 → cl2 ≤ cl + 10 → sl2 ≤ sl + 869 → Wp E (mL nm) room_1 Q 1154 (lvL E b i) [] g2 cl2 sl2) : Wp E (mL nm) room_1 Q 728 (lvL E b i) [] g cl sl := by
  obtain ⟨p1, c1, k1⟩ := tw_likely hi (xs (i + 1)) (xs (i + 2))
  refine r_aload_n (pc := 728) 1 dL_law_728 rfl ?_
  refine r_aload_n (pc := 729) 0 dL_law_729 rfl ?_
  refine r_iload_n (pc := 730) 3 dL_law_730 rfl ?_
  refine r_iconst (pc := 731) (1) dL_law_731 rfl ?_
  refine r_iadd (pc := 732) dL_law_732 ?_
  refine r_sld (pc := 733) (j := i + 1) har (nI_add i 1) (by omega) (by omega) dL_law_733 ?_
  refine r_aload_n (pc := 734) 0 dL_law_734 rfl ?_
  refine r_iload_n (pc := 735) 3 dL_law_735 rfl ?_
  refine r_iconst (pc := 736) (2) dL_law_736 rfl ?_
  refine r_iadd (pc := 737) dL_law_737 ?_
  refine r_sld (pc := 738) (j := i + 2) har (nI_add i 2) (by omega) (by omega) dL_law_738 ?_
  refine r_callV (pc := 739) (As := [_, _]) mv_X11_likely ml_L_102 c1 (show isA E g (eZ E) 11 from ca_0 hi.1.1) rfl rfl (Nat.le_of_ble_eq_true rfl) (Nat.le_of_ble_eq_true rfl) (Nat.le_of_ble_eq_true rfl) (by show cl + 0 ≤ 600000; omega) (by show sl + 0 ≤ 7302250; omega) dL_law_739 (fun r1 h1 q1 => ?_)
  obtain ⟨v, rfl, p2, c2, hm1, k2⟩ := k1 r1 h1 q1
  show Wp E _ _ _ _ _ [.long v] _ _ _
  refine r_aload_n (pc := 742) 2 dL_law_742 rfl ?_
  refine r_aload_n (pc := 743) 0 dL_law_743 rfl ?_
  refine r_iload_n (pc := 744) 3 dL_law_744 rfl ?_
  refine r_iconst (pc := 745) (1) dL_law_745 rfl ?_
  refine r_iadd (pc := 746) dL_law_746 ?_
  refine r_sld (pc := 747) (j := i + 1) har (nI_add i 1) (by omega) (by omega) dL_law_747 ?_
  refine r_aload_n (pc := 748) 0 dL_law_748 rfl ?_
  refine r_iload_n (pc := 749) 3 dL_law_749 rfl ?_
  refine r_iconst (pc := 750) (2) dL_law_750 rfl ?_
  refine r_iadd (pc := 751) dL_law_751 ?_
  refine r_sld (pc := 752) (j := i + 2) har (nI_add i 2) (by omega) (by omega) dL_law_752 ?_
  refine r_callV (pc := 753) (As := [_, _]) mv_X12_likely ml_L_105 c2 (md_is hm1) rfl rfl (Nat.le_of_ble_eq_true rfl) (Nat.le_of_ble_eq_true rfl) (Nat.le_of_ble_eq_true rfl) (by show cl + 0 + 0 ≤ 600000; omega) (by show sl + 0 + 0 ≤ 7302250; omega) dL_law_753 (fun r2 g2 q2 => ?_)
  obtain ⟨rfl, μ2, l2, hi2⟩ := k2 r2 g2 q2
  show Wp E _ _ _ _ _ [.long v, .long v] _ _ _
  refine r_lcmp_eq (pc := 756) (tgt := 1154) dL_law_756 dL_law_757 (by decide) (fun _ => next _ _ _ _ _ hi2 (by omega) (by omega)) (fun z => absurd rfl z)
theorem lc_seen (hi : Inv E g μ l) (har : ArK E b L xs) (hL3 : L ≤ 3072) (hij : i + 6 ≤ L) (hcl : cl + 10 ≤ 6000) (hsl : sl + 869 ≤ 500000) (next : ∀ g2 μ2 l2 cl2 sl2, Inv E g2 μ2 l2 → cl2 ≤ cl + 10 → sl2 ≤ sl + 869 → Wp E (mL nm) room_1 Q 1154 (lvL E b i) [] g2 cl2 sl2) : Wp E (mL nm) room_1 Q 762 (lvL E b i) [] g cl sl := by
  obtain ⟨p1, c1, k1⟩ := tw_seen hi (xs (i + 1))
  refine r_aload_n (pc := 762) 1 dL_law_762 rfl ?_
  refine r_aload_n (pc := 763) 0 dL_law_763 rfl ?_
  refine r_iload_n (pc := 764) 3 dL_law_764 rfl ?_
  refine r_iconst (pc := 765) (1) dL_law_765 rfl ?_
  refine r_iadd (pc := 766) dL_law_766 ?_
  refine r_sld (pc := 767) (j := i + 1) har (nI_add i 1) (by omega) (by omega) dL_law_767 ?_
  refine r_callV (pc := 768) (As := [_]) mv_X11_seen ml_L_106 c1 (show isA E g (eZ E) 11 from ca_0 hi.1.1) rfl rfl (Nat.le_of_ble_eq_true rfl) (Nat.le_of_ble_eq_true rfl) (Nat.le_of_ble_eq_true rfl) (by show cl + 0 ≤ 600000; omega) (by show sl + 0 ≤ 7302250; omega) dL_law_768 (fun r1 h1 q1 => ?_)
  obtain ⟨v, rfl, p2, c2, hm1, k2⟩ := k1 r1 h1 q1
  show Wp E _ _ _ _ _ [.int v] _ _ _
  refine r_aload_n (pc := 771) 2 dL_law_771 rfl ?_
  refine r_aload_n (pc := 772) 0 dL_law_772 rfl ?_
  refine r_iload_n (pc := 773) 3 dL_law_773 rfl ?_
  refine r_iconst (pc := 774) (1) dL_law_774 rfl ?_
  refine r_iadd (pc := 775) dL_law_775 ?_
  refine r_sld (pc := 776) (j := i + 1) har (nI_add i 1) (by omega) (by omega) dL_law_776 ?_
  refine r_callV (pc := 777) (As := [_]) mv_X12_seen ml_L_109 c2 (md_is hm1) rfl rfl (Nat.le_of_ble_eq_true rfl) (Nat.le_of_ble_eq_true rfl) (Nat.le_of_ble_eq_true rfl) (by show cl + 0 + 0 ≤ 600000; omega) (by show sl + 0 + 0 ≤ 7302250; omega) dL_law_777 (fun r2 g2 q2 => ?_)
  obtain ⟨rfl, μ2, l2, hi2⟩ := k2 r2 g2 q2
  show Wp E _ _ _ _ _ [.int v, .int v] _ _ _
  refine r_icmp_eq (pc := 780) (tgt := 1154) dL_law_780 (by decide) (fun _ => next _ _ _ _ _ hi2 (by omega) (by omega)) (fun z => absurd rfl z)
theorem lc_forget (hi : Inv E g μ l) (har : ArK E b L xs) (hL3 : L ≤ 3072) (hij : i + 6 ≤ L) (hcl : cl + 10 ≤ 6000) (hsl : sl + 869 ≤ 500000) (next : ∀ g2 μ2 l2 cl2 sl2, Inv E g2 μ2 l2 → cl2 ≤ cl + 10 → sl2 ≤ sl + 869 → Wp E (mL nm) room_1 Q 1154 (lvL E b i) [] g2 cl2 sl2) : Wp E (mL nm) room_1 Q 785 (lvL E b i) [] g cl sl := by
  obtain ⟨p1, c1, k1⟩ := tw_forget hi
  refine r_aload_n (pc := 785) 1 dL_law_785 rfl ?_
  refine r_callV (pc := 786) (As := []) mv_X11_forget ml_L_110 c1 (show isA E g (eZ E) 11 from ca_0 hi.1.1) rfl rfl (Nat.le_of_ble_eq_true rfl) (Nat.le_of_ble_eq_true rfl) (Nat.le_of_ble_eq_true rfl) (by show cl + 0 ≤ 600000; omega) (by show sl + 0 ≤ 7302250; omega) dL_law_786 (fun r1 h1 q1 => ?_)
  obtain ⟨v, rfl, p2, c2, hm1, k2⟩ := k1 r1 h1 q1
  show Wp E _ _ _ _ _ [.int v] _ _ _
  refine r_aload_n (pc := 789) 2 dL_law_789 rfl ?_
  refine r_callV (pc := 790) (As := []) mv_X12_forget ml_L_113 c2 (md_is hm1) rfl rfl (Nat.le_of_ble_eq_true rfl) (Nat.le_of_ble_eq_true rfl) (Nat.le_of_ble_eq_true rfl) (by show cl + 0 + 0 ≤ 600000; omega) (by show sl + 0 + 0 ≤ 7302250; omega) dL_law_790 (fun r2 g2 q2 => ?_)
  obtain ⟨rfl, μ2, l2, hi2⟩ := k2 r2 g2 q2
  show Wp E _ _ _ _ _ [.int v, .int v] _ _ _
  refine r_icmp_eq (pc := 793) (tgt := 1154) dL_law_793 (by decide) (fun _ => next _ _ _ _ _ hi2 (by omega) (by omega)) (fun z => absurd rfl z)
theorem lc_canBe (hi : Inv E g μ l) (har : ArK E b L xs) (hL3 : L ≤ 3072) (hij : i + 6 ≤ L) (hcl : cl + 10 ≤ 6000) (hsl : sl + 869 ≤ 500000) (next : ∀ g2 μ2 l2 cl2 sl2, Inv E g2 μ2 l2 → cl2 ≤ cl + 10 → sl2 ≤ sl + 869 → Wp E (mL nm) room_1 Q 1154 (lvL E b i) [] g2 cl2 sl2) : Wp E (mL nm) room_1 Q 798 (lvL E b i) [] g cl sl := by
  obtain ⟨p1, c1, k1⟩ := tw_canBe hi (xs (i + 1))
  refine r_aload_n (pc := 798) 1 dL_law_798 rfl ?_
  refine r_aload_n (pc := 799) 0 dL_law_799 rfl ?_
  refine r_iload_n (pc := 800) 3 dL_law_800 rfl ?_
  refine r_iconst (pc := 801) (1) dL_law_801 rfl ?_
  refine r_iadd (pc := 802) dL_law_802 ?_
  refine r_sld (pc := 803) (j := i + 1) har (nI_add i 1) (by omega) (by omega) dL_law_803 ?_
  refine r_callV (pc := 804) (As := [_]) mv_X11_canBe ml_L_114 c1 (show isA E g (eZ E) 11 from ca_0 hi.1.1) rfl rfl (Nat.le_of_ble_eq_true rfl) (Nat.le_of_ble_eq_true rfl) (Nat.le_of_ble_eq_true rfl) (by show cl + 0 ≤ 600000; omega) (by show sl + 0 ≤ 7302250; omega) dL_law_804 (fun r1 h1 q1 => ?_)
  obtain ⟨v, rfl, p2, c2, hm1, k2⟩ := k1 r1 h1 q1
  show Wp E _ _ _ _ _ [.int v] _ _ _
  refine r_aload_n (pc := 807) 2 dL_law_807 rfl ?_
  refine r_aload_n (pc := 808) 0 dL_law_808 rfl ?_
  refine r_iload_n (pc := 809) 3 dL_law_809 rfl ?_
  refine r_iconst (pc := 810) (1) dL_law_810 rfl ?_
  refine r_iadd (pc := 811) dL_law_811 ?_
  refine r_sld (pc := 812) (j := i + 1) har (nI_add i 1) (by omega) (by omega) dL_law_812 ?_
  refine r_callV (pc := 813) (As := [_]) mv_X12_canBe ml_L_117 c2 (md_is hm1) rfl rfl (Nat.le_of_ble_eq_true rfl) (Nat.le_of_ble_eq_true rfl) (Nat.le_of_ble_eq_true rfl) (by show cl + 0 + 0 ≤ 600000; omega) (by show sl + 0 + 0 ≤ 7302250; omega) dL_law_813 (fun r2 g2 q2 => ?_)
  obtain ⟨rfl, μ2, l2, hi2⟩ := k2 r2 g2 q2
  show Wp E _ _ _ _ _ [.int v, .int v] _ _ _
  refine r_icmp_eq (pc := 816) (tgt := 1154) dL_law_816 (by decide) (fun _ => next _ _ _ _ _ hi2 (by omega) (by omega)) (fun z => absurd rfl z)
theorem lc_look (hi : Inv E g μ l) (har : ArK E b L xs) (hL3 : L ≤ 3072) (hij : i + 6 ≤ L) (hcl : cl + 10 ≤ 6000) (hsl : sl + 869 ≤ 500000) (next : ∀ g2 μ2 l2 cl2 sl2, Inv E g2 μ2 l2 → cl2 ≤ cl + 10 → sl2 ≤ sl + 869 → Wp E (mL nm) room_1 Q 1154 (lvL E b i) [] g2 cl2 sl2) : Wp E (mL nm) room_1 Q 821 (lvL E b i) [] g cl sl := by
  obtain ⟨p1, c1, k1⟩ := tw_look hi (xs (i + 1)) (xs (i + 2))
  refine r_aload_n (pc := 821) 1 dL_law_821 rfl ?_
  refine r_aload_n (pc := 822) 0 dL_law_822 rfl ?_
  refine r_iload_n (pc := 823) 3 dL_law_823 rfl ?_
  refine r_iconst (pc := 824) (1) dL_law_824 rfl ?_
  refine r_iadd (pc := 825) dL_law_825 ?_
  refine r_sld (pc := 826) (j := i + 1) har (nI_add i 1) (by omega) (by omega) dL_law_826 ?_
  refine r_aload_n (pc := 827) 0 dL_law_827 rfl ?_
  refine r_iload_n (pc := 828) 3 dL_law_828 rfl ?_
  refine r_iconst (pc := 829) (2) dL_law_829 rfl ?_
  refine r_iadd (pc := 830) dL_law_830 ?_
  refine r_sld (pc := 831) (j := i + 2) har (nI_add i 2) (by omega) (by omega) dL_law_831 ?_
  refine r_callV (pc := 832) (As := [_, _]) mv_X11_look ml_L_118 c1 (show isA E g (eZ E) 11 from ca_0 hi.1.1) rfl rfl (Nat.le_of_ble_eq_true rfl) (Nat.le_of_ble_eq_true rfl) (Nat.le_of_ble_eq_true rfl) (by show cl + 0 ≤ 600000; omega) (by show sl + 0 ≤ 7302250; omega) dL_law_832 (fun r1 h1 q1 => ?_)
  obtain ⟨v, rfl, p2, c2, hm1, k2⟩ := k1 r1 h1 q1
  show Wp E _ _ _ _ _ [.int v] _ _ _
  refine r_aload_n (pc := 835) 2 dL_law_835 rfl ?_
  refine r_aload_n (pc := 836) 0 dL_law_836 rfl ?_
  refine r_iload_n (pc := 837) 3 dL_law_837 rfl ?_
  refine r_iconst (pc := 838) (1) dL_law_838 rfl ?_
  refine r_iadd (pc := 839) dL_law_839 ?_
  refine r_sld (pc := 840) (j := i + 1) har (nI_add i 1) (by omega) (by omega) dL_law_840 ?_
  refine r_aload_n (pc := 841) 0 dL_law_841 rfl ?_
  refine r_iload_n (pc := 842) 3 dL_law_842 rfl ?_
  refine r_iconst (pc := 843) (2) dL_law_843 rfl ?_
  refine r_iadd (pc := 844) dL_law_844 ?_
  refine r_sld (pc := 845) (j := i + 2) har (nI_add i 2) (by omega) (by omega) dL_law_845 ?_
  refine r_callV (pc := 846) (As := [_, _]) mv_X12_look ml_L_121 c2 (md_is hm1) rfl rfl (Nat.le_of_ble_eq_true rfl) (Nat.le_of_ble_eq_true rfl) (Nat.le_of_ble_eq_true rfl) (by show cl + 0 + 0 ≤ 600000; omega) (by show sl + 0 + 0 ≤ 7302250; omega) dL_law_846 (fun r2 g2 q2 => ?_)
  obtain ⟨rfl, μ2, l2, hi2⟩ := k2 r2 g2 q2
  show Wp E _ _ _ _ _ [.int v, .int v] _ _ _
  refine r_icmp_eq (pc := 849) (tgt := 1154) dL_law_849 (by decide) (fun _ => next _ _ _ _ _ hi2 (by omega) (by omega)) (fun z => absurd rfl z)
theorem lc_explained (hi : Inv E g μ l) (har : ArK E b L xs) (hL3 : L ≤ 3072) (hij : i + 6 ≤ L) (hcl : cl + 10 ≤ 6000) (hsl : sl + 869 ≤ 500000) (next : ∀ g2 μ2 l2 cl2 sl2, Inv E g2 μ2 l2 → cl2 ≤ cl + 10 → sl2 ≤ sl + 869 → Wp E (mL nm) room_1 Q 1154 (lvL E b i) [] g2 cl2 sl2) : Wp E (mL nm) room_1 Q 854 (lvL E b i) [] g cl sl := by
  obtain ⟨p1, c1, k1⟩ := tw_explained hi (xs (i + 1))
  refine r_aload_n (pc := 854) 1 dL_law_854 rfl ?_
  refine r_aload_n (pc := 855) 0 dL_law_855 rfl ?_
  refine r_iload_n (pc := 856) 3 dL_law_856 rfl ?_
  refine r_iconst (pc := 857) (1) dL_law_857 rfl ?_
  refine r_iadd (pc := 858) dL_law_858 ?_
  refine r_sld (pc := 859) (j := i + 1) har (nI_add i 1) (by omega) (by omega) dL_law_859 ?_
  refine r_callV (pc := 860) (As := [_]) mv_X11_explained ml_L_122 c1 (show isA E g (eZ E) 11 from ca_0 hi.1.1) rfl rfl (Nat.le_of_ble_eq_true rfl) (Nat.le_of_ble_eq_true rfl) (Nat.le_of_ble_eq_true rfl) (by show cl + 0 ≤ 600000; omega) (by show sl + 0 ≤ 7302250; omega) dL_law_860 (fun r1 h1 q1 => ?_)
  obtain ⟨v, rfl, p2, c2, hm1, k2⟩ := k1 r1 h1 q1
  show Wp E _ _ _ _ _ [.int v] _ _ _
  refine r_aload_n (pc := 863) 2 dL_law_863 rfl ?_
  refine r_aload_n (pc := 864) 0 dL_law_864 rfl ?_
  refine r_iload_n (pc := 865) 3 dL_law_865 rfl ?_
  refine r_iconst (pc := 866) (1) dL_law_866 rfl ?_
  refine r_iadd (pc := 867) dL_law_867 ?_
  refine r_sld (pc := 868) (j := i + 1) har (nI_add i 1) (by omega) (by omega) dL_law_868 ?_
  refine r_callV (pc := 869) (As := [_]) mv_X12_explained ml_L_125 c2 (md_is hm1) rfl rfl (Nat.le_of_ble_eq_true rfl) (Nat.le_of_ble_eq_true rfl) (Nat.le_of_ble_eq_true rfl) (by show cl + 0 + 0 ≤ 600000; omega) (by show sl + 0 + 0 ≤ 7302250; omega) dL_law_869 (fun r2 g2 q2 => ?_)
  obtain ⟨rfl, μ2, l2, hi2⟩ := k2 r2 g2 q2
  show Wp E _ _ _ _ _ [.int v, .int v] _ _ _
  refine r_icmp_eq (pc := 872) (tgt := 1154) dL_law_872 (by decide) (fun _ => next _ _ _ _ _ hi2 (by omega) (by omega)) (fun z => absurd rfl z)
theorem lc_complete (hi : Inv E g μ l) (har : ArK E b L xs) (hL3 : L ≤ 3072) (hij : i + 6 ≤ L) (hcl : cl + 10 ≤ 6000) (hsl : sl + 869 ≤ 500000) (next : ∀ g2 μ2 l2 cl2 sl2, Inv E g2 μ2 l2 → cl2 ≤ cl + 10 → sl2 ≤ sl + 869 → Wp E (mL nm) room_1 Q 1154 (lvL E b i) [] g2 cl2 sl2) : Wp E (mL nm) room_1 Q 877 (lvL E b i) [] g cl sl := by
  obtain ⟨p1, c1, k1⟩ := tw_complete hi (xs (i + 1)) (xs (i + 2))
  refine r_aload_n (pc := 877) 1 dL_law_877 rfl ?_
  refine r_aload_n (pc := 878) 0 dL_law_878 rfl ?_
  refine r_iload_n (pc := 879) 3 dL_law_879 rfl ?_
  refine r_iconst (pc := 880) (1) dL_law_880 rfl ?_
  refine r_iadd (pc := 881) dL_law_881 ?_
  refine r_sld (pc := 882) (j := i + 1) har (nI_add i 1) (by omega) (by omega) dL_law_882 ?_
  refine r_aload_n (pc := 883) 0 dL_law_883 rfl ?_
  refine r_iload_n (pc := 884) 3 dL_law_884 rfl ?_
  refine r_iconst (pc := 885) (2) dL_law_885 rfl ?_
  refine r_iadd (pc := 886) dL_law_886 ?_
  refine r_sld (pc := 887) (j := i + 2) har (nI_add i 2) (by omega) (by omega) dL_law_887 ?_
  refine r_callV (pc := 888) (As := [_, _]) mv_X11_complete ml_L_126 c1 (show isA E g (eZ E) 11 from ca_0 hi.1.1) rfl rfl (Nat.le_of_ble_eq_true rfl) (Nat.le_of_ble_eq_true rfl) (Nat.le_of_ble_eq_true rfl) (by show cl + 0 ≤ 600000; omega) (by show sl + 0 ≤ 7302250; omega) dL_law_888 (fun r1 h1 q1 => ?_)
  obtain ⟨v, rfl, p2, c2, hm1, k2⟩ := k1 r1 h1 q1
  show Wp E _ _ _ _ _ [.int v] _ _ _
  refine r_aload_n (pc := 891) 2 dL_law_891 rfl ?_
  refine r_aload_n (pc := 892) 0 dL_law_892 rfl ?_
  refine r_iload_n (pc := 893) 3 dL_law_893 rfl ?_
  refine r_iconst (pc := 894) (1) dL_law_894 rfl ?_
  refine r_iadd (pc := 895) dL_law_895 ?_
  refine r_sld (pc := 896) (j := i + 1) har (nI_add i 1) (by omega) (by omega) dL_law_896 ?_
  refine r_aload_n (pc := 897) 0 dL_law_897 rfl ?_
  refine r_iload_n (pc := 898) 3 dL_law_898 rfl ?_
  refine r_iconst (pc := 899) (2) dL_law_899 rfl ?_
  refine r_iadd (pc := 900) dL_law_900 ?_
  refine r_sld (pc := 901) (j := i + 2) har (nI_add i 2) (by omega) (by omega) dL_law_901 ?_
  refine r_callV (pc := 902) (As := [_, _]) mv_X12_complete ml_L_129 c2 (md_is hm1) rfl rfl (Nat.le_of_ble_eq_true rfl) (Nat.le_of_ble_eq_true rfl) (Nat.le_of_ble_eq_true rfl) (by show cl + 0 + 0 ≤ 600000; omega) (by show sl + 0 + 0 ≤ 7302250; omega) dL_law_902 (fun r2 g2 q2 => ?_)
  obtain ⟨rfl, μ2, l2, hi2⟩ := k2 r2 g2 q2
  show Wp E _ _ _ _ _ [.int v, .int v] _ _ _
  refine r_icmp_eq (pc := 905) (tgt := 1154) dL_law_905 (by decide) (fun _ => next _ _ _ _ _ hi2 (by omega) (by omega)) (fun z => absurd rfl z)
theorem lc_safe (hi : Inv E g μ l) (har : ArK E b L xs) (hL3 : L ≤ 3072) (hij : i + 6 ≤ L) (hcl : cl + 10 ≤ 6000) (hsl : sl + 869 ≤ 500000) (next : ∀ g2 μ2 l2 cl2 sl2, Inv E g2 μ2 l2 → cl2 ≤ cl + 10 → sl2 ≤ sl + 869 → Wp E (mL nm) room_1 Q 1154 (lvL E b i) [] g2 cl2 sl2) : Wp E (mL nm) room_1 Q 910 (lvL E b i) [] g cl sl := by
  obtain ⟨p1, c1, k1⟩ := tw_safe hi (xs (i + 1))
  refine r_aload_n (pc := 910) 1 dL_law_910 rfl ?_
  refine r_aload_n (pc := 911) 0 dL_law_911 rfl ?_
  refine r_iload_n (pc := 912) 3 dL_law_912 rfl ?_
  refine r_iconst (pc := 913) (1) dL_law_913 rfl ?_
  refine r_iadd (pc := 914) dL_law_914 ?_
  refine r_sld (pc := 915) (j := i + 1) har (nI_add i 1) (by omega) (by omega) dL_law_915 ?_
  refine r_callV (pc := 916) (As := [_]) mv_X11_safe ml_L_130 c1 (show isA E g (eZ E) 11 from ca_0 hi.1.1) rfl rfl (Nat.le_of_ble_eq_true rfl) (Nat.le_of_ble_eq_true rfl) (Nat.le_of_ble_eq_true rfl) (by show cl + 0 ≤ 600000; omega) (by show sl + 0 ≤ 7302250; omega) dL_law_916 (fun r1 h1 q1 => ?_)
  obtain ⟨v, rfl, p2, c2, hm1, k2⟩ := k1 r1 h1 q1
  show Wp E _ _ _ _ _ [.long v] _ _ _
  refine r_aload_n (pc := 919) 2 dL_law_919 rfl ?_
  refine r_aload_n (pc := 920) 0 dL_law_920 rfl ?_
  refine r_iload_n (pc := 921) 3 dL_law_921 rfl ?_
  refine r_iconst (pc := 922) (1) dL_law_922 rfl ?_
  refine r_iadd (pc := 923) dL_law_923 ?_
  refine r_sld (pc := 924) (j := i + 1) har (nI_add i 1) (by omega) (by omega) dL_law_924 ?_
  refine r_callV (pc := 925) (As := [_]) mv_X12_safe ml_L_134 c2 (md_is hm1) rfl rfl (Nat.le_of_ble_eq_true rfl) (Nat.le_of_ble_eq_true rfl) (Nat.le_of_ble_eq_true rfl) (by show cl + 0 + 0 ≤ 600000; omega) (by show sl + 0 + 0 ≤ 7302250; omega) dL_law_925 (fun r2 g2 q2 => ?_)
  obtain ⟨rfl, μ2, l2, hi2⟩ := k2 r2 g2 q2
  show Wp E _ _ _ _ _ [.long v, .long v] _ _ _
  refine r_lcmp_eq (pc := 928) (tgt := 1154) dL_law_928 dL_law_929 (by decide) (fun _ => next _ _ _ _ _ hi2 (by omega) (by omega)) (fun z => absurd rfl z)
theorem lc_frauds (hi : Inv E g μ l) (har : ArK E b L xs) (hL3 : L ≤ 3072) (hij : i + 6 ≤ L) (hcl : cl + 10 ≤ 6000) (hsl : sl + 869 ≤ 500000) (next : ∀ g2 μ2 l2 cl2 sl2, Inv E g2 μ2 l2 → cl2 ≤ cl + 10 → sl2 ≤ sl + 869 → Wp E (mL nm) room_1 Q 1154 (lvL E b i) [] g2 cl2 sl2) : Wp E (mL nm) room_1 Q 934 (lvL E b i) [] g cl sl := by
  obtain ⟨p1, c1, k1⟩ := tw_frauds hi
  refine r_aload_n (pc := 934) 1 dL_law_934 rfl ?_
  refine r_callV (pc := 935) (As := []) mv_X11_frauds ml_L_135 c1 (show isA E g (eZ E) 11 from ca_0 hi.1.1) rfl rfl (Nat.le_of_ble_eq_true rfl) (Nat.le_of_ble_eq_true rfl) (Nat.le_of_ble_eq_true rfl) (by show cl + 0 ≤ 600000; omega) (by show sl + 0 ≤ 7302250; omega) dL_law_935 (fun r1 h1 q1 => ?_)
  obtain ⟨v, rfl, p2, c2, hm1, k2⟩ := k1 r1 h1 q1
  show Wp E _ _ _ _ _ [.int v] _ _ _
  refine r_aload_n (pc := 938) 2 dL_law_938 rfl ?_
  refine r_callV (pc := 939) (As := []) mv_X12_frauds ml_L_138 c2 (md_is hm1) rfl rfl (Nat.le_of_ble_eq_true rfl) (Nat.le_of_ble_eq_true rfl) (Nat.le_of_ble_eq_true rfl) (by show cl + 0 + 0 ≤ 600000; omega) (by show sl + 0 + 0 ≤ 7302250; omega) dL_law_939 (fun r2 g2 q2 => ?_)
  obtain ⟨rfl, μ2, l2, hi2⟩ := k2 r2 g2 q2
  show Wp E _ _ _ _ _ [.int v, .int v] _ _ _
  refine r_icmp_eq (pc := 942) (tgt := 1154) dL_law_942 (by decide) (fun _ => next _ _ _ _ _ hi2 (by omega) (by omega)) (fun z => absurd rfl z)
theorem lc_passing (hi : Inv E g μ l) (har : ArK E b L xs) (hL3 : L ≤ 3072) (hij : i + 6 ≤ L) (hcl : cl + 10 ≤ 6000) (hsl : sl + 869 ≤ 500000) (next : ∀ g2 μ2 l2 cl2 sl2, Inv E g2 μ2 l2 → cl2 ≤ cl + 10 → sl2 ≤ sl + 869 → Wp E (mL nm) room_1 Q 1154 (lvL E b i) [] g2 cl2 sl2) : Wp E (mL nm) room_1 Q 947 (lvL E b i) [] g cl sl := by
  obtain ⟨p1, c1, k1⟩ := tw_passing hi (xs (i + 1))
  refine r_aload_n (pc := 947) 1 dL_law_947 rfl ?_
  refine r_aload_n (pc := 948) 0 dL_law_948 rfl ?_
  refine r_iload_n (pc := 949) 3 dL_law_949 rfl ?_
  refine r_iconst (pc := 950) (1) dL_law_950 rfl ?_
  refine r_iadd (pc := 951) dL_law_951 ?_
  refine r_sld (pc := 952) (j := i + 1) har (nI_add i 1) (by omega) (by omega) dL_law_952 ?_
  refine r_callV (pc := 953) (As := [_]) mv_X11_passing ml_L_139 c1 (show isA E g (eZ E) 11 from ca_0 hi.1.1) rfl rfl (Nat.le_of_ble_eq_true rfl) (Nat.le_of_ble_eq_true rfl) (Nat.le_of_ble_eq_true rfl) (by show cl + 0 ≤ 600000; omega) (by show sl + 0 ≤ 7302250; omega) dL_law_953 (fun r1 h1 q1 => ?_)
  obtain ⟨v, rfl, p2, c2, hm1, k2⟩ := k1 r1 h1 q1
  show Wp E _ _ _ _ _ [.int v] _ _ _
  refine r_aload_n (pc := 956) 2 dL_law_956 rfl ?_
  refine r_aload_n (pc := 957) 0 dL_law_957 rfl ?_
  refine r_iload_n (pc := 958) 3 dL_law_958 rfl ?_
  refine r_iconst (pc := 959) (1) dL_law_959 rfl ?_
  refine r_iadd (pc := 960) dL_law_960 ?_
  refine r_sld (pc := 961) (j := i + 1) har (nI_add i 1) (by omega) (by omega) dL_law_961 ?_
  refine r_callV (pc := 962) (As := [_]) mv_X12_passing ml_L_142 c2 (md_is hm1) rfl rfl (Nat.le_of_ble_eq_true rfl) (Nat.le_of_ble_eq_true rfl) (Nat.le_of_ble_eq_true rfl) (by show cl + 0 + 0 ≤ 600000; omega) (by show sl + 0 + 0 ≤ 7302250; omega) dL_law_962 (fun r2 g2 q2 => ?_)
  obtain ⟨rfl, μ2, l2, hi2⟩ := k2 r2 g2 q2
  show Wp E _ _ _ _ _ [.int v, .int v] _ _ _
  refine r_icmp_eq (pc := 965) (tgt := 1154) dL_law_965 (by decide) (fun _ => next _ _ _ _ _ hi2 (by omega) (by omega)) (fun z => absurd rfl z)
theorem lc_unused (hi : Inv E g μ l) (har : ArK E b L xs) (hL3 : L ≤ 3072) (hij : i + 6 ≤ L) (hcl : cl + 10 ≤ 6000) (hsl : sl + 869 ≤ 500000) (next : ∀ g2 μ2 l2 cl2 sl2, Inv E g2 μ2 l2 → cl2 ≤ cl + 10 → sl2 ≤ sl + 869 → Wp E (mL nm) room_1 Q 1154 (lvL E b i) [] g2 cl2 sl2) : Wp E (mL nm) room_1 Q 970 (lvL E b i) [] g cl sl := by
  obtain ⟨p1, c1, k1⟩ := tw_unused hi
  refine r_aload_n (pc := 970) 1 dL_law_970 rfl ?_
  refine r_callV (pc := 971) (As := []) mv_X11_unused ml_L_143 c1 (show isA E g (eZ E) 11 from ca_0 hi.1.1) rfl rfl (Nat.le_of_ble_eq_true rfl) (Nat.le_of_ble_eq_true rfl) (Nat.le_of_ble_eq_true rfl) (by show cl + 0 ≤ 600000; omega) (by show sl + 0 ≤ 7302250; omega) dL_law_971 (fun r1 h1 q1 => ?_)
  obtain ⟨v, rfl, p2, c2, hm1, k2⟩ := k1 r1 h1 q1
  show Wp E _ _ _ _ _ [.int v] _ _ _
  refine r_aload_n (pc := 974) 2 dL_law_974 rfl ?_
  refine r_callV (pc := 975) (As := []) mv_X12_unused ml_L_146 c2 (md_is hm1) rfl rfl (Nat.le_of_ble_eq_true rfl) (Nat.le_of_ble_eq_true rfl) (Nat.le_of_ble_eq_true rfl) (by show cl + 0 + 0 ≤ 600000; omega) (by show sl + 0 + 0 ≤ 7302250; omega) dL_law_975 (fun r2 g2 q2 => ?_)
  obtain ⟨rfl, μ2, l2, hi2⟩ := k2 r2 g2 q2
  show Wp E _ _ _ _ _ [.int v, .int v] _ _ _
  refine r_icmp_eq (pc := 978) (tgt := 1154) dL_law_978 (by decide) (fun _ => next _ _ _ _ _ hi2 (by omega) (by omega)) (fun z => absurd rfl z)
theorem lc_rich (hi : Inv E g μ l) (har : ArK E b L xs) (hL3 : L ≤ 3072) (hij : i + 6 ≤ L) (hcl : cl + 10 ≤ 6000) (hsl : sl + 869 ≤ 500000) (next : ∀ g2 μ2 l2 cl2 sl2, Inv E g2 μ2 l2 → cl2 ≤ cl + 10 → sl2 ≤ sl + 869 → Wp E (mL nm) room_1 Q 1154 (lvL E b i) [] g2 cl2 sl2) : Wp E (mL nm) room_1 Q 983 (lvL E b i) [] g cl sl := by
  obtain ⟨p1, c1, k1⟩ := tw_rich hi (xs (i + 1))
  refine r_aload_n (pc := 983) 1 dL_law_983 rfl ?_
  refine r_aload_n (pc := 984) 0 dL_law_984 rfl ?_
  refine r_iload_n (pc := 985) 3 dL_law_985 rfl ?_
  refine r_iconst (pc := 986) (1) dL_law_986 rfl ?_
  refine r_iadd (pc := 987) dL_law_987 ?_
  refine r_sld (pc := 988) (j := i + 1) har (nI_add i 1) (by omega) (by omega) dL_law_988 ?_
  refine r_callV (pc := 989) (As := [_]) mv_X11_rich ml_L_147 c1 (show isA E g (eZ E) 11 from ca_0 hi.1.1) rfl rfl (Nat.le_of_ble_eq_true rfl) (Nat.le_of_ble_eq_true rfl) (Nat.le_of_ble_eq_true rfl) (by show cl + 0 ≤ 600000; omega) (by show sl + 0 ≤ 7302250; omega) dL_law_989 (fun r1 h1 q1 => ?_)
  obtain ⟨v, rfl, p2, c2, hm1, k2⟩ := k1 r1 h1 q1
  show Wp E _ _ _ _ _ [.int v] _ _ _
  refine r_aload_n (pc := 992) 2 dL_law_992 rfl ?_
  refine r_aload_n (pc := 993) 0 dL_law_993 rfl ?_
  refine r_iload_n (pc := 994) 3 dL_law_994 rfl ?_
  refine r_iconst (pc := 995) (1) dL_law_995 rfl ?_
  refine r_iadd (pc := 996) dL_law_996 ?_
  refine r_sld (pc := 997) (j := i + 1) har (nI_add i 1) (by omega) (by omega) dL_law_997 ?_
  refine r_callV (pc := 998) (As := [_]) mv_X12_rich ml_L_150 c2 (md_is hm1) rfl rfl (Nat.le_of_ble_eq_true rfl) (Nat.le_of_ble_eq_true rfl) (Nat.le_of_ble_eq_true rfl) (by show cl + 0 + 0 ≤ 600000; omega) (by show sl + 0 + 0 ≤ 7302250; omega) dL_law_998 (fun r2 g2 q2 => ?_)
  obtain ⟨rfl, μ2, l2, hi2⟩ := k2 r2 g2 q2
  show Wp E _ _ _ _ _ [.int v, .int v] _ _ _
  refine r_icmp_eq (pc := 1001) (tgt := 1154) dL_law_1001 (by decide) (fun _ => next _ _ _ _ _ hi2 (by omega) (by omega)) (fun z => absurd rfl z)
theorem lc_years (hi : Inv E g μ l) (har : ArK E b L xs) (hL3 : L ≤ 3072) (hij : i + 6 ≤ L) (hcl : cl + 10 ≤ 6000) (hsl : sl + 869 ≤ 500000) (next : ∀ g2 μ2 l2 cl2 sl2, Inv E g2 μ2 l2 → cl2 ≤ cl + 10 → sl2 ≤ sl + 869 → Wp E (mL nm) room_1 Q 1154 (lvL E b i) [] g2 cl2 sl2) : Wp E (mL nm) room_1 Q 1006 (lvL E b i) [] g cl sl := by
  obtain ⟨p1, c1, k1⟩ := tw_years hi (xs (i + 1)) (xs (i + 2))
  refine r_aload_n (pc := 1006) 1 dL_law_1006 rfl ?_
  refine r_aload_n (pc := 1007) 0 dL_law_1007 rfl ?_
  refine r_iload_n (pc := 1008) 3 dL_law_1008 rfl ?_
  refine r_iconst (pc := 1009) (1) dL_law_1009 rfl ?_
  refine r_iadd (pc := 1010) dL_law_1010 ?_
  refine r_sld (pc := 1011) (j := i + 1) har (nI_add i 1) (by omega) (by omega) dL_law_1011 ?_
  refine r_aload_n (pc := 1012) 0 dL_law_1012 rfl ?_
  refine r_iload_n (pc := 1013) 3 dL_law_1013 rfl ?_
  refine r_iconst (pc := 1014) (2) dL_law_1014 rfl ?_
  refine r_iadd (pc := 1015) dL_law_1015 ?_
  refine r_sld (pc := 1016) (j := i + 2) har (nI_add i 2) (by omega) (by omega) dL_law_1016 ?_
  refine r_callV (pc := 1017) (As := [_, _]) mv_X11_years ml_L_151 c1 (show isA E g (eZ E) 11 from ca_0 hi.1.1) rfl rfl (Nat.le_of_ble_eq_true rfl) (Nat.le_of_ble_eq_true rfl) (Nat.le_of_ble_eq_true rfl) (by show cl + 0 ≤ 600000; omega) (by show sl + 0 ≤ 7302250; omega) dL_law_1017 (fun r1 h1 q1 => ?_)
  obtain ⟨v, rfl, p2, c2, hm1, k2⟩ := k1 r1 h1 q1
  show Wp E _ _ _ _ _ [.int v] _ _ _
  refine r_aload_n (pc := 1020) 2 dL_law_1020 rfl ?_
  refine r_aload_n (pc := 1021) 0 dL_law_1021 rfl ?_
  refine r_iload_n (pc := 1022) 3 dL_law_1022 rfl ?_
  refine r_iconst (pc := 1023) (1) dL_law_1023 rfl ?_
  refine r_iadd (pc := 1024) dL_law_1024 ?_
  refine r_sld (pc := 1025) (j := i + 1) har (nI_add i 1) (by omega) (by omega) dL_law_1025 ?_
  refine r_aload_n (pc := 1026) 0 dL_law_1026 rfl ?_
  refine r_iload_n (pc := 1027) 3 dL_law_1027 rfl ?_
  refine r_iconst (pc := 1028) (2) dL_law_1028 rfl ?_
  refine r_iadd (pc := 1029) dL_law_1029 ?_
  refine r_sld (pc := 1030) (j := i + 2) har (nI_add i 2) (by omega) (by omega) dL_law_1030 ?_
  refine r_callV (pc := 1031) (As := [_, _]) mv_X12_years ml_L_154 c2 (md_is hm1) rfl rfl (Nat.le_of_ble_eq_true rfl) (Nat.le_of_ble_eq_true rfl) (Nat.le_of_ble_eq_true rfl) (by show cl + 0 + 0 ≤ 600000; omega) (by show sl + 0 + 0 ≤ 7302250; omega) dL_law_1031 (fun r2 g2 q2 => ?_)
  obtain ⟨rfl, μ2, l2, hi2⟩ := k2 r2 g2 q2
  show Wp E _ _ _ _ _ [.int v, .int v] _ _ _
  refine r_icmp_eq (pc := 1034) (tgt := 1154) dL_law_1034 (by decide) (fun _ => next _ _ _ _ _ hi2 (by omega) (by omega)) (fun z => absurd rfl z)
theorem lc_drawn (hi : Inv E g μ l) (har : ArK E b L xs) (hL3 : L ≤ 3072) (hij : i + 6 ≤ L) (hcl : cl + 10 ≤ 6000) (hsl : sl + 869 ≤ 500000) (next : ∀ g2 μ2 l2 cl2 sl2, Inv E g2 μ2 l2 → cl2 ≤ cl + 10 → sl2 ≤ sl + 869 → Wp E (mL nm) room_1 Q 1154 (lvL E b i) [] g2 cl2 sl2) : Wp E (mL nm) room_1 Q 1039 (lvL E b i) [] g cl sl := by
  obtain ⟨p1, c1, k1⟩ := tw_drawn hi (xs (i + 1)) (xs (i + 2))
  refine r_aload_n (pc := 1039) 1 dL_law_1039 rfl ?_
  refine r_aload_n (pc := 1040) 0 dL_law_1040 rfl ?_
  refine r_iload_n (pc := 1041) 3 dL_law_1041 rfl ?_
  refine r_iconst (pc := 1042) (1) dL_law_1042 rfl ?_
  refine r_iadd (pc := 1043) dL_law_1043 ?_
  refine r_sld (pc := 1044) (j := i + 1) har (nI_add i 1) (by omega) (by omega) dL_law_1044 ?_
  refine r_aload_n (pc := 1045) 0 dL_law_1045 rfl ?_
  refine r_iload_n (pc := 1046) 3 dL_law_1046 rfl ?_
  refine r_iconst (pc := 1047) (2) dL_law_1047 rfl ?_
  refine r_iadd (pc := 1048) dL_law_1048 ?_
  refine r_sld (pc := 1049) (j := i + 2) har (nI_add i 2) (by omega) (by omega) dL_law_1049 ?_
  refine r_callV (pc := 1050) (As := [_, _]) mv_X11_drawn ml_L_155 c1 (show isA E g (eZ E) 11 from ca_0 hi.1.1) rfl rfl (Nat.le_of_ble_eq_true rfl) (Nat.le_of_ble_eq_true rfl) (Nat.le_of_ble_eq_true rfl) (by show cl + 0 ≤ 600000; omega) (by show sl + 0 ≤ 7302250; omega) dL_law_1050 (fun r1 h1 q1 => ?_)
  obtain ⟨v, rfl, p2, c2, hm1, k2⟩ := k1 r1 h1 q1
  show Wp E _ _ _ _ _ [.int v] _ _ _
  refine r_aload_n (pc := 1053) 2 dL_law_1053 rfl ?_
  refine r_aload_n (pc := 1054) 0 dL_law_1054 rfl ?_
  refine r_iload_n (pc := 1055) 3 dL_law_1055 rfl ?_
  refine r_iconst (pc := 1056) (1) dL_law_1056 rfl ?_
  refine r_iadd (pc := 1057) dL_law_1057 ?_
  refine r_sld (pc := 1058) (j := i + 1) har (nI_add i 1) (by omega) (by omega) dL_law_1058 ?_
  refine r_aload_n (pc := 1059) 0 dL_law_1059 rfl ?_
  refine r_iload_n (pc := 1060) 3 dL_law_1060 rfl ?_
  refine r_iconst (pc := 1061) (2) dL_law_1061 rfl ?_
  refine r_iadd (pc := 1062) dL_law_1062 ?_
  refine r_sld (pc := 1063) (j := i + 2) har (nI_add i 2) (by omega) (by omega) dL_law_1063 ?_
  refine r_callV (pc := 1064) (As := [_, _]) mv_X12_drawn ml_L_158 c2 (md_is hm1) rfl rfl (Nat.le_of_ble_eq_true rfl) (Nat.le_of_ble_eq_true rfl) (Nat.le_of_ble_eq_true rfl) (by show cl + 0 + 0 ≤ 600000; omega) (by show sl + 0 + 0 ≤ 7302250; omega) dL_law_1064 (fun r2 g2 q2 => ?_)
  obtain ⟨rfl, μ2, l2, hi2⟩ := k2 r2 g2 q2
  show Wp E _ _ _ _ _ [.int v, .int v] _ _ _
  refine r_icmp_eq (pc := 1067) (tgt := 1154) dL_law_1067 (by decide) (fun _ => next _ _ _ _ _ hi2 (by omega) (by omega)) (fun z => absurd rfl z)
theorem lc_image (hi : Inv E g μ l) (har : ArK E b L xs) (hL3 : L ≤ 3072) (hij : i + 6 ≤ L) (hcl : cl + 10 ≤ 6000) (hsl : sl + 869 ≤ 500000) (hao : AoK E "NineLives$Text") (next : ∀ g2 μ2 l2 cl2 sl2, Inv E g2 μ2 l2 → cl2 ≤ cl + 10 → sl2 ≤ sl + 869 → Wp E (mL nm) room_1 Q 1154 (lvL E b i) [] g2 cl2 sl2) : Wp E (mL nm) room_1 Q 1072 (lvL E b i) [] g cl sl := by
  obtain ⟨p1, c1, k1⟩ := tw_image hi hao (xs (i + 1))
  refine r_aload_n (pc := 1072) 1 dL_law_1072 rfl ?_
  refine r_aload_n (pc := 1073) 0 dL_law_1073 rfl ?_
  refine r_iload_n (pc := 1074) 3 dL_law_1074 rfl ?_
  refine r_iconst (pc := 1075) (1) dL_law_1075 rfl ?_
  refine r_iadd (pc := 1076) dL_law_1076 ?_
  refine r_sld (pc := 1077) (j := i + 1) har (nI_add i 1) (by omega) (by omega) dL_law_1077 ?_
  refine r_callV (pc := 1078) (As := [_]) mv_X11_image ml_L_159 c1 (show isA E g (eZ E) 11 from ca_0 hi.1.1) rfl rfl (Nat.le_of_ble_eq_true rfl) (Nat.le_of_ble_eq_true rfl) (Nat.le_of_ble_eq_true rfl) (by show cl + 10 ≤ 600000; omega) (by show sl + 64 ≤ 7302250; omega) dL_law_1078 (fun r1 h1 q1 => ?_)
  obtain ⟨v, rfl, p2, c2, hm1, k2⟩ := k1 r1 h1 q1
  show Wp E _ _ _ _ _ [.int v] _ _ _
  refine r_aload_n (pc := 1081) 2 dL_law_1081 rfl ?_
  refine r_aload_n (pc := 1082) 0 dL_law_1082 rfl ?_
  refine r_iload_n (pc := 1083) 3 dL_law_1083 rfl ?_
  refine r_iconst (pc := 1084) (1) dL_law_1084 rfl ?_
  refine r_iadd (pc := 1085) dL_law_1085 ?_
  refine r_sld (pc := 1086) (j := i + 1) har (nI_add i 1) (by omega) (by omega) dL_law_1086 ?_
  refine r_callV (pc := 1087) (As := [_]) mv_X12_image ml_L_162 c2 (md_is hm1) rfl rfl (Nat.le_of_ble_eq_true rfl) (Nat.le_of_ble_eq_true rfl) (Nat.le_of_ble_eq_true rfl) (by show cl + 10 + 0 ≤ 600000; omega) (by show sl + 64 + 0 ≤ 7302250; omega) dL_law_1087 (fun r2 g2 q2 => ?_)
  obtain ⟨rfl, μ2, l2, hi2⟩ := k2 r2 g2 q2
  show Wp E _ _ _ _ _ [.int v, .int v] _ _ _
  refine r_icmp_eq (pc := 1090) (tgt := 1154) dL_law_1090 (by decide) (fun _ => next _ _ _ _ _ hi2 (by omega) (by omega)) (fun z => absurd rfl z)
theorem lc_back (hi : Inv E g μ l) (har : ArK E b L xs) (hL3 : L ≤ 3072) (hij : i + 6 ≤ L) (hcl : cl + 10 ≤ 6000) (hsl : sl + 869 ≤ 500000) (next : ∀ g2 μ2 l2 cl2 sl2, Inv E g2 μ2 l2 → cl2 ≤ cl + 10 → sl2 ≤ sl + 869 → Wp E (mL nm) room_1 Q 1154 (lvL E b i) [] g2 cl2 sl2) : Wp E (mL nm) room_1 Q 1095 (lvL E b i) [] g cl sl := by
  obtain ⟨p1, c1, k1⟩ := tw_back hi (xs (i + 1))
  refine r_aload_n (pc := 1095) 1 dL_law_1095 rfl ?_
  refine r_aload_n (pc := 1096) 0 dL_law_1096 rfl ?_
  refine r_iload_n (pc := 1097) 3 dL_law_1097 rfl ?_
  refine r_iconst (pc := 1098) (1) dL_law_1098 rfl ?_
  refine r_iadd (pc := 1099) dL_law_1099 ?_
  refine r_sld (pc := 1100) (j := i + 1) har (nI_add i 1) (by omega) (by omega) dL_law_1100 ?_
  refine r_callV (pc := 1101) (As := [_]) mv_X11_back ml_L_163 c1 (show isA E g (eZ E) 11 from ca_0 hi.1.1) rfl rfl (Nat.le_of_ble_eq_true rfl) (Nat.le_of_ble_eq_true rfl) (Nat.le_of_ble_eq_true rfl) (by show cl + 0 ≤ 600000; omega) (by show sl + 0 ≤ 7302250; omega) dL_law_1101 (fun r1 h1 q1 => ?_)
  obtain ⟨v, rfl, p2, c2, hm1, k2⟩ := k1 r1 h1 q1
  show Wp E _ _ _ _ _ [.int v] _ _ _
  refine r_aload_n (pc := 1104) 2 dL_law_1104 rfl ?_
  refine r_aload_n (pc := 1105) 0 dL_law_1105 rfl ?_
  refine r_iload_n (pc := 1106) 3 dL_law_1106 rfl ?_
  refine r_iconst (pc := 1107) (1) dL_law_1107 rfl ?_
  refine r_iadd (pc := 1108) dL_law_1108 ?_
  refine r_sld (pc := 1109) (j := i + 1) har (nI_add i 1) (by omega) (by omega) dL_law_1109 ?_
  refine r_callV (pc := 1110) (As := [_]) mv_X12_back ml_L_166 c2 (md_is hm1) rfl rfl (Nat.le_of_ble_eq_true rfl) (Nat.le_of_ble_eq_true rfl) (Nat.le_of_ble_eq_true rfl) (by show cl + 0 + 0 ≤ 600000; omega) (by show sl + 0 + 0 ≤ 7302250; omega) dL_law_1110 (fun r2 g2 q2 => ?_)
  obtain ⟨rfl, μ2, l2, hi2⟩ := k2 r2 g2 q2
  show Wp E _ _ _ _ _ [.int v, .int v] _ _ _
  refine r_icmp_eq (pc := 1113) (tgt := 1154) dL_law_1113 (by decide) (fun _ => next _ _ _ _ _ hi2 (by omega) (by omega)) (fun z => absurd rfl z)
theorem lc_count (hi : Inv E g μ l) (har : ArK E b L xs) (hL3 : L ≤ 3072) (hij : i + 6 ≤ L) (hcl : cl + 10 ≤ 6000) (hsl : sl + 869 ≤ 500000) (next : ∀ g2 μ2 l2 cl2 sl2, Inv E g2 μ2 l2 → cl2 ≤ cl + 10 → sl2 ≤ sl + 869 → Wp E (mL nm) room_1 Q 1154 (lvL E b i) [] g2 cl2 sl2) : Wp E (mL nm) room_1 Q 1118 (lvL E b i) [] g cl sl := by
  obtain ⟨p1, c1, k1⟩ := tw_count hi (xs (i + 1))
  refine r_aload_n (pc := 1118) 1 dL_law_1118 rfl ?_
  refine r_aload_n (pc := 1119) 0 dL_law_1119 rfl ?_
  refine r_iload_n (pc := 1120) 3 dL_law_1120 rfl ?_
  refine r_iconst (pc := 1121) (1) dL_law_1121 rfl ?_
  refine r_iadd (pc := 1122) dL_law_1122 ?_
  refine r_sld (pc := 1123) (j := i + 1) har (nI_add i 1) (by omega) (by omega) dL_law_1123 ?_
  refine r_callV (pc := 1124) (As := [_]) mv_X11_count ml_L_167 c1 (show isA E g (eZ E) 11 from ca_0 hi.1.1) rfl rfl (Nat.le_of_ble_eq_true rfl) (Nat.le_of_ble_eq_true rfl) (Nat.le_of_ble_eq_true rfl) (by show cl + 0 ≤ 600000; omega) (by show sl + 0 ≤ 7302250; omega) dL_law_1124 (fun r1 h1 q1 => ?_)
  obtain ⟨v, rfl, p2, c2, hm1, k2⟩ := k1 r1 h1 q1
  show Wp E _ _ _ _ _ [.int v] _ _ _
  refine r_aload_n (pc := 1127) 2 dL_law_1127 rfl ?_
  refine r_aload_n (pc := 1128) 0 dL_law_1128 rfl ?_
  refine r_iload_n (pc := 1129) 3 dL_law_1129 rfl ?_
  refine r_iconst (pc := 1130) (1) dL_law_1130 rfl ?_
  refine r_iadd (pc := 1131) dL_law_1131 ?_
  refine r_sld (pc := 1132) (j := i + 1) har (nI_add i 1) (by omega) (by omega) dL_law_1132 ?_
  refine r_callV (pc := 1133) (As := [_]) mv_X12_count ml_L_170 c2 (md_is hm1) rfl rfl (Nat.le_of_ble_eq_true rfl) (Nat.le_of_ble_eq_true rfl) (Nat.le_of_ble_eq_true rfl) (by show cl + 0 + 0 ≤ 600000; omega) (by show sl + 0 + 0 ≤ 7302250; omega) dL_law_1133 (fun r2 g2 q2 => ?_)
  obtain ⟨rfl, μ2, l2, hi2⟩ := k2 r2 g2 q2
  show Wp E _ _ _ _ _ [.int v, .int v] _ _ _
  refine r_icmp_eq (pc := 1136) (tgt := 1154) dL_law_1136 (by decide) (fun _ => next _ _ _ _ _ hi2 (by omega) (by omega)) (fun z => absurd rfl z)
theorem lc_status (hi : Inv E g μ l) (har : ArK E b L xs) (hL3 : L ≤ 3072) (hij : i + 6 ≤ L) (hcl : cl + 10 ≤ 6000) (hsl : sl + 869 ≤ 500000) (next : ∀ g2 μ2 l2 cl2 sl2, Inv E g2 μ2 l2 → cl2 ≤ cl + 10 → sl2 ≤ sl + 869 → Wp E (mL nm) room_1 Q 1154 (lvL E b i) [] g2 cl2 sl2) : Wp E (mL nm) room_1 Q 1141 (lvL E b i) [] g cl sl := by
  obtain ⟨p1, c1, k1⟩ := tw_status hi
  refine r_aload_n (pc := 1141) 1 dL_law_1141 rfl ?_
  refine r_callV (pc := 1142) (As := []) mv_X11_status ml_L_171 c1 (show isA E g (eZ E) 11 from ca_0 hi.1.1) rfl rfl (Nat.le_of_ble_eq_true rfl) (Nat.le_of_ble_eq_true rfl) (Nat.le_of_ble_eq_true rfl) (by show cl + 0 ≤ 600000; omega) (by show sl + 0 ≤ 7302250; omega) dL_law_1142 (fun r1 h1 q1 => ?_)
  obtain ⟨v, rfl, p2, c2, hm1, k2⟩ := k1 r1 h1 q1
  show Wp E _ _ _ _ _ [.int v] _ _ _
  refine r_aload_n (pc := 1145) 2 dL_law_1145 rfl ?_
  refine r_callV (pc := 1146) (As := []) mv_X12_status ml_L_174 c2 (md_is hm1) rfl rfl (Nat.le_of_ble_eq_true rfl) (Nat.le_of_ble_eq_true rfl) (Nat.le_of_ble_eq_true rfl) (by show cl + 0 + 0 ≤ 600000; omega) (by show sl + 0 + 0 ≤ 7302250; omega) dL_law_1146 (fun r2 g2 q2 => ?_)
  obtain ⟨rfl, μ2, l2, hi2⟩ := k2 r2 g2 q2
  show Wp E _ _ _ _ _ [.int v, .int v] _ _ _
  refine r_icmp_eq (pc := 1149) (tgt := 1154) dL_law_1149 (by decide) (fun _ => next _ _ _ _ _ hi2 (by omega) (by omega)) (fun z => absurd rfl z)
end CASES
