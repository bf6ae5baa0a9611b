/-! the reference: a whole piece of code reckoned -/
section EVAL12B
theorem nI_m1 {n : Nat} (hn : 1 ≤ n) : nI n + -1 = nI (n - 1) := by
  have h1 : nI (n - 1) + 1 = nI n := by rw [nI_1, Nat.sub_add_cancel hn]
  rw [← h1, Int32.add_assoc, show (1 : Int32) + -1 = 0 by decide, Int32.add_zero]
variable {E : En} {h : Hp} {m : Nat} {μ : Mu} {l : La}
theorem mRun_step {ops args : Nat → Int32} {lf : Int32 → Int32 → Option Int64} {b N k n : Nat} {f : Nat → Int64} {r : Bool × Nat × (Nat → Int64)} (hk : k < b) (hr : mRun ops args lf b N k n f = some r) : ∃ N' q k2 n2 f2, mSt ops args lf k n f = some (q, k2, n2, f2) ∧ (q = true → r = (true, n2, f2)) ∧ (q = false → mRun ops args lf b N' k2 n2 f2 = some r ∧ N' + 1 = N) := by
  cases N with
  | zero => rw [mRun, if_pos hk] at hr; cases hr
  | succ N' =>
    rw [mRun, if_pos hk] at hr
    cases hs : mSt ops args lf k n f with
    | none => rw [hs] at hr; cases hr
    | some x =>
      obtain ⟨q, k2, n2, f2⟩ := x
      rw [hs] at hr
      cases q with
      | true => exact ⟨N', true, k2, n2, f2, rfl, fun _ => (by cases hr; rfl), fun z => (by cases z)⟩
      | false => exact ⟨N', false, k2, n2, f2, rfl, fun z => (by cases z), fun _ => ⟨hr, rfl⟩⟩
theorem mRun_end {ops args : Nat → Int32} {lf : Int32 → Int32 → Option Int64} {b N k n : Nat} {f : Nat → Int64} {r : Bool × Nat × (Nat → Int64)} (hk : ¬ k < b) (hr : mRun ops args lf b N k n f = some r) : r = (false, n, f) := by
  cases N with
  | zero => rw [mRun, if_neg hk] at hr; cases hr; rfl
  | succ N' => rw [mRun, if_neg hk] at hr; cases hr; rfl
theorem ct_reckonAll (hm : Md E h m) {od : Bool} (ho : μ 0 20 = bI od) {ops args : Nat → Int32} {lf : Int32 → Int32 → Option Int64} {nc ns L : Nat}
    (hO : od = true → ops = μ 11 ∧ args = μ 12 ∧ lf = lfO (μ 2) (l 19) nc ns) (hL : od = false → μ 0 34 = nI L ∧ L ≤ 4550 ∧ (ops = fun k => μ 2 (L + 98 + 2 * k)) ∧ (args = fun k => μ 2 (L + 98 + 2 * k + 1)) ∧ lf = lfL (l 18))
    (hnc : μ 2 0 = nI nc) (h6 : nc ≤ 6) (hns : μ 2 1 = nI ns) (h3 : ns ≤ 3) {a b N n' : Nat} {bk : Bool} {f' : Nat → Int64} (ha : a ≤ 400) (hb : b ≤ 400) (hr : mRun ops args lf b N a 0 (l 20) = some (bk, n', f')) :
    Ct E 2 0 0 mX12_reckonAll [.ref m, .int (nI a), .int (nI b)] (mH h m μ l) (po none (mH h m (up2 μ 0 38 (bI bk)) (up2 (rsL l f') 0 39 (if 0 < n' then f' 0 else 0)))) := by
  refine Ct.of (by decide +kernel) (Nat.le_of_ble_eq_true rfl) ?_
  refine r_aload_n (pc := 0) 0 dX12_reckonAll_0 rfl ?_
  refine r_iconst (pc := 1) (0) dX12_reckonAll_1 rfl ?_
  refine q_putZ (pc := 2) fp_X12_413 hm (by decide) dX12_reckonAll_2 ?_
  refine r_iconst (pc := 5) (0) dX12_reckonAll_5 rfl ?_
  refine r_istore_n (pc := 6) (lv' := [(0, _), (1, _), (2, _), (3, _)]) dX12_reckonAll_6 (Nat.le_of_ble_eq_true rfl) rfl ?_
  refine r_iload_n (pc := 7) 1 dX12_reckonAll_7 rfl ?_
  refine r_istore (pc := 8) (lv' := [(0, _), (1, _), (2, _), (3, _), (4, _)]) dX12_reckonAll_8 (Nat.le_of_ble_eq_true rfl) rfl ?_
  have fin : ∀ k : Nat, n' ≤ 400 → Wp E mX12_reckonAll (Rm 2 0 0) (Qm E (po none (mH h m (up2 μ 0 38 (bI bk)) (up2 (rsL l f') 0 39 (if 0 < n' then f' 0 else 0)))) 0 0) 384 [(0, .ref m), (1, .int (nI a)), (2, .int (nI b)), (3, .int (nI n')), (4, .int (nI k))] [] (mH h m (up2 μ 0 38 (bI bk)) (rsL l f')) 0 0 := by
    intro k hn
    refine r_aload_n (pc := 384) 0 dX12_reckonAll_384 rfl ?_
    refine r_iload_n (pc := 385) 3 dX12_reckonAll_385 rfl ?_
    refine r_if_le (pc := 386) (tgt := 398) dX12_reckonAll_386 (by decide) (fun c_386 => ?_) (fun c_386 => ?_)
    · have h0 : n' = 0 := by
        rcases Nat.eq_zero_or_pos n' with q | q
        · exact q
        · exact absurd c_386 (nI_nle q (by omega))
      refine r_lconst (pc := 398) (0) dX12_reckonAll_398 rfl ?_
      refine q_putJ (pc := 399) fp_X12_427 hm dX12_reckonAll_399 ?_
      refine r_vret (pc := 402) rfl ?_ (Nat.le_of_ble_eq_true rfl) (Nat.le_of_ble_eq_true rfl) dX12_reckonAll_402
      rw [if_neg (by omega)]
      exact ⟨rfl, rfl⟩
    · have h0 : 0 < n' := by
        rcases Nat.eq_zero_or_pos n' with q | q
        · exact absurd (by rw [q]; decide) c_386
        · exact q
      refine r_aload_n (pc := 389) 0 dX12_reckonAll_389 rfl ?_
      refine q_getR (pc := 390) fl_X12_105 hm (md_f37 hm) dX12_reckonAll_390 ?_
      refine r_iconst (pc := 393) (0) dX12_reckonAll_393 rfl ?_
      refine q_lald (pc := 394) (j := 0) (md_r37 hm) (by decide) rfl (by decide) (by decide) dX12_reckonAll_394 ?_
      refine r_goto (pc := 395) (tgt := 399) dX12_reckonAll_395 (by decide) ?_
      refine q_putJ (pc := 399) fp_X12_427 hm dX12_reckonAll_399 ?_
      refine r_vret (pc := 402) rfl ?_ (Nat.le_of_ble_eq_true rfl) (Nat.le_of_ble_eq_true rfl) dX12_reckonAll_402
      rw [if_pos h0, rsL_20]
      exact ⟨rfl, rfl⟩
  have loop : ∀ (N k n : Nat) (f : Nat → Int64), n ≤ 400 → k < 2 ^ 31 → mRun ops args lf b N k n f = some (bk, n', f') → Wp E mX12_reckonAll (Rm 2 0 0) (Qm E (po none (mH h m (up2 μ 0 38 (bI bk)) (up2 (rsL l f') 0 39 (if 0 < n' then f' 0 else 0)))) 0 0) 10 [(0, .ref m), (1, .int (nI a)), (2, .int (nI b)), (3, .int (nI n)), (4, .int (nI k))] [] (mH h m (up2 μ 0 38 0) (rsL l f)) 0 0 := by
    intro N
    induction N using Nat.strongRecOn with
    | ind N IH =>
    intro k n f hn hk31 hrun
    refine r_iload (pc := 10) 4 dX12_reckonAll_10 rfl ?_
    refine r_iload_n (pc := 12) 2 dX12_reckonAll_12 rfl ?_
    refine r_icmp_ge (pc := 13) (tgt := 384) dX12_reckonAll_13 (by decide) (fun c_13 => ?_) (fun c_13 => ?_)
    · have hkb : ¬ k < b := fun q => nI_ge q (by omega) c_13
      cases mRun_end hkb hrun
      exact fin k hn
    · have hkb : k < b := Nat.not_le.mp (fun q => c_13 (nI_le q hk31))
      obtain ⟨N', q, k2, n2, f2, hst, hq1, hq2⟩ := mRun_step hkb hrun
      have nxt : n2 ≤ 400 → k2 < 2 ^ 31 → ∀ x y : Int32, Wp E mX12_reckonAll (Rm 2 0 0) (Qm E (po none (mH h m (up2 μ 0 38 (bI bk)) (up2 (rsL l f') 0 39 (if 0 < n' then f' 0 else 0)))) 0 0) 10 [(0, .ref m), (1, .int (nI a)), (2, .int (nI b)), (3, .int (nI n2)), (4, .int (nI k2)), (5, .int x), (6, .int y)] [] (mH h m (up2 μ 0 38 (bI q)) (rsL l f2)) 0 0 := by
        intro hn2 hk2 x y
        refine r_sub [0, 1, 2, 3, 4] rfl ?_
        cases q with
        | false => exact IH N' (by have := (hq2 rfl).2; omega) k2 n2 f2 hn2 hk2 (hq2 rfl).1
        | true =>
          cases hq1 rfl
          refine r_iload (pc := 10) 4 dX12_reckonAll_10 rfl ?_
          refine r_iload_n (pc := 12) 2 dX12_reckonAll_12 rfl ?_
          refine r_icmp_ge (pc := 13) (tgt := 384) dX12_reckonAll_13 (by decide) (fun c_13 => ?_) (fun c_13 => ?_)
          · exact fin k2 hn2
          · refine r_aload_n (pc := 16) 0 dX12_reckonAll_16 rfl ?_
            refine q_getI (pc := 17) fl_X12_413 hm dX12_reckonAll_17 ?_
            refine r_if_ne (pc := 20) (tgt := 384) dX12_reckonAll_20 (by decide) (fun c_20 => ?_) (fun c_20 => ?_)
            · exact fin k2 hn2
            · rw [up2_at] at c_20
              exact absurd c_20 (by decide)
      have body : Wp E mX12_reckonAll (Rm 2 0 0) (Qm E (po none (mH h m (up2 μ 0 38 (bI bk)) (up2 (rsL l f') 0 39 (if 0 < n' then f' 0 else 0)))) 0 0) 97 [(0, .ref m), (1, .int (nI a)), (2, .int (nI b)), (3, .int (nI n)), (4, .int (nI k)), (5, .int (ops k)), (6, .int (args k))] [] (mH h m (up2 μ 0 38 0) (rsL l f)) 0 0 := by
        unfold mSt at hst
        refine r_iinc (pc := 97) (v := _ + (1)) (lv' := [(0, _), (1, _), (2, _), (3, _), (4, _), (5, _), (6, _)]) 4 dX12_reckonAll_97 rfl rfl (Nat.le_of_ble_eq_true rfl) rfl ?_
        refine r_iload (pc := 100) 5 dX12_reckonAll_100 rfl ?_
        refine r_bipush (pc := 102) (20) dX12_reckonAll_102 rfl ?_
        refine r_icmp_ge (pc := 104) (tgt := 242) dX12_reckonAll_104 (by decide) (fun c_104 => ?_) (fun c_104 => ?_)
        · rw [if_neg (Int32.not_lt.mpr c_104)] at hst
          refine r_iload (pc := 242) 5 dX12_reckonAll_242 rfl ?_
          refine r_bipush (pc := 244) (28) dX12_reckonAll_244 rfl ?_
          refine r_icmp_ge (pc := 246) (tgt := 319) dX12_reckonAll_246 (by decide) (fun c_246 => ?_) (fun c_246 => ?_)
          · rw [if_neg (Int32.not_lt.mpr c_246)] at hst
            refine r_iload (pc := 319) 5 dX12_reckonAll_319 rfl ?_
            refine r_bipush (pc := 321) (28) dX12_reckonAll_321 rfl ?_
            refine r_icmp_ne (pc := 323) (tgt := 347) dX12_reckonAll_323 (by decide) (fun c_323 => ?_) (fun c_323 => ?_)
            · rw [if_neg c_323] at hst
              split at hst
              · next hn1 =>
                have e1 : nI n - 1 = nI (n - 1) := nI_sub (a := n) (b := 1) (by omega)
                refine r_aload_n (pc := 347) 0 dX12_reckonAll_347 rfl ?_
                refine q_getR (pc := 348) fl_X12_105 hm (md_f37 hm) dX12_reckonAll_348 ?_
                refine r_iload_n (pc := 351) 3 dX12_reckonAll_351 rfl ?_
                refine r_iconst (pc := 352) (1) dX12_reckonAll_352 rfl ?_
                refine r_isub (pc := 353) dX12_reckonAll_353 ?_
                refine q_lald (pc := 354) (j := n - 1) (md_r37 hm) (by decide) e1 (by omega) (by decide) dX12_reckonAll_354 ?_
                refine r_iload (pc := 355) 5 dX12_reckonAll_355 rfl ?_
                refine r_bipush (pc := 357) (29) dX12_reckonAll_357 rfl ?_
                refine r_icmp_ne (pc := 359) (tgt := 366) dX12_reckonAll_359 (by decide) (fun c_359 => ?_) (fun c_359 => ?_)
                · refine r_lconst (pc := 366) (1) dX12_reckonAll_366 rfl ?_
                  refine r_lcmp_ne (pc := 367) (tgt := 378) dX12_reckonAll_367 dX12_reckonAll_368 (by decide) (fun c_367 => ?_) (fun c_367 => ?_)
                  · rw [rsL_20] at c_367
                    rw [if_neg c_359, if_neg c_367] at hst
                    cases hst
                    refine r_iinc (pc := 378) (v := _ + (-1)) (lv' := [(0, _), (1, _), (2, _), (3, _), (4, _), (5, _), (6, _)]) 3 dX12_reckonAll_378 rfl rfl (Nat.le_of_ble_eq_true rfl) rfl ?_
                    refine r_goto (pc := 381) (tgt := 10) dX12_reckonAll_381 (by decide) ?_
                    rw [nI_m1 hn1.1, nI_1]
                    exact nxt (by omega) (by omega) _ _
                  · rw [rsL_20] at c_367
                    rw [if_neg c_359, if_pos c_367] at hst
                    split at hst
                    · next ha0 =>
                      cases hst
                      obtain ⟨j, hj, e⟩ := nI_of (Int32.not_lt.mpr ha0)
                      rw [e, nI_clamp hj] at nxt
                      rw [e]
                      refine r_iload (pc := 371) 6 dX12_reckonAll_371 rfl ?_
                      refine r_istore (pc := 373) (lv' := [(0, _), (1, _), (2, _), (3, _), (4, _), (5, _), (6, _)]) dX12_reckonAll_373 (Nat.le_of_ble_eq_true rfl) rfl ?_
                      refine r_goto (pc := 375) (tgt := 381) dX12_reckonAll_375 (by decide) ?_
                      refine r_goto (pc := 381) (tgt := 10) dX12_reckonAll_381 (by decide) ?_
                      exact nxt hn hj _ _
                    · cases hst
                · refine r_lconst (pc := 362) (0) dX12_reckonAll_362 rfl ?_
                  refine r_goto (pc := 363) (tgt := 367) dX12_reckonAll_363 (by decide) ?_
                  refine r_lcmp_ne (pc := 367) (tgt := 378) dX12_reckonAll_367 dX12_reckonAll_368 (by decide) (fun c_367 => ?_) (fun c_367 => ?_)
                  · rw [rsL_20] at c_367
                    rw [if_pos c_359, if_neg c_367] at hst
                    cases hst
                    refine r_iinc (pc := 378) (v := _ + (-1)) (lv' := [(0, _), (1, _), (2, _), (3, _), (4, _), (5, _), (6, _)]) 3 dX12_reckonAll_378 rfl rfl (Nat.le_of_ble_eq_true rfl) rfl ?_
                    refine r_goto (pc := 381) (tgt := 10) dX12_reckonAll_381 (by decide) ?_
                    rw [nI_m1 hn1.1, nI_1]
                    exact nxt (by omega) (by omega) _ _
                  · rw [rsL_20] at c_367
                    rw [if_pos c_359, if_pos c_367] at hst
                    split at hst
                    · next ha0 =>
                      cases hst
                      obtain ⟨j, hj, e⟩ := nI_of (Int32.not_lt.mpr ha0)
                      rw [e, nI_clamp hj] at nxt
                      rw [e]
                      refine r_iload (pc := 371) 6 dX12_reckonAll_371 rfl ?_
                      refine r_istore (pc := 373) (lv' := [(0, _), (1, _), (2, _), (3, _), (4, _), (5, _), (6, _)]) dX12_reckonAll_373 (Nat.le_of_ble_eq_true rfl) rfl ?_
                      refine r_goto (pc := 375) (tgt := 381) dX12_reckonAll_375 (by decide) ?_
                      refine r_goto (pc := 381) (tgt := 10) dX12_reckonAll_381 (by decide) ?_
                      exact nxt hn hj _ _
                    · cases hst
              · cases hst
            · rw [if_pos c_323] at hst
              split at hst
              · next hn1 =>
                cases hst
                have e1 : nI n - 1 = nI (n - 1) := nI_sub (a := n) (b := 1) (by omega)
                refine r_aload_n (pc := 326) 0 dX12_reckonAll_326 rfl ?_
                refine q_getR (pc := 327) fl_X12_105 hm (md_f37 hm) dX12_reckonAll_327 ?_
                refine r_iload_n (pc := 330) 3 dX12_reckonAll_330 rfl ?_
                refine r_iconst (pc := 331) (1) dX12_reckonAll_331 rfl ?_
                refine r_isub (pc := 332) dX12_reckonAll_332 ?_
                refine r_lconst (pc := 333) (1) dX12_reckonAll_333 rfl ?_
                refine r_aload_n (pc := 334) 0 dX12_reckonAll_334 rfl ?_
                refine q_getR (pc := 335) fl_X12_105 hm (md_f37 hm) dX12_reckonAll_335 ?_
                refine r_iload_n (pc := 338) 3 dX12_reckonAll_338 rfl ?_
                refine r_iconst (pc := 339) (1) dX12_reckonAll_339 rfl ?_
                refine r_isub (pc := 340) dX12_reckonAll_340 ?_
                refine q_lald (pc := 341) (j := n - 1) (md_r37 hm) (by decide) e1 (by omega) (by decide) dX12_reckonAll_341 ?_
                refine r_lsub (pc := 342) dX12_reckonAll_342 ?_
                refine q_last (pc := 343) (j := n - 1) (md_r37 hm) (by decide) e1 (by omega) (by decide) dX12_reckonAll_343 ?_
                refine r_goto (pc := 344) (tgt := 381) dX12_reckonAll_344 (by decide) ?_
                refine r_goto (pc := 381) (tgt := 10) dX12_reckonAll_381 (by decide) ?_
                rw [rsL_20, rsL_up, nI_1]
                exact nxt hn (by omega) _ _
              · cases hst
          · rw [if_pos (Int32.not_le.mp c_246)] at hst
            split at hst
            · next hn1 =>
              cases hst
              have e1 : nI n + -1 = nI (n - 1) := nI_m1 (by omega)
              have e2 : nI (n - 1) - 1 = nI (n - 2) := nI_sub (a := n - 1) (b := 1) (by omega)
              refine r_iinc (pc := 249) (v := _ + (-1)) (lv' := [(0, _), (1, _), (2, _), (3, _), (4, _), (5, _), (6, _)]) 3 dX12_reckonAll_249 rfl rfl (Nat.le_of_ble_eq_true rfl) rfl ?_
              rw [e1]
              refine r_aload_n (pc := 252) 0 dX12_reckonAll_252 rfl ?_
              refine q_getR (pc := 253) fl_X12_105 hm (md_f37 hm) dX12_reckonAll_253 ?_
              refine r_iload_n (pc := 256) 3 dX12_reckonAll_256 rfl ?_
              refine r_iconst (pc := 257) (1) dX12_reckonAll_257 rfl ?_
              refine r_isub (pc := 258) dX12_reckonAll_258 ?_
              refine r_aload_n (pc := 259) 0 dX12_reckonAll_259 rfl ?_
              refine r_iload (pc := 260) 5 dX12_reckonAll_260 rfl ?_
              refine r_aload_n (pc := 262) 0 dX12_reckonAll_262 rfl ?_
              refine q_getR (pc := 263) fl_X12_105 hm (md_f37 hm) dX12_reckonAll_263 ?_
              refine r_iload_n (pc := 266) 3 dX12_reckonAll_266 rfl ?_
              refine r_iconst (pc := 267) (1) dX12_reckonAll_267 rfl ?_
              refine r_isub (pc := 268) dX12_reckonAll_268 ?_
              refine q_lald (pc := 269) (j := n - 2) (md_r37 hm) (by decide) e2 (by omega) (by decide) dX12_reckonAll_269 ?_
              refine r_aload_n (pc := 270) 0 dX12_reckonAll_270 rfl ?_
              refine q_getR (pc := 271) fl_X12_105 hm (md_f37 hm) dX12_reckonAll_271 ?_
              refine r_iload_n (pc := 274) 3 dX12_reckonAll_274 rfl ?_
              refine q_lald (pc := 275) (j := n - 1) (md_r37 hm) (by decide) rfl (by omega) (by decide) dX12_reckonAll_275 ?_
              refine r_dV (pc := 276) (As := [_, _, _]) mv_X12_reckon ml_X12_419 (ct_reckon hm _ _ _ up2_at) (q_is hm) rfl rfl (Nat.le_of_ble_eq_true rfl) (Nat.le_of_ble_eq_true rfl) (Nat.le_of_ble_eq_true rfl) (Nat.le_of_ble_eq_true rfl) (Nat.le_of_ble_eq_true rfl) dX12_reckonAll_276 ?_
              refine q_last (pc := 279) (j := n - 2) (md_r37 hm) (by decide) e2 (by omega) (by decide) dX12_reckonAll_279 ?_
              refine r_aload_n (pc := 280) 0 dX12_reckonAll_280 rfl ?_
              rw [rsL_20, rsL_up, up2_up2]
              generalize hV : rkV (ops k) (f (n - 2)) (f (n - 1)) = V at nxt ⊢
              refine r_aload_n (pc := 281) 0 dX12_reckonAll_281 rfl ?_
              refine q_getI (pc := 282) fl_X12_413 hm dX12_reckonAll_282 ?_
              refine r_if_ne (pc := 285) (tgt := 308) dX12_reckonAll_285 (by decide) (fun c_285 => ?_) (fun c_285 => ?_)
              · rw [up2_at] at c_285
                have eB : rkB (ops k) (f (n - 2)) (f (n - 1)) = true := by unfold rkB; rw [bI_n0.mp c_285, Bool.true_or]
                refine r_iconst (pc := 308) (1) dX12_reckonAll_308 rfl ?_
                refine r_goto (pc := 309) (tgt := 313) dX12_reckonAll_309 (by decide) ?_
                refine q_putZ (pc := 313) fp_X12_413 hm (by decide) dX12_reckonAll_313 ?_
                refine r_goto (pc := 316) (tgt := 381) dX12_reckonAll_316 (by decide) ?_
                refine r_goto (pc := 381) (tgt := 10) dX12_reckonAll_381 (by decide) ?_
                rw [up2_up2, nI_1]
                rw [eB] at nxt
                exact nxt (by omega) (by omega) _ _
              · rw [up2_at] at c_285
                refine r_aload_n (pc := 288) 0 dX12_reckonAll_288 rfl ?_
                refine q_getR (pc := 289) fl_X12_105 hm (md_f37 hm) dX12_reckonAll_289 ?_
                refine r_iload_n (pc := 292) 3 dX12_reckonAll_292 rfl ?_
                refine r_iconst (pc := 293) (1) dX12_reckonAll_293 rfl ?_
                refine r_isub (pc := 294) dX12_reckonAll_294 ?_
                refine q_lald (pc := 295) (j := n - 2) (md_r37 hm) (by decide) e2 (by omega) (by decide) dX12_reckonAll_295 ?_
                refine r_ldc2_w (pc := 296) cs_X12_423 dX12_reckonAll_296 ?_
                refine r_ldc2_w (pc := 299) cs_X12_425 dX12_reckonAll_299 ?_
                refine r_dS (pc := 302) (As := [_, _, _]) ms_X12_in ml_X12_181 (ct_in _ _ _) rfl rfl (Nat.le_of_ble_eq_true rfl) (Nat.le_of_ble_eq_true rfl) (Nat.le_of_ble_eq_true rfl) (Nat.le_of_ble_eq_true rfl) (Nat.le_of_ble_eq_true rfl) dX12_reckonAll_302 ?_
                refine r_if_ne (pc := 305) (tgt := 312) dX12_reckonAll_305 (by decide) (fun c_305 => ?_) (fun c_305 => ?_)
                · rw [rsL_20, va_up_self] at c_305
                  have eB : rkB (ops k) (f (n - 2)) (f (n - 1)) = false := by unfold rkB; rw [bI_0.mp c_285, hV, bI_n0.mp c_305]; rfl
                  refine r_iconst (pc := 312) (0) dX12_reckonAll_312 rfl ?_
                  refine q_putZ (pc := 313) fp_X12_413 hm (by decide) dX12_reckonAll_313 ?_
                  refine r_goto (pc := 316) (tgt := 381) dX12_reckonAll_316 (by decide) ?_
                  refine r_goto (pc := 381) (tgt := 10) dX12_reckonAll_381 (by decide) ?_
                  rw [up2_up2, nI_1]
                  rw [eB] at nxt
                  exact nxt (by omega) (by omega) _ _
                · rw [rsL_20, va_up_self] at c_305
                  have eB : rkB (ops k) (f (n - 2)) (f (n - 1)) = true := by unfold rkB; rw [bI_0.mp c_285, hV, bI_0.mp c_305]; rfl
                  refine r_iconst (pc := 308) (1) dX12_reckonAll_308 rfl ?_
                  refine r_goto (pc := 309) (tgt := 313) dX12_reckonAll_309 (by decide) ?_
                  refine q_putZ (pc := 313) fp_X12_413 hm (by decide) dX12_reckonAll_313 ?_
                  refine r_goto (pc := 316) (tgt := 381) dX12_reckonAll_316 (by decide) ?_
                  refine r_goto (pc := 381) (tgt := 10) dX12_reckonAll_381 (by decide) ?_
                  rw [up2_up2, nI_1]
                  rw [eB] at nxt
                  exact nxt (by omega) (by omega) _ _
            · cases hst
        · rw [if_pos (Int32.not_le.mp c_104)] at hst
          split at hst
          · next hn4 =>
            have push : ∀ v : Int64, lf (ops k) (args k) = some v → Wp E mX12_reckonAll (Rm 2 0 0) (Qm E (po none (mH h m (up2 μ 0 38 (bI bk)) (up2 (rsL l f') 0 39 (if 0 < n' then f' 0 else 0)))) 0 0) 235 [(0, .ref m), (1, .int (nI a)), (2, .int (nI b)), (3, .int (nI n)), (4, .int (nI k + 1)), (5, .int (ops k)), (6, .int (args k))] [.long v, .int (nI n), .ref (m + 20)] (mH h m (up2 μ 0 38 0) (rsL l f)) 0 0 := by
              intro v hv
              rw [hv] at hst
              cases hst
              refine q_last (pc := 235) (j := n) (md_r37 hm) (by decide) rfl (by omega) (by decide) dX12_reckonAll_235 ?_
              refine r_iinc (pc := 236) (v := _ + (1)) (lv' := [(0, _), (1, _), (2, _), (3, _), (4, _), (5, _), (6, _)]) 3 dX12_reckonAll_236 rfl rfl (Nat.le_of_ble_eq_true rfl) rfl ?_
              refine r_goto (pc := 239) (tgt := 381) dX12_reckonAll_239 (by decide) ?_
              refine r_goto (pc := 381) (tgt := 10) dX12_reckonAll_381 (by decide) ?_
              rw [rsL_up, nI_1, nI_1]
              exact nxt (by omega) (by omega) _ _
            obtain ⟨v, hv⟩ : ∃ v, lf (ops k) (args k) = some v := by
              cases hlf : lf (ops k) (args k) with
              | none => rw [hlf] at hst; cases hst
              | some v => exact ⟨v, rfl⟩
            have e20 : up2 μ 0 38 0 0 20 = bI od := by rw [up2_ne (by omega)]; exact ho
            have e2 : up2 μ 0 38 0 2 = μ 2 := by funext j; exact up2_ne (by omega)
            cases od with
            | false =>
              obtain ⟨hlw, hL4, eo, ea, elf⟩ := hL rfl
              have hvL := hv
              rw [elf] at hvL
              unfold lfL at hvL
              refine r_aload_n (pc := 107) 0 dX12_reckonAll_107 rfl ?_
              refine q_getR (pc := 108) fl_X12_105 hm (md_f37 hm) dX12_reckonAll_108 ?_
              refine r_iload_n (pc := 111) 3 dX12_reckonAll_111 rfl ?_
              refine r_iload (pc := 112) 5 dX12_reckonAll_112 rfl ?_
              refine r_if_ne (pc := 114) (tgt := 123) dX12_reckonAll_114 (by decide) (fun c_114 => ?_) (fun c_114 => ?_)
              · rw [if_neg c_114] at hvL
                split at hvL
                · next hin =>
                  obtain ⟨j, hj, ej⟩ := inN_of (by decide) hin
                  refine r_aload_n (pc := 123) 0 dX12_reckonAll_123 rfl ?_
                  refine q_getI (pc := 124) fl_X12_337 hm dX12_reckonAll_124 ?_
                  refine r_if_ne (pc := 127) (tgt := 140) dX12_reckonAll_127 (by decide) (fun c_127 => ?_) (fun c_127 => ?_)
                  · exact absurd e20 c_127
                  · refine r_aload_n (pc := 130) 0 dX12_reckonAll_130 rfl ?_
                    refine q_getR (pc := 131) fl_X12_99 hm (md_f35 hm) dX12_reckonAll_131 ?_
                    refine r_iload (pc := 134) 5 dX12_reckonAll_134 rfl ?_
                    refine q_lald (pc := 136) (j := j) (md_r35 hm) (by decide) ej (by omega) (by decide) dX12_reckonAll_136 ?_
                    refine r_goto (pc := 137) (tgt := 235) dX12_reckonAll_137 (by decide) ?_
                    rw [rsL_ne (by decide)]
                    rw [ej, nI_clamp (by omega)] at hvL
                    rw [Option.some.inj hvL]
                    exact push v hv
                · cases hvL
              · rw [if_pos c_114] at hvL
                refine r_iload (pc := 117) 6 dX12_reckonAll_117 rfl ?_
                refine r_i2l (pc := 119) dX12_reckonAll_119 ?_
                refine r_goto (pc := 120) (tgt := 235) dX12_reckonAll_120 (by decide) ?_
                rw [Option.some.inj hvL]
                exact push v hv
            | true =>
              obtain ⟨eo, ea, elf⟩ := hO rfl
              have hvL := hv
              rw [elf] at hvL
              unfold lfO at hvL
              refine r_aload_n (pc := 107) 0 dX12_reckonAll_107 rfl ?_
              refine q_getR (pc := 108) fl_X12_105 hm (md_f37 hm) dX12_reckonAll_108 ?_
              refine r_iload_n (pc := 111) 3 dX12_reckonAll_111 rfl ?_
              refine r_iload (pc := 112) 5 dX12_reckonAll_112 rfl ?_
              refine r_if_ne (pc := 114) (tgt := 123) dX12_reckonAll_114 (by decide) (fun c_114 => ?_) (fun c_114 => ?_)
              · rw [if_neg c_114] at hvL
                refine r_aload_n (pc := 123) 0 dX12_reckonAll_123 rfl ?_
                refine q_getI (pc := 124) fl_X12_337 hm dX12_reckonAll_124 ?_
                refine r_if_ne (pc := 127) (tgt := 140) dX12_reckonAll_127 (by decide) (fun c_127 => ?_) (fun c_127 => ?_)
                · refine r_iload (pc := 140) 5 dX12_reckonAll_140 rfl ?_
                  refine r_iconst (pc := 142) (5) dX12_reckonAll_142 rfl ?_
                  refine r_icmp_ge (pc := 143) (tgt := 156) dX12_reckonAll_143 (by decide) (fun c_143 => ?_) (fun c_143 => ?_)
                  · rw [if_neg (Int32.not_lt.mpr c_143)] at hvL
                    refine r_iload (pc := 156) 5 dX12_reckonAll_156 rfl ?_
                    refine r_bipush (pc := 158) (7) dX12_reckonAll_158 rfl ?_
                    refine r_icmp_ne (pc := 160) (tgt := 189) dX12_reckonAll_160 (by decide) (fun c_160 => ?_) (fun c_160 => ?_)
                    · rw [if_neg c_160] at hvL
                      refine r_aload_n (pc := 189) 0 dX12_reckonAll_189 rfl ?_
                      refine r_iload (pc := 190) 6 dX12_reckonAll_190 rfl ?_
                      refine r_dV (pc := 192) (As := [_]) mv_X12_isCat ml_X12_210 (ct_isCat hm _ (by rw [e2]; exact hnc) (by omega)) (q_is hm) rfl rfl (Nat.le_of_ble_eq_true rfl) (Nat.le_of_ble_eq_true rfl) (Nat.le_of_ble_eq_true rfl) (Nat.le_of_ble_eq_true rfl) (Nat.le_of_ble_eq_true rfl) dX12_reckonAll_192 ?_
                      refine r_if_ne (pc := 195) (tgt := 204) dX12_reckonAll_195 (by decide) (fun c_195 => ?_) (fun c_195 => ?_)
                      · rw [if_pos (bI_n0.mp c_195)] at hvL
                        obtain ⟨j, hj, ej⟩ := inN_of (by omega) (bI_n0.mp c_195)
                        refine r_iload (pc := 204) 5 dX12_reckonAll_204 rfl ?_
                        refine r_iconst (pc := 206) (5) dX12_reckonAll_206 rfl ?_
                        refine r_icmp_ne (pc := 207) (tgt := 224) dX12_reckonAll_207 (by decide) (fun c_207 => ?_) (fun c_207 => ?_)
                        · rw [if_neg c_207, ej, nI_clamp (by omega)] at hvL
                          refine r_aload_n (pc := 224) 0 dX12_reckonAll_224 rfl ?_
                          refine q_getR (pc := 225) fl_X12_13 hm (md_f3 hm) dX12_reckonAll_225 ?_
                          refine r_bipush (pc := 228) (26) dX12_reckonAll_228 rfl ?_
                          refine r_iload (pc := 230) 6 dX12_reckonAll_230 rfl ?_
                          refine r_iadd (pc := 232) dX12_reckonAll_232 ?_
                          refine q_iald (pc := 233) (j := 26 + j) (md_r3 hm) (by decide) (by rw [ej]; simp only [fa_lit, nI_add]) (by omega) (by decide) dX12_reckonAll_233 ?_
                          refine r_i2l (pc := 234) dX12_reckonAll_234 ?_
                          rw [e2, Option.some.inj hvL]
                          exact push v hv
                        · rw [if_pos c_207, ej, nI_clamp (by omega)] at hvL
                          refine r_aload_n (pc := 210) 0 dX12_reckonAll_210 rfl ?_
                          refine q_getR (pc := 211) fl_X12_13 hm (md_f3 hm) dX12_reckonAll_211 ?_
                          refine r_bipush (pc := 214) (8) dX12_reckonAll_214 rfl ?_
                          refine r_iload (pc := 216) 6 dX12_reckonAll_216 rfl ?_
                          refine r_iadd (pc := 218) dX12_reckonAll_218 ?_
                          refine q_iald (pc := 219) (j := 8 + j) (md_r3 hm) (by decide) (by rw [ej]; simp only [fa_lit, nI_add]) (by omega) (by decide) dX12_reckonAll_219 ?_
                          refine r_i2l (pc := 220) dX12_reckonAll_220 ?_
                          refine r_goto (pc := 221) (tgt := 235) dX12_reckonAll_221 (by decide) ?_
                          rw [e2, Option.some.inj hvL]
                          exact push v hv
                      · rw [if_neg (by rw [bI_0.mp c_195]; decide)] at hvL
                        refine r_ldc2_w (pc := 198) cs_X12_287 dX12_reckonAll_198 ?_
                        refine r_goto (pc := 201) (tgt := 235) dX12_reckonAll_201 (by decide) ?_
                        rw [Option.some.inj hvL]
                        exact push v hv
                    · rw [if_pos c_160] at hvL
                      refine r_aload_n (pc := 163) 0 dX12_reckonAll_163 rfl ?_
                      refine r_iload (pc := 164) 6 dX12_reckonAll_164 rfl ?_
                      refine r_dV (pc := 166) (As := [_]) mv_X12_isShip ml_X12_228 (ct_isShip hm _ (by rw [e2]; exact hns) (by omega)) (q_is hm) rfl rfl (Nat.le_of_ble_eq_true rfl) (Nat.le_of_ble_eq_true rfl) (Nat.le_of_ble_eq_true rfl) (Nat.le_of_ble_eq_true rfl) (Nat.le_of_ble_eq_true rfl) dX12_reckonAll_166 ?_
                      refine r_if_eq (pc := 169) (tgt := 184) dX12_reckonAll_169 (by decide) (fun c_169 => ?_) (fun c_169 => ?_)
                      · rw [if_neg (by rw [bI_0.mp c_169]; decide)] at hvL
                        refine r_iconst (pc := 184) (-1) dX12_reckonAll_184 rfl ?_
                        refine r_i2l (pc := 185) dX12_reckonAll_185 ?_
                        refine r_goto (pc := 186) (tgt := 235) dX12_reckonAll_186 (by decide) ?_
                        rw [Option.some.inj hvL]
                        exact push v hv
                      · rw [if_pos (bI_n0.mp c_169)] at hvL
                        refine r_aload_n (pc := 172) 0 dX12_reckonAll_172 rfl ?_
                        refine r_iload (pc := 173) 6 dX12_reckonAll_173 rfl ?_
                        refine r_dV (pc := 175) (As := [_]) mv_X12_crewOf ml_X12_231 (ct_crewOf hm _ (by rw [e2]; exact hnc) h6) (q_is hm) rfl rfl (Nat.le_of_ble_eq_true rfl) (Nat.le_of_ble_eq_true rfl) (Nat.le_of_ble_eq_true rfl) (Nat.le_of_ble_eq_true rfl) (Nat.le_of_ble_eq_true rfl) dX12_reckonAll_175 ?_
                        refine r_dS (pc := 178) (As := [_]) ms_X12_ones ml_X12_190 (ct_ones _) rfl rfl (Nat.le_of_ble_eq_true rfl) (Nat.le_of_ble_eq_true rfl) (Nat.le_of_ble_eq_true rfl) (Nat.le_of_ble_eq_true rfl) (Nat.le_of_ble_eq_true rfl) dX12_reckonAll_178 ?_
                        refine r_goto (pc := 181) (tgt := 185) dX12_reckonAll_181 (by decide) ?_
                        refine r_i2l (pc := 185) dX12_reckonAll_185 ?_
                        refine r_goto (pc := 186) (tgt := 235) dX12_reckonAll_186 (by decide) ?_
                        rw [e2, Option.some.inj hvL]
                        exact push v hv
                  · rw [if_pos (Int32.not_le.mp c_143)] at hvL
                    split at hvL
                    · next hin =>
                      obtain ⟨j, hj, ej⟩ := inN_of (by decide) hin
                      refine r_aload_n (pc := 146) 0 dX12_reckonAll_146 rfl ?_
                      refine q_getR (pc := 147) fl_X12_102 hm (md_f36 hm) dX12_reckonAll_147 ?_
                      refine r_iload (pc := 150) 5 dX12_reckonAll_150 rfl ?_
                      refine q_lald (pc := 152) (j := j) (md_r36 hm) (by decide) ej (by omega) (by decide) dX12_reckonAll_152 ?_
                      refine r_goto (pc := 153) (tgt := 235) dX12_reckonAll_153 (by decide) ?_
                      rw [rsL_ne (by decide)]
                      rw [ej, nI_clamp (by omega)] at hvL
                      rw [Option.some.inj hvL]
                      exact push v hv
                    · cases hvL
                · exact absurd (e20.symm.trans c_127) (by decide)
              · rw [if_pos c_114] at hvL
                refine r_iload (pc := 117) 6 dX12_reckonAll_117 rfl ?_
                refine r_i2l (pc := 119) dX12_reckonAll_119 ?_
                refine r_goto (pc := 120) (tgt := 235) dX12_reckonAll_120 (by decide) ?_
                rw [Option.some.inj hvL]
                exact push v hv
          · cases hst
      have e20 : up2 μ 0 38 0 0 20 = bI od := by rw [up2_ne (by omega)]; exact ho
      have e2 : up2 μ 0 38 0 2 = μ 2 := by funext j; exact up2_ne (by omega)
      have e11 : up2 μ 0 38 0 11 = μ 11 := by funext j; exact up2_ne (by omega)
      have e12 : up2 μ 0 38 0 12 = μ 12 := by funext j; exact up2_ne (by omega)
      refine r_aload_n (pc := 16) 0 dX12_reckonAll_16 rfl ?_
      refine q_getI (pc := 17) fl_X12_413 hm dX12_reckonAll_17 ?_
      refine r_if_ne (pc := 20) (tgt := 384) dX12_reckonAll_20 (by decide) (fun c_20 => ?_) (fun c_20 => ?_)
      · rw [up2_at] at c_20
        exact absurd rfl c_20
      · cases od with
        | false =>
          obtain ⟨hlw, hL4, eo, ea, elf⟩ := hL rfl
          refine r_aload_n (pc := 23) 0 dX12_reckonAll_23 rfl ?_
          refine q_getI (pc := 24) fl_X12_337 hm dX12_reckonAll_24 ?_
          refine r_if_eq (pc := 27) (tgt := 40) dX12_reckonAll_27 (by decide) (fun c_27 => ?_) (fun c_27 => ?_)
          · refine r_aload_n (pc := 40) 0 dX12_reckonAll_40 rfl ?_
            refine q_getR (pc := 41) fl_X12_13 hm (md_f3 hm) dX12_reckonAll_41 ?_
            refine r_aload_n (pc := 44) 0 dX12_reckonAll_44 rfl ?_
            refine q_getI (pc := 45) fl_X12_416 hm dX12_reckonAll_45 ?_
            refine r_bipush (pc := 48) (98) dX12_reckonAll_48 rfl ?_
            refine r_iadd (pc := 50) dX12_reckonAll_50 ?_
            refine r_iconst (pc := 51) (2) dX12_reckonAll_51 rfl ?_
            refine r_iload (pc := 52) 4 dX12_reckonAll_52 rfl ?_
            refine r_imul (pc := 54) dX12_reckonAll_54 ?_
            refine r_iadd (pc := 55) dX12_reckonAll_55 ?_
            refine q_iald (pc := 56) (j := L + 98 + 2 * k) (md_r3 hm) (by decide) (by rw [up2_ne (by omega), hlw]; simp only [fa_lit, nI_add, nI_mul]) (by omega) (by decide) dX12_reckonAll_56 ?_
            refine r_istore (pc := 57) (lv' := [(0, _), (1, _), (2, _), (3, _), (4, _), (5, _)]) dX12_reckonAll_57 (Nat.le_of_ble_eq_true rfl) rfl ?_
            refine r_aload_n (pc := 59) 0 dX12_reckonAll_59 rfl ?_
            refine q_getI (pc := 60) fl_X12_337 hm dX12_reckonAll_60 ?_
            refine r_if_eq (pc := 63) (tgt := 76) dX12_reckonAll_63 (by decide) (fun c_63 => ?_) (fun c_63 => ?_)
            · refine r_aload_n (pc := 76) 0 dX12_reckonAll_76 rfl ?_
              refine q_getR (pc := 77) fl_X12_13 hm (md_f3 hm) dX12_reckonAll_77 ?_
              refine r_aload_n (pc := 80) 0 dX12_reckonAll_80 rfl ?_
              refine q_getI (pc := 81) fl_X12_416 hm dX12_reckonAll_81 ?_
              refine r_bipush (pc := 84) (98) dX12_reckonAll_84 rfl ?_
              refine r_iadd (pc := 86) dX12_reckonAll_86 ?_
              refine r_iconst (pc := 87) (2) dX12_reckonAll_87 rfl ?_
              refine r_iload (pc := 88) 4 dX12_reckonAll_88 rfl ?_
              refine r_imul (pc := 90) dX12_reckonAll_90 ?_
              refine r_iadd (pc := 91) dX12_reckonAll_91 ?_
              refine r_iconst (pc := 92) (1) dX12_reckonAll_92 rfl ?_
              refine r_iadd (pc := 93) dX12_reckonAll_93 ?_
              refine q_iald (pc := 94) (j := L + 98 + 2 * k + 1) (md_r3 hm) (by decide) (by rw [up2_ne (by omega), hlw]; simp only [fa_lit, nI_add, nI_mul]) (by omega) (by decide) dX12_reckonAll_94 ?_
              refine r_istore (pc := 95) (lv' := [(0, _), (1, _), (2, _), (3, _), (4, _), (5, _), (6, _)]) dX12_reckonAll_95 (Nat.le_of_ble_eq_true rfl) rfl ?_
              rw [e2]
              rw [eo, ea] at body
              exact body
            · exact absurd e20 c_63
          · exact absurd e20 c_27
        | true =>
          obtain ⟨eo, ea, elf⟩ := hO rfl
          refine r_aload_n (pc := 23) 0 dX12_reckonAll_23 rfl ?_
          refine q_getI (pc := 24) fl_X12_337 hm dX12_reckonAll_24 ?_
          refine r_if_eq (pc := 27) (tgt := 40) dX12_reckonAll_27 (by decide) (fun c_27 => ?_) (fun c_27 => ?_)
          · exact absurd (e20.symm.trans c_27) (by decide)
          · refine r_aload_n (pc := 30) 0 dX12_reckonAll_30 rfl ?_
            refine q_getR (pc := 31) fl_X12_45 hm (md_f24 hm) dX12_reckonAll_31 ?_
            refine r_iload (pc := 34) 4 dX12_reckonAll_34 rfl ?_
            refine q_iald (pc := 36) (j := k) (md_r24 hm) (by decide) rfl (by omega) (by decide) dX12_reckonAll_36 ?_
            refine r_goto (pc := 37) (tgt := 57) dX12_reckonAll_37 (by decide) ?_
            refine r_istore (pc := 57) (lv' := [(0, _), (1, _), (2, _), (3, _), (4, _), (5, _)]) dX12_reckonAll_57 (Nat.le_of_ble_eq_true rfl) rfl ?_
            refine r_aload_n (pc := 59) 0 dX12_reckonAll_59 rfl ?_
            refine q_getI (pc := 60) fl_X12_337 hm dX12_reckonAll_60 ?_
            refine r_if_eq (pc := 63) (tgt := 76) dX12_reckonAll_63 (by decide) (fun c_63 => ?_) (fun c_63 => ?_)
            · exact absurd (e20.symm.trans c_63) (by decide)
            · refine r_aload_n (pc := 66) 0 dX12_reckonAll_66 rfl ?_
              refine q_getR (pc := 67) fl_X12_48 hm (md_f25 hm) dX12_reckonAll_67 ?_
              refine r_iload (pc := 70) 4 dX12_reckonAll_70 rfl ?_
              refine q_iald (pc := 72) (j := k) (md_r25 hm) (by decide) rfl (by omega) (by decide) dX12_reckonAll_72 ?_
              refine r_goto (pc := 73) (tgt := 95) dX12_reckonAll_73 (by decide) ?_
              refine r_istore (pc := 95) (lv' := [(0, _), (1, _), (2, _), (3, _), (4, _), (5, _), (6, _)]) dX12_reckonAll_95 (Nat.le_of_ble_eq_true rfl) rfl ?_
              rw [e11, e12]
              rw [eo, ea] at body
              exact body
  have h0 := loop N a 0 (l 20) (by omega) (by omega) hr
  rw [rsL_self] at h0
  exact h0
end EVAL12B
