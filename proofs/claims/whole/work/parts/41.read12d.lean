/-! the reference's reader: behind a sum, behind a test, a whole expression -/
section READ12D
variable {E : En} {h : Hp} {m : Nat} {μ : Mu} {l : La} {n : Nat} {od : Bool} {c0 : Nat} {O0 A0 : Nat → Int32}
theorem ct_stl (hm : Md E h m) (h4 : n ≤ 400) {O A P T : Nat → Int32} {cc i lv op : Nat} {pl : List PE} {tn : Int32} {s : Sm} (hM : MR (μ 9) n O0 A0 od c0 O A P T cc (tn, i, lv, op, pl, s)) (htn : ¬ (tn = 0 ∨ tn = 1)) {least : Int32} (hl : 0 < least) :
    ∃ cc' O' A' q', (∀ (i' : Nat) (bd : Bool) (lvv opp : Int32), Ct E 1 0 0 mX12_settle [.ref m, .int least] (mH h m (rM μ n i' bd (nI cc) lvv (nI pl.length) opp O A P T) (rL μ l n i')) (po none (mH h m (rM μ n i' bd (nI cc') lvv (nI (stlA least pl s).1.length) opp O' A' P T) (rL μ l n i')))) ∧
      (stlA least pl s).1.length ≤ pl.length ∧ cc' + pndN P (stlA least pl s).1.length ≤ cc + pndN P pl.length ∧ (∀ k, k < c0 → O' k = O0 k ∧ A' k = A0 k) ∧ PL O' A' P T od c0 (stlA least pl s).1 q' ∧ Seg O' A' od q' cc' (stlA least pl s).2 := by
  have hBD := MR_BD h4 hM
  obtain ⟨m1, m2, m3, m4, m5, m6, q, hPL, -, hsg⟩ := hM
  obtain ⟨r1, r2, r3, r4, q', r5, r6⟩ := stl_sem (P := P) (T := T) hl pl q cc s O A hPL (hsg htn) hBD.2.1
  refine ⟨_, _, _, q', fun i' bd lvv opp => ?_, r2, by rw [← r1]; exact r3, fun k hk => ⟨(r4 k hk).1.trans (m6 k hk).1, (r4 k hk).2.trans (m6 k hk).2⟩, r5, r6⟩
  have hst := ct_settle (μ := μ) (l := l) (n := n) (i := i') (bd := bd) (lv := lvv) (op := opp) (P := P) (T := T) hm least pl.length cc O A hBD.1 hBD.2.1 hBD.2.2
  rw [r1] at hst
  exact hst
theorem sgnA_k (t : Tk) : sgnA t = -1 ∨ ((¬ sgnA t < 20 ∧ sgnA t < 28 ∧ ¬ (sgnA t = 29 ∨ sgnA t = 30) ∧ 0 < bndF (sgnA t)) ∧ ¬ t.2.2.1 = 0) := by
  unfold sgnA
  split
  · next h1 => exact Or.inr ⟨by decide, tS_n0 h1⟩
  · split
    · next h1 => exact Or.inr ⟨by decide, tS_n0 h1⟩
    · split
      · next h1 => exact Or.inr ⟨by decide, tS_n0 h1⟩
      · split
        · next h1 => exact Or.inr ⟨by decide, tS_n0 h1⟩
        · split
          · next h1 => exact Or.inr ⟨by decide, tS_n0 h1⟩
          · exact Or.inl rfl
theorem cmsA_k (t : Tk) : (¬ cmsA t < 20 ∧ cmsA t < 28 ∧ ¬ (cmsA t = 29 ∨ cmsA t = 30)) ∧ ((¬ cmsA t = 27 ∨ tS t 61 = true) → ¬ t.2.2.1 = 0) := by
  unfold cmsA
  split
  · next h1 => exact ⟨by decide, fun _ => tS_n0 h1⟩
  · split
    · next h1 => exact ⟨by decide, fun _ => tS_n0 h1⟩
    · exact ⟨by decide, fun z => z.elim (fun y => absurd rfl y) (fun y => tS_n0 y)⟩
/-- a sign goes onto the pile -/
theorem MR_pushB {O' A' P T : Nat → Int32} {cc' i lv op q' : Nat} {x y : Int32} {pl' : List PE} {s' : Sm} (m1 : lv ≤ 50) (m2 : op ≤ 8) (m3 : i + 1 ≤ (tk (μ 9) n (i + 1)).1) (m4 : cc' + pndN P pl'.length ≤ i) (m5 : pl'.length ≤ i) (m6 : ∀ k, k < c0 → O' k = O0 k ∧ A' k = A0 k) (hPL : PL O' A' P T od c0 pl' q') (hsg : Seg O' A' od q' cc' s') (h20 : ¬ x < 20) (h28 : x < 28) :
    MR (μ 9) n O0 A0 od c0 O' A' (va_up P pl'.length x) (va_up T pl'.length y) cc' (1, i + 1, lv, op, (x, s') :: pl', sZ) := by
  refine ⟨m1, m2, m3, ?_, show pl'.length + 1 ≤ i + 1 by omega, m6, cc', PL_pushB hPL hsg h20 h28, fun _ => rfl, fun z => absurd (Or.inr rfl) z⟩
  show cc' + pndN (va_up P pl'.length x) (pl'.length + 1) ≤ i + 1
  rw [pndN_up]
  split <;> omega
theorem MR_turn {O A P T : Nat → Int32} {cc i lv op : Nat} {pl : List PE} {tn tn' : Int32} {s : Sm} (hM : MR (μ 9) n O0 A0 od c0 O A P T cc (tn, i, lv, op, pl, s)) (htn : ¬ (tn = 0 ∨ tn = 1)) (htn' : ¬ (tn' = 0 ∨ tn' = 1)) : MR (μ 9) n O0 A0 od c0 O A P T cc (tn', i, lv, op, pl, s) := by
  obtain ⟨m1, m2, m3, m4, m5, m6, q, hPL, -, hsg⟩ := hM
  exact ⟨m1, m2, m3, m4, m5, m6, q, hPL, fun z => absurd z htn', fun _ => hsg htn⟩
theorem ct_readPlain (hm : Md E h m) (hn : μ 0 13 = nI n) (h4 : n ≤ 400) (ho : μ 0 20 = bI od) {O A P T : Nat → Int32} {cc i lv op : Nat} {pl : List PE} {s : Sm} (hM : MR (μ 9) n O0 A0 od c0 O A P T cc (0, i, lv, op, pl, s)) {rr : Nat ⊕ AS} (hr : rplA (l 15) (l 16) od (tk (μ 9) n) i lv op pl = some rr) :
    Ct E 5 0 0 mX12_readPlain [.ref m] (mH h m (rM μ n i false (nI cc) (nI lv) (nI pl.length) (nI op) O A P T) (rL μ l n i)) (pR h m μ l n O0 A0 od c0 rr) := by
  have hBD := MR_BD h4 hM
  have hrp := fun hr' => ct_readPart (h := h) (l := l) (r := rr) hm hn h4 ho (Or.inl rfl) hM hr'
  obtain ⟨m1, m2, m3, m4, m5, m6, q, hPL, hq, -⟩ := id hM
  simp only at m1 m2 m3 m4 m5
  have hqc : q = cc := hq (Or.inl rfl)
  subst hqc
  refine Ct.of (by decide +kernel) (Nat.le_of_ble_eq_true rfl) ?_
  unfold rplA at hr
  refine r_aload_n (pc := 0) 0 dX12_readPlain_0 rfl ?_
  refine r_ldc2_w (pc := 1) cs_X12_361 dX12_readPlain_1 ?_
  refine r_dV (pc := 4) (As := [_]) mv_X12_isWord ml_X12_318 (ct_isW hm 14836) (q_is hm) rfl rfl (Nat.le_of_ble_eq_true rfl) (Nat.le_of_ble_eq_true rfl) (Nat.le_of_ble_eq_true rfl) (Nat.le_of_ble_eq_true rfl) (Nat.le_of_ble_eq_true rfl) dX12_readPlain_4 ?_
  refine r_if_eq (pc := 7) (tgt := 23) dX12_readPlain_7 (by decide) (fun c_7 => ?_) (fun c_7 => ?_)
  · have hW := bI_0.mp c_7
    rw [if_neg (by rw [hW]; decide)] at hr
    refine r_aload_n (pc := 23) 0 dX12_readPlain_23 rfl ?_
    refine r_bipush (pc := 24) (40) dX12_readPlain_24 rfl ?_
    refine r_dV (pc := 26) (As := [_]) mv_X12_isSign ml_X12_331 (ct_isS hm 40) (q_is hm) rfl rfl (Nat.le_of_ble_eq_true rfl) (Nat.le_of_ble_eq_true rfl) (Nat.le_of_ble_eq_true rfl) (Nat.le_of_ble_eq_true rfl) (Nat.le_of_ble_eq_true rfl) dX12_readPlain_26 ?_
    refine r_if_eq (pc := 29) (tgt := 40) dX12_readPlain_29 (by decide) (fun c_29 => ?_) (fun c_29 => ?_)
    · have hS := bI_0.mp c_29
      rw [if_neg (by rw [hS]; decide)] at hr
      refine r_aload_n (pc := 40) 0 dX12_readPlain_40 rfl ?_
      refine r_callV (pc := 41) (As := []) mv_X12_readPart ml_X12_363 (hrp hr) (q_is hm) rfl rfl (Nat.le_of_ble_eq_true rfl) (Nat.le_of_ble_eq_true rfl) (Nat.le_of_ble_eq_true rfl) (Nat.le_of_ble_eq_true rfl) (Nat.le_of_ble_eq_true rfl) dX12_readPlain_41 (fun r h1 hp => ?_)
      cases rr with
      | inl j =>
        obtain ⟨x, pp, cc', lv', op', O', A', P', T', e1, hb, rfl⟩ := id hp
        subst e1
        show Wp E mX12_readPlain _ _ _ _ [.int _] _ 0 0
        refine r_iret (pc := 44) rfl ?_ (Nat.le_of_ble_eq_true rfl) (Nat.le_of_ble_eq_true rfl) dX12_readPlain_44
        exact hp
      | inr st =>
        obtain ⟨cc', O', A', P', T', e1, hb, rfl⟩ := id hp
        subst e1
        show Wp E mX12_readPlain _ _ _ _ [.int _] _ 0 0
        refine r_iret (pc := 44) rfl ?_ (Nat.le_of_ble_eq_true rfl) (Nat.le_of_ble_eq_true rfl) dX12_readPlain_44
        exact hp
    · have hS := bI_n0.mp c_29
      rw [if_pos hS] at hr
      have h400 := tk_lt h4 m3 (tS_n0 hS)
      have hob := ct_openBracket (μ := μ) (l := l) (i := i) (c := nI q) (lv := nI lv) (O := O) (A := A) (P := P) (T := T) hm hn h4 31 (pp := pl.length) (oo := op) (by omega) m2
      unfold opnA at hr
      by_cases h8 : op < 8
      · rw [if_pos h8, if_pos h8] at hob
        rw [if_pos h8] at hr
        cases hr
        refine r_aload_n (pc := 32) 0 dX12_readPlain_32 rfl ?_
        refine r_bipush (pc := 33) (31) dX12_readPlain_33 rfl ?_
        refine r_dV0 (pc := 35) (As := [_]) mv_X12_openBracket ml_X12_334 (hob) (q_is hm) rfl rfl (Nat.le_of_ble_eq_true rfl) (Nat.le_of_ble_eq_true rfl) (Nat.le_of_ble_eq_true rfl) (Nat.le_of_ble_eq_true rfl) (Nat.le_of_ble_eq_true rfl) dX12_readPlain_35 ?_
        refine r_iconst (pc := 38) (0) dX12_readPlain_38 rfl ?_
        refine r_iret (pc := 39) rfl ?_ (Nat.le_of_ble_eq_true rfl) (Nat.le_of_ble_eq_true rfl) dX12_readPlain_39
        refine ⟨q, O, A, _, _, rfl, ⟨m1, show op + 1 ≤ 8 by omega, tk_next m3 (tS_n0 hS), ?_, show pl.length + 1 ≤ i + 1 by omega, m6, q, PL_push0 hPL (by decide) (by decide), fun _ => rfl, fun z => absurd (Or.inl rfl) z⟩, rfl⟩
        show q + pndN (va_up P pl.length 31) (pl.length + 1) ≤ i + 1
        rw [pndN_up, if_neg (by decide)]; omega
      · rw [if_neg h8, if_neg h8] at hob
        rw [if_neg h8] at hr
        cases hr
        refine r_aload_n (pc := 32) 0 dX12_readPlain_32 rfl ?_
        refine r_bipush (pc := 33) (31) dX12_readPlain_33 rfl ?_
        refine r_dV0 (pc := 35) (As := [_]) mv_X12_openBracket ml_X12_334 (hob) (q_is hm) rfl rfl (Nat.le_of_ble_eq_true rfl) (Nat.le_of_ble_eq_true rfl) (Nat.le_of_ble_eq_true rfl) (Nat.le_of_ble_eq_true rfl) (Nat.le_of_ble_eq_true rfl) dX12_readPlain_35 ?_
        refine r_iconst (pc := 38) (0) dX12_readPlain_38 rfl ?_
        refine r_iret (pc := 39) rfl ?_ (Nat.le_of_ble_eq_true rfl) (Nat.le_of_ble_eq_true rfl) dX12_readPlain_39
        exact ⟨0, pl.length, q, _, _, O, A, P, T, rfl, hBD, rfl⟩
  · have hW := bI_n0.mp c_7
    rw [if_pos hW] at hr
    cases hr
    have h400 := tk_lt h4 m3 (tW_n0 hW)
    refine r_aload_n (pc := 10) 0 dX12_readPlain_10 rfl ?_
    refine r_bipush (pc := 11) (28) dX12_readPlain_11 rfl ?_
    refine r_iconst (pc := 13) (0) dX12_readPlain_13 rfl ?_
    refine r_dV0 (pc := 14) (As := [_, _]) mv_X12_push ml_X12_325 (ct_push hm _ _ (show pl.length < 400 by omega)) (q_is hm) rfl rfl (Nat.le_of_ble_eq_true rfl) (Nat.le_of_ble_eq_true rfl) (Nat.le_of_ble_eq_true rfl) (Nat.le_of_ble_eq_true rfl) (Nat.le_of_ble_eq_true rfl) dX12_readPlain_14 ?_
    refine r_aload_n (pc := 17) 0 dX12_readPlain_17 rfl ?_
    refine r_dV0 (pc := 18) (As := []) mv_X12_onward ml_X12_264 (ct_onw hm hn h4) (q_is hm) rfl rfl (Nat.le_of_ble_eq_true rfl) (Nat.le_of_ble_eq_true rfl) (Nat.le_of_ble_eq_true rfl) (Nat.le_of_ble_eq_true rfl) (Nat.le_of_ble_eq_true rfl) dX12_readPlain_18 ?_
    refine r_iconst (pc := 21) (0) dX12_readPlain_21 rfl ?_
    refine r_iret (pc := 22) rfl ?_ (Nat.le_of_ble_eq_true rfl) (Nat.le_of_ble_eq_true rfl) dX12_readPlain_22
    refine ⟨q, O, A, _, _, rfl, ⟨m1, m2, tk_next m3 (tW_n0 hW), ?_, show pl.length + 1 ≤ i + 1 by omega, m6, q, PL_push0 hPL (by decide) (by decide), fun _ => rfl, fun z => absurd (Or.inl rfl) z⟩, rfl⟩
    show q + pndN (va_up P pl.length 28) (pl.length + 1) ≤ i + 1
    rw [pndN_up, if_neg (by decide)]; omega
theorem PL_open {O A P T : Nat → Int32} {x : PE} {r : List PE} {q : Nat} (h31 : (31 : Int32) ≤ x.1) (hp : PL O A P T od c0 (x :: r) q) : PL O A P T od c0 r q := by
  obtain ⟨-, a, h1, h2⟩ := hp
  have hne : ¬ (x.1 = 29 ∨ x.1 = 30) := fun z => by rcases z with z | z <;> rw [z] at h31 <;> exact absurd h31 (by decide)
  rw [if_neg hne, if_pos (Int32.le_trans (by decide) h31)] at h2
  rw [h2]; exact h1
theorem ct_behindSum (hm : Md E h m) (hn : μ 0 13 = nI n) (h4 : n ≤ 400) (ho : μ 0 20 = bI od) {O A P T : Nat → Int32} {cc i lv op : Nat} {pl : List PE} {s : Sm} (test : Bool) (hM : MR (μ 9) n O0 A0 od c0 O A P T cc (3, i, lv, op, pl, s)) {r : Nat ⊕ AS} (hr : bsA (tk (μ 9) n) test i lv op pl s = some r) :
    Ct E 3 0 0 mX12_behindSum [.ref m, .int (bI test)] (mH h m (rM μ n i false (nI cc) (nI lv) (nI pl.length) (nI op) O A P T) (rL μ l n i)) (pR h m μ l n O0 A0 od c0 r) := by
  have hBD := MR_BD h4 hM
  have h01 : ¬ ((3 : Int32) = 0 ∨ (3 : Int32) = 1) := by decide
  have hstl := fun (least : Int32) (hl : 0 < least) => ct_stl (h := h) (l := l) hm h4 hM h01 hl
  obtain ⟨m1, m2, m3, m4, m5, m6, q, hPL, -, hsg⟩ := id hM
  simp only at m1 m2 m3 m4 m5
  refine Ct.of (by decide +kernel) (Nat.le_of_ble_eq_true rfl) ?_
  unfold bsA at hr
  have at97 : sgnA (tk (μ 9) n i) = -1 → Wp E mX12_behindSum (Rm 3 0 0) (Qm E (pR h m μ l n O0 A0 od c0 r) 0 0) 97 [(0, .ref m), (1, .int (bI test)), (2, .int (-1))] [] (mH h m (rM μ n i false (nI cc) (nI lv) (nI pl.length) (nI op) O A P T) (rL μ l n i)) 0 0 := by
    intro hs
    rw [if_neg (fun z => z hs)] at hr
    have hin := PL_inn _ _ hPL
    have hcm := PL_cmp _ _ hPL
    refine r_aload_n (pc := 97) 0 dX12_behindSum_97 rfl ?_
    refine r_dV (pc := 98) (As := []) mv_X12_inner ml_X12_369 (ct_inner hm hBD.1) (q_is hm) rfl rfl (Nat.le_of_ble_eq_true rfl) (Nat.le_of_ble_eq_true rfl) (Nat.le_of_ble_eq_true rfl) (Nat.le_of_ble_eq_true rfl) (Nat.le_of_ble_eq_true rfl) dX12_behindSum_98 ?_
    refine r_istore_n (pc := 101) (lv' := [(0, _), (1, _), (2, _), (3, _)]) dX12_behindSum_101 (Nat.le_of_ble_eq_true rfl) rfl ?_
    rw [hin]
    have at163 : ¬ innA pl = 32 → ¬ (innA pl = -1 ∧ test = false) → Wp E mX12_behindSum (Rm 3 0 0) (Qm E (pR h m μ l n O0 A0 od c0 r) 0 0) 163 [(0, .ref m), (1, .int (bI test)), (2, .int (-1)), (3, .int (innA pl))] [] (mH h m (rM μ n i false (nI cc) (nI lv) (nI pl.length) (nI op) O A P T) (rL μ l n i)) 0 0 := by
      intro h32 hno
      rw [if_neg h32, if_neg hno] at hr
      refine r_aload_n (pc := 163) 0 dX12_behindSum_163 rfl ?_
      refine r_dV (pc := 164) (As := []) mv_X12_isCompared ml_X12_372 (ct_isCompared hm hBD.1) (q_is hm) rfl rfl (Nat.le_of_ble_eq_true rfl) (Nat.le_of_ble_eq_true rfl) (Nat.le_of_ble_eq_true rfl) (Nat.le_of_ble_eq_true rfl) (Nat.le_of_ble_eq_true rfl) dX12_behindSum_164 ?_
      refine r_if_eq (pc := 167) (tgt := 172) dX12_behindSum_167 (by decide) (fun c_167 => ?_) (fun c_167 => ?_)
      · rw [hcm] at c_167
        have hc := bI_0.mp c_167
        rw [if_neg (by rw [hc]; decide)] at hr
        have at224 : ∀ g : Bool, g = decide (¬ cmsA (tk (μ 9) n i) = 27 ∨ tS (tk (μ 9) n i) 61 = true) → Wp E mX12_behindSum (Rm 3 0 0) (Qm E (pR h m μ l n O0 A0 od c0 r) 0 0) 224 [(0, .ref m), (1, .int (bI test)), (2, .int (cmsA (tk (μ 9) n i))), (3, .int (innA pl))] [.int (bI g), .ref m] (mH h m (rM μ n i false (nI cc) (nI lv) (nI pl.length) (nI op) O A P T) (rL μ l n i)) 0 0 := by
          intro g hg
          have hck := cmsA_k (tk (μ 9) n i)
          cases g with
          | false =>
            rw [if_neg (of_decide_eq_false hg.symm)] at hr
            cases hr
            refine r_dV0 (pc := 224) (As := [_]) mv_X12_must ml_X12_293 (ct_must (q := false) hm hn h4) (q_is hm) rfl rfl (Nat.le_of_ble_eq_true rfl) (Nat.le_of_ble_eq_true rfl) (Nat.le_of_ble_eq_true rfl) (Nat.le_of_ble_eq_true rfl) (Nat.le_of_ble_eq_true rfl) dX12_behindSum_224 ?_
            refine r_aload_n (pc := 227) 0 dX12_behindSum_227 rfl ?_
            refine q_getI (pc := 228) fl_X12_260 hm dX12_behindSum_228 ?_
            refine r_if_ne (pc := 231) (tgt := 245) dX12_behindSum_231 (by decide) (fun c_231 => ?_) (fun c_231 => ?_)
            · refine r_iconst (pc := 245) (1) dX12_behindSum_245 rfl ?_
              refine r_iret (pc := 246) rfl ?_ (Nat.le_of_ble_eq_true rfl) (Nat.le_of_ble_eq_true rfl) dX12_behindSum_246
              exact ⟨1, pl.length, cc, _, _, O, A, P, T, rfl, hBD, rfl⟩
            · exact absurd (show bI true = 0 from c_231) (by decide)
          | true =>
            have hy := of_decide_eq_true hg.symm
            rw [if_pos hy] at hr
            cases hr
            have h400 := tk_lt h4 m3 (hck.2 hy)
            obtain ⟨cc', O', A', q', k1, k2, k3, k4, k5, k6⟩ := hstl 5 (by decide)
            refine r_dV0 (pc := 224) (As := [_]) mv_X12_must ml_X12_293 (ct_must (q := true) hm hn h4) (q_is hm) rfl rfl (Nat.le_of_ble_eq_true rfl) (Nat.le_of_ble_eq_true rfl) (Nat.le_of_ble_eq_true rfl) (Nat.le_of_ble_eq_true rfl) (Nat.le_of_ble_eq_true rfl) dX12_behindSum_224 ?_
            refine r_aload_n (pc := 227) 0 dX12_behindSum_227 rfl ?_
            refine q_getI (pc := 228) fl_X12_260 hm dX12_behindSum_228 ?_
            refine r_if_ne (pc := 231) (tgt := 245) dX12_behindSum_231 (by decide) (fun c_231 => ?_) (fun c_231 => ?_)
            · exact absurd rfl c_231
            · have eS : mustS i false true = (i + 1, false) := rfl
              rw [eS]
              refine r_aload_n (pc := 234) 0 dX12_behindSum_234 rfl ?_
              refine r_iconst (pc := 235) (5) dX12_behindSum_235 rfl ?_
              refine r_dV0 (pc := 236) (As := [_]) mv_X12_settle ml_X12_366 (k1 _ _ _ _) (q_is hm) rfl rfl (Nat.le_of_ble_eq_true rfl) (Nat.le_of_ble_eq_true rfl) (Nat.le_of_ble_eq_true rfl) (Nat.le_of_ble_eq_true rfl) (Nat.le_of_ble_eq_true rfl) dX12_behindSum_236 ?_
              refine r_aload_n (pc := 239) 0 dX12_behindSum_239 rfl ?_
              refine r_iload_n (pc := 240) 2 dX12_behindSum_240 rfl ?_
              refine r_iconst (pc := 241) (0) dX12_behindSum_241 rfl ?_
              refine r_dV0 (pc := 242) (As := [_, _]) mv_X12_push ml_X12_325 (ct_push hm _ _ (show (stlA 5 pl s).1.length < 400 by omega)) (q_is hm) rfl rfl (Nat.le_of_ble_eq_true rfl) (Nat.le_of_ble_eq_true rfl) (Nat.le_of_ble_eq_true rfl) (Nat.le_of_ble_eq_true rfl) (Nat.le_of_ble_eq_true rfl) dX12_behindSum_242 ?_
              refine r_iconst (pc := 245) (1) dX12_behindSum_245 rfl ?_
              refine r_iret (pc := 246) rfl ?_ (Nat.le_of_ble_eq_true rfl) (Nat.le_of_ble_eq_true rfl) dX12_behindSum_246
              exact ⟨cc', O', A', _, _, rfl, MR_pushB m1 m2 (tk_next m3 (hck.2 hy)) (by omega) (by omega) k4 k5 k6 hck.1.1 hck.1.2.1, rfl⟩
        have at202 : ∀ x : Int32, x = cmsA (tk (μ 9) n i) → Wp E mX12_behindSum (Rm 3 0 0) (Qm E (pR h m μ l n O0 A0 od c0 r) 0 0) 202 [(0, .ref m), (1, .int (bI test)), (2, .int (-1)), (3, .int (innA pl))] [.int x] (mH h m (rM μ n i false (nI cc) (nI lv) (nI pl.length) (nI op) O A P T) (rL μ l n i)) 0 0 := by
          rintro x rfl
          refine r_istore_n (pc := 202) (lv' := [(0, _), (1, _), (2, _), (3, _)]) dX12_behindSum_202 (Nat.le_of_ble_eq_true rfl) rfl ?_
          refine r_aload_n (pc := 203) 0 dX12_behindSum_203 rfl ?_
          refine r_iload_n (pc := 204) 2 dX12_behindSum_204 rfl ?_
          refine r_bipush (pc := 205) (27) dX12_behindSum_205 rfl ?_
          refine r_icmp_ne (pc := 207) (tgt := 219) dX12_behindSum_207 (by decide) (fun c_207 => ?_) (fun c_207 => ?_)
          · refine r_iconst (pc := 219) (1) dX12_behindSum_219 rfl ?_
            refine r_goto (pc := 220) (tgt := 224) dX12_behindSum_220 (by decide) ?_
            exact at224 true (decide_eq_true (Or.inl c_207)).symm
          · refine r_aload_n (pc := 210) 0 dX12_behindSum_210 rfl ?_
            refine r_bipush (pc := 211) (61) dX12_behindSum_211 rfl ?_
            refine r_dV (pc := 213) (As := [_]) mv_X12_isSign ml_X12_331 (ct_isS hm 61) (q_is hm) rfl rfl (Nat.le_of_ble_eq_true rfl) (Nat.le_of_ble_eq_true rfl) (Nat.le_of_ble_eq_true rfl) (Nat.le_of_ble_eq_true rfl) (Nat.le_of_ble_eq_true rfl) dX12_behindSum_213 ?_
            refine r_if_eq (pc := 216) (tgt := 223) dX12_behindSum_216 (by decide) (fun c_216 => ?_) (fun c_216 => ?_)
            · refine r_iconst (pc := 223) (0) dX12_behindSum_223 rfl ?_
              exact at224 false (decide_eq_false (fun z => z.elim (fun y => y c_207) (fun y => by rw [bI_0.mp c_216] at y; exact absurd y (by decide)))).symm
            · refine r_iconst (pc := 219) (1) dX12_behindSum_219 rfl ?_
              refine r_goto (pc := 220) (tgt := 224) dX12_behindSum_220 (by decide) ?_
              exact at224 true (decide_eq_true (Or.inr (bI_n0.mp c_216))).symm
        refine r_aload_n (pc := 172) 0 dX12_behindSum_172 rfl ?_
        refine r_bipush (pc := 173) (60) dX12_behindSum_173 rfl ?_
        refine r_dV (pc := 175) (As := [_]) mv_X12_isSign ml_X12_331 (ct_isS hm 60) (q_is hm) rfl rfl (Nat.le_of_ble_eq_true rfl) (Nat.le_of_ble_eq_true rfl) (Nat.le_of_ble_eq_true rfl) (Nat.le_of_ble_eq_true rfl) (Nat.le_of_ble_eq_true rfl) dX12_behindSum_175 ?_
        refine r_if_eq (pc := 178) (tgt := 186) dX12_behindSum_178 (by decide) (fun c_178 => ?_) (fun c_178 => ?_)
        · have h60 := bI_0.mp c_178
          refine r_aload_n (pc := 186) 0 dX12_behindSum_186 rfl ?_
          refine r_bipush (pc := 187) (62) dX12_behindSum_187 rfl ?_
          refine r_dV (pc := 189) (As := [_]) mv_X12_isSign ml_X12_331 (ct_isS hm 62) (q_is hm) rfl rfl (Nat.le_of_ble_eq_true rfl) (Nat.le_of_ble_eq_true rfl) (Nat.le_of_ble_eq_true rfl) (Nat.le_of_ble_eq_true rfl) (Nat.le_of_ble_eq_true rfl) dX12_behindSum_189 ?_
          refine r_if_eq (pc := 192) (tgt := 200) dX12_behindSum_192 (by decide) (fun c_192 => ?_) (fun c_192 => ?_)
          · have h62 := bI_0.mp c_192
            refine r_bipush (pc := 200) (27) dX12_behindSum_200 rfl ?_
            exact at202 27 (by unfold cmsA; rw [if_neg (by rw [h60]; decide), if_neg (by rw [h62]; decide)])
          · have h62 := bI_n0.mp c_192
            refine r_bipush (pc := 195) (26) dX12_behindSum_195 rfl ?_
            refine r_goto (pc := 197) (tgt := 202) dX12_behindSum_197 (by decide) ?_
            exact at202 26 (by unfold cmsA; rw [if_neg (by rw [h60]; decide), if_pos h62])
        · have h60 := bI_n0.mp c_178
          refine r_bipush (pc := 181) (25) dX12_behindSum_181 rfl ?_
          refine r_goto (pc := 183) (tgt := 202) dX12_behindSum_183 (by decide) ?_
          exact at202 25 (by unfold cmsA; rw [if_pos h60])
      · rw [hcm] at c_167
        rw [if_pos (bI_n0.mp c_167)] at hr
        cases hr
        refine r_iconst (pc := 170) (2) dX12_behindSum_170 rfl ?_
        refine r_iret (pc := 171) rfl ?_ (Nat.le_of_ble_eq_true rfl) (Nat.le_of_ble_eq_true rfl) dX12_behindSum_171
        exact ⟨cc, O, A, P, T, rfl, MR_turn hM h01 (by decide), rfl⟩
    refine r_iload_n (pc := 102) 3 dX12_behindSum_102 rfl ?_
    refine r_bipush (pc := 103) (32) dX12_behindSum_103 rfl ?_
    refine r_icmp_ne (pc := 105) (tgt := 152) dX12_behindSum_105 (by decide) (fun c_105 => ?_) (fun c_105 => ?_)
    · have h32 : ¬ innA pl = 32 := c_105
      refine r_iload_n (pc := 152) 3 dX12_behindSum_152 rfl ?_
      refine r_iconst (pc := 153) (-1) dX12_behindSum_153 rfl ?_
      refine r_icmp_ne (pc := 154) (tgt := 163) dX12_behindSum_154 (by decide) (fun c_154 => ?_) (fun c_154 => ?_)
      · exact at163 h32 (fun z => c_154 z.1)
      · refine r_iload_n (pc := 157) 1 dX12_behindSum_157 rfl ?_
        refine r_if_ne (pc := 158) (tgt := 163) dX12_behindSum_158 (by decide) (fun c_158 => ?_) (fun c_158 => ?_)
        · exact at163 h32 (fun z => by rw [z.2] at c_158; exact absurd rfl c_158)
        · rw [if_neg h32, if_pos ⟨c_154, bI_0.mp c_158⟩] at hr
          cases hr
          refine r_iconst (pc := 161) (4) dX12_behindSum_161 rfl ?_
          refine r_iret (pc := 162) rfl ?_ (Nat.le_of_ble_eq_true rfl) (Nat.le_of_ble_eq_true rfl) dX12_behindSum_162
          exact ⟨cc, O, A, P, T, rfl, MR_turn hM h01 (by decide), rfl⟩
    · have h32 : innA pl = 32 := c_105
      rw [if_pos h32] at hr
      by_cases h93 : tS (tk (μ 9) n i) 93 = true
      · rw [if_pos h93] at hr
        have h400 := tk_lt h4 m3 (tS_n0 h93)
        obtain ⟨cc', O', A', q', k1, k2, k3, k4, k5, k6⟩ := hstl 5 (by decide)
        unfold clsA at hr
        generalize hR : stlA 5 pl s = R at hr k1 k2 k3 k5 k6
        obtain ⟨R1, R2⟩ := R
        cases R1 with
        | nil => exact absurd hr (by simp)
        | cons x rr =>
          simp only at hr
          by_cases hx : (31 : Int32) ≤ x.1 ∧ 0 < op
          · rw [if_pos hx] at hr
            cases hr
            refine r_aload_n (pc := 108) 0 dX12_behindSum_108 rfl ?_
            refine r_aload_n (pc := 109) 0 dX12_behindSum_109 rfl ?_
            refine r_bipush (pc := 110) (93) dX12_behindSum_110 rfl ?_
            refine r_dV (pc := 112) (As := [_]) mv_X12_isSign ml_X12_331 (ct_isS hm 93) (q_is hm) rfl rfl (Nat.le_of_ble_eq_true rfl) (Nat.le_of_ble_eq_true rfl) (Nat.le_of_ble_eq_true rfl) (Nat.le_of_ble_eq_true rfl) (Nat.le_of_ble_eq_true rfl) dX12_behindSum_112 ?_
            rw [h93]
            refine r_dV0 (pc := 115) (As := [_]) mv_X12_must ml_X12_293 (ct_must (q := true) hm hn h4) (q_is hm) rfl rfl (Nat.le_of_ble_eq_true rfl) (Nat.le_of_ble_eq_true rfl) (Nat.le_of_ble_eq_true rfl) (Nat.le_of_ble_eq_true rfl) (Nat.le_of_ble_eq_true rfl) dX12_behindSum_115 ?_
            refine r_aload_n (pc := 118) 0 dX12_behindSum_118 rfl ?_
            refine q_getI (pc := 119) fl_X12_260 hm dX12_behindSum_119 ?_
            refine r_if_ne (pc := 122) (tgt := 150) dX12_behindSum_122 (by decide) (fun c_122 => ?_) (fun c_122 => ?_)
            · exact absurd rfl c_122
            · have eS : mustS i false true = (i + 1, false) := rfl
              rw [eS]
              refine r_aload_n (pc := 125) 0 dX12_behindSum_125 rfl ?_
              refine r_iconst (pc := 126) (5) dX12_behindSum_126 rfl ?_
              refine r_dV0 (pc := 127) (As := [_]) mv_X12_settle ml_X12_366 (k1 _ _ _ _) (q_is hm) rfl rfl (Nat.le_of_ble_eq_true rfl) (Nat.le_of_ble_eq_true rfl) (Nat.le_of_ble_eq_true rfl) (Nat.le_of_ble_eq_true rfl) (Nat.le_of_ble_eq_true rfl) dX12_behindSum_127 ?_
              refine r_aload_n (pc := 130) 0 dX12_behindSum_130 rfl ?_
              refine r_dup (pc := 131) dX12_behindSum_131 rfl ?_
              refine q_getI (pc := 132) fl_X12_300 hm dX12_behindSum_132 ?_
              refine r_iconst (pc := 135) (1) dX12_behindSum_135 rfl ?_
              refine r_isub (pc := 136) dX12_behindSum_136 ?_
              refine q_putI (pc := 137) fp_X12_300 hm dX12_behindSum_137 ?_
              rw [rM_29, show nI (x :: rr).length - 1 = nI rr.length from nI_sub (a := rr.length + 1) (b := 1) (by omega), rM_up]
              refine r_aload_n (pc := 140) 0 dX12_behindSum_140 rfl ?_
              refine r_dup (pc := 141) dX12_behindSum_141 rfl ?_
              refine q_getI (pc := 142) fl_X12_322 hm dX12_behindSum_142 ?_
              refine r_iconst (pc := 145) (1) dX12_behindSum_145 rfl ?_
              refine r_isub (pc := 146) dX12_behindSum_146 ?_
              refine q_putI (pc := 147) fp_X12_322 hm dX12_behindSum_147 ?_
              refine r_iconst (pc := 150) (3) dX12_behindSum_150 rfl ?_
              refine r_iret (pc := 151) rfl ?_ (Nat.le_of_ble_eq_true rfl) (Nat.le_of_ble_eq_true rfl) dX12_behindSum_151
              rw [rM_30, show nI op - 1 = nI (op - 1) from nI_sub (a := op) (b := 1) (by omega), rM_uo]
              have hmono := pndN_mono (P := P) (show rr.length ≤ rr.length + 1 by omega)
              simp only [List.length_cons] at k2 k3
              exact ⟨cc', O', A', P, T, rfl, ⟨m1, show op - 1 ≤ 8 by omega, tk_next m3 (tS_n0 h93), show cc' + pndN P rr.length ≤ i + 1 by omega, show rr.length ≤ i + 1 by omega, k4, q', PL_open hx.1 k5, fun z => absurd z tn3, fun _ => k6⟩, rfl⟩
          · rw [if_neg hx] at hr
            exact absurd hr (by simp)
      · rw [if_neg h93] at hr
        cases hr
        refine r_aload_n (pc := 108) 0 dX12_behindSum_108 rfl ?_
        refine r_aload_n (pc := 109) 0 dX12_behindSum_109 rfl ?_
        refine r_bipush (pc := 110) (93) dX12_behindSum_110 rfl ?_
        refine r_dV (pc := 112) (As := [_]) mv_X12_isSign ml_X12_331 (ct_isS hm 93) (q_is hm) rfl rfl (Nat.le_of_ble_eq_true rfl) (Nat.le_of_ble_eq_true rfl) (Nat.le_of_ble_eq_true rfl) (Nat.le_of_ble_eq_true rfl) (Nat.le_of_ble_eq_true rfl) dX12_behindSum_112 ?_
        rw [Bool.eq_false_iff.mpr h93]
        refine r_dV0 (pc := 115) (As := [_]) mv_X12_must ml_X12_293 (ct_must (q := false) hm hn h4) (q_is hm) rfl rfl (Nat.le_of_ble_eq_true rfl) (Nat.le_of_ble_eq_true rfl) (Nat.le_of_ble_eq_true rfl) (Nat.le_of_ble_eq_true rfl) (Nat.le_of_ble_eq_true rfl) dX12_behindSum_115 ?_
        refine r_aload_n (pc := 118) 0 dX12_behindSum_118 rfl ?_
        refine q_getI (pc := 119) fl_X12_260 hm dX12_behindSum_119 ?_
        refine r_if_ne (pc := 122) (tgt := 150) dX12_behindSum_122 (by decide) (fun c_122 => ?_) (fun c_122 => ?_)
        · refine r_iconst (pc := 150) (3) dX12_behindSum_150 rfl ?_
          refine r_iret (pc := 151) rfl ?_ (Nat.le_of_ble_eq_true rfl) (Nat.le_of_ble_eq_true rfl) dX12_behindSum_151
          exact ⟨3, pl.length, cc, _, _, O, A, P, T, rfl, hBD, rfl⟩
        · exact absurd (show bI true = 0 from c_122) (by decide)
  have at71 : ∀ x : Int32, x = sgnA (tk (μ 9) n i) → Wp E mX12_behindSum (Rm 3 0 0) (Qm E (pR h m μ l n O0 A0 od c0 r) 0 0) 71 [(0, .ref m), (1, .int (bI test))] [.int x] (mH h m (rM μ n i false (nI cc) (nI lv) (nI pl.length) (nI op) O A P T) (rL μ l n i)) 0 0 := by
    intro x hx
    refine r_istore_n (pc := 71) (lv' := [(0, _), (1, _), (2, _)]) dX12_behindSum_71 (Nat.le_of_ble_eq_true rfl) rfl ?_
    refine r_iload_n (pc := 72) 2 dX12_behindSum_72 rfl ?_
    refine r_iconst (pc := 73) (-1) dX12_behindSum_73 rfl ?_
    refine r_icmp_eq (pc := 74) (tgt := 97) dX12_behindSum_74 (by decide) (fun c_74 => ?_) (fun c_74 => ?_)
    · rw [hx] at c_74
      rw [hx, c_74]
      exact at97 c_74
    · rw [hx] at c_74
      rw [if_pos c_74] at hr
      cases hr
      obtain ⟨⟨s1, s2, s3, s4⟩, s5⟩ := (sgnA_k (tk (μ 9) n i)).resolve_left c_74
      have h400 := tk_lt h4 m3 s5
      obtain ⟨cc', O', A', q', k1, k2, k3, k4, k5, k6⟩ := hstl _ s4
      rw [hx]
      refine r_aload_n (pc := 77) 0 dX12_behindSum_77 rfl ?_
      refine r_iload_n (pc := 78) 2 dX12_behindSum_78 rfl ?_
      refine r_dS (pc := 79) (As := [_]) ms_X12_binds ml_X12_303 (ct_binds _) rfl rfl (Nat.le_of_ble_eq_true rfl) (Nat.le_of_ble_eq_true rfl) (Nat.le_of_ble_eq_true rfl) (Nat.le_of_ble_eq_true rfl) (Nat.le_of_ble_eq_true rfl) dX12_behindSum_79 ?_
      refine r_dV0 (pc := 82) (As := [_]) mv_X12_settle ml_X12_366 (k1 _ _ _ _) (q_is hm) rfl rfl (Nat.le_of_ble_eq_true rfl) (Nat.le_of_ble_eq_true rfl) (Nat.le_of_ble_eq_true rfl) (Nat.le_of_ble_eq_true rfl) (Nat.le_of_ble_eq_true rfl) dX12_behindSum_82 ?_
      refine r_aload_n (pc := 85) 0 dX12_behindSum_85 rfl ?_
      refine r_iload_n (pc := 86) 2 dX12_behindSum_86 rfl ?_
      refine r_iconst (pc := 87) (0) dX12_behindSum_87 rfl ?_
      refine r_dV0 (pc := 88) (As := [_, _]) mv_X12_push ml_X12_325 (ct_push hm _ _ (show (stlA (bndF (sgnA (tk (μ 9) n i))) pl s).1.length < 400 by omega)) (q_is hm) rfl rfl (Nat.le_of_ble_eq_true rfl) (Nat.le_of_ble_eq_true rfl) (Nat.le_of_ble_eq_true rfl) (Nat.le_of_ble_eq_true rfl) (Nat.le_of_ble_eq_true rfl) dX12_behindSum_88 ?_
      refine r_aload_n (pc := 91) 0 dX12_behindSum_91 rfl ?_
      refine r_dV0 (pc := 92) (As := []) mv_X12_onward ml_X12_264 (ct_onw hm hn h4) (q_is hm) rfl rfl (Nat.le_of_ble_eq_true rfl) (Nat.le_of_ble_eq_true rfl) (Nat.le_of_ble_eq_true rfl) (Nat.le_of_ble_eq_true rfl) (Nat.le_of_ble_eq_true rfl) dX12_behindSum_92 ?_
      refine r_iconst (pc := 95) (1) dX12_behindSum_95 rfl ?_
      refine r_iret (pc := 96) rfl ?_ (Nat.le_of_ble_eq_true rfl) (Nat.le_of_ble_eq_true rfl) dX12_behindSum_96
      exact ⟨cc', O', A', _, _, rfl, MR_pushB m1 m2 (tk_next m3 s5) (by omega) (by omega) k4 k5 k6 s1 s2, rfl⟩
  refine r_aload_n (pc := 0) 0 dX12_behindSum_0 rfl ?_
  refine r_bipush (pc := 1) (43) dX12_behindSum_1 rfl ?_
  refine r_dV (pc := 3) (As := [_]) mv_X12_isSign ml_X12_331 (ct_isS hm 43) (q_is hm) rfl rfl (Nat.le_of_ble_eq_true rfl) (Nat.le_of_ble_eq_true rfl) (Nat.le_of_ble_eq_true rfl) (Nat.le_of_ble_eq_true rfl) (Nat.le_of_ble_eq_true rfl) dX12_behindSum_3 ?_
  refine r_if_eq (pc := 6) (tgt := 14) dX12_behindSum_6 (by decide) (fun c_6 => ?_) (fun c_6 => ?_)
  · have h1 := bI_0.mp c_6
    refine r_aload_n (pc := 14) 0 dX12_behindSum_14 rfl ?_
    refine r_bipush (pc := 15) (45) dX12_behindSum_15 rfl ?_
    refine r_dV (pc := 17) (As := [_]) mv_X12_isSign ml_X12_331 (ct_isS hm 45) (q_is hm) rfl rfl (Nat.le_of_ble_eq_true rfl) (Nat.le_of_ble_eq_true rfl) (Nat.le_of_ble_eq_true rfl) (Nat.le_of_ble_eq_true rfl) (Nat.le_of_ble_eq_true rfl) dX12_behindSum_17 ?_
    refine r_if_eq (pc := 20) (tgt := 28) dX12_behindSum_20 (by decide) (fun c_20 => ?_) (fun c_20 => ?_)
    · have h2 := bI_0.mp c_20
      refine r_aload_n (pc := 28) 0 dX12_behindSum_28 rfl ?_
      refine r_bipush (pc := 29) (42) dX12_behindSum_29 rfl ?_
      refine r_dV (pc := 31) (As := [_]) mv_X12_isSign ml_X12_331 (ct_isS hm 42) (q_is hm) rfl rfl (Nat.le_of_ble_eq_true rfl) (Nat.le_of_ble_eq_true rfl) (Nat.le_of_ble_eq_true rfl) (Nat.le_of_ble_eq_true rfl) (Nat.le_of_ble_eq_true rfl) dX12_behindSum_31 ?_
      refine r_if_eq (pc := 34) (tgt := 42) dX12_behindSum_34 (by decide) (fun c_34 => ?_) (fun c_34 => ?_)
      · have h3 := bI_0.mp c_34
        refine r_aload_n (pc := 42) 0 dX12_behindSum_42 rfl ?_
        refine r_bipush (pc := 43) (47) dX12_behindSum_43 rfl ?_
        refine r_dV (pc := 45) (As := [_]) mv_X12_isSign ml_X12_331 (ct_isS hm 47) (q_is hm) rfl rfl (Nat.le_of_ble_eq_true rfl) (Nat.le_of_ble_eq_true rfl) (Nat.le_of_ble_eq_true rfl) (Nat.le_of_ble_eq_true rfl) (Nat.le_of_ble_eq_true rfl) dX12_behindSum_45 ?_
        refine r_if_eq (pc := 48) (tgt := 56) dX12_behindSum_48 (by decide) (fun c_48 => ?_) (fun c_48 => ?_)
        · have h5 := bI_0.mp c_48
          refine r_aload_n (pc := 56) 0 dX12_behindSum_56 rfl ?_
          refine r_bipush (pc := 57) (37) dX12_behindSum_57 rfl ?_
          refine r_dV (pc := 59) (As := [_]) mv_X12_isSign ml_X12_331 (ct_isS hm 37) (q_is hm) rfl rfl (Nat.le_of_ble_eq_true rfl) (Nat.le_of_ble_eq_true rfl) (Nat.le_of_ble_eq_true rfl) (Nat.le_of_ble_eq_true rfl) (Nat.le_of_ble_eq_true rfl) dX12_behindSum_59 ?_
          refine r_if_eq (pc := 62) (tgt := 70) dX12_behindSum_62 (by decide) (fun c_62 => ?_) (fun c_62 => ?_)
          · have h6 := bI_0.mp c_62
            refine r_iconst (pc := 70) (-1) dX12_behindSum_70 rfl ?_
            exact at71 (-1) (by unfold sgnA; rw [if_neg (by rw [h1]; decide), if_neg (by rw [h2]; decide), if_neg (by rw [h3]; decide), if_neg (by rw [h5]; decide), if_neg (by rw [h6]; decide)])
          · refine r_bipush (pc := 65) (24) dX12_behindSum_65 rfl ?_
            refine r_goto (pc := 67) (tgt := 71) dX12_behindSum_67 (by decide) ?_
            exact at71 24 (by unfold sgnA; rw [if_neg (by rw [h1]; decide), if_neg (by rw [h2]; decide), if_neg (by rw [h3]; decide), if_neg (by rw [h5]; decide), if_pos (bI_n0.mp c_62)])
        · refine r_bipush (pc := 51) (23) dX12_behindSum_51 rfl ?_
          refine r_goto (pc := 53) (tgt := 71) dX12_behindSum_53 (by decide) ?_
          exact at71 23 (by unfold sgnA; rw [if_neg (by rw [h1]; decide), if_neg (by rw [h2]; decide), if_neg (by rw [h3]; decide), if_pos (bI_n0.mp c_48)])
      · refine r_bipush (pc := 37) (22) dX12_behindSum_37 rfl ?_
        refine r_goto (pc := 39) (tgt := 71) dX12_behindSum_39 (by decide) ?_
        exact at71 22 (by unfold sgnA; rw [if_neg (by rw [h1]; decide), if_neg (by rw [h2]; decide), if_pos (bI_n0.mp c_34)])
    · refine r_bipush (pc := 23) (21) dX12_behindSum_23 rfl ?_
      refine r_goto (pc := 25) (tgt := 71) dX12_behindSum_25 (by decide) ?_
      exact at71 21 (by unfold sgnA; rw [if_neg (by rw [h1]; decide), if_pos (bI_n0.mp c_20)])
  · refine r_bipush (pc := 9) (20) dX12_behindSum_9 rfl ?_
    refine r_goto (pc := 11) (tgt := 71) dX12_behindSum_11 (by decide) ?_
    exact at71 20 (by unfold sgnA; rw [if_pos (bI_n0.mp c_6)])
theorem ct_behindTest (hm : Md E h m) (hn : μ 0 13 = nI n) (h4 : n ≤ 400) (ho : μ 0 20 = bI od) {O A P T : Nat → Int32} {cc i lv op : Nat} {pl : List PE} {tn : Int32} {s : Sm} (h01 : ¬ (tn = 0 ∨ tn = 1)) (hM : MR (μ 9) n O0 A0 od c0 O A P T cc (tn, i, lv, op, pl, s)) {r : Nat ⊕ AS} (hr : btA (tk (μ 9) n) i lv op pl s = some r) :
    Ct E 3 0 0 mX12_behindTest [.ref m] (mH h m (rM μ n i false (nI cc) (nI lv) (nI pl.length) (nI op) O A P T) (rL μ l n i)) (pR h m μ l n O0 A0 od c0 r) := by
  have hBD := MR_BD h4 hM
  have hstl := fun (least : Int32) (hl : 0 < least) => ct_stl (h := h) (l := l) hm h4 hM h01 hl
  obtain ⟨m1, m2, m3, m4, m5, m6, q, hPL, -, hsg⟩ := id hM
  simp only at m1 m2 m3 m4 m5
  refine Ct.of (by decide +kernel) (Nat.le_of_ble_eq_true rfl) ?_
  unfold btA at hr
  have join : ∀ (g : Bool) (least x : Int32), 0 < least → (x = 29 ∨ x = 30) → ¬ (tk (μ 9) n i).2.2.1 = 0 → r = .inr (0, i + 1, lv, op, (x, (stlA least pl s).2) :: (stlA least pl s).1, sZ) → least = (if g = true then 2 else 1) → x = (if g = true then 29 else 30) → Wp E mX12_behindTest (Rm 3 0 0) (Qm E (pR h m μ l n O0 A0 od c0 r) 0 0) 22 [(0, .ref m), (1, .int (bI g))] [] (mH h m (rM μ n i false (nI cc) (nI lv) (nI pl.length) (nI op) O A P T) (rL μ l n i)) 0 0 := by
    intro g least x hl0 hx hs0 hr' hl hxg
    have h400 := tk_lt h4 m3 hs0
    obtain ⟨cc', O', A', q', k1, k2, k3, k4, k5, k6⟩ := hstl least hl0
    have fin66 : Wp E mX12_behindTest (Rm 3 0 0) (Qm E (pR h m μ l n O0 A0 od c0 r) 0 0) 66 [(0, .ref m), (1, .int (bI g))] [.int x, .ref m] (mH h m (rM μ n i false (nI cc') (nI lv) (nI ((stlA least pl s).1.length + 1)) (nI op) O' A' (va_up P (stlA least pl s).1.length x) (va_up T (stlA least pl s).1.length (nI cc'))) (rL μ l n i)) 0 0 := by
      refine r_iconst (pc := 66) (0) dX12_behindTest_66 rfl ?_
      refine r_dV0 (pc := 67) (As := [_, _]) mv_X12_emit ml_X12_306 (ct_emit hm _ _ (show cc' < 400 by omega)) (q_is hm) rfl rfl (Nat.le_of_ble_eq_true rfl) (Nat.le_of_ble_eq_true rfl) (Nat.le_of_ble_eq_true rfl) (Nat.le_of_ble_eq_true rfl) (Nat.le_of_ble_eq_true rfl) dX12_behindTest_67 ?_
      refine r_aload_n (pc := 70) 0 dX12_behindTest_70 rfl ?_
      refine r_dV0 (pc := 71) (As := []) mv_X12_onward ml_X12_264 (ct_onw hm hn h4) (q_is hm) rfl rfl (Nat.le_of_ble_eq_true rfl) (Nat.le_of_ble_eq_true rfl) (Nat.le_of_ble_eq_true rfl) (Nat.le_of_ble_eq_true rfl) (Nat.le_of_ble_eq_true rfl) dX12_behindTest_71 ?_
      refine r_iconst (pc := 74) (0) dX12_behindTest_74 rfl ?_
      refine r_iret (pc := 75) rfl ?_ (Nat.le_of_ble_eq_true rfl) (Nat.le_of_ble_eq_true rfl) dX12_behindTest_75
      rw [hr']
      refine ⟨cc' + 1, _, _, _, _, rfl, ⟨m1, m2, tk_next m3 hs0, ?_, show (stlA least pl s).1.length + 1 ≤ i + 1 by omega, fun k hk => ?_, cc' + 1, PL_pushJ k5 k6 (by omega) hx, fun _ => rfl, fun z => absurd (Or.inl rfl) z⟩, rfl⟩
      · show cc' + 1 + pndN (va_up P (stlA least pl s).1.length x) ((stlA least pl s).1.length + 1) ≤ i + 1
        rw [pndN_up, if_pos hx]; omega
      · have := PL_le _ _ k5
        have := k6.1
        rw [va_up_ne _ _ (by omega), va_up_ne _ _ (by omega)]; exact k4 k hk
    have at47 : Wp E mX12_behindTest (Rm 3 0 0) (Qm E (pR h m μ l n O0 A0 od c0 r) 0 0) 47 [(0, .ref m), (1, .int (bI g))] [.int x, .ref m] (mH h m (rM μ n i false (nI cc') (nI lv) (nI (stlA least pl s).1.length) (nI op) O' A' P T) (rL μ l n i)) 0 0 := by
      refine r_aload_n (pc := 47) 0 dX12_behindTest_47 rfl ?_
      refine q_getI (pc := 48) fl_X12_297 hm dX12_behindTest_48 ?_
      refine r_dV0 (pc := 51) (As := [_, _]) mv_X12_push ml_X12_325 (ct_push hm _ _ (show (stlA least pl s).1.length < 400 by omega)) (q_is hm) rfl rfl (Nat.le_of_ble_eq_true rfl) (Nat.le_of_ble_eq_true rfl) (Nat.le_of_ble_eq_true rfl) (Nat.le_of_ble_eq_true rfl) (Nat.le_of_ble_eq_true rfl) dX12_behindTest_51 ?_
      refine r_aload_n (pc := 54) 0 dX12_behindTest_54 rfl ?_
      refine r_iload_n (pc := 55) 1 dX12_behindTest_55 rfl ?_
      refine r_if_eq (pc := 56) (tgt := 64) dX12_behindTest_56 (by decide) (fun c_56 => ?_) (fun c_56 => ?_)
      · rw [if_neg (by rw [bI_0.mp c_56]; decide)] at hxg
        refine r_bipush (pc := 64) (30) dX12_behindTest_64 rfl ?_
        rw [hxg] at fin66 ⊢
        exact fin66
      · rw [if_pos (bI_n0.mp c_56)] at hxg
        refine r_bipush (pc := 59) (29) dX12_behindTest_59 rfl ?_
        refine r_goto (pc := 61) (tgt := 66) dX12_behindTest_61 (by decide) ?_
        rw [hxg] at fin66 ⊢
        exact fin66
    have at32 : Wp E mX12_behindTest (Rm 3 0 0) (Qm E (pR h m μ l n O0 A0 od c0 r) 0 0) 32 [(0, .ref m), (1, .int (bI g))] [.int least, .ref m] (mH h m (rM μ n i false (nI cc) (nI lv) (nI pl.length) (nI op) O A P T) (rL μ l n i)) 0 0 := by
      refine r_dV0 (pc := 32) (As := [_]) mv_X12_settle ml_X12_366 (k1 _ _ _ _) (q_is hm) rfl rfl (Nat.le_of_ble_eq_true rfl) (Nat.le_of_ble_eq_true rfl) (Nat.le_of_ble_eq_true rfl) (Nat.le_of_ble_eq_true rfl) (Nat.le_of_ble_eq_true rfl) dX12_behindTest_32 ?_
      refine r_aload_n (pc := 35) 0 dX12_behindTest_35 rfl ?_
      refine r_iload_n (pc := 36) 1 dX12_behindTest_36 rfl ?_
      refine r_if_eq (pc := 37) (tgt := 45) dX12_behindTest_37 (by decide) (fun c_37 => ?_) (fun c_37 => ?_)
      · rw [if_neg (by rw [bI_0.mp c_37]; decide)] at hxg
        refine r_bipush (pc := 45) (30) dX12_behindTest_45 rfl ?_
        rw [hxg] at at47
        exact at47
      · rw [if_pos (bI_n0.mp c_37)] at hxg
        refine r_bipush (pc := 40) (29) dX12_behindTest_40 rfl ?_
        refine r_goto (pc := 42) (tgt := 47) dX12_behindTest_42 (by decide) ?_
        rw [hxg] at at47
        exact at47
    refine r_aload_n (pc := 22) 0 dX12_behindTest_22 rfl ?_
    refine r_iload_n (pc := 23) 1 dX12_behindTest_23 rfl ?_
    refine r_if_eq (pc := 24) (tgt := 31) dX12_behindTest_24 (by decide) (fun c_24 => ?_) (fun c_24 => ?_)
    · rw [if_neg (by rw [bI_0.mp c_24]; decide)] at hl
      refine r_iconst (pc := 31) (1) dX12_behindTest_31 rfl ?_
      rw [hl] at at32
      exact at32
    · rw [if_pos (bI_n0.mp c_24)] at hl
      refine r_iconst (pc := 27) (2) dX12_behindTest_27 rfl ?_
      refine r_goto (pc := 28) (tgt := 32) dX12_behindTest_28 (by decide) ?_
      rw [hl] at at32
      exact at32
  refine r_aload_n (pc := 0) 0 dX12_behindTest_0 rfl ?_
  refine r_ldc2_w (pc := 1) cs_X12_376 dX12_behindTest_1 ?_
  refine r_dV (pc := 4) (As := [_]) mv_X12_isWord ml_X12_318 (ct_isW hm 1476) (q_is hm) rfl rfl (Nat.le_of_ble_eq_true rfl) (Nat.le_of_ble_eq_true rfl) (Nat.le_of_ble_eq_true rfl) (Nat.le_of_ble_eq_true rfl) (Nat.le_of_ble_eq_true rfl) dX12_behindTest_4 ?_
  refine r_istore_n (pc := 7) (lv' := [(0, _), (1, _)]) dX12_behindTest_7 (Nat.le_of_ble_eq_true rfl) rfl ?_
  refine r_iload_n (pc := 8) 1 dX12_behindTest_8 rfl ?_
  refine r_if_ne (pc := 9) (tgt := 22) dX12_behindTest_9 (by decide) (fun c_9 => ?_) (fun c_9 => ?_)
  · have hA := bI_n0.mp c_9
    rw [if_pos hA] at hr
    cases hr
    rw [hA]
    exact join true 2 29 (by decide) (Or.inl rfl) (tW_n0 hA) rfl rfl rfl
  · have hA := bI_0.mp c_9
    rw [if_neg (by rw [hA]; decide)] at hr
    rw [hA]
    refine r_aload_n (pc := 12) 0 dX12_behindTest_12 rfl ?_
    refine r_ldc2_w (pc := 13) cs_X12_378 dX12_behindTest_13 ?_
    refine r_dV (pc := 16) (As := [_]) mv_X12_isWord ml_X12_318 (ct_isW hm 498) (q_is hm) rfl rfl (Nat.le_of_ble_eq_true rfl) (Nat.le_of_ble_eq_true rfl) (Nat.le_of_ble_eq_true rfl) (Nat.le_of_ble_eq_true rfl) (Nat.le_of_ble_eq_true rfl) dX12_behindTest_16 ?_
    refine r_if_eq (pc := 19) (tgt := 76) dX12_behindTest_19 (by decide) (fun c_19 => ?_) (fun c_19 => ?_)
    · have hO := bI_0.mp c_19
      rw [if_neg (by rw [hO]; decide)] at hr
      have hin := PL_inn _ _ hPL
      refine r_aload_n (pc := 76) 0 dX12_behindTest_76 rfl ?_
      refine r_dV (pc := 77) (As := []) mv_X12_inner ml_X12_369 (ct_inner hm hBD.1) (q_is hm) rfl rfl (Nat.le_of_ble_eq_true rfl) (Nat.le_of_ble_eq_true rfl) (Nat.le_of_ble_eq_true rfl) (Nat.le_of_ble_eq_true rfl) (Nat.le_of_ble_eq_true rfl) dX12_behindTest_77 ?_
      refine r_iconst (pc := 80) (-1) dX12_behindTest_80 rfl ?_
      refine r_icmp_ne (pc := 81) (tgt := 86) dX12_behindTest_81 (by decide) (fun c_81 => ?_) (fun c_81 => ?_)
      · rw [hin] at c_81
        rw [if_neg c_81] at hr
        by_cases h41 : tS (tk (μ 9) n i) 41 = true
        · rw [if_pos h41] at hr
          have h400 := tk_lt h4 m3 (tS_n0 h41)
          obtain ⟨cc', O', A', q', k1, k2, k3, k4, k5, k6⟩ := hstl 1 (by decide)
          unfold clsA at hr
          generalize hR : stlA 1 pl s = R at hr k1 k2 k3 k5 k6
          obtain ⟨R1, R2⟩ := R
          cases R1 with
          | nil => exact absurd hr (by simp)
          | cons x rr =>
            simp only at hr
            by_cases hx : (31 : Int32) ≤ x.1 ∧ 0 < op
            · rw [if_pos hx] at hr
              cases hr
              refine r_aload_n (pc := 86) 0 dX12_behindTest_86 rfl ?_
              refine r_aload_n (pc := 87) 0 dX12_behindTest_87 rfl ?_
              refine r_bipush (pc := 88) (41) dX12_behindTest_88 rfl ?_
              refine r_dV (pc := 90) (As := [_]) mv_X12_isSign ml_X12_331 (ct_isS hm 41) (q_is hm) rfl rfl (Nat.le_of_ble_eq_true rfl) (Nat.le_of_ble_eq_true rfl) (Nat.le_of_ble_eq_true rfl) (Nat.le_of_ble_eq_true rfl) (Nat.le_of_ble_eq_true rfl) dX12_behindTest_90 ?_
              rw [h41]
              refine r_dV0 (pc := 93) (As := [_]) mv_X12_must ml_X12_293 (ct_must (q := true) hm hn h4) (q_is hm) rfl rfl (Nat.le_of_ble_eq_true rfl) (Nat.le_of_ble_eq_true rfl) (Nat.le_of_ble_eq_true rfl) (Nat.le_of_ble_eq_true rfl) (Nat.le_of_ble_eq_true rfl) dX12_behindTest_93 ?_
              refine r_aload_n (pc := 96) 0 dX12_behindTest_96 rfl ?_
              refine q_getI (pc := 97) fl_X12_260 hm dX12_behindTest_97 ?_
              refine r_if_ne (pc := 100) (tgt := 128) dX12_behindTest_100 (by decide) (fun c_100 => ?_) (fun c_100 => ?_)
              · exact absurd rfl c_100
              · have eS : mustS i false true = (i + 1, false) := rfl
                rw [eS]
                refine r_aload_n (pc := 103) 0 dX12_behindTest_103 rfl ?_
                refine r_iconst (pc := 104) (1) dX12_behindTest_104 rfl ?_
                refine r_dV0 (pc := 105) (As := [_]) mv_X12_settle ml_X12_366 (k1 _ _ _ _) (q_is hm) rfl rfl (Nat.le_of_ble_eq_true rfl) (Nat.le_of_ble_eq_true rfl) (Nat.le_of_ble_eq_true rfl) (Nat.le_of_ble_eq_true rfl) (Nat.le_of_ble_eq_true rfl) dX12_behindTest_105 ?_
                refine r_aload_n (pc := 108) 0 dX12_behindTest_108 rfl ?_
                refine r_dup (pc := 109) dX12_behindTest_109 rfl ?_
                refine q_getI (pc := 110) fl_X12_300 hm dX12_behindTest_110 ?_
                refine r_iconst (pc := 113) (1) dX12_behindTest_113 rfl ?_
                refine r_isub (pc := 114) dX12_behindTest_114 ?_
                refine q_putI (pc := 115) fp_X12_300 hm dX12_behindTest_115 ?_
                rw [rM_29, show nI (x :: rr).length - 1 = nI rr.length from nI_sub (a := rr.length + 1) (b := 1) (by omega), rM_up]
                refine r_aload_n (pc := 118) 0 dX12_behindTest_118 rfl ?_
                refine r_dup (pc := 119) dX12_behindTest_119 rfl ?_
                refine q_getI (pc := 120) fl_X12_322 hm dX12_behindTest_120 ?_
                refine r_iconst (pc := 123) (1) dX12_behindTest_123 rfl ?_
                refine r_isub (pc := 124) dX12_behindTest_124 ?_
                refine q_putI (pc := 125) fp_X12_322 hm dX12_behindTest_125 ?_
                refine r_iconst (pc := 128) (2) dX12_behindTest_128 rfl ?_
                refine r_iret (pc := 129) rfl ?_ (Nat.le_of_ble_eq_true rfl) (Nat.le_of_ble_eq_true rfl) dX12_behindTest_129
                rw [rM_30, show nI op - 1 = nI (op - 1) from nI_sub (a := op) (b := 1) (by omega), rM_uo]
                have hmono := pndN_mono (P := P) (show rr.length ≤ rr.length + 1 by omega)
                simp only [List.length_cons] at k2 k3
                exact ⟨cc', O', A', P, T, rfl, ⟨m1, show op - 1 ≤ 8 by omega, tk_next m3 (tS_n0 h41), show cc' + pndN P rr.length ≤ i + 1 by omega, show rr.length ≤ i + 1 by omega, k4, q', PL_open hx.1 k5, fun z => absurd z tn2, fun _ => k6⟩, rfl⟩
            · rw [if_neg hx] at hr
              exact absurd hr (by simp)
        · rw [if_neg h41] at hr
          cases hr
          refine r_aload_n (pc := 86) 0 dX12_behindTest_86 rfl ?_
          refine r_aload_n (pc := 87) 0 dX12_behindTest_87 rfl ?_
          refine r_bipush (pc := 88) (41) dX12_behindTest_88 rfl ?_
          refine r_dV (pc := 90) (As := [_]) mv_X12_isSign ml_X12_331 (ct_isS hm 41) (q_is hm) rfl rfl (Nat.le_of_ble_eq_true rfl) (Nat.le_of_ble_eq_true rfl) (Nat.le_of_ble_eq_true rfl) (Nat.le_of_ble_eq_true rfl) (Nat.le_of_ble_eq_true rfl) dX12_behindTest_90 ?_
          rw [Bool.eq_false_iff.mpr h41]
          refine r_dV0 (pc := 93) (As := [_]) mv_X12_must ml_X12_293 (ct_must (q := false) hm hn h4) (q_is hm) rfl rfl (Nat.le_of_ble_eq_true rfl) (Nat.le_of_ble_eq_true rfl) (Nat.le_of_ble_eq_true rfl) (Nat.le_of_ble_eq_true rfl) (Nat.le_of_ble_eq_true rfl) dX12_behindTest_93 ?_
          refine r_aload_n (pc := 96) 0 dX12_behindTest_96 rfl ?_
          refine q_getI (pc := 97) fl_X12_260 hm dX12_behindTest_97 ?_
          refine r_if_ne (pc := 100) (tgt := 128) dX12_behindTest_100 (by decide) (fun c_100 => ?_) (fun c_100 => ?_)
          · refine r_iconst (pc := 128) (2) dX12_behindTest_128 rfl ?_
            refine r_iret (pc := 129) rfl ?_ (Nat.le_of_ble_eq_true rfl) (Nat.le_of_ble_eq_true rfl) dX12_behindTest_129
            exact ⟨2, pl.length, cc, _, _, O, A, P, T, rfl, hBD, rfl⟩
          · exact absurd (show bI true = 0 from c_100) (by decide)
      · rw [hin] at c_81
        rw [if_pos c_81] at hr
        cases hr
        refine r_iconst (pc := 84) (4) dX12_behindTest_84 rfl ?_
        refine r_iret (pc := 85) rfl ?_ (Nat.le_of_ble_eq_true rfl) (Nat.le_of_ble_eq_true rfl) dX12_behindTest_85
        exact ⟨cc, O, A, P, T, rfl, MR_turn hM h01 (by decide), rfl⟩
    · have hO := bI_n0.mp c_19
      rw [if_pos hO] at hr
      cases hr
      exact join false 1 30 (by decide) (Or.inr rfl) (tW_n0 hO) rfl rfl rfl
/-- what an expression is by the machine: a fault's token, or the next token, the leaves, what it means -/
abbrev Xr : Type := Nat ⊕ (Nat × Nat × Sm)
def ExM (wl wo : Nat → Int64) (od : Bool) (tks : Nat → Tk) (test : Bool) (i lv : Nat) (r : Xr) : Prop := match r with
  | .inl j => ∃ N, asR wl wo od tks test N (if test = true then 0 else 1, i, lv, 0, [], sZ) = some (.inl j)
  | .inr x => ∃ N op pl s, asR wl wo od tks test N (if test = true then 0 else 1, i, lv, 0, [], sZ) = some (.inr (4, x.1, x.2.1, op, pl, s)) ∧ stlA 1 pl s = ([], x.2.2)
def pE (h : Hp) (m : Nat) (μ : Mu) (l : La) (n : Nat) (O0 A0 : Nat → Int32) (od : Bool) (c0 : Nat) (r : Xr) : Option Value → Hp → Prop := fun v h' => v = none ∧ match r with
  | .inl j => ∃ cc lv pp op O A P T, h' = mH h m (rM μ n j true cc lv pp op O A P T) (rL μ l n j)
  | .inr x => ∃ cc pp op O A P T, h' = mH h m (rM μ n x.1 false (nI cc) (nI x.2.1) pp op O A P T) (rL μ l n x.1) ∧ Seg O A od c0 cc x.2.2 ∧ cc ≤ x.1 ∧ x.1 ≤ (tk (μ 9) n x.1).1 ∧ x.2.1 ≤ 50 ∧ ∀ k, k < c0 → O k = O0 k ∧ A k = A0 k
theorem ct_readExpression (hm : Md E h m) (hn : μ 0 13 = nI n) (h4 : n ≤ 400) (ho : μ 0 20 = bI od) {P T : Nat → Int32} {pp op : Int32} {i lv : Nat} (test : Bool) (hlv : lv ≤ 50) (hi : i ≤ (tk (μ 9) n i).1) (hc : c0 ≤ i) {r : Xr} (hr : ExM (l 15) (l 16) od (tk (μ 9) n) test i lv r) :
    Ct E 6 0 0 mX12_readExpression [.ref m, .int (bI test)] (mH h m (rM μ n i false (nI c0) (nI lv) pp op O0 A0 P T) (rL μ l n i)) (pE h m μ l n O0 A0 od c0 r) := by
  refine Ct.of (by decide +kernel) (Nat.le_of_ble_eq_true rfl) ?_
  have bad : ∀ j, (r = .inl j) → ∀ (x : Int32) (pp' cc' : Nat) (lv' op' : Int32) (O A P T : Nat → Int32), BD P T pp' cc' → Wp E mX12_readExpression (Rm 6 0 0) (Qm E (pE h m μ l n O0 A0 od c0 r) 0 0) 20 [(0, .ref m), (1, .int (bI test)), (2, .int x)] [] (mH h m (rM μ n j true (nI cc') lv' (nI pp') op' O A P T) (rL μ l n j)) 0 0 := by
    intro j hj x pp' cc' lv' op' O A P T hb
    subst hj
    have hst := ct_settle (μ := μ) (l := l) (n := n) (i := j) (bd := true) (lv := lv') (op := op') (P := P) (T := T) hm 1 pp' cc' O A hb.1 hb.2.1 hb.2.2
    refine r_aload_n (pc := 20) 0 dX12_readExpression_20 rfl ?_
    refine q_getI (pc := 21) fl_X12_260 hm dX12_readExpression_21 ?_
    refine r_if_ne (pc := 24) (tgt := 76) dX12_readExpression_24 (by decide) (fun c_24 => ?_) (fun c_24 => ?_)
    · refine r_aload_n (pc := 76) 0 dX12_readExpression_76 rfl ?_
      refine r_iconst (pc := 77) (1) dX12_readExpression_77 rfl ?_
      refine r_dV0 (pc := 78) (As := [_]) mv_X12_settle ml_X12_366 (hst) (q_is hm) rfl rfl (Nat.le_of_ble_eq_true rfl) (Nat.le_of_ble_eq_true rfl) (Nat.le_of_ble_eq_true rfl) (Nat.le_of_ble_eq_true rfl) (Nat.le_of_ble_eq_true rfl) dX12_readExpression_78 ?_
      refine r_vret (pc := 81) rfl ?_ (Nat.le_of_ble_eq_true rfl) (Nat.le_of_ble_eq_true rfl) dX12_readExpression_81
      exact ⟨rfl, _, _, _, _, _, _, _, _, rfl⟩
    · exact absurd (show bI true = 0 from c_24) (by decide)
  have over : ∀ (x : AS) (cc : Nat) (O A P T : Nat → Int32), MR (μ 9) n O0 A0 od c0 O A P T cc x → x.1 = 4 → (∃ y : Nat × Nat × Sm, r = .inr y ∧ y.1 = x.2.1 ∧ y.2.1 = x.2.2.1 ∧ stlA 1 x.2.2.2.2.1 x.2.2.2.2.2 = ([], y.2.2)) → Wp E mX12_readExpression (Rm 6 0 0) (Qm E (pE h m μ l n O0 A0 od c0 r) 0 0) 20 [(0, .ref m), (1, .int (bI test)), (2, .int x.1)] [] (mH h m (rM μ n x.2.1 false (nI cc) (nI x.2.2.1) (nI x.2.2.2.2.1.length) (nI x.2.2.2.1) O A P T) (rL μ l n x.2.1)) 0 0 := by
    rintro ⟨tn, i, lv, op, pl, s⟩ cc O A P T hM h04 ⟨⟨y1, y2, y3⟩, rfl, e1, e2, e3⟩
    simp only at h04 e1 e2 e3
    subst h04; subst e1; subst e2
    obtain ⟨cc', O', A', q', k1, k2, k3, k4, k5, k6⟩ := ct_stl (h := h) (l := l) hm h4 hM tn4 (least := 1) (by decide)
    obtain ⟨m1, m2, m3, m4, m5, m6, -⟩ := id hM
    simp only at m1 m2 m3 m4 m5
    rw [e3] at k1 k2 k3 k5 k6
    have hq : q' = c0 := k5
    subst hq
    refine r_aload_n (pc := 20) 0 dX12_readExpression_20 rfl ?_
    refine q_getI (pc := 21) fl_X12_260 hm dX12_readExpression_21 ?_
    refine r_if_ne (pc := 24) (tgt := 76) dX12_readExpression_24 (by decide) (fun c_24 => ?_) (fun c_24 => ?_)
    · exact absurd (show bI false = 0 from rfl) c_24
    · refine r_iload_n (pc := 27) 2 dX12_readExpression_27 rfl ?_
      refine r_iconst (pc := 28) (4) dX12_readExpression_28 rfl ?_
      refine r_icmp_eq (pc := 29) (tgt := 76) dX12_readExpression_29 (by decide) (fun c_29 => ?_) (fun c_29 => ?_)
      · refine r_aload_n (pc := 76) 0 dX12_readExpression_76 rfl ?_
        refine r_iconst (pc := 77) (1) dX12_readExpression_77 rfl ?_
        refine r_dV0 (pc := 78) (As := [_]) mv_X12_settle ml_X12_366 (k1 _ _ _ _) (q_is hm) rfl rfl (Nat.le_of_ble_eq_true rfl) (Nat.le_of_ble_eq_true rfl) (Nat.le_of_ble_eq_true rfl) (Nat.le_of_ble_eq_true rfl) (Nat.le_of_ble_eq_true rfl) dX12_readExpression_78 ?_
        refine r_vret (pc := 81) rfl ?_ (Nat.le_of_ble_eq_true rfl) (Nat.le_of_ble_eq_true rfl) dX12_readExpression_81
        exact ⟨rfl, cc', _, _, O', A', P, T, rfl, k6, show cc' ≤ y1 by omega, m3, m1, k4⟩
      · exact absurd rfl c_29
  have loop : ∀ (N : Nat) (st : AS) (rr : Nat ⊕ AS), asR (l 15) (l 16) od (tk (μ 9) n) test N st = some rr → (∀ j, rr = .inl j → r = .inl j) → (∀ x, rr = .inr x → ∃ y : Nat × Nat × Sm, r = .inr y ∧ y.1 = x.2.1 ∧ y.2.1 = x.2.2.1 ∧ stlA 1 x.2.2.2.2.1 x.2.2.2.2.2 = ([], y.2.2)) → ∀ (cc : Nat) (O A P T : Nat → Int32), MR (μ 9) n O0 A0 od c0 O A P T cc st → Wp E mX12_readExpression (Rm 6 0 0) (Qm E (pE h m μ l n O0 A0 od c0 r) 0 0) 20 [(0, .ref m), (1, .int (bI test)), (2, .int st.1)] [] (mH h m (rM μ n st.2.1 false (nI cc) (nI st.2.2.1) (nI st.2.2.2.2.1.length) (nI st.2.2.2.1) O A P T) (rL μ l n st.2.1)) 0 0 := by
    intro N
    induction N with
    | zero =>
      intro st rr hrr hf hg cc O A P T hM
      rw [asR] at hrr
      by_cases h04 : st.1 = 4
      · rw [if_pos h04] at hrr
        cases hrr
        exact over st cc O A P T hM h04 (hg st rfl)
      · rw [if_neg h04] at hrr
        cases hrr
    | succ N IH =>
      intro st rr hrr hf hg cc O A P T hM
      rw [asR] at hrr
      by_cases h04 : st.1 = 4
      · rw [if_pos h04] at hrr
        cases hrr
        exact over st cc O A P T hM h04 (hg st rfl)
      · rw [if_neg h04] at hrr
        obtain ⟨tn, i, lv, op, pl, s⟩ := st
        simp only at h04 hrr ⊢
        have back : ∀ r1 : Nat ⊕ AS, asS (l 15) (l 16) od (tk (μ 9) n) test (tn, i, lv, op, pl, s) = some r1 → ∀ (x : Int32) (v : Option Value) (h' : Hp), pR h m μ l n O0 A0 od c0 r1 v h' → Wp E mX12_readExpression (Rm 6 0 0) (Qm E (pE h m μ l n O0 A0 od c0 r) 0 0) 72 [(0, .ref m), (1, .int (bI test)), (2, .int x)] (v.toList ++ []) h' 0 0 := by
          intro r1 hr1 x v h' hp
          rw [hr1] at hrr
          cases r1 with
          | inl j =>
            simp only at hrr
            cases hrr
            obtain ⟨x', pp, cc', lv', op', O', A', P', T', rfl, hb, rfl⟩ := hp
            show Wp E mX12_readExpression _ _ _ _ [.int _] _ 0 0
            refine r_istore_n (pc := 72) (lv' := [(0, _), (1, _), (2, _)]) dX12_readExpression_72 (Nat.le_of_ble_eq_true rfl) rfl ?_
            refine r_goto (pc := 73) (tgt := 20) dX12_readExpression_73 (by decide) ?_
            exact bad j (hf j rfl) _ _ _ _ _ _ _ _ _ hb
          | inr st' =>
            simp only at hrr
            obtain ⟨cc', O', A', P', T', rfl, hb, rfl⟩ := hp
            show Wp E mX12_readExpression _ _ _ _ [.int _] _ 0 0
            refine r_istore_n (pc := 72) (lv' := [(0, _), (1, _), (2, _)]) dX12_readExpression_72 (Nat.le_of_ble_eq_true rfl) rfl ?_
            refine r_goto (pc := 73) (tgt := 20) dX12_readExpression_73 (by decide) ?_
            exact IH st' rr hrr hf hg cc' O' A' P' T' hb
        have hne : ∃ r1, asS (l 15) (l 16) od (tk (μ 9) n) test (tn, i, lv, op, pl, s) = some r1 := by
          cases h9 : asS (l 15) (l 16) od (tk (μ 9) n) test (tn, i, lv, op, pl, s) with
          | none => rw [h9] at hrr; cases hrr
          | some r1 => exact ⟨r1, rfl⟩
        obtain ⟨r1, hr1⟩ := hne
        have hbk := back r1 hr1
        unfold asS at hr1
        simp only at hr1
        refine r_aload_n (pc := 20) 0 dX12_readExpression_20 rfl ?_
        refine q_getI (pc := 21) fl_X12_260 hm dX12_readExpression_21 ?_
        refine r_if_ne (pc := 24) (tgt := 76) dX12_readExpression_24 (by decide) (fun c_24 => ?_) (fun c_24 => ?_)
        · exact absurd (show bI false = 0 from rfl) c_24
        · refine r_iload_n (pc := 27) 2 dX12_readExpression_27 rfl ?_
          refine r_iconst (pc := 28) (4) dX12_readExpression_28 rfl ?_
          refine r_icmp_eq (pc := 29) (tgt := 76) dX12_readExpression_29 (by decide) (fun c_29 => ?_) (fun c_29 => ?_)
          · exact absurd c_29 h04
          · refine r_iload_n (pc := 32) 2 dX12_readExpression_32 rfl ?_
            refine r_if_ne (pc := 33) (tgt := 43) dX12_readExpression_33 (by decide) (fun c_33 => ?_) (fun c_33 => ?_)
            · rw [if_neg c_33] at hr1
              refine r_iload_n (pc := 43) 2 dX12_readExpression_43 rfl ?_
              refine r_iconst (pc := 44) (1) dX12_readExpression_44 rfl ?_
              refine r_icmp_ne (pc := 45) (tgt := 55) dX12_readExpression_45 (by decide) (fun c_45 => ?_) (fun c_45 => ?_)
              · rw [if_neg c_45] at hr1
                refine r_iload_n (pc := 55) 2 dX12_readExpression_55 rfl ?_
                refine r_iconst (pc := 56) (3) dX12_readExpression_56 rfl ?_
                refine r_icmp_ne (pc := 57) (tgt := 68) dX12_readExpression_57 (by decide) (fun c_57 => ?_) (fun c_57 => ?_)
                · rw [if_neg c_57] at hr1
                  refine r_aload_n (pc := 68) 0 dX12_readExpression_68 rfl ?_
                  refine r_callV (pc := 69) (As := []) mv_X12_behindTest ml_X12_387 (ct_behindTest hm hn h4 ho (fun z => z.elim c_33 c_45) hM hr1) (q_is hm) rfl rfl (Nat.le_of_ble_eq_true rfl) (Nat.le_of_ble_eq_true rfl) (Nat.le_of_ble_eq_true rfl) (Nat.le_of_ble_eq_true rfl) (Nat.le_of_ble_eq_true rfl) dX12_readExpression_69 (fun r h1 hp => ?_)
                  exact hbk _ r h1 hp
                · rw [if_pos c_57] at hr1
                  subst c_57
                  refine r_aload_n (pc := 60) 0 dX12_readExpression_60 rfl ?_
                  refine r_iload_n (pc := 61) 1 dX12_readExpression_61 rfl ?_
                  refine r_callV (pc := 62) (As := [_]) mv_X12_behindSum ml_X12_383 (ct_behindSum hm hn h4 ho test hM hr1) (q_is hm) rfl rfl (Nat.le_of_ble_eq_true rfl) (Nat.le_of_ble_eq_true rfl) (Nat.le_of_ble_eq_true rfl) (Nat.le_of_ble_eq_true rfl) (Nat.le_of_ble_eq_true rfl) dX12_readExpression_62 (fun r h1 hp => ?_)
                  cases r1 with
                  | inl j =>
                    obtain ⟨x', pp, cc', lv', op', O', A', P', T', rfl, hb, rfl⟩ := id hp
                    show Wp E mX12_readExpression _ _ _ _ [.int _] _ 0 0
                    refine r_goto (pc := 65) (tgt := 72) dX12_readExpression_65 (by decide) ?_
                    exact hbk _ _ _ hp
                  | inr st' =>
                    obtain ⟨cc', O', A', P', T', rfl, hb, rfl⟩ := id hp
                    show Wp E mX12_readExpression _ _ _ _ [.int _] _ 0 0
                    refine r_goto (pc := 65) (tgt := 72) dX12_readExpression_65 (by decide) ?_
                    exact hbk _ _ _ hp
              · rw [if_pos c_45] at hr1
                subst c_45
                refine r_aload_n (pc := 48) 0 dX12_readExpression_48 rfl ?_
                refine r_callV (pc := 49) (As := []) mv_X12_readPart ml_X12_363 (ct_readPart hm hn h4 ho (Or.inr rfl) hM hr1) (q_is hm) rfl rfl (Nat.le_of_ble_eq_true rfl) (Nat.le_of_ble_eq_true rfl) (Nat.le_of_ble_eq_true rfl) (Nat.le_of_ble_eq_true rfl) (Nat.le_of_ble_eq_true rfl) dX12_readExpression_49 (fun r h1 hp => ?_)
                cases r1 with
                | inl j =>
                  obtain ⟨x', pp, cc', lv', op', O', A', P', T', rfl, hb, rfl⟩ := id hp
                  show Wp E mX12_readExpression _ _ _ _ [.int _] _ 0 0
                  refine r_goto (pc := 52) (tgt := 72) dX12_readExpression_52 (by decide) ?_
                  exact hbk _ _ _ hp
                | inr st' =>
                  obtain ⟨cc', O', A', P', T', rfl, hb, rfl⟩ := id hp
                  show Wp E mX12_readExpression _ _ _ _ [.int _] _ 0 0
                  refine r_goto (pc := 52) (tgt := 72) dX12_readExpression_52 (by decide) ?_
                  exact hbk _ _ _ hp
            · rw [if_pos c_33] at hr1
              subst c_33
              refine r_aload_n (pc := 36) 0 dX12_readExpression_36 rfl ?_
              refine r_callV (pc := 37) (As := []) mv_X12_readPlain ml_X12_380 (ct_readPlain hm hn h4 ho hM hr1) (q_is hm) rfl rfl (Nat.le_of_ble_eq_true rfl) (Nat.le_of_ble_eq_true rfl) (Nat.le_of_ble_eq_true rfl) (Nat.le_of_ble_eq_true rfl) (Nat.le_of_ble_eq_true rfl) dX12_readExpression_37 (fun r h1 hp => ?_)
              cases r1 with
              | inl j =>
                obtain ⟨x', pp, cc', lv', op', O', A', P', T', rfl, hb, rfl⟩ := id hp
                show Wp E mX12_readExpression _ _ _ _ [.int _] _ 0 0
                refine r_goto (pc := 40) (tgt := 72) dX12_readExpression_40 (by decide) ?_
                exact hbk _ _ _ hp
              | inr st' =>
                obtain ⟨cc', O', A', P', T', rfl, hb, rfl⟩ := id hp
                show Wp E mX12_readExpression _ _ _ _ [.int _] _ 0 0
                refine r_goto (pc := 40) (tgt := 72) dX12_readExpression_40 (by decide) ?_
                exact hbk _ _ _ hp
  have start : ∀ x : Int32, x = (if test = true then 0 else 1) → Wp E mX12_readExpression (Rm 6 0 0) (Qm E (pE h m μ l n O0 A0 od c0 r) 0 0) 19 [(0, .ref m), (1, .int (bI test))] [.int x] (mH h m (rM μ n i false (nI c0) (nI lv) 0 0 O0 A0 P T) (rL μ l n i)) 0 0 := by
    intro x hx
    refine r_istore_n (pc := 19) (lv' := [(0, _), (1, _), (2, _)]) dX12_readExpression_19 (Nat.le_of_ble_eq_true rfl) rfl ?_
    have hM : MR (μ 9) n O0 A0 od c0 O0 A0 P T c0 (if test = true then 0 else 1, i, lv, 0, [], sZ) := by
      refine ⟨hlv, Nat.zero_le _, hi, hc, Nat.zero_le _, fun _ _ => ⟨rfl, rfl⟩, c0, rfl, fun _ => rfl, fun z => absurd ?_ z⟩
      show (if test = true then (0 : Int32) else 1) = 0 ∨ (if test = true then (0 : Int32) else 1) = 1
      cases test
      · exact Or.inr rfl
      · exact Or.inl rfl
    rw [hx]
    cases r with
    | inl j =>
      obtain ⟨N, hN⟩ := hr
      exact loop N _ _ hN (fun j' e => by cases e; rfl) (fun x e => by cases e) c0 O0 A0 P T hM
    | inr y =>
      obtain ⟨N, op', pl, s, hN, hs⟩ := hr
      exact loop N _ _ hN (fun j' e => by cases e) (fun x e => by cases e; exact ⟨y, rfl, rfl, rfl, hs⟩) c0 O0 A0 P T hM
  refine r_aload_n (pc := 0) 0 dX12_readExpression_0 rfl ?_
  refine r_iconst (pc := 1) (0) dX12_readExpression_1 rfl ?_
  refine q_putI (pc := 2) fp_X12_300 hm dX12_readExpression_2 ?_
  rw [rM_up]
  refine r_aload_n (pc := 5) 0 dX12_readExpression_5 rfl ?_
  refine r_iconst (pc := 6) (0) dX12_readExpression_6 rfl ?_
  refine q_putI (pc := 7) fp_X12_322 hm dX12_readExpression_7 ?_
  rw [rM_uo]
  refine r_iload_n (pc := 10) 1 dX12_readExpression_10 rfl ?_
  refine r_if_eq (pc := 11) (tgt := 18) dX12_readExpression_11 (by decide) (fun c_11 => ?_) (fun c_11 => ?_)
  · refine r_iconst (pc := 18) (1) dX12_readExpression_18 rfl ?_
    exact start 1 (by rw [bI_0.mp c_11]; rfl)
  · refine r_iconst (pc := 14) (0) dX12_readExpression_14 rfl ?_
    refine r_goto (pc := 15) (tgt := 19) dX12_readExpression_15 (by decide) ?_
    exact start 0 (by rw [bI_n0.mp c_11]; rfl)
end READ12D
