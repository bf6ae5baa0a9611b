/-! the reference: orders(), whole -/
section ORDERS12C
variable {E : En} {h : Hp} {m : Nat} {μ : Mu} {l : La} {n : Nat}
theorem up2_comm {α : Type} {f : Nat → Nat → α} {a k b j : Nat} {v w : α} (hne : ¬ (a = b ∧ k = j)) : up2 (up2 f a k v) b j w = up2 (up2 f b j w) a k v := by
  funext o i
  by_cases h1 : o = b ∧ i = j
  · obtain ⟨rfl, rfl⟩ := h1
    rw [up2_at, up2_ne (fun z => hne ⟨z.1.symm, z.2.symm⟩), up2_at]
  · rw [up2_ne h1]
    by_cases h2 : o = a ∧ i = k
    · obtain ⟨rfl, rfl⟩ := h2
      rw [up2_at, up2_at]
    · rw [up2_ne h2, up2_ne h2, up2_ne h1]
theorem ct_morders (hm : Md E h m) {fo : Option (List Cl)} {nc ns : Nat} (hJ : JR μ fo nc ns) (hn : μ 0 13 = nI n) (h4 : n ≤ 400) {R : Nat ⊕ List Od} (hR : OrdRun (l 15) (l 16) (l 31) (tk (μ 9) n) 13 0 0 0 R) : Ct E 10 0 0 mX12_orders [.ref m] (mH h m μ l) (pOr h m μ l n nc ns fo R) := by
  have hw : wOK 32 := Or.inr rfl
  have h20 : μ 0 20 = 0 := hJ.1.1
  refine Ct.of (by decide +kernel) (Nat.le_of_ble_eq_true rfl) ?_
  refine r_aload_n (pc := 0) 0 dX12_orders_0 rfl ?_
  refine r_iconst (pc := 1) (0) dX12_orders_1 rfl ?_
  refine q_putI (pc := 2) fp_X12_161 hm dX12_orders_2 ?_
  refine r_aload_n (pc := 5) 0 dX12_orders_5 rfl ?_
  refine r_iconst (pc := 6) (-1) dX12_orders_6 rfl ?_
  refine q_putI (pc := 7) fp_X12_152 hm dX12_orders_7 ?_
  generalize hμ1 : up2 (up2 μ 0 0 0) 0 55 (-1) = μ1
  generalize hν : up2 μ1 0 20 (bI true) = ν
  have hν' : ν = up2 (up2 (up2 μ 0 55 (-1)) 0 0 0) 0 20 (bI true) := by rw [← hν, ← hμ1, up2_comm (a := 0) (k := 0) (b := 0) (j := 55) (by omega)]
  have n9 : ν 9 = μ 9 := by rw [hν']; funext j; rw [up2_ne (by omega), up2_ne (by omega), up2_ne (by omega)]
  have n13 : ν 0 13 = nI n := by rw [hν', up2_ne (by omega), up2_ne (by omega), up2_ne (by omega)]; exact hn
  have n20 : ν 0 20 = bI true := by rw [hν']; exact up2_at
  have e9 : up2 μ 0 55 (-1) 9 = μ 9 := by funext j; exact up2_ne (by omega)
  have h20' : up2 μ 0 55 (-1) 0 20 = 0 := by rw [up2_ne (by omega)]; exact h20
  have done : ∀ (C : Nat → Int32) (i cc lv : Nat) (pp op : Int32) (O A P T : Nat → Int32) (cls : List Od), R = .inr cls → cls.length ≤ 12 → cc ≤ 400 → (∀ q d, cls[q]? = some d → NOr C O A q d cc) → Wp E mX12_orders (Rm 10 0 0) (Qm E (pOr h m μ l n nc ns fo R) 0 0) 64 [(0, .ref m)] [] (mH h m (rM (enM (clM ν 32 C (nI cls.length))) n i false (nI cc) (nI lv) pp op O A P T) (rL ν l n i)) 0 0 := by
    intro C i cc lv pp op O A P T cls hRc h12 hcc hcl
    have hob := Ob_rd (μ := up2 μ 0 55 (-1)) (l := l) (n := n) (i := i) (bd := false) (c := nI cc) (lv := nI lv) (p := pp) (op := op) (O := O) (A := A) (P := P) (T := T) (C := C) (x := nI cls.length) hw h20' hν'
    rw [if_neg (by decide)] at hob
    have r21 : rM (enM (clM ν 32 C (nI cls.length))) n i false (nI cc) (nI lv) pp op O A P T 0 21 = nI cls.length := by
      show enM (clM ν 32 C (nI cls.length)) 0 21 = _
      unfold enM; rw [up2_ne (by omega), up2_ne (by omega)]; unfold clM; rw [if_neg (by decide), if_pos ⟨rfl, rfl⟩]
    have r32 : rM (enM (clM ν 32 C (nI cls.length))) n i false (nI cc) (nI lv) pp op O A P T 32 = C := by
      funext j
      show enM (clM ν 32 C (nI cls.length)) 32 j = _
      unfold enM; rw [up2_ne (by omega), up2_ne (by omega), clM_w]
    have r11 : rM (enM (clM ν 32 C (nI cls.length))) n i false (nI cc) (nI lv) pp op O A P T 11 = O := rM_O
    have r12 : rM (enM (clM ν 32 C (nI cls.length))) n i false (nI cc) (nI lv) pp op O A P T 12 = A := rM_A
    generalize rM (enM (clM ν 32 C (nI cls.length))) n i false (nI cc) (nI lv) pp op O A P T = X at hob r21 r32 r11 r12
    have hJX : JR X fo nc ns := by
      obtain ⟨hx, hu, he⟩ := hJ
      have eR : X 2 = μ 2 := by rw [hob.row]; funext j; rw [up2_ne (by omega), up2_ne (by omega), up2_ne (by omega)]
      have e8 : X 0 8 = μ 0 8 := by rw [hob.f8, up2_ne (by omega), up2_ne (by omega), up2_ne (by omega)]
      have eX : X 0 20 = μ 0 20 := by rw [hob.2.2.1 20 (by decide), up2_ne (by omega), up2_ne (by omega), up2_ne (by omega)]
      refine ⟨Mx_row hx eX (fun j _ => by rw [eR]), ?_, fun k hk => by rw [eR]; exact he k hk⟩
      unfold uF; rw [e8]; exact hu
    have hwp := wp_orders (h := h) (l := l) hm hJX r21 h12 hcc (fun q d hq => by rw [r32, r11, r12]; exact hcl q d hq) hob rfl
    have ep : pOr h m μ l n nc ns fo R = pRs h m (up2 (up2 (up2 μ 0 55 (-1)) 0 13 0) 0 18 (-1)) l (lisF fo nc ns cls 0 (up2 (up2 (up2 (up2 (up2 μ 0 55 (-1)) 0 13 0) 0 18 (-1)) 0 53 0) 0 54 (-1))) := by rw [hRc]; rfl
    rw [ep]
    exact hwp
  have fail : ∀ (C : Nat → Int32) (x : Int32) (i : Nat) (c lv pp op : Int32) (O A P T : Nat → Int32), R = .inl i → Wp E mX12_orders (Rm 10 0 0) (Qm E (pOr h m μ l n nc ns fo R) 0 0) 50 [(0, .ref m)] [] (mH h m (rM (enM (clM ν 32 C x)) n i true c lv pp op O A P T) (rL ν l n i)) 0 0 := by
    intro C x i cc lv pp op O A P T hRc
    have hob := Ob_rd (μ := up2 μ 0 55 (-1)) (l := l) (n := n) (i := i) (bd := true) (c := cc) (lv := lv) (p := pp) (op := op) (O := O) (A := A) (P := P) (T := T) (C := C) (x := x) hw h20' hν'
    rw [if_pos rfl, e9] at hob
    refine r_aload_n (pc := 50) 0 dX12_orders_50 rfl ?_
    refine q_getI (pc := 51) fl_X12_260 hm dX12_orders_51 ?_
    refine r_if_eq (pc := 54) (tgt := 64) dX12_orders_54 (by decide) (fun c_54 => ?_) (fun c_54 => ?_)
    · exact absurd (show bI true = 0 from c_54) (by decide)
    · refine r_aload_n (pc := 57) 0 dX12_orders_57 rfl ?_
      refine r_bipush (pc := 58) (-6) dX12_orders_58 rfl ?_
      refine r_dV (pc := 60) (As := [_]) mv_X12_tell ml_X12_170 (ct_tell hm _ t_6) (q_is hm) rfl rfl (Nat.le_of_ble_eq_true rfl) (Nat.le_of_ble_eq_true rfl) (Nat.le_of_ble_eq_true rfl) (Nat.le_of_ble_eq_true rfl) (Nat.le_of_ble_eq_true rfl) dX12_orders_60 ?_
      refine r_iret (pc := 63) rfl ?_ (Nat.le_of_ble_eq_true rfl) (Nat.le_of_ble_eq_true rfl) dX12_orders_63
      show pOr h m μ l n nc ns fo R _ _
      rw [hRc]
      exact ⟨_, _, hob, rfl, rfl⟩
  have fail46 : ∀ (C : Nat → Int32) (x : Int32) (i : Nat) (bd : Bool) (c lv pp op : Int32) (O A P T : Nat → Int32), R = .inl i → (bd || decide (¬ (tk (ν 9) n i).2.2.1 = 0)) = true → Wp E mX12_orders (Rm 10 0 0) (Qm E (pOr h m μ l n nc ns fo R) 0 0) 46 [(0, .ref m)] [] (mH h m (rM (clM ν 32 C x) n i bd c lv pp op O A P T) (rL ν l n i)) 0 0 := by
    intro C x i bd cc lv pp op O A P T hRc hb
    have h1 := ct_endText (l := l) (i := i) (bd := bd) (c := cc) (lv := lv) (p := pp) (op := op) (O := O) (A := A) (P := P) (T := T) (C := C) (x := x) hm hw n13 h4
    rw [hb] at h1
    refine r_aload_n (pc := 46) 0 dX12_orders_46 rfl ?_
    refine r_dV0 (pc := 47) (As := []) mv_X12_endText ml_X12_407 (h1) (q_is hm) rfl rfl (Nat.le_of_ble_eq_true rfl) (Nat.le_of_ble_eq_true rfl) (Nat.le_of_ble_eq_true rfl) (Nat.le_of_ble_eq_true rfl) (Nat.le_of_ble_eq_true rfl) dX12_orders_47 ?_
    exact fail C x i _ _ _ _ O A P T hRc
  have good46 : ∀ (C : Nat → Int32) (i cc lv : Nat) (pp op : Int32) (O A P T : Nat → Int32) (cls : List Od), R = .inr cls → cls.length ≤ 12 → cc ≤ 400 → (∀ q d, cls[q]? = some d → NOr C O A q d cc) → (tk (ν 9) n i).2.2.1 = 0 → Wp E mX12_orders (Rm 10 0 0) (Qm E (pOr h m μ l n nc ns fo R) 0 0) 46 [(0, .ref m)] [] (mH h m (rM (clM ν 32 C (nI cls.length)) n i false (nI cc) (nI lv) pp op O A P T) (rL ν l n i)) 0 0 := by
    intro C i cc lv pp op O A P T cls hRc h12 hcc hcl hs
    have h1 := ct_endText (l := l) (i := i) (bd := false) (c := nI cc) (lv := nI lv) (p := pp) (op := op) (O := O) (A := A) (P := P) (T := T) (C := C) (x := nI cls.length) hm hw n13 h4
    rw [hs, show (false || decide (¬ (0 : Int32) = 0)) = false by decide] at h1
    refine r_aload_n (pc := 46) 0 dX12_orders_46 rfl ?_
    refine r_dV0 (pc := 47) (As := []) mv_X12_endText ml_X12_407 (h1) (q_is hm) rfl rfl (Nat.le_of_ble_eq_true rfl) (Nat.le_of_ble_eq_true rfl) (Nat.le_of_ble_eq_true rfl) (Nat.le_of_ble_eq_true rfl) (Nat.le_of_ble_eq_true rfl) dX12_orders_47 ?_
    refine r_aload_n (pc := 50) 0 dX12_orders_50 rfl ?_
    refine q_getI (pc := 51) fl_X12_260 hm dX12_orders_51 ?_
    refine r_if_eq (pc := 54) (tgt := 64) dX12_orders_54 (by decide) (fun c_54 => ?_) (fun c_54 => ?_)
    · exact done C i cc lv pp op O A P T cls hRc h12 hcc hcl
    · exact absurd (show bI false = 0 from rfl) c_54
  have at19 : ∀ (N q : Nat) (R1 : Nat ⊕ List Od) (y : Nat ⊕ (Nat × Nat × Od)) (acc : List Od) (C0 O0 A0 : Nat → Int32) (c0 : Nat), (match y with
      | .inl j => R1 = .inl j
      | .inr y => if tS (tk (μ 9) n y.1) 59 = true then ∃ R', OrdRun (l 15) (l 16) (l 31) (tk (μ 9) n) N (q + 1) (y.1 + 1) y.2.1 R' ∧ (match R' with | .inl j => R1 = .inl j | .inr cs => R1 = .inr (y.2.2 :: cs)) else if (tk (μ 9) n y.1).2.2.1 = 0 then R1 = .inr [y.2.2] else R1 = .inl y.1) → acc.length = q → (∀ q' d, acc[q']? = some d → NOr C0 O0 A0 q' d c0) → (∀ j, R1 = .inl j → R = .inl j) → (∀ cs, R1 = .inr cs → R = .inr (acc ++ cs)) → ∀ (v : Option Value) (h1 : Hp), pD h m ν l n q c0 C0 O0 A0 y v h1 → Wp E mX12_orders (Rm 10 0 0) (Qm E (pOr h m μ l n nc ns fo R) 0 0) 19 [(0, .ref m)] (v.toList ++ []) h1 0 0 := by
    intro N
    induction N with
    | zero =>
      intro q R1 y acc C0 O0 A0 c0 hy hacc hcl hf hg v h1 hp
      obtain ⟨rfl, hp⟩ := hp
      show Wp E mX12_orders _ _ _ _ [] _ 0 0
      cases y with
      | inl j =>
        obtain ⟨C, x, cc, lv, pp, op, O, A, P, T, rfl⟩ := hp
        refine r_aload_n (pc := 19) 0 dX12_orders_19 rfl ?_
        refine q_getI (pc := 20) fl_X12_260 hm dX12_orders_20 ?_
        refine r_if_ne (pc := 23) (tgt := 46) dX12_orders_23 (by decide) (fun c_23 => ?_) (fun c_23 => ?_)
        · exact fail46 C x j true _ _ _ _ O A P T (hf j hy) rfl
        · exact absurd (show bI true = 0 from c_23) (by decide)
      | inr y =>
        obtain ⟨C, cc, pp, op, O, A, P, T, rfl, k1, k2, k3, k4, k5, k6, k7, k8⟩ := hp
        simp only at hy
        have hS : ¬ tS (tk (μ 9) n y.1) 59 = true := fun z => by
          rw [if_pos z] at hy
          obtain ⟨_, z1, _⟩ := hy
          exact z1
        have hnew : ∀ q' d, (acc ++ [y.2.2])[q']? = some d → NOr C O A q' d cc := by
          intro q' d hq'
          rcases acc_snoc hq' with ⟨z1, z2⟩ | ⟨z1, z2⟩
          · exact NOr_cong k2 (fun k hk => k7 k (by omega)) k8 (hcl q' d z2)
          · rw [z1, z2, hacc]; exact k1
        have hlast : Wp E mX12_orders (Rm 10 0 0) (Qm E (pOr h m μ l n nc ns fo R) 0 0) 19 [(0, .ref m)] [] (mH h m (rM (clM ν 32 C (nI (q + 1))) n y.1 false (nI cc) (nI y.2.1) pp op O A P T) (rL ν l n y.1)) 0 0 := by
          rw [if_neg hS] at hy
          have hq12 := k6
          have hi4 := tk_from (ν 9) n y.1
          refine r_aload_n (pc := 19) 0 dX12_orders_19 rfl ?_
          refine q_getI (pc := 20) fl_X12_260 hm dX12_orders_20 ?_
          refine r_if_ne (pc := 23) (tgt := 46) dX12_orders_23 (by decide) (fun c_23 => ?_) (fun c_23 => ?_)
          · exact absurd (show bI false = 0 from rfl) c_23
          · refine r_aload_n (pc := 26) 0 dX12_orders_26 rfl ?_
            refine r_bipush (pc := 27) (59) dX12_orders_27 rfl ?_
            refine r_dV (pc := 29) (As := [_]) mv_X12_isSign ml_X12_331 (cl_isS hm hw 59) (q_is hm) rfl rfl (Nat.le_of_ble_eq_true rfl) (Nat.le_of_ble_eq_true rfl) (Nat.le_of_ble_eq_true rfl) (Nat.le_of_ble_eq_true rfl) (Nat.le_of_ble_eq_true rfl) dX12_orders_29 ?_
            refine r_if_eq (pc := 32) (tgt := 46) dX12_orders_32 (by decide) (fun c_32 => ?_) (fun c_32 => ?_)
            · by_cases hs : (tk (μ 9) n y.1).2.2.1 = 0
              · rw [if_pos hs] at hy
                have hlen : (acc ++ [y.2.2]).length = q + 1 := by rw [List.length_append, hacc]; rfl
                rw [← hlen]
                exact good46 C y.1 cc y.2.1 pp op O A P T (acc ++ [y.2.2]) (hg _ hy) (by omega) (by omega) hnew (by rw [n9]; exact hs)
              · rw [if_neg hs] at hy
                exact fail46 C _ y.1 false _ _ _ _ O A P T (hf _ hy) (by rw [n9, decide_eq_true hs]; rfl)
            · rw [n9] at c_32
              exact absurd (bI_n0.mp c_32) hS
        exact hlast
    | succ N IH =>
      intro q R1 y acc C0 O0 A0 c0 hy hacc hcl hf hg v h1 hp
      obtain ⟨rfl, hp⟩ := hp
      show Wp E mX12_orders _ _ _ _ [] _ 0 0
      cases y with
      | inl j =>
        obtain ⟨C, x, cc, lv, pp, op, O, A, P, T, rfl⟩ := hp
        refine r_aload_n (pc := 19) 0 dX12_orders_19 rfl ?_
        refine q_getI (pc := 20) fl_X12_260 hm dX12_orders_20 ?_
        refine r_if_ne (pc := 23) (tgt := 46) dX12_orders_23 (by decide) (fun c_23 => ?_) (fun c_23 => ?_)
        · exact fail46 C x j true _ _ _ _ O A P T (hf j hy) rfl
        · exact absurd (show bI true = 0 from c_23) (by decide)
      | inr y =>
        obtain ⟨C, cc, pp, op, O, A, P, T, rfl, k1, k2, k3, k4, k5, k6, k7, k8⟩ := hp
        simp only at hy
        have hnew : ∀ q' d, (acc ++ [y.2.2])[q']? = some d → NOr C O A q' d cc := by
          intro q' d hq'
          rcases acc_snoc hq' with ⟨z1, z2⟩ | ⟨z1, z2⟩
          · exact NOr_cong k2 (fun k hk => k7 k (by omega)) k8 (hcl q' d z2)
          · rw [z1, z2, hacc]; exact k1
        by_cases hS : tS (tk (μ 9) n y.1) 59 = true
        · rw [if_pos hS] at hy
          obtain ⟨R', ⟨x, hx, hxr⟩, hRR⟩ := hy
          rw [n9] at k4
          have hx' : OrdCl (l 15) (l 16) (l 31) (tk (ν 9) n) (q + 1) (y.1 + 1) y.2.1 x := by rw [n9]; exact hx
          refine r_aload_n (pc := 19) 0 dX12_orders_19 rfl ?_
          refine q_getI (pc := 20) fl_X12_260 hm dX12_orders_20 ?_
          refine r_if_ne (pc := 23) (tgt := 46) dX12_orders_23 (by decide) (fun c_23 => ?_) (fun c_23 => ?_)
          · exact absurd (show bI false = 0 from rfl) c_23
          · refine r_aload_n (pc := 26) 0 dX12_orders_26 rfl ?_
            refine r_bipush (pc := 27) (59) dX12_orders_27 rfl ?_
            refine r_dV (pc := 29) (As := [_]) mv_X12_isSign ml_X12_331 (cl_isS hm hw 59) (q_is hm) rfl rfl (Nat.le_of_ble_eq_true rfl) (Nat.le_of_ble_eq_true rfl) (Nat.le_of_ble_eq_true rfl) (Nat.le_of_ble_eq_true rfl) (Nat.le_of_ble_eq_true rfl) dX12_orders_29 ?_
            refine r_if_eq (pc := 32) (tgt := 46) dX12_orders_32 (by decide) (fun c_32 => ?_) (fun c_32 => ?_)
            · rw [n9, hS] at c_32
              exact absurd c_32 (by decide)
            · refine r_aload_n (pc := 35) 0 dX12_orders_35 rfl ?_
              refine r_dV0 (pc := 36) (As := []) mv_X12_onward ml_X12_264 (cl_onw hm hw n13 h4) (q_is hm) rfl rfl (Nat.le_of_ble_eq_true rfl) (Nat.le_of_ble_eq_true rfl) (Nat.le_of_ble_eq_true rfl) (Nat.le_of_ble_eq_true rfl) (Nat.le_of_ble_eq_true rfl) dX12_orders_36 ?_
              refine r_aload_n (pc := 39) 0 dX12_orders_39 rfl ?_
              refine r_callV (pc := 40) (As := []) mv_X12_readOrder ml_X12_519 (ct_readOrder (q := q + 1) (c0 := cc) (i := y.1 + 1) (lv := y.2.1) hm n13 h4 n20 (by omega) k5 (by rw [n9]; exact tk_next k4 (tS_n0 hS)) (by omega) hx') (q_is hm) rfl rfl (Nat.le_of_ble_eq_true rfl) (Nat.le_of_ble_eq_true rfl) (Nat.le_of_ble_eq_true rfl) (Nat.le_of_ble_eq_true rfl) (Nat.le_of_ble_eq_true rfl) dX12_orders_40 (fun r h1 hp => ?_)
              have h19 := IH (q + 1) R' x (acc ++ [y.2.2]) C O A cc hxr (by rw [List.length_append, hacc]; rfl) hnew (fun j hj => by subst hj; exact hf j hRR) (fun cs hcs => by subst hcs; rw [hg _ hRR, List.append_assoc]; rfl) r h1 hp
              obtain ⟨rfl, -⟩ := hp
              show Wp E mX12_orders _ _ _ _ [] _ 0 0
              refine r_goto (pc := 43) (tgt := 19) dX12_orders_43 (by decide) ?_
              exact h19
        · have hlast : Wp E mX12_orders (Rm 10 0 0) (Qm E (pOr h m μ l n nc ns fo R) 0 0) 19 [(0, .ref m)] [] (mH h m (rM (clM ν 32 C (nI (q + 1))) n y.1 false (nI cc) (nI y.2.1) pp op O A P T) (rL ν l n y.1)) 0 0 := by
            rw [if_neg hS] at hy
            have hq12 := k6
            have hi4 := tk_from (ν 9) n y.1
            refine r_aload_n (pc := 19) 0 dX12_orders_19 rfl ?_
            refine q_getI (pc := 20) fl_X12_260 hm dX12_orders_20 ?_
            refine r_if_ne (pc := 23) (tgt := 46) dX12_orders_23 (by decide) (fun c_23 => ?_) (fun c_23 => ?_)
            · exact absurd (show bI false = 0 from rfl) c_23
            · refine r_aload_n (pc := 26) 0 dX12_orders_26 rfl ?_
              refine r_bipush (pc := 27) (59) dX12_orders_27 rfl ?_
              refine r_dV (pc := 29) (As := [_]) mv_X12_isSign ml_X12_331 (cl_isS hm hw 59) (q_is hm) rfl rfl (Nat.le_of_ble_eq_true rfl) (Nat.le_of_ble_eq_true rfl) (Nat.le_of_ble_eq_true rfl) (Nat.le_of_ble_eq_true rfl) (Nat.le_of_ble_eq_true rfl) dX12_orders_29 ?_
              refine r_if_eq (pc := 32) (tgt := 46) dX12_orders_32 (by decide) (fun c_32 => ?_) (fun c_32 => ?_)
              · by_cases hs : (tk (μ 9) n y.1).2.2.1 = 0
                · rw [if_pos hs] at hy
                  have hlen : (acc ++ [y.2.2]).length = q + 1 := by rw [List.length_append, hacc]; rfl
                  rw [← hlen]
                  exact good46 C y.1 cc y.2.1 pp op O A P T (acc ++ [y.2.2]) (hg _ hy) (by omega) (by omega) hnew (by rw [n9]; exact hs)
                · rw [if_neg hs] at hy
                  exact fail46 C _ y.1 false _ _ _ _ O A P T (hf _ hy) (by rw [n9, decide_eq_true hs]; rfl)
              · rw [n9] at c_32
                exact absurd (bI_n0.mp c_32) hS
          exact hlast
  obtain ⟨x, hx, hxr⟩ := hR
  have hx' : OrdCl (l 15) (l 16) (l 31) (tk (ν 9) n) 0 0 0 x := by rw [n9]; exact hx
  have h1 := ct_beginText (μ := μ1) (l := l) hm true hw (n := n) (by rw [← hμ1, up2_ne (by omega), up2_ne (by omega)]; exact hn) h4
  rw [hν] at h1
  refine r_aload_n (pc := 10) 0 dX12_orders_10 rfl ?_
  refine r_iconst (pc := 11) (1) dX12_orders_11 rfl ?_
  refine r_dV0 (pc := 12) (As := [_]) mv_X12_beginText ml_X12_401 (h1) (q_is hm) rfl rfl (Nat.le_of_ble_eq_true rfl) (Nat.le_of_ble_eq_true rfl) (Nat.le_of_ble_eq_true rfl) (Nat.le_of_ble_eq_true rfl) (Nat.le_of_ble_eq_true rfl) dX12_orders_12 ?_
  refine r_aload_n (pc := 15) 0 dX12_orders_15 rfl ?_
  refine r_callV (pc := 16) (As := []) mv_X12_readOrder ml_X12_519 (ct_readOrder (q := 0) (c0 := 0) (i := 0) (lv := 0) hm n13 h4 n20 (by omega) (by omega) (by omega) (by omega) hx') (q_is hm) rfl rfl (Nat.le_of_ble_eq_true rfl) (Nat.le_of_ble_eq_true rfl) (Nat.le_of_ble_eq_true rfl) (Nat.le_of_ble_eq_true rfl) (Nat.le_of_ble_eq_true rfl) dX12_orders_16 (fun r h1 hp => ?_)
  exact at19 12 0 R x [] _ _ _ 0 hxr rfl (fun q' d z => by cases z) (fun _ z => z) (fun _ z => z) r h1 hp
end ORDERS12C
