/-! the reference: what laws tell -/
section LAW12
variable {E : En} {h : Hp} {m : Nat} {μ : Mu} {l : La}
/-- what a piece of code means: by what its words are; none, if broken -/
abbrev Sm : Type := (Nat → Int64) → Option Int64
/-- a clause: its head, its if, its sum -/
abbrev Cl : Type := Int32 × Option Sm × Sm
def mEv (ops args : Nat → Int32) (lf : Int32 → Int32 → Option Int64) (a b : Nat) (f0 : Nat → Int64) (r : Option Int64) : Prop := ∃ N bk n' f', mRun ops args lf b N a 0 f0 = some (bk, n', f') ∧ r = if bk = true then none else some (if 0 < n' then f' 0 else 0)
def ifOk (s : Option Sm) (e : Nat → Int64) : Bool := match s with
  | none => true
  | some s => match s e with
    | none => false
    | some v => decide (¬ v = 0)
/-- what a clause tells, if it is of this head and holds -/
def clT (c : Cl) (head : Int32) (e : Nat → Int64) : Option Int64 := if c.1 = head ∧ ifOk c.2.1 e = true then (if head = 3 then some 1 else c.2.2 e) else none
/-- the words, out of how the reference keeps them -/
def cutE (e : Nat → Int64) : Nat → Int64 := fun j => if j < 8 then e (j + 1) else 0
abbrev lOps (r : Nat → Int32) (L : Nat) : Nat → Int32 := fun k => r (L + 98 + 2 * k)
abbrev lArgs (r : Nat → Int32) (L : Nat) : Nat → Int32 := fun k => r (L + 98 + 2 * k + 1)
def ClOK (r : Nat → Int32) (L q : Nat) (c : Cl) : Prop := ∃ a3 a4 a5 a6 : Nat, a3 ≤ 400 ∧ a4 ≤ 400 ∧ a5 ≤ 400 ∧ a6 ≤ 400 ∧ r (L + 2 + 8 * q) = c.1 ∧ r (L + 2 + 8 * q + 3) = nI a3 ∧ r (L + 2 + 8 * q + 4) = nI a4 ∧ r (L + 2 + 8 * q + 5) = nI a5 ∧ r (L + 2 + 8 * q + 6) = nI a6 ∧
  (match c.2.1 with | none => a6 ≤ a5 | some s => a5 < a6 ∧ ∀ e f0, mEv (lOps r L) (lArgs r L) (lfL e) a5 a6 f0 (s (cutE e))) ∧ (c.1 ≠ 3 → ∀ e f0, mEv (lOps r L) (lArgs r L) (lfL e) a3 a4 f0 (c.2.2 (cutE e)))
/-- what reckoning leaves: only its own cells are written -/
def S1 (μ : Mu) (l : La) (μ' : Mu) (l' : La) : Prop := (∀ o, o ≠ 0 → μ' o = μ o) ∧ (∀ j, j ≠ 38 → μ' 0 j = μ 0 j) ∧ (∀ o, o ≠ 0 → o ≠ 20 → l' o = l o) ∧ (∀ j, j ≠ 39 → j ≠ 40 → l' 0 j = l 0 j)
theorem S1.rf : S1 μ l μ l := ⟨fun _ _ => rfl, fun _ _ => rfl, fun _ _ _ => rfl, fun _ _ _ => rfl⟩
theorem S1.tr {μ1 μ2 : Mu} {l1 l2 : La} (h1 : S1 μ l μ1 l1) (h2 : S1 μ1 l1 μ2 l2) : S1 μ l μ2 l2 := ⟨fun o ho => (h2.1 o ho).trans (h1.1 o ho), fun j hj => (h2.2.1 j hj).trans (h1.2.1 j hj), fun o a b => (h2.2.2.1 o a b).trans (h1.2.2.1 o a b), fun j a b => (h2.2.2.2 j a b).trans (h1.2.2.2 j a b)⟩
theorem S1.rk (b : Int32) (f : Nat → Int64) (v : Int64) : S1 μ l (up2 μ 0 38 b) (up2 (rsL l f) 0 39 v) := by
  refine ⟨fun o ho => by funext j; exact up2_ne (by omega), fun j hj => up2_ne (by omega), fun o a b => ?_, fun j a b => ?_⟩
  · funext j; rw [up2_ne (by omega), rsL_ne b]
  · rw [up2_ne (by omega), rsL_ne (by decide)]
theorem S1.sum (v : Int64) : S1 μ l μ (up2 l 0 40 v) := ⟨fun _ _ => rfl, fun _ _ => rfl, fun o a b => by funext j; exact up2_ne (by omega), fun j a b => up2_ne (by omega)⟩
theorem ct_isSo (hm : Md E h m) (ho : μ 0 20 = 0) {L q nc ns : Nat} (hlaw : μ 0 34 = nI L) (hL4 : L ≤ 4550) (hq : q < 12) (hnc : μ 2 0 = nI nc) (h6 : nc ≤ 6) (hns : μ 2 1 = nI ns) (h3 : ns ≤ 3) {c : Cl} (hc : ClOK (μ 2) L q c) :
    Ct E 3 0 0 mX12_isSo [.ref m, .int (nI (L + 2 + 8 * q))] (mH h m μ l) (fun r h' => ∃ μ' l', h' = mH h m μ' l' ∧ S1 μ l μ' l' ∧ r = some (.int (bI (clT c c.1 (cutE (l 18))).isSome)) ∧ ∀ v, c.1 ≠ 3 → clT c c.1 (cutE (l 18)) = some v → l' 0 40 = v) := by
  obtain ⟨a3, a4, a5, a6, g3, g4, g5, g6, eh, e3, e4, e5, e6, hif, hsum⟩ := hc
  refine Ct.of (by decide +kernel) (Nat.le_of_ble_eq_true rfl) ?_
  have rest : ∀ (ν : Mu) (k : La), S1 μ l ν k → ifOk c.2.1 (cutE (l 18)) = true → Wp E mX12_isSo (Rm 3 0 0) (Qm E (fun r h' => ∃ μ' l', h' = mH h m μ' l' ∧ S1 μ l μ' l' ∧ r = some (.int (bI (clT c c.1 (cutE (l 18))).isSome)) ∧ ∀ v, c.1 ≠ 3 → clT c c.1 (cutE (l 18)) = some v → l' 0 40 = v) 0 0) 59 [(0, .ref m), (1, .int (nI (L + 2 + 8 * q)))] [] (mH h m ν k) 0 0 := by
    intro ν k hS hok
    have e2 : ν 2 = μ 2 := hS.1 2 (by decide)
    have e18 : k 18 = l 18 := hS.2.2.1 18 (by decide) (by decide)
    refine r_aload_n (pc := 59) 0 dX12_isSo_59 rfl ?_
    refine q_getR (pc := 60) fl_X12_13 hm (md_f3 hm) dX12_isSo_60 ?_
    refine r_iload_n (pc := 63) 1 dX12_isSo_63 rfl ?_
    refine q_iald (pc := 64) (j := L + 2 + 8 * q) (md_r3 hm) (by decide) rfl (by omega) (by decide) dX12_isSo_64 ?_
    refine r_iconst (pc := 65) (3) dX12_isSo_65 rfl ?_
    refine r_icmp_eq (pc := 66) (tgt := 110) dX12_isSo_66 (by decide) (fun c_66 => ?_) (fun c_66 => ?_)
    · rw [e2, eh] at c_66
      refine r_iconst (pc := 110) (1) dX12_isSo_110 rfl ?_
      refine r_zret (pc := 111) rfl (by decide) ?_ (Nat.le_of_ble_eq_true rfl) (Nat.le_of_ble_eq_true rfl) dX12_isSo_111
      refine ⟨ν, k, rfl, hS, ?_, fun v hne => absurd c_66 hne⟩
      unfold clT
      rw [if_pos ⟨rfl, hok⟩, if_pos c_66]; rfl
    · rw [e2, eh] at c_66
      obtain ⟨N, bk, n', f', hrun, hval⟩ := hsum c_66 (l 18) (k 20)
      refine r_aload_n (pc := 69) 0 dX12_isSo_69 rfl ?_
      refine r_aload_n (pc := 70) 0 dX12_isSo_70 rfl ?_
      refine q_getR (pc := 71) fl_X12_13 hm (md_f3 hm) dX12_isSo_71 ?_
      refine r_iload_n (pc := 74) 1 dX12_isSo_74 rfl ?_
      refine r_iconst (pc := 75) (3) dX12_isSo_75 rfl ?_
      refine r_iadd (pc := 76) dX12_isSo_76 ?_
      refine q_iald (pc := 77) (j := L + 2 + 8 * q + 3) (md_r3 hm) (by decide) (by simp only [fa_lit, nI_add, nI_mul]) (by omega) (by decide) dX12_isSo_77 ?_
      refine r_aload_n (pc := 78) 0 dX12_isSo_78 rfl ?_
      refine q_getR (pc := 79) fl_X12_13 hm (md_f3 hm) dX12_isSo_79 ?_
      refine r_iload_n (pc := 82) 1 dX12_isSo_82 rfl ?_
      refine r_iconst (pc := 83) (4) dX12_isSo_83 rfl ?_
      refine r_iadd (pc := 84) dX12_isSo_84 ?_
      refine q_iald (pc := 85) (j := L + 2 + 8 * q + 4) (md_r3 hm) (by decide) (by simp only [fa_lit, nI_add, nI_mul]) (by omega) (by decide) dX12_isSo_85 ?_
      rw [e2, e3, e4]
      have hra := ct_reckonAll (μ := ν) (l := k) hm (od := false) (ho := (hS.2.1 20 (by decide)).trans ho) (nc := nc) (ns := ns) (L := L) (ops := lOps (μ 2) L) (args := lArgs (μ 2) L) (lf := lfL (l 18)) (fun z => by cases z) (fun _ => ⟨(hS.2.1 34 (by decide)).trans hlaw, hL4, by rw [e2], by rw [e2], by rw [e18]⟩) (by rw [e2]; exact hnc) h6 (by rw [e2]; exact hns) h3 g3 g4 hrun
      refine r_dV0 (pc := 86) (As := [_, _]) mv_X12_reckonAll ml_X12_430 (hra) (q_is hm) rfl rfl (Nat.le_of_ble_eq_true rfl) (Nat.le_of_ble_eq_true rfl) (Nat.le_of_ble_eq_true rfl) (Nat.le_of_ble_eq_true rfl) (Nat.le_of_ble_eq_true rfl) dX12_isSo_86 ?_
      refine r_aload_n (pc := 89) 0 dX12_isSo_89 rfl ?_
      refine r_aload_n (pc := 90) 0 dX12_isSo_90 rfl ?_
      refine q_getJ (pc := 91) fl_X12_427 hm dX12_isSo_91 ?_
      refine q_putJ (pc := 94) fp_X12_433 hm dX12_isSo_94 ?_
      refine r_aload_n (pc := 97) 0 dX12_isSo_97 rfl ?_
      refine q_getI (pc := 98) fl_X12_413 hm dX12_isSo_98 ?_
      refine r_if_ne (pc := 101) (tgt := 108) dX12_isSo_101 (by decide) (fun c_101 => ?_) (fun c_101 => ?_)
      · rw [up2_at] at c_101
        refine r_iconst (pc := 108) (0) dX12_isSo_108 rfl ?_
        refine r_zret (pc := 109) rfl (by decide) ?_ (Nat.le_of_ble_eq_true rfl) (Nat.le_of_ble_eq_true rfl) dX12_isSo_109
        refine ⟨_, _, rfl, hS.tr ((S1.rk _ _ _).tr (S1.sum _)), ?_, ?_⟩
        · unfold clT
          rw [if_pos ⟨rfl, hok⟩, if_neg c_66, hval, if_pos (bI_n0.mp c_101)]; rfl
        · intro v _ hv
          unfold clT at hv
          rw [if_pos ⟨rfl, hok⟩, if_neg c_66, hval, if_pos (bI_n0.mp c_101)] at hv
          cases hv
      · rw [up2_at] at c_101
        refine r_iconst (pc := 104) (1) dX12_isSo_104 rfl ?_
        refine r_goto (pc := 105) (tgt := 109) dX12_isSo_105 (by decide) ?_
        refine r_zret (pc := 109) rfl (by decide) ?_ (Nat.le_of_ble_eq_true rfl) (Nat.le_of_ble_eq_true rfl) dX12_isSo_109
        refine ⟨_, _, rfl, hS.tr ((S1.rk _ _ _).tr (S1.sum _)), ?_, ?_⟩
        · unfold clT
          rw [if_pos ⟨rfl, hok⟩, if_neg c_66, hval, bI_0.mp c_101]; rfl
        · intro v _ hv
          unfold clT at hv
          rw [if_pos ⟨rfl, hok⟩, if_neg c_66, hval, bI_0.mp c_101] at hv
          rw [up2_at, up2_at]
          exact Option.some.inj hv
  refine r_aload_n (pc := 0) 0 dX12_isSo_0 rfl ?_
  refine q_getR (pc := 1) fl_X12_13 hm (md_f3 hm) dX12_isSo_1 ?_
  refine r_iload_n (pc := 4) 1 dX12_isSo_4 rfl ?_
  refine r_iconst (pc := 5) (5) dX12_isSo_5 rfl ?_
  refine r_iadd (pc := 6) dX12_isSo_6 ?_
  refine q_iald (pc := 7) (j := L + 2 + 8 * q + 5) (md_r3 hm) (by decide) (by simp only [fa_lit, nI_add, nI_mul]) (by omega) (by decide) dX12_isSo_7 ?_
  refine r_aload_n (pc := 8) 0 dX12_isSo_8 rfl ?_
  refine q_getR (pc := 9) fl_X12_13 hm (md_f3 hm) dX12_isSo_9 ?_
  refine r_iload_n (pc := 12) 1 dX12_isSo_12 rfl ?_
  refine r_bipush (pc := 13) (6) dX12_isSo_13 rfl ?_
  refine r_iadd (pc := 15) dX12_isSo_15 ?_
  refine q_iald (pc := 16) (j := L + 2 + 8 * q + 6) (md_r3 hm) (by decide) (by simp only [fa_lit, nI_add, nI_mul]) (by omega) (by decide) dX12_isSo_16 ?_
  refine r_icmp_ge (pc := 17) (tgt := 59) dX12_isSo_17 (by decide) (fun c_17 => ?_) (fun c_17 => ?_)
  · rw [e5, e6] at c_17
    have h65 : a6 ≤ a5 := Nat.not_lt.mp (fun z => nI_ge z (by omega) c_17)
    refine rest μ l S1.rf ?_
    cases hs : c.2.1 with
    | none => rfl
    | some s => rw [hs] at hif; exact absurd hif.1 (by omega)
  · rw [e5, e6] at c_17
    have h56 : a5 < a6 := Nat.not_le.mp (fun z => c_17 (nI_le z (by omega)))
    cases hs : c.2.1 with
    | none => rw [hs] at hif; exact absurd hif (by omega)
    | some s =>
      rw [hs] at hif
      obtain ⟨N, bk, n', f', hrun, hval⟩ := hif.2 (l 18) (l 20)
      have hra := ct_reckonAll (μ := μ) (l := l) hm (od := false) (ho := ho) (nc := nc) (ns := ns) (L := L) (ops := lOps (μ 2) L) (args := lArgs (μ 2) L) (lf := lfL (l 18)) (fun z => by cases z) (fun _ => ⟨hlaw, hL4, rfl, rfl, rfl⟩) hnc h6 hns h3 g5 g6 hrun
      have no : ifOk c.2.1 (cutE (l 18)) = false → ∀ ν k, S1 μ l ν k → Wp E mX12_isSo (Rm 3 0 0) (Qm E (fun r h' => ∃ μ' l', h' = mH h m μ' l' ∧ S1 μ l μ' l' ∧ r = some (.int (bI (clT c c.1 (cutE (l 18))).isSome)) ∧ ∀ v, c.1 ≠ 3 → clT c c.1 (cutE (l 18)) = some v → l' 0 40 = v) 0 0) 57 [(0, .ref m), (1, .int (nI (L + 2 + 8 * q)))] [] (mH h m ν k) 0 0 := by
        intro hno ν k hS
        have e : clT c c.1 (cutE (l 18)) = none := by unfold clT; rw [if_neg (fun z => by rw [hno] at z; exact absurd z.2 (by decide))]
        refine r_iconst (pc := 57) (0) dX12_isSo_57 rfl ?_
        refine r_zret (pc := 58) rfl (by decide) ?_ (Nat.le_of_ble_eq_true rfl) (Nat.le_of_ble_eq_true rfl) dX12_isSo_58
        refine ⟨ν, k, rfl, hS, by rw [e]; rfl, fun v _ hv => by rw [e] at hv; cases hv⟩
      refine r_aload_n (pc := 20) 0 dX12_isSo_20 rfl ?_
      refine r_aload_n (pc := 21) 0 dX12_isSo_21 rfl ?_
      refine q_getR (pc := 22) fl_X12_13 hm (md_f3 hm) dX12_isSo_22 ?_
      refine r_iload_n (pc := 25) 1 dX12_isSo_25 rfl ?_
      refine r_iconst (pc := 26) (5) dX12_isSo_26 rfl ?_
      refine r_iadd (pc := 27) dX12_isSo_27 ?_
      refine q_iald (pc := 28) (j := L + 2 + 8 * q + 5) (md_r3 hm) (by decide) (by simp only [fa_lit, nI_add, nI_mul]) (by omega) (by decide) dX12_isSo_28 ?_
      refine r_aload_n (pc := 29) 0 dX12_isSo_29 rfl ?_
      refine q_getR (pc := 30) fl_X12_13 hm (md_f3 hm) dX12_isSo_30 ?_
      refine r_iload_n (pc := 33) 1 dX12_isSo_33 rfl ?_
      refine r_bipush (pc := 34) (6) dX12_isSo_34 rfl ?_
      refine r_iadd (pc := 36) dX12_isSo_36 ?_
      refine q_iald (pc := 37) (j := L + 2 + 8 * q + 6) (md_r3 hm) (by decide) (by simp only [fa_lit, nI_add, nI_mul]) (by omega) (by decide) dX12_isSo_37 ?_
      rw [e5, e6]
      refine r_dV0 (pc := 38) (As := [_, _]) mv_X12_reckonAll ml_X12_430 (hra) (q_is hm) rfl rfl (Nat.le_of_ble_eq_true rfl) (Nat.le_of_ble_eq_true rfl) (Nat.le_of_ble_eq_true rfl) (Nat.le_of_ble_eq_true rfl) (Nat.le_of_ble_eq_true rfl) dX12_isSo_38 ?_
      refine r_aload_n (pc := 41) 0 dX12_isSo_41 rfl ?_
      refine q_getI (pc := 42) fl_X12_413 hm dX12_isSo_42 ?_
      refine r_if_ne (pc := 45) (tgt := 57) dX12_isSo_45 (by decide) (fun c_45 => ?_) (fun c_45 => ?_)
      · rw [up2_at] at c_45
        refine no ?_ _ _ (S1.rk _ _ _)
        unfold ifOk
        rw [hs]
        simp only [hval, bI_n0.mp c_45, if_true]
      · rw [up2_at] at c_45
        refine r_aload_n (pc := 48) 0 dX12_isSo_48 rfl ?_
        refine q_getJ (pc := 49) fl_X12_427 hm dX12_isSo_49 ?_
        refine r_lconst (pc := 52) (0) dX12_isSo_52 rfl ?_
        refine r_lcmp_ne (pc := 53) (tgt := 59) dX12_isSo_53 dX12_isSo_54 (by decide) (fun c_53 => ?_) (fun c_53 => ?_)
        · rw [up2_at] at c_53
          refine rest _ _ (S1.rk _ _ _) ?_
          unfold ifOk
          rw [hs]
          simp only [hval, bI_0.mp c_45]
          exact decide_eq_true c_53
        · rw [up2_at] at c_53
          refine no ?_ _ _ (S1.rk _ _ _)
          unfold ifOk
          rw [hs]
          simp only [hval, bI_0.mp c_45]
          exact decide_eq_false (fun z => z c_53)
/-- the same, with the law and what its words are -/
def S2 (μ : Mu) (l : La) (μ' : Mu) (l' : La) : Prop := (∀ o, o ≠ 0 → μ' o = μ o) ∧ (∀ j, j ≠ 34 → j ≠ 38 → μ' 0 j = μ 0 j) ∧ (∀ o, o ≠ 0 → o ≠ 18 → o ≠ 20 → l' o = l o) ∧ (∀ j, j ≠ 39 → j ≠ 40 → l' 0 j = l 0 j)
theorem S2.rf : S2 μ l μ l := ⟨fun _ _ => rfl, fun _ _ _ => rfl, fun _ _ _ _ => rfl, fun _ _ _ => rfl⟩
theorem S2.tr {μ1 μ2 : Mu} {l1 l2 : La} (h1 : S2 μ l μ1 l1) (h2 : S2 μ1 l1 μ2 l2) : S2 μ l μ2 l2 := ⟨fun o ho => (h2.1 o ho).trans (h1.1 o ho), fun j hj hk => (h2.2.1 j hj hk).trans (h1.2.1 j hj hk), fun o a b c => (h2.2.2.1 o a b c).trans (h1.2.2.1 o a b c), fun j a b => (h2.2.2.2 j a b).trans (h1.2.2.2 j a b)⟩
theorem S1.two {μ1 : Mu} {l1 : La} (h1 : S1 μ l μ1 l1) : S2 μ l μ1 l1 := ⟨h1.1, fun j _ hk => h1.2.1 j hk, fun o a _ c => h1.2.2.1 o a c, h1.2.2.2⟩
theorem S2.set (j : Nat) (v : Int64) : S2 μ l μ (up2 l 18 j v) := ⟨fun _ _ => rfl, fun _ _ _ => rfl, fun o a b c => by funext i; exact up2_ne (by omega), fun i a b => up2_ne (by omega)⟩
theorem S2.law (v : Int32) : S2 μ l (up2 μ 0 34 v) l := ⟨fun o ho => by funext j; exact up2_ne (by omega), fun j a b => up2_ne (by omega), fun _ _ _ _ => rfl, fun _ _ _ => rfl⟩
def LawOK (r : Nat → Int32) (i : Nat) (cls : List Cl) : Prop := i < 6 ∧ cls.length ≤ 12 ∧ r (50 + 900 * i + 1) = nI cls.length ∧ ∀ q c, cls[q]? = some c → ClOK r (50 + 900 * i) q c
/-- the law in force -/
def FoOK (r : Nat → Int32) (fo : Option (List Cl)) : Prop := match fo with
  | none => r 4 = -1
  | some cls => ∃ i, r 4 = nI i ∧ LawOK r i cls
def foldN (cls : List Cl) (head : Int32) (e : Nat → Int64) (w : Int64) : Nat → Int64
  | 0 => w
  | i + 1 => match cls[i]? with
    | none => foldN cls head e w i
    | some c => (clT c head e).getD (foldN cls head e w i)
def toldF (fo : Option (List Cl)) (head : Int32) (e : Nat → Int64) (w : Int64) : Int64 := match fo with
  | none => w
  | some cls => foldN cls head e w cls.length
/-- what the words are of a cat -/
def setE (r : Nat → Int32) (k : Nat) (life spent ship on : Int32) : Nat → Int64 := fun j => match j with
  | 0 => (nI k).toInt64 | 1 => life.toInt64 | 2 => spent.toInt64 | 3 => (r (20 + k)).toInt64 | 4 => (r (26 + k)).toInt64 | 5 => ship.toInt64 | 6 => (r 5 + on).toInt64 | 7 => (r 7).toInt64 | _ => 0
theorem ct_tells (hm : Md E h m) (ho : μ 0 20 = 0) {fo : Option (List Cl)} (hf : FoOK (μ 2) fo) {nc ns : Nat} (hnc : μ 2 0 = nI nc) (h6 : nc ≤ 6) (hns : μ 2 1 = nI ns) (h3 : ns ≤ 3) (head : Int32) {k : Nat} (hk : k < 6) (life spent ship on : Int32) (w : Int64) :
    Ct E 4 0 0 mX12_tells [.ref m, .int head, .int (nI k), .int life, .int spent, .int ship, .int on, .long w] (mH h m μ l) (fun r h' => ∃ μ' l', h' = mH h m μ' l' ∧ S2 μ l μ' l' ∧ r = some (.long (toldF fo head (setE (μ 2) k life spent ship on) w))) := by
  refine Ct.of (by decide +kernel) (Nat.le_of_ble_eq_true rfl) ?_
  refine r_aload_n (pc := 0) 0 dX12_tells_0 rfl ?_
  refine q_getR (pc := 1) fl_X12_13 hm (md_f3 hm) dX12_tells_1 ?_
  refine r_iconst (pc := 4) (4) dX12_tells_4 rfl ?_
  refine q_iald (pc := 5) (j := 4) (md_r3 hm) (by decide) rfl (by decide) (by decide) dX12_tells_5 ?_
  refine r_iconst (pc := 6) (-1) dX12_tells_6 rfl ?_
  refine r_icmp_ne (pc := 7) (tgt := 13) dX12_tells_7 (by decide) (fun c_7 => ?_) (fun c_7 => ?_)
  · cases fo with
    | none => exact absurd hf c_7
    | some cls =>
      obtain ⟨i, hi, hi6, hl12, hlen, hcl⟩ := hf
      have eL : (50 : Int32) + 900 * nI i = nI (50 + 900 * i) := by simp only [fa_lit, nI_add, nI_mul]
      refine r_aload_n (pc := 13) 0 dX12_tells_13 rfl ?_
      refine r_bipush (pc := 14) (50) dX12_tells_14 rfl ?_
      refine r_sipush (pc := 16) (900) dX12_tells_16 rfl ?_
      refine r_aload_n (pc := 19) 0 dX12_tells_19 rfl ?_
      refine q_getR (pc := 20) fl_X12_13 hm (md_f3 hm) dX12_tells_20 ?_
      refine r_iconst (pc := 23) (4) dX12_tells_23 rfl ?_
      refine q_iald (pc := 24) (j := 4) (md_r3 hm) (by decide) rfl (by decide) (by decide) dX12_tells_24 ?_
      refine r_imul (pc := 25) dX12_tells_25 ?_
      refine r_iadd (pc := 26) dX12_tells_26 ?_
      rw [hi, eL]
      have e2 : up2 μ 0 34 (nI (50 + 900 * i)) 2 = μ 2 := by funext j; exact up2_ne (by omega)
      refine q_putI (pc := 27) fp_X12_416 hm dX12_tells_27 ?_
      refine r_aload_n (pc := 30) 0 dX12_tells_30 rfl ?_
      refine q_getR (pc := 31) fl_X12_99 hm (md_f35 hm) dX12_tells_31 ?_
      refine r_iconst (pc := 34) (1) dX12_tells_34 rfl ?_
      refine r_iload_n (pc := 35) 2 dX12_tells_35 rfl ?_
      refine r_i2l (pc := 36) dX12_tells_36 ?_
      refine q_last (pc := 37) (j := 1) (md_r35 hm) (by decide) rfl (by decide) (by decide) dX12_tells_37 ?_
      refine r_aload_n (pc := 38) 0 dX12_tells_38 rfl ?_
      refine q_getR (pc := 39) fl_X12_99 hm (md_f35 hm) dX12_tells_39 ?_
      refine r_iconst (pc := 42) (2) dX12_tells_42 rfl ?_
      refine r_iload_n (pc := 43) 3 dX12_tells_43 rfl ?_
      refine r_i2l (pc := 44) dX12_tells_44 ?_
      refine q_last (pc := 45) (j := 2) (md_r35 hm) (by decide) rfl (by decide) (by decide) dX12_tells_45 ?_
      refine r_aload_n (pc := 46) 0 dX12_tells_46 rfl ?_
      refine q_getR (pc := 47) fl_X12_99 hm (md_f35 hm) dX12_tells_47 ?_
      refine r_iconst (pc := 50) (3) dX12_tells_50 rfl ?_
      refine r_iload (pc := 51) 4 dX12_tells_51 rfl ?_
      refine r_i2l (pc := 53) dX12_tells_53 ?_
      refine q_last (pc := 54) (j := 3) (md_r35 hm) (by decide) rfl (by decide) (by decide) dX12_tells_54 ?_
      refine r_aload_n (pc := 55) 0 dX12_tells_55 rfl ?_
      refine q_getR (pc := 56) fl_X12_99 hm (md_f35 hm) dX12_tells_56 ?_
      refine r_iconst (pc := 59) (4) dX12_tells_59 rfl ?_
      refine r_aload_n (pc := 60) 0 dX12_tells_60 rfl ?_
      refine q_getR (pc := 61) fl_X12_13 hm (md_f3 hm) dX12_tells_61 ?_
      refine r_bipush (pc := 64) (20) dX12_tells_64 rfl ?_
      refine r_iload_n (pc := 66) 2 dX12_tells_66 rfl ?_
      refine r_iadd (pc := 67) dX12_tells_67 ?_
      refine q_iald (pc := 68) (j := 20 + k) (md_r3 hm) (by decide) (by simp only [fa_lit, nI_add, nI_mul]) (by omega) (by decide) dX12_tells_68 ?_
      refine r_i2l (pc := 69) dX12_tells_69 ?_
      refine q_last (pc := 70) (j := 4) (md_r35 hm) (by decide) rfl (by decide) (by decide) dX12_tells_70 ?_
      refine r_aload_n (pc := 71) 0 dX12_tells_71 rfl ?_
      refine q_getR (pc := 72) fl_X12_99 hm (md_f35 hm) dX12_tells_72 ?_
      refine r_iconst (pc := 75) (5) dX12_tells_75 rfl ?_
      refine r_aload_n (pc := 76) 0 dX12_tells_76 rfl ?_
      refine q_getR (pc := 77) fl_X12_13 hm (md_f3 hm) dX12_tells_77 ?_
      refine r_bipush (pc := 80) (26) dX12_tells_80 rfl ?_
      refine r_iload_n (pc := 82) 2 dX12_tells_82 rfl ?_
      refine r_iadd (pc := 83) dX12_tells_83 ?_
      refine q_iald (pc := 84) (j := 26 + k) (md_r3 hm) (by decide) (by simp only [fa_lit, nI_add, nI_mul]) (by omega) (by decide) dX12_tells_84 ?_
      refine r_i2l (pc := 85) dX12_tells_85 ?_
      refine q_last (pc := 86) (j := 5) (md_r35 hm) (by decide) rfl (by decide) (by decide) dX12_tells_86 ?_
      refine r_aload_n (pc := 87) 0 dX12_tells_87 rfl ?_
      refine q_getR (pc := 88) fl_X12_99 hm (md_f35 hm) dX12_tells_88 ?_
      refine r_bipush (pc := 91) (6) dX12_tells_91 rfl ?_
      refine r_iload (pc := 93) 5 dX12_tells_93 rfl ?_
      refine r_i2l (pc := 95) dX12_tells_95 ?_
      refine q_last (pc := 96) (j := 6) (md_r35 hm) (by decide) rfl (by decide) (by decide) dX12_tells_96 ?_
      refine r_aload_n (pc := 97) 0 dX12_tells_97 rfl ?_
      refine q_getR (pc := 98) fl_X12_99 hm (md_f35 hm) dX12_tells_98 ?_
      refine r_bipush (pc := 101) (7) dX12_tells_101 rfl ?_
      refine r_aload_n (pc := 103) 0 dX12_tells_103 rfl ?_
      refine q_getR (pc := 104) fl_X12_13 hm (md_f3 hm) dX12_tells_104 ?_
      refine r_iconst (pc := 107) (5) dX12_tells_107 rfl ?_
      refine q_iald (pc := 108) (j := 5) (md_r3 hm) (by decide) rfl (by decide) (by decide) dX12_tells_108 ?_
      refine r_iload (pc := 109) 6 dX12_tells_109 rfl ?_
      refine r_iadd (pc := 111) dX12_tells_111 ?_
      refine r_i2l (pc := 112) dX12_tells_112 ?_
      refine q_last (pc := 113) (j := 7) (md_r35 hm) (by decide) rfl (by decide) (by decide) dX12_tells_113 ?_
      refine r_aload_n (pc := 114) 0 dX12_tells_114 rfl ?_
      refine q_getR (pc := 115) fl_X12_99 hm (md_f35 hm) dX12_tells_115 ?_
      refine r_bipush (pc := 118) (8) dX12_tells_118 rfl ?_
      refine r_aload_n (pc := 120) 0 dX12_tells_120 rfl ?_
      refine q_getR (pc := 121) fl_X12_13 hm (md_f3 hm) dX12_tells_121 ?_
      refine r_bipush (pc := 124) (7) dX12_tells_124 rfl ?_
      refine q_iald (pc := 126) (j := 7) (md_r3 hm) (by decide) rfl (by decide) (by decide) dX12_tells_126 ?_
      refine r_i2l (pc := 127) dX12_tells_127 ?_
      refine q_last (pc := 128) (j := 8) (md_r35 hm) (by decide) rfl (by decide) (by decide) dX12_tells_128 ?_
      refine r_lload (pc := 129) 7 dX12_tells_129 rfl ?_
      refine r_lstore (pc := 131) (lv' := [(0, _), (1, _), (2, _), (3, _), (4, _), (5, _), (6, _), (7, _), (9, _)]) dX12_tells_131 (Nat.le_of_ble_eq_true rfl) rfl ?_
      refine r_iconst (pc := 133) (0) dX12_tells_133 rfl ?_
      refine r_istore (pc := 134) (lv' := [(0, _), (1, _), (2, _), (3, _), (4, _), (5, _), (6, _), (7, _), (9, _), (11, _)]) dX12_tells_134 (Nat.le_of_ble_eq_true rfl) rfl ?_
      rw [e2]
      generalize hls : up2 (up2 (up2 (up2 (up2 (up2 (up2 (up2 l 18 1 (nI k).toInt64) 18 2 life.toInt64) 18 3 spent.toInt64) 18 4 (μ 2 (20 + k)).toInt64) 18 5 (μ 2 (26 + k)).toInt64) 18 6 ship.toInt64) 18 7 (μ 2 5 + on).toInt64) 18 8 (μ 2 7).toInt64 = ls
      have hset : cutE (ls 18) = setE (μ 2) k life spent ship on := by
        rw [← hls]
        funext j
        unfold cutE setE
        match j with
        | 0 => simp [up2]
        | 1 => simp [up2]
        | 2 => simp [up2]
        | 3 => simp [up2]
        | 4 => simp [up2]
        | 5 => simp [up2]
        | 6 => simp [up2]
        | 7 => simp [up2]
        | j + 8 => rw [if_neg (by omega)]; rfl
      have hS0 : S2 μ l (up2 μ 0 34 (nI (50 + 900 * i))) ls := by
        rw [← hls]
        exact (S2.law _).tr ((S2.set _ _).tr ((S2.set _ _).tr ((S2.set _ _).tr ((S2.set _ _).tr ((S2.set _ _).tr ((S2.set _ _).tr ((S2.set _ _).tr (S2.set _ _))))))))
      have loop : ∀ q, q ≤ cls.length → ∀ (ν : Mu) (κ : La), S1 (up2 μ 0 34 (nI (50 + 900 * i))) ls ν κ → Wp E mX12_tells (Rm 4 0 0) (Qm E (fun r h' => ∃ μ' l', h' = mH h m μ' l' ∧ S2 μ l μ' l' ∧ r = some (.long (toldF (some cls) head (setE (μ 2) k life spent ship on) w))) 0 0) 136 [(0, .ref m), (1, .int head), (2, .int (nI k)), (3, .int life), (4, .int spent), (5, .int ship), (6, .int on), (7, .long w), (9, .long (foldN cls head (setE (μ 2) k life spent ship on) w q)), (11, .int (nI q))] [] (mH h m ν κ) 0 0 := by
        refine upTo (fun q hq ih => ?_) ?_
        · intro ν k' hS
          have n2 : ν 2 = μ 2 := (hS.1 2 (by decide)).trans e2
          have n34 : ν 0 34 = nI (50 + 900 * i) := (hS.2.1 34 (by decide)).trans up2_at
          have n18 : k' 18 = ls 18 := hS.2.2.1 18 (by decide) (by decide)
          have hc : cls[q]? = some cls[q] := List.getElem?_eq_getElem hq
          have hco := hcl q _ hc
          have fq : foldN cls head (setE (μ 2) k life spent ship on) w (q + 1) = (clT cls[q] head (setE (μ 2) k life spent ship on)).getD (foldN cls head (setE (μ 2) k life spent ship on) w q) := by rw [foldN, hc]
          have eK : nI (50 + 900 * i) + 2 + 8 * nI q = nI (50 + 900 * i + 2 + 8 * q) := by simp only [fa_lit, nI_add, nI_mul]
          have hhd : μ 2 (50 + 900 * i + 2 + 8 * q) = cls[q].1 := by obtain ⟨_, _, _, _, _, _, _, _, e, _⟩ := hco; exact e
          refine r_iload (pc := 136) 9 dX12_tells_136 rfl ?_
          refine r_aload_n (pc := 138) 0 dX12_tells_138 rfl ?_
          refine q_getR (pc := 139) fl_X12_13 hm (md_f3 hm) dX12_tells_139 ?_
          refine r_aload_n (pc := 142) 0 dX12_tells_142 rfl ?_
          refine q_getI (pc := 143) fl_X12_416 hm dX12_tells_143 ?_
          refine r_iconst (pc := 146) (1) dX12_tells_146 rfl ?_
          refine r_iadd (pc := 147) dX12_tells_147 ?_
          refine q_iald (pc := 148) (j := 50 + 900 * i + 1) (md_r3 hm) (by decide) (by rw [n34]; simp only [fa_lit, nI_add, nI_mul]) (by omega) (by decide) dX12_tells_148 ?_
          refine r_icmp_ge (pc := 149) (tgt := 207) dX12_tells_149 (by decide) (fun c_149 => ?_) (fun c_149 => ?_)
          · rw [n2, hlen] at c_149
            exact absurd c_149 (nI_ge hq (by omega))
          · refine r_aload_n (pc := 152) 0 dX12_tells_152 rfl ?_
            refine q_getI (pc := 153) fl_X12_416 hm dX12_tells_153 ?_
            refine r_iconst (pc := 156) (2) dX12_tells_156 rfl ?_
            refine r_iadd (pc := 157) dX12_tells_157 ?_
            refine r_bipush (pc := 158) (8) dX12_tells_158 rfl ?_
            refine r_iload (pc := 160) 9 dX12_tells_160 rfl ?_
            refine r_imul (pc := 162) dX12_tells_162 ?_
            refine r_iadd (pc := 163) dX12_tells_163 ?_
            rw [n34, eK]
            refine r_istore (pc := 164) (lv' := [(0, _), (1, _), (2, _), (3, _), (4, _), (5, _), (6, _), (7, _), (9, _), (11, _), (12, _)]) dX12_tells_164 (Nat.le_of_ble_eq_true rfl) rfl ?_
            refine r_aload_n (pc := 166) 0 dX12_tells_166 rfl ?_
            refine q_getR (pc := 167) fl_X12_13 hm (md_f3 hm) dX12_tells_167 ?_
            refine r_iload (pc := 170) 10 dX12_tells_170 rfl ?_
            refine q_iald (pc := 172) (j := 50 + 900 * i + 2 + 8 * q) (md_r3 hm) (by decide) rfl (by omega) (by decide) dX12_tells_172 ?_
            refine r_iload_n (pc := 173) 1 dX12_tells_173 rfl ?_
            refine r_icmp_ne (pc := 174) (tgt := 201) dX12_tells_174 (by decide) (fun c_174 => ?_) (fun c_174 => ?_)
            · rw [n2, hhd] at c_174
              have en : clT cls[q] head (setE (μ 2) k life spent ship on) = none := by unfold clT; rw [if_neg (fun z => c_174 z.1)]
              rw [fq, en] at ih
              refine r_iinc (pc := 201) (v := _ + (1)) (lv' := [(0, _), (1, _), (2, _), (3, _), (4, _), (5, _), (6, _), (7, _), (9, _), (11, _), (12, _)]) 9 dX12_tells_201 rfl rfl (Nat.le_of_ble_eq_true rfl) rfl ?_
              refine r_goto (pc := 204) (tgt := 136) dX12_tells_204 (by decide) ?_
              rw [nI_1]
              refine r_sub [0, 1, 2, 3, 4, 5, 6, 7, 8, 9] rfl ?_
              exact ih ν k' hS
            · rw [n2, hhd] at c_174
              have hso := ct_isSo (μ := ν) (l := k') hm ((hS.2.1 20 (by decide)).trans ((up2_ne (by omega)).trans ho)) (L := 50 + 900 * i) (q := q) (nc := nc) (ns := ns) n34 (by omega) (by omega) (by rw [n2]; exact hnc) h6 (by rw [n2]; exact hns) h3 (c := cls[q]) (by rw [n2]; exact hco)
              rw [n18, hset, c_174] at hso
              refine r_aload_n (pc := 177) 0 dX12_tells_177 rfl ?_
              refine r_iload (pc := 178) 10 dX12_tells_178 rfl ?_
              refine r_callV (pc := 180) (As := [_]) mv_X12_isSo ml_X12_436 (hso) (q_is hm) rfl rfl (Nat.le_of_ble_eq_true rfl) (Nat.le_of_ble_eq_true rfl) (Nat.le_of_ble_eq_true rfl) (Nat.le_of_ble_eq_true rfl) (Nat.le_of_ble_eq_true rfl) dX12_tells_180 (fun r h1 hp => ?_)
              obtain ⟨ν2, k2, rfl, hS2, rfl, hsum⟩ := hp
              have hS3 := hS.tr hS2
              show Wp E mX12_tells _ _ _ _ [.int _] _ 0 0
              refine r_if_eq (pc := 183) (tgt := 201) dX12_tells_183 (by decide) (fun c_183 => ?_) (fun c_183 => ?_)
              · have en : clT cls[q] head (setE (μ 2) k life spent ship on) = none := by
                  have := bI_0.mp c_183
                  cases hz : clT cls[q] head (setE (μ 2) k life spent ship on) with
                  | none => rfl
                  | some v => rw [hz] at this; cases this
                rw [fq, en] at ih
                refine r_iinc (pc := 201) (v := _ + (1)) (lv' := [(0, _), (1, _), (2, _), (3, _), (4, _), (5, _), (6, _), (7, _), (9, _), (11, _), (12, _)]) 9 dX12_tells_201 rfl rfl (Nat.le_of_ble_eq_true rfl) rfl ?_
                refine r_goto (pc := 204) (tgt := 136) dX12_tells_204 (by decide) ?_
                rw [nI_1]
                refine r_sub [0, 1, 2, 3, 4, 5, 6, 7, 8, 9] rfl ?_
                exact ih _ _ hS3
              · obtain ⟨v, hv⟩ : ∃ v, clT cls[q] head (setE (μ 2) k life spent ship on) = some v := by
                  have := bI_n0.mp c_183
                  cases hz : clT cls[q] head (setE (μ 2) k life spent ship on) with
                  | none => rw [hz] at this; cases this
                  | some v => exact ⟨v, rfl⟩
                rw [fq, hv] at ih
                refine r_iload_n (pc := 186) 1 dX12_tells_186 rfl ?_
                refine r_iconst (pc := 187) (3) dX12_tells_187 rfl ?_
                refine r_icmp_ne (pc := 188) (tgt := 195) dX12_tells_188 (by decide) (fun c_188 => ?_) (fun c_188 => ?_)
                · refine r_aload_n (pc := 195) 0 dX12_tells_195 rfl ?_
                  refine q_getJ (pc := 196) fl_X12_433 hm dX12_tells_196 ?_
                  refine r_lstore (pc := 199) (lv' := [(0, _), (1, _), (2, _), (3, _), (4, _), (5, _), (6, _), (7, _), (9, _), (11, _), (12, _)]) dX12_tells_199 (Nat.le_of_ble_eq_true rfl) rfl ?_
                  refine r_iinc (pc := 201) (v := _ + (1)) (lv' := [(0, _), (1, _), (2, _), (3, _), (4, _), (5, _), (6, _), (7, _), (9, _), (11, _), (12, _)]) 9 dX12_tells_201 rfl rfl (Nat.le_of_ble_eq_true rfl) rfl ?_
                  refine r_goto (pc := 204) (tgt := 136) dX12_tells_204 (by decide) ?_
                  rw [hsum v c_188 hv, nI_1]
                  refine r_sub [0, 1, 2, 3, 4, 5, 6, 7, 8, 9] rfl ?_
                  exact ih _ _ hS3
                · have hv1 : v = 1 := by
                    unfold clT at hv
                    split at hv <;> first | (cases hv; rfl) | (rw [if_pos c_188] at hv; cases hv; rfl) | cases hv
                  refine r_lconst (pc := 191) (1) dX12_tells_191 rfl ?_
                  refine r_goto (pc := 192) (tgt := 199) dX12_tells_192 (by decide) ?_
                  refine r_lstore (pc := 199) (lv' := [(0, _), (1, _), (2, _), (3, _), (4, _), (5, _), (6, _), (7, _), (9, _), (11, _), (12, _)]) dX12_tells_199 (Nat.le_of_ble_eq_true rfl) rfl ?_
                  refine r_iinc (pc := 201) (v := _ + (1)) (lv' := [(0, _), (1, _), (2, _), (3, _), (4, _), (5, _), (6, _), (7, _), (9, _), (11, _), (12, _)]) 9 dX12_tells_201 rfl rfl (Nat.le_of_ble_eq_true rfl) rfl ?_
                  refine r_goto (pc := 204) (tgt := 136) dX12_tells_204 (by decide) ?_
                  rw [hv1] at ih
                  rw [nI_1]
                  refine r_sub [0, 1, 2, 3, 4, 5, 6, 7, 8, 9] rfl ?_
                  exact ih _ _ hS3
        · intro ν k' hS
          have n2 : ν 2 = μ 2 := (hS.1 2 (by decide)).trans e2
          have n34 : ν 0 34 = nI (50 + 900 * i) := (hS.2.1 34 (by decide)).trans up2_at
          refine r_iload (pc := 136) 9 dX12_tells_136 rfl ?_
          refine r_aload_n (pc := 138) 0 dX12_tells_138 rfl ?_
          refine q_getR (pc := 139) fl_X12_13 hm (md_f3 hm) dX12_tells_139 ?_
          refine r_aload_n (pc := 142) 0 dX12_tells_142 rfl ?_
          refine q_getI (pc := 143) fl_X12_416 hm dX12_tells_143 ?_
          refine r_iconst (pc := 146) (1) dX12_tells_146 rfl ?_
          refine r_iadd (pc := 147) dX12_tells_147 ?_
          refine q_iald (pc := 148) (j := 50 + 900 * i + 1) (md_r3 hm) (by decide) (by rw [n34]; simp only [fa_lit, nI_add, nI_mul]) (by omega) (by decide) dX12_tells_148 ?_
          refine r_icmp_ge (pc := 149) (tgt := 207) dX12_tells_149 (by decide) (fun c_149 => ?_) (fun c_149 => ?_)
          · refine r_lload (pc := 207) 8 dX12_tells_207 rfl ?_
            refine r_lret (pc := 209) rfl ?_ (Nat.le_of_ble_eq_true rfl) (Nat.le_of_ble_eq_true rfl) dX12_tells_209
            exact ⟨ν, k', rfl, hS0.tr hS.two, rfl⟩
          · exact absurd (by rw [n2, hlen]; exact Int32.le_refl _) c_149
      exact loop 0 (by omega) _ _ S1.rf
  · refine r_lload (pc := 10) 7 dX12_tells_10 rfl ?_
    refine r_lret (pc := 12) rfl ?_ (Nat.le_of_ble_eq_true rfl) (Nat.le_of_ble_eq_true rfl) dX12_tells_12
    refine ⟨μ, l, rfl, S2.rf, ?_⟩
    cases fo with
    | none => rfl
    | some cls =>
      obtain ⟨i, hi, hi6, -⟩ := hf
      exact absurd (hi.symm.trans c_7) (fun z => nI_pos (n := i) (by omega) (by rw [z]; decide))
end LAW12
