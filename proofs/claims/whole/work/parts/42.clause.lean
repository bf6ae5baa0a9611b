/-! clauses: what is read of a law, of orders; the reference's memory beside the reader's -/
section CLAUSE
variable {E : En} {h : Hp} {m : Nat} {μ : Mu} {l : La} {n i : Nat} {bd : Bool} {c lv p op : Int32} {O A P T : Nat → Int32}
/-- which head a token is; none: -1 -/
def hdN (w : Nat → Int64) (t : Tk) : Nat → Int32
  | 0 => -1
  | k + 1 => if tW t (w k) = true then nI k else hdN w t k
theorem hdN_k (w : Nat → Int64) (t : Tk) : ∀ K, hdN w t K = -1 ∨ ((∃ k, k < K ∧ hdN w t K = nI k) ∧ ¬ t.2.2.1 = 0)
  | 0 => Or.inl rfl
  | K + 1 => by
    rw [hdN]
    split
    · next hw => exact Or.inr ⟨⟨K, Nat.lt_succ_self K, rfl⟩, tW_n0 hw⟩
    · rcases hdN_k w t K with e | ⟨⟨k, h1, e⟩, h3⟩
      · exact Or.inl e
      · exact Or.inr ⟨⟨k, by omega, e⟩, h3⟩
section PURE
variable (wl wo wh : Nat → Int64) (tks : Nat → Tk)
def IfM (od : Bool) (i lv : Nat) (r : Nat ⊕ (Nat × Nat × Option Sm)) : Prop :=
  if tW (tks i) 294 = true then ∃ x : Xr, ExM wl wo od tks true (i + 1) lv x ∧ r = (match x with | .inl j => .inl j | .inr y => .inr (y.1, y.2.1, some y.2.2)) else r = .inr (i, lv, none)
def LawCl (q i lv : Nat) (r : Nat ⊕ (Nat × Nat × Cl)) : Prop :=
  if hdN wh (tks i) 4 = -1 ∨ ¬ q < 12 then r = .inl i
  else ∃ x : Xr, (if hdN wh (tks i) 4 = 3 then x = .inr (i + 1, lv, sZ) else ExM wl wo false tks false (i + 1) lv x) ∧ (match x with
    | .inl j => r = .inl j
    | .inr y => ∃ z, IfM wl wo tks false y.1 y.2.1 z ∧ (match z with
      | .inl j => r = .inl j
      | .inr w => r = .inr (w.1, w.2.1, (hdN wh (tks i) 4, w.2.2, y.2.2))))
def LawRun : Nat → Nat → Nat → Nat → (Nat ⊕ List Cl) → Prop
  | 0, _, _, _, _ => False
  | N + 1, q, i, lv, R => ∃ x, LawCl wl wo wh tks q i lv x ∧ (match x with
    | .inl j => R = .inl j
    | .inr y => if tS (tks y.1) 59 = true then ∃ R', LawRun N (q + 1) (y.1 + 1) y.2.1 R' ∧ (match R' with | .inl j => R = .inl j | .inr cs => R = .inr (y.2.2 :: cs)) else if (tks y.1).2.2.1 = 0 then R = .inr [y.2.2] else R = .inl y.1)
/-- an order: what is done, how often, its if, its sums -/
abbrev Od : Type := Int32 × Nat × Option Sm × Sm × Sm
def OrdS (hd : Int32) (i lv : Nat) (r : Nat ⊕ (Nat × Nat × Sm × Sm)) : Prop :=
  if hd = 3 then r = .inr (i, lv, sZ, sZ) else ∃ x : Xr, ExM wl wo true tks false i lv x ∧ (match x with
    | .inl j => r = .inl j
    | .inr y => if tW (tks y.1) (if hd = 0 then 494 else 51) = true then ∃ z : Xr, ExM wl wo true tks false (y.1 + 1) y.2.1 z ∧ (match z with
        | .inl j => r = .inl j
        | .inr w => r = .inr (w.1, w.2.1, y.2.2, w.2.2)) else r = .inl y.1)
def TimM (i : Nat) (r : Nat ⊕ (Nat × Nat)) : Prop :=
  if tW (tks i) 21279923 = true then (if numB (tks (i + 1)) 1 20 = true then r = .inr (i + 2, (tks (i + 1)).2.2.2.toInt.toNat) else r = .inl (i + 1)) else r = .inr (i, 1)
def OrdCl (q i lv : Nat) (r : Nat ⊕ (Nat × Nat × Od)) : Prop :=
  if hdN wh (tks i) 4 = -1 ∨ ¬ q < 12 then r = .inl i
  else ∃ x, OrdS wl wo tks (hdN wh (tks i) 4) (i + 1) lv x ∧ (match x with
    | .inl j => r = .inl j
    | .inr y => ∃ u, TimM tks y.1 u ∧ (match u with
      | .inl j => r = .inl j
      | .inr v => ∃ z, IfM wl wo tks true v.1 y.2.1 z ∧ (match z with
        | .inl j => r = .inl j
        | .inr w => r = .inr (w.1, w.2.1, (hdN wh (tks i) 4, v.2, w.2.2, y.2.2)))))
def OrdRun : Nat → Nat → Nat → Nat → (Nat ⊕ List Od) → Prop
  | 0, _, _, _, _ => False
  | N + 1, q, i, lv, R => ∃ x, OrdCl wl wo wh tks q i lv x ∧ (match x with
    | .inl j => R = .inl j
    | .inr y => if tS (tks y.1) 59 = true then ∃ R', OrdRun N (q + 1) (y.1 + 1) y.2.1 R' ∧ (match R' with | .inl j => R = .inl j | .inr cs => R = .inr (y.2.2 :: cs)) else if (tks y.1).2.2.1 = 0 then R = .inr [y.2.2] else R = .inl y.1)
end PURE
/-- the clauses' row w and how many there are, beside -/
def clM (μ : Mu) (w : Nat) (C : Nat → Int32) (x : Int32) : Mu := fun o j => if o = w then C j else if o = 0 ∧ j = 21 then x else μ o j
def wOK (w : Nat) : Prop := w = 10 ∨ w = 32
section CLM
variable {w : Nat} {C : Nat → Int32} {x : Int32}
theorem clM_ne {o : Nat} (ho : o ≠ w) (h0 : o ≠ 0) : clM μ w C x o = μ o := by funext j; unfold clM; rw [if_neg ho, if_neg (fun z => h0 z.1)]
theorem clM_9 (hw : wOK w) : clM μ w C x 9 = μ 9 := clM_ne (by unfold wOK at hw; omega) (by decide)
theorem clM_0 (hw : wOK w) {j : Nat} (hj : j ≠ 21) : clM μ w C x 0 j = μ 0 j := by unfold clM; rw [if_neg (by unfold wOK at hw; omega), if_neg (fun z => hj z.2)]
theorem clM_w : clM μ w C x w = C := by funext j; unfold clM; rw [if_pos rfl]
theorem rL_cl (hw : wOK w) : rL (clM μ w C x) l n i = rL μ l n i := by unfold rL; rw [clM_9 hw]
theorem cl_21 (hw : wOK w) : rM (clM μ w C x) n i bd c lv p op O A P T 0 21 = x := by
  show clM μ w C x 0 21 = x
  unfold clM; rw [if_neg (by unfold wOK at hw; omega), if_pos ⟨rfl, rfl⟩]
theorem cl_w (hw : wOK w) : rM (clM μ w C x) n i bd c lv p op O A P T w = C := by
  funext j
  unfold rM clM; unfold wOK at hw
  rw [if_neg (by omega), if_neg (by omega), if_neg (by omega), if_neg (by omega), if_neg (by omega), if_pos rfl]
theorem cl_uw (hw : wOK w) {k : Nat} {v : Int32} : up2 (rM (clM μ w C x) n i bd c lv p op O A P T) w k v = rM (clM μ w (va_up C k v) x) n i bd c lv p op O A P T := by
  unfold wOK at hw
  rw [rM_other (by omega) (by omega) (by omega) (by omega) (by omega) (by omega)]
  congr 1
  funext o j; unfold up2 clM va_up
  by_cases h1 : o = w
  · subst h1
    by_cases h2 : j = k
    · subst h2; simp
    · simp [h2]
  · simp [h1]
theorem cl_un (hw : wOK w) {v : Int32} : up2 (rM (clM μ w C x) n i bd c lv p op O A P T) 0 21 v = rM (clM μ w C v) n i bd c lv p op O A P T := by
  rw [rM_field (by decide)]
  congr 1
  unfold wOK at hw
  funext o j; unfold up2 clM
  by_cases h1 : o = w
  · have h0 : ¬ o = 0 := by omega
    simp [h1]; intro h2; omega
  · by_cases h2 : o = 0 ∧ j = 21
    · simp [h1, h2]
      intro h3; omega
    · simp [h1, h2]
theorem cl_onw (hm : Md E h m) (hw : wOK w) (hn : μ 0 13 = nI n) (h4 : n ≤ 400) : Ct E 1 0 0 mX12_onward [.ref m] (mH h m (rM (clM μ w C x) n i false c lv p op O A P T) (rL μ l n i)) (po none (mH h m (rM (clM μ w C x) n (i + 1) false c lv p op O A P T) (rL μ l n (i + 1)))) := by
  have h1 := ct_onw (μ := clM μ w C x) (l := l) (i := i) (c := c) (lv := lv) (p := p) (op := op) (O := O) (A := A) (P := P) (T := T) hm (by rw [clM_0 hw (by decide)]; exact hn) h4
  rw [rL_cl hw, rL_cl hw] at h1
  exact h1
theorem cl_must (hm : Md E h m) (hw : wOK w) (q : Bool) (hn : μ 0 13 = nI n) (h4 : n ≤ 400) : Ct E 2 0 0 mX12_must [.ref m, .int (bI q)] (mH h m (rM (clM μ w C x) n i bd c lv p op O A P T) (rL μ l n i)) (po none (mH h m (rM (clM μ w C x) n (mustS i bd q).1 (mustS i bd q).2 c lv p op O A P T) (rL μ l n (mustS i bd q).1))) := by
  have h1 := ct_must (μ := clM μ w C x) (l := l) (i := i) (bd := bd) (q := q) (c := c) (lv := lv) (p := p) (op := op) (O := O) (A := A) (P := P) (T := T) hm (by rw [clM_0 hw (by decide)]; exact hn) h4
  rw [rL_cl hw, rL_cl hw] at h1
  exact h1
theorem cl_isW (hm : Md E h m) (hw : wOK w) (v : Int64) : Ct E 0 0 0 mX12_isWord [.ref m, .long v] (mH h m (rM (clM μ w C x) n i bd c lv p op O A P T) (rL μ l n i)) (po (some (.int (bI (tW (tk (μ 9) n i) v)))) (mH h m (rM (clM μ w C x) n i bd c lv p op O A P T) (rL μ l n i))) := by
  have h1 := ct_isW (μ := clM μ w C x) (l := l) (n := n) (i := i) (bd := bd) (c := c) (lv := lv) (p := p) (op := op) (O := O) (A := A) (P := P) (T := T) hm v
  rw [rL_cl hw, clM_9 hw] at h1
  exact h1
theorem cl_isS (hm : Md E h m) (hw : wOK w) (v : Int32) : Ct E 0 0 0 mX12_isSign [.ref m, .int v] (mH h m (rM (clM μ w C x) n i bd c lv p op O A P T) (rL μ l n i)) (po (some (.int (bI (tS (tk (μ 9) n i) v)))) (mH h m (rM (clM μ w C x) n i bd c lv p op O A P T) (rL μ l n i))) := by
  have h1 := ct_isS (μ := clM μ w C x) (l := l) (n := n) (i := i) (bd := bd) (c := c) (lv := lv) (p := p) (op := op) (O := O) (A := A) (P := P) (T := T) hm v
  rw [rL_cl hw, clM_9 hw] at h1
  exact h1
theorem cl_number (hm : Md E h m) (hw : wOK w) (a b : Int64) (hn : μ 0 13 = nI n) (h4 : n ≤ 400) : Ct E 3 0 0 mX12_number [.ref m, .long a, .long b] (mH h m (rM (clM μ w C x) n i bd c lv p op O A P T) (rL μ l n i)) (po (some (.int (tk (μ 9) n i).2.2.2.toInt32)) (mH h m (rM (clM μ w C x) n (mustS i bd (numB (tk (μ 9) n i) a b)).1 (mustS i bd (numB (tk (μ 9) n i) a b)).2 c lv p op O A P T) (rL μ l n (mustS i bd (numB (tk (μ 9) n i) a b)).1))) := by
  have h1 := ct_number (μ := clM μ w C x) (l := l) (i := i) (bd := bd) (c := c) (lv := lv) (p := p) (op := op) (O := O) (A := A) (P := P) (T := T) hm a b (by rw [clM_0 hw (by decide)]; exact hn) h4
  rw [rL_cl hw, clM_9 hw, rL_cl hw] at h1
  exact h1
/-- an expression read -/
def pE2 (h : Hp) (m : Nat) (μ : Mu) (l : La) (w : Nat) (C : Nat → Int32) (x : Int32) (n : Nat) (O0 A0 : Nat → Int32) (od : Bool) (c0 : Nat) (r : Xr) : Option Value → Hp → Prop := fun v h' => v = none ∧ match r with
  | .inl j => ∃ cc lv pp op O A P T, h' = mH h m (rM (clM μ w C x) n j true cc lv pp op O A P T) (rL μ l n j)
  | .inr y => ∃ cc pp op O A P T, h' = mH h m (rM (clM μ w C x) n y.1 false (nI cc) (nI y.2.1) pp op O A P T) (rL μ l n y.1) ∧ Seg O A od c0 cc y.2.2 ∧ cc ≤ y.1 ∧ y.1 ≤ (tk (μ 9) n y.1).1 ∧ y.2.1 ≤ 50 ∧ ∀ k, k < c0 → O k = O0 k ∧ A k = A0 k
theorem cl_expr (hm : Md E h m) (hw : wOK w) (hn : μ 0 13 = nI n) (h4 : n ≤ 400) {od : Bool} (ho : μ 0 20 = bI od) {P T O0 A0 : Nat → Int32} {pp op : Int32} {i lv c0 : Nat} (test : Bool) (hlv : lv ≤ 50) (hi : i ≤ (tk (μ 9) n i).1) (hc : c0 ≤ i) {r : Xr} (hr : ExM (l 15) (l 16) od (tk (μ 9) n) test i lv r) :
    Ct E 6 0 0 mX12_readExpression [.ref m, .int (bI test)] (mH h m (rM (clM μ w C x) n i false (nI c0) (nI lv) pp op O0 A0 P T) (rL μ l n i)) (pE2 h m μ l w C x n O0 A0 od c0 r) := by
  have h1 := ct_readExpression (h := h) (μ := clM μ w C x) (l := l) (n := n) (od := od) (c0 := c0) (O0 := O0) (A0 := A0) (P := P) (T := T) (pp := pp) (op := op) (i := i) (lv := lv) (r := r) hm (by rw [clM_0 hw (by decide)]; exact hn) h4 (by rw [clM_0 hw (by decide)]; exact ho) test hlv (by rw [clM_9 hw]; exact hi) hc (by rw [clM_9 hw]; exact hr)
  rw [rL_cl hw] at h1
  refine Ct.mono ?_ h1
  rintro v h' ⟨rfl, hp⟩
  refine ⟨rfl, ?_⟩
  cases r with
  | inl j =>
    obtain ⟨cc, lv', pp', op', O', A', P', T', rfl⟩ := hp
    rw [rL_cl hw]
    exact ⟨_, _, _, _, _, _, _, _, rfl⟩
  | inr y =>
    obtain ⟨cc, pp', op', O', A', P', T', rfl, g1, g2, g3, g4, g5⟩ := hp
    rw [rL_cl hw]
    rw [clM_9 hw] at g3
    exact ⟨cc, _, _, O', A', _, _, rfl, g1, g2, g3, g4, g5⟩
end CLM
/-- a clause's row, zeroed so far -/
def zC (C : Nat → Int32) (q k : Nat) : Nat → Int32 := fun j => if 8 * q ≤ j ∧ j < 8 * q + k then 0 else C j
theorem zC_0 (C : Nat → Int32) (q : Nat) : zC C q 0 = C := by funext j; unfold zC; rw [if_neg (by omega)]
theorem zC_s (C : Nat → Int32) (q k : Nat) : va_up (zC C q k) (8 * q + k) 0 = zC C q (k + 1) := by
  funext j
  by_cases h1 : j = 8 * q + k
  · subst h1; rw [va_up_self]; unfold zC; rw [if_pos (by omega)]
  · rw [va_up_ne _ _ h1]; unfold zC
    by_cases h2 : 8 * q ≤ j ∧ j < 8 * q + k
    · rw [if_pos h2, if_pos (by omega)]
    · rw [if_neg h2, if_neg (by omega)]
theorem zC_lo {C : Nat → Int32} {q k j : Nat} (hj : j < 8 * q) : zC C q k j = C j := by unfold zC; rw [if_neg (by omega)]
/-- a law's clause as it lies in the reader's row -/
def NCl (C O A : Nat → Int32) (q : Nat) (c : Cl) (hi : Nat) : Prop := ∃ a3 a4 a5 a6 : Nat, a3 ≤ hi ∧ a4 ≤ hi ∧ a5 ≤ hi ∧ a6 ≤ hi ∧ C (8 * q) = c.1 ∧ C (8 * q + 3) = nI a3 ∧ C (8 * q + 4) = nI a4 ∧ C (8 * q + 5) = nI a5 ∧ C (8 * q + 6) = nI a6 ∧
  (match c.2.1 with | none => a6 ≤ a5 | some s => Seg O A false a5 a6 s) ∧ (c.1 ≠ 3 → Seg O A false a3 a4 c.2.2)
theorem NCl_cong {C O A C' O' A' : Nat → Int32} {q : Nat} {c : Cl} {hi hi' : Nat} (hh : hi ≤ hi') (hC : ∀ k, k < 8 * q + 8 → C' k = C k) (hO : ∀ k, k < hi → O' k = O k ∧ A' k = A k) (hc : NCl C O A q c hi) : NCl C' O' A' q c hi' := by
  obtain ⟨a3, a4, a5, a6, h3, h4, h5, h6, e0, e3, e4, e5, e6, hif, hs⟩ := hc
  refine ⟨a3, a4, a5, a6, by omega, by omega, by omega, by omega, (hC _ (by omega)).trans e0, (hC _ (by omega)).trans e3, (hC _ (by omega)).trans e4, (hC _ (by omega)).trans e5, (hC _ (by omega)).trans e6, ?_, fun z => Seg_cong (fun k g1 g2 => hO k (by omega)) (hs z)⟩
  cases hc1 : c.2.1 with
  | none => rw [hc1] at hif; exact hif
  | some s => rw [hc1] at hif; exact Seg_cong (fun k g1 g2 => hO k (by omega)) hif
theorem c6_at {C0 : Nat → Int32} {q : Nat} {x0 x3 x4 x5 x6 : Int32} : (va_up (va_up (va_up (va_up (va_up (zC C0 q 8) (8 * q) x0) (8 * q + 3) x3) (8 * q + 4) x4) (8 * q + 5) x5) (8 * q + 6) x6) (8 * q) = x0 ∧ (va_up (va_up (va_up (va_up (va_up (zC C0 q 8) (8 * q) x0) (8 * q + 3) x3) (8 * q + 4) x4) (8 * q + 5) x5) (8 * q + 6) x6) (8 * q + 3) = x3 ∧ (va_up (va_up (va_up (va_up (va_up (zC C0 q 8) (8 * q) x0) (8 * q + 3) x3) (8 * q + 4) x4) (8 * q + 5) x5) (8 * q + 6) x6) (8 * q + 4) = x4 ∧ (va_up (va_up (va_up (va_up (va_up (zC C0 q 8) (8 * q) x0) (8 * q + 3) x3) (8 * q + 4) x4) (8 * q + 5) x5) (8 * q + 6) x6) (8 * q + 5) = x5 ∧ (va_up (va_up (va_up (va_up (va_up (zC C0 q 8) (8 * q) x0) (8 * q + 3) x3) (8 * q + 4) x4) (8 * q + 5) x5) (8 * q + 6) x6) (8 * q + 6) = x6 ∧ ∀ k, k < 8 * q → (va_up (va_up (va_up (va_up (va_up (zC C0 q 8) (8 * q) x0) (8 * q + 3) x3) (8 * q + 4) x4) (8 * q + 5) x5) (8 * q + 6) x6) k = C0 k := by
  refine ⟨?_, ?_, ?_, ?_, va_up_self _ _ _, fun k hk => ?_⟩
  · rw [va_up_ne _ _ (by omega), va_up_ne _ _ (by omega), va_up_ne _ _ (by omega), va_up_ne _ _ (by omega), va_up_self]
  · rw [va_up_ne _ _ (by omega), va_up_ne _ _ (by omega), va_up_ne _ _ (by omega), va_up_self]
  · rw [va_up_ne _ _ (by omega), va_up_ne _ _ (by omega), va_up_self]
  · rw [va_up_ne _ _ (by omega), va_up_self]
  · rw [va_up_ne _ _ (by omega), va_up_ne _ _ (by omega), va_up_ne _ _ (by omega), va_up_ne _ _ (by omega), va_up_ne _ _ (by omega), zC_lo hk]
/-- a law's clause read -/
def pC (h : Hp) (m : Nat) (μ : Mu) (l : La) (n q c0 : Nat) (C0 O0 A0 : Nat → Int32) (r : Nat ⊕ (Nat × Nat × Cl)) : Option Value → Hp → Prop := fun v h' => v = none ∧ match r with
  | .inl j => ∃ C x cc lv pp op O A P T, h' = mH h m (rM (clM μ 10 C x) n j true cc lv pp op O A P T) (rL μ l n j)
  | .inr y => ∃ C cc pp op O A P T, h' = mH h m (rM (clM μ 10 C (nI (q + 1))) n y.1 false (nI cc) (nI y.2.1) pp op O A P T) (rL μ l n y.1) ∧ NCl C O A q y.2.2 cc ∧ c0 ≤ cc ∧ cc ≤ y.1 ∧ y.1 ≤ (tk (μ 9) n y.1).1 ∧ y.2.1 ≤ 50 ∧ q < 12 ∧ (∀ k, k < 8 * q → C k = C0 k) ∧ ∀ k, k < c0 → O k = O0 k ∧ A k = A0 k
theorem ct_readLaw (hm : Md E h m) (hn : μ 0 13 = nI n) (h4 : n ≤ 400) (ho : μ 0 20 = bI false) {C0 P T O0 A0 : Nat → Int32} {pp op : Int32} {i lv c0 q : Nat} (hq : q ≤ 12) (hlv : lv ≤ 50) (hi : i ≤ (tk (μ 9) n i).1) (hc : c0 ≤ i) {rr : Nat ⊕ (Nat × Nat × Cl)} (hr : LawCl (l 15) (l 16) (l 17) (tk (μ 9) n) q i lv rr) :
    Ct E 7 0 0 mX12_readLaw [.ref m] (mH h m (rM (clM μ 10 C0 (nI q)) n i false (nI c0) (nI lv) pp op O0 A0 P T) (rL μ l n i)) (pC h m μ l n q c0 C0 O0 A0 rr) := by
  have hw : wOK 10 := Or.inl rfl
  refine Ct.of (by decide +kernel) (Nat.le_of_ble_eq_true rfl) ?_
  have hhd := hdN_k (l 17) (tk (μ 9) n i) 4
  unfold LawCl at hr
  generalize hde : hdN (l 17) (tk (μ 9) n i) 4 = hd at hr hhd
  have bad185 : ∀ (a3 : Int32) (C : Nat → Int32) (x cc lv pp op : Int32) (O A P T : Nat → Int32) (j : Nat), q < 12 → rr = .inl j → Wp E mX12_readLaw (Rm 7 0 0) (Qm E (pC h m μ l n q c0 C0 O0 A0 rr) 0 0) 185 [(0, .ref m), (1, .int hd), (2, .int (nI (8 * q))), (3, .int a3)] [] (mH h m (rM (clM μ 10 C x) n j true cc lv pp op O A P T) (rL μ l n j)) 0 0 := by
    intro a3 C x cc lv pp op O A P T j hq12 hj
    subst hj
    refine r_aload_n (pc := 185) 0 dX12_readLaw_185 rfl ?_
    refine q_getR (pc := 186) fl_X12_42 hm (md_f22 hm) dX12_readLaw_186 ?_
    refine r_iload_n (pc := 189) 2 dX12_readLaw_189 rfl ?_
    refine r_bipush (pc := 190) (6) dX12_readLaw_190 rfl ?_
    refine r_iadd (pc := 192) dX12_readLaw_192 ?_
    refine r_aload_n (pc := 193) 0 dX12_readLaw_193 rfl ?_
    refine q_getI (pc := 194) fl_X12_297 hm dX12_readLaw_194 ?_
    refine q_iast (pc := 197) (j := 8 * q + 6) (md_r22 hm) (by decide) (by simp only [fa_lit, nI_add, nI_mul]) (by omega) (by decide) dX12_readLaw_197 ?_
    refine r_vret (pc := 198) rfl ?_ (Nat.le_of_ble_eq_true rfl) (Nat.le_of_ble_eq_true rfl) dX12_readLaw_198
    rw [cl_uw hw]
    exact ⟨rfl, _, _, _, _, _, _, _, _, _, _, rfl⟩
  have bad135 : ∀ (a3 : Int32) (C : Nat → Int32) (x cc lv pp op : Int32) (O A P T : Nat → Int32) (j : Nat), q < 12 → rr = .inl j → Wp E mX12_readLaw (Rm 7 0 0) (Qm E (pC h m μ l n q c0 C0 O0 A0 rr) 0 0) 135 [(0, .ref m), (1, .int hd), (2, .int (nI (8 * q))), (3, .int a3)] [] (mH h m (rM (clM μ 10 C x) n j true cc lv pp op O A P T) (rL μ l n j)) 0 0 := by
    intro a3 C x cc lv pp op O A P T j hq12 hj
    refine r_aload_n (pc := 135) 0 dX12_readLaw_135 rfl ?_
    refine q_getR (pc := 136) fl_X12_42 hm (md_f22 hm) dX12_readLaw_136 ?_
    refine r_iload_n (pc := 139) 2 dX12_readLaw_139 rfl ?_
    refine r_iconst (pc := 140) (4) dX12_readLaw_140 rfl ?_
    refine r_iadd (pc := 141) dX12_readLaw_141 ?_
    refine r_aload_n (pc := 142) 0 dX12_readLaw_142 rfl ?_
    refine q_getI (pc := 143) fl_X12_297 hm dX12_readLaw_143 ?_
    refine q_iast (pc := 146) (j := 8 * q + 4) (md_r22 hm) (by decide) (by simp only [fa_lit, nI_add, nI_mul]) (by omega) (by decide) dX12_readLaw_146 ?_
    rw [cl_uw hw]
    refine r_aload_n (pc := 147) 0 dX12_readLaw_147 rfl ?_
    refine q_getR (pc := 148) fl_X12_42 hm (md_f22 hm) dX12_readLaw_148 ?_
    refine r_iload_n (pc := 151) 2 dX12_readLaw_151 rfl ?_
    refine r_iconst (pc := 152) (5) dX12_readLaw_152 rfl ?_
    refine r_iadd (pc := 153) dX12_readLaw_153 ?_
    refine r_aload_n (pc := 154) 0 dX12_readLaw_154 rfl ?_
    refine q_getI (pc := 155) fl_X12_297 hm dX12_readLaw_155 ?_
    refine q_iast (pc := 158) (j := 8 * q + 5) (md_r22 hm) (by decide) (by simp only [fa_lit, nI_add, nI_mul]) (by omega) (by decide) dX12_readLaw_158 ?_
    rw [cl_uw hw]
    refine r_aload_n (pc := 159) 0 dX12_readLaw_159 rfl ?_
    refine q_getI (pc := 160) fl_X12_260 hm dX12_readLaw_160 ?_
    refine r_if_ne (pc := 163) (tgt := 185) dX12_readLaw_163 (by decide) (fun c_163 => ?_) (fun c_163 => ?_)
    · exact bad185 _ _ _ _ _ _ _ _ _ _ _ j hq12 hj
    · exact absurd (show bI true = 0 from c_163) (by decide)
  have good135 : ∀ (a3 : Int32) (C1 : Nat → Int32) (i1 lv1 c1 : Nat) (s1 : Sm) (pp op : Int32) (O A P T : Nat → Int32), q < 12 → C1 = va_up (va_up (zC C0 q 8) (8 * q) hd) (8 * q + 3) (nI c0) → (∃ z, IfM (l 15) (l 16) (tk (μ 9) n) false i1 lv1 z ∧ (match z with | .inl j => rr = .inl j | .inr w => rr = .inr (w.1, w.2.1, (hd, w.2.2, s1)))) → (hd ≠ 3 → Seg O A false c0 c1 s1) → c0 ≤ c1 → c1 ≤ i1 → i1 ≤ (tk (μ 9) n i1).1 → lv1 ≤ 50 → (∀ k, k < c0 → O k = O0 k ∧ A k = A0 k) → Wp E mX12_readLaw (Rm 7 0 0) (Qm E (pC h m μ l n q c0 C0 O0 A0 rr) 0 0) 135 [(0, .ref m), (1, .int hd), (2, .int (nI (8 * q))), (3, .int a3)] [] (mH h m (rM (clM μ 10 C1 (nI (q + 1))) n i1 false (nI c1) (nI lv1) pp op O A P T) (rL μ l n i1)) 0 0 := by
    intro a3 C1 i1 lv1 c1 s1 pp op O A P T hq12 hC1 hz hsg g1 g2 g3 g4 g5
    obtain ⟨z, hz, hzr⟩ := hz
    refine r_aload_n (pc := 135) 0 dX12_readLaw_135 rfl ?_
    refine q_getR (pc := 136) fl_X12_42 hm (md_f22 hm) dX12_readLaw_136 ?_
    refine r_iload_n (pc := 139) 2 dX12_readLaw_139 rfl ?_
    refine r_iconst (pc := 140) (4) dX12_readLaw_140 rfl ?_
    refine r_iadd (pc := 141) dX12_readLaw_141 ?_
    refine r_aload_n (pc := 142) 0 dX12_readLaw_142 rfl ?_
    refine q_getI (pc := 143) fl_X12_297 hm dX12_readLaw_143 ?_
    refine q_iast (pc := 146) (j := 8 * q + 4) (md_r22 hm) (by decide) (by simp only [fa_lit, nI_add, nI_mul]) (by omega) (by decide) dX12_readLaw_146 ?_
    rw [rM_23, cl_uw hw]
    refine r_aload_n (pc := 147) 0 dX12_readLaw_147 rfl ?_
    refine q_getR (pc := 148) fl_X12_42 hm (md_f22 hm) dX12_readLaw_148 ?_
    refine r_iload_n (pc := 151) 2 dX12_readLaw_151 rfl ?_
    refine r_iconst (pc := 152) (5) dX12_readLaw_152 rfl ?_
    refine r_iadd (pc := 153) dX12_readLaw_153 ?_
    refine r_aload_n (pc := 154) 0 dX12_readLaw_154 rfl ?_
    refine q_getI (pc := 155) fl_X12_297 hm dX12_readLaw_155 ?_
    refine q_iast (pc := 158) (j := 8 * q + 5) (md_r22 hm) (by decide) (by simp only [fa_lit, nI_add, nI_mul]) (by omega) (by decide) dX12_readLaw_158 ?_
    rw [rM_23, cl_uw hw]
    unfold IfM at hz
    refine r_aload_n (pc := 159) 0 dX12_readLaw_159 rfl ?_
    refine q_getI (pc := 160) fl_X12_260 hm dX12_readLaw_160 ?_
    refine r_if_ne (pc := 163) (tgt := 185) dX12_readLaw_163 (by decide) (fun c_163 => ?_) (fun c_163 => ?_)
    · exact absurd (show bI false = 0 from rfl) c_163
    · refine r_aload_n (pc := 166) 0 dX12_readLaw_166 rfl ?_
      refine r_ldc2_w (pc := 167) cs_X12_399 dX12_readLaw_167 ?_
      refine r_dV (pc := 170) (As := [_]) mv_X12_isWord ml_X12_318 (cl_isW hm hw 294) (q_is hm) rfl rfl (Nat.le_of_ble_eq_true rfl) (Nat.le_of_ble_eq_true rfl) (Nat.le_of_ble_eq_true rfl) (Nat.le_of_ble_eq_true rfl) (Nat.le_of_ble_eq_true rfl) dX12_readLaw_170 ?_
      refine r_if_eq (pc := 173) (tgt := 185) dX12_readLaw_173 (by decide) (fun c_173 => ?_) (fun c_173 => ?_)
      · rw [if_neg (by rw [bI_0.mp c_173]; decide)] at hz
        subst hz
        simp only at hzr
        subst hzr
        refine r_aload_n (pc := 185) 0 dX12_readLaw_185 rfl ?_
        refine q_getR (pc := 186) fl_X12_42 hm (md_f22 hm) dX12_readLaw_186 ?_
        refine r_iload_n (pc := 189) 2 dX12_readLaw_189 rfl ?_
        refine r_bipush (pc := 190) (6) dX12_readLaw_190 rfl ?_
        refine r_iadd (pc := 192) dX12_readLaw_192 ?_
        refine r_aload_n (pc := 193) 0 dX12_readLaw_193 rfl ?_
        refine q_getI (pc := 194) fl_X12_297 hm dX12_readLaw_194 ?_
        refine q_iast (pc := 197) (j := 8 * q + 6) (md_r22 hm) (by decide) (by simp only [fa_lit, nI_add, nI_mul]) (by omega) (by decide) dX12_readLaw_197 ?_
        refine r_vret (pc := 198) rfl ?_ (Nat.le_of_ble_eq_true rfl) (Nat.le_of_ble_eq_true rfl) dX12_readLaw_198
        rw [rM_23, cl_uw hw, hC1]
        obtain ⟨e0, e3, e4, e5, e6, elo⟩ := c6_at (C0 := C0) (q := q) (x0 := hd) (x3 := nI c0) (x4 := nI c1) (x5 := nI c1) (x6 := nI c1)
        exact ⟨rfl, _, c1, _, _, O, A, P, T, rfl, ⟨c0, c1, c1, c1, g1, Nat.le_refl _, Nat.le_refl _, Nat.le_refl _, e0, e3, e4, e5, e6, Nat.le_refl _, hsg⟩, g1, g2, g3, g4, hq12, elo, g5⟩
      · have h294 := bI_n0.mp c_173
        rw [if_pos h294] at hz
        obtain ⟨y, hy, rfl⟩ := hz
        refine r_aload_n (pc := 176) 0 dX12_readLaw_176 rfl ?_
        refine r_dV0 (pc := 177) (As := []) mv_X12_onward ml_X12_264 (cl_onw hm hw hn h4) (q_is hm) rfl rfl (Nat.le_of_ble_eq_true rfl) (Nat.le_of_ble_eq_true rfl) (Nat.le_of_ble_eq_true rfl) (Nat.le_of_ble_eq_true rfl) (Nat.le_of_ble_eq_true rfl) dX12_readLaw_177 ?_
        refine r_aload_n (pc := 180) 0 dX12_readLaw_180 rfl ?_
        refine r_iconst (pc := 181) (1) dX12_readLaw_181 rfl ?_
        refine r_callV (pc := 182) (As := [_]) mv_X12_readExpression ml_X12_396 (cl_expr (c0 := c1) (O0 := O) (A0 := A) hm hw hn h4 ho true g4 (tk_next g3 (tW_n0 h294)) (by omega) hy) (q_is hm) rfl rfl (Nat.le_of_ble_eq_true rfl) (Nat.le_of_ble_eq_true rfl) (Nat.le_of_ble_eq_true rfl) (Nat.le_of_ble_eq_true rfl) (Nat.le_of_ble_eq_true rfl) dX12_readLaw_182 (fun r h1 hp => ?_)
        obtain ⟨rfl, hp⟩ := hp
        show Wp E mX12_readLaw _ _ _ _ [] _ 0 0
        cases y with
        | inl j =>
          obtain ⟨cc, lv', pp', op', O', A', P', T', rfl⟩ := hp
          exact bad185 _ _ _ _ _ _ _ _ _ _ _ j hq12 hzr
        | inr y =>
          obtain ⟨cc, pp', op', O', A', P', T', rfl, k1, k2, k3, k4, k5⟩ := hp
          simp only at hzr
          subst hzr
          refine r_aload_n (pc := 185) 0 dX12_readLaw_185 rfl ?_
          refine q_getR (pc := 186) fl_X12_42 hm (md_f22 hm) dX12_readLaw_186 ?_
          refine r_iload_n (pc := 189) 2 dX12_readLaw_189 rfl ?_
          refine r_bipush (pc := 190) (6) dX12_readLaw_190 rfl ?_
          refine r_iadd (pc := 192) dX12_readLaw_192 ?_
          refine r_aload_n (pc := 193) 0 dX12_readLaw_193 rfl ?_
          refine q_getI (pc := 194) fl_X12_297 hm dX12_readLaw_194 ?_
          refine q_iast (pc := 197) (j := 8 * q + 6) (md_r22 hm) (by decide) (by simp only [fa_lit, nI_add, nI_mul]) (by omega) (by decide) dX12_readLaw_197 ?_
          refine r_vret (pc := 198) rfl ?_ (Nat.le_of_ble_eq_true rfl) (Nat.le_of_ble_eq_true rfl) dX12_readLaw_198
          rw [rM_23, cl_uw hw, hC1]
          obtain ⟨e0, e3, e4, e5, e6, elo⟩ := c6_at (C0 := C0) (q := q) (x0 := hd) (x3 := nI c0) (x4 := nI c1) (x5 := nI c1) (x6 := nI cc)
          have k1' := k1.1
          exact ⟨rfl, _, cc, _, _, O', A', P', T', rfl, ⟨c0, c1, c1, cc, by omega, by omega, by omega, Nat.le_refl _, e0, e3, e4, e5, e6, k1, fun z => Seg_cong (fun k b1 b2 => k5 k b2) (hsg z)⟩, by omega, k2, k3, k4, hq12, elo, fun k hk => ⟨(k5 k (by omega)).1.trans (g5 k hk).1, (k5 k (by omega)).2.trans (g5 k hk).2⟩⟩
  have at54 : ∀ (g : Bool) (k : Int32), g = decide (¬ (hd = -1 ∨ ¬ q < 12)) → Wp E mX12_readLaw (Rm 7 0 0) (Qm E (pC h m μ l n q c0 C0 O0 A0 rr) 0 0) 54 [(0, .ref m), (1, .int hd), (2, .int k)] [.int (bI g), .ref m] (mH h m (rM (clM μ 10 C0 (nI q)) n i false (nI c0) (nI lv) pp op O0 A0 P T) (rL μ l n i)) 0 0 := by
    intro g k hg
    cases g with
    | false =>
      have hno : hd = -1 ∨ ¬ q < 12 := Decidable.not_not.mp (of_decide_eq_false hg.symm)
      rw [if_pos hno] at hr
      subst hr
      refine r_dV0 (pc := 54) (As := [_]) mv_X12_must ml_X12_293 (cl_must hm hw false hn h4) (q_is hm) rfl rfl (Nat.le_of_ble_eq_true rfl) (Nat.le_of_ble_eq_true rfl) (Nat.le_of_ble_eq_true rfl) (Nat.le_of_ble_eq_true rfl) (Nat.le_of_ble_eq_true rfl) dX12_readLaw_54 ?_
      refine r_aload_n (pc := 57) 0 dX12_readLaw_57 rfl ?_
      refine q_getI (pc := 58) fl_X12_260 hm dX12_readLaw_58 ?_
      refine r_if_eq (pc := 61) (tgt := 65) dX12_readLaw_61 (by decide) (fun c_61 => ?_) (fun c_61 => ?_)
      · exact absurd (show bI true = 0 from c_61) (by decide)
      · refine r_vret (pc := 64) rfl ?_ (Nat.le_of_ble_eq_true rfl) (Nat.le_of_ble_eq_true rfl) dX12_readLaw_64
        exact ⟨rfl, _, _, _, _, _, _, _, _, _, _, rfl⟩
    | true =>
      have hyes := of_decide_eq_true hg.symm
      rw [if_neg hyes] at hr
      have hq12 : q < 12 := Nat.not_le.mp (fun z => hyes (Or.inr (by omega)))
      obtain ⟨hkk, hs0⟩ := hhd.resolve_left (fun z => hyes (Or.inl z))
      have hnx := tk_next hi hs0
      refine r_dV0 (pc := 54) (As := [_]) mv_X12_must ml_X12_293 (cl_must hm hw true hn h4) (q_is hm) rfl rfl (Nat.le_of_ble_eq_true rfl) (Nat.le_of_ble_eq_true rfl) (Nat.le_of_ble_eq_true rfl) (Nat.le_of_ble_eq_true rfl) (Nat.le_of_ble_eq_true rfl) dX12_readLaw_54 ?_
      refine r_aload_n (pc := 57) 0 dX12_readLaw_57 rfl ?_
      refine q_getI (pc := 58) fl_X12_260 hm dX12_readLaw_58 ?_
      refine r_if_eq (pc := 61) (tgt := 65) dX12_readLaw_61 (by decide) (fun c_61 => ?_) (fun c_61 => ?_)
      · have eS : mustS i false true = (i + 1, false) := rfl
        rw [eS]
        refine r_bipush (pc := 65) (8) dX12_readLaw_65 rfl ?_
        refine r_aload_n (pc := 67) 0 dX12_readLaw_67 rfl ?_
        refine q_getI (pc := 68) fl_X12_393 hm dX12_readLaw_68 ?_
        refine r_imul (pc := 71) dX12_readLaw_71 ?_
        refine r_istore_n (pc := 72) (lv' := [(0, _), (1, _), (2, _)]) dX12_readLaw_72 (Nat.le_of_ble_eq_true rfl) rfl ?_
        refine r_iconst (pc := 73) (0) dX12_readLaw_73 rfl ?_
        refine r_istore_n (pc := 74) (lv' := [(0, _), (1, _), (2, _), (3, _)]) dX12_readLaw_74 (Nat.le_of_ble_eq_true rfl) rfl ?_
        rw [cl_21 hw, show (8 : Int32) * nI q = nI (8 * q) from nI_mul 8 q]
        have at96 : Wp E mX12_readLaw (Rm 7 0 0) (Qm E (pC h m μ l n q c0 C0 O0 A0 rr) 0 0) 96 [(0, .ref m), (1, .int hd), (2, .int (nI (8 * q))), (3, .int (nI 8))] [] (mH h m (rM (clM μ 10 (zC C0 q 8) (nI q)) n (i + 1) false (nI c0) (nI lv) pp op O0 A0 P T) (rL μ l n (i + 1))) 0 0 := by
          refine r_aload_n (pc := 96) 0 dX12_readLaw_96 rfl ?_
          refine q_getR (pc := 97) fl_X12_42 hm (md_f22 hm) dX12_readLaw_97 ?_
          refine r_iload_n (pc := 100) 2 dX12_readLaw_100 rfl ?_
          refine r_iload_n (pc := 101) 1 dX12_readLaw_101 rfl ?_
          refine q_iast (pc := 102) (j := 8 * q) (md_r22 hm) (by decide) rfl (by omega) (by decide) dX12_readLaw_102 ?_
          rw [cl_uw hw]
          refine r_aload_n (pc := 103) 0 dX12_readLaw_103 rfl ?_
          refine r_dup (pc := 104) dX12_readLaw_104 rfl ?_
          refine q_getI (pc := 105) fl_X12_393 hm dX12_readLaw_105 ?_
          refine r_iconst (pc := 108) (1) dX12_readLaw_108 rfl ?_
          refine r_iadd (pc := 109) dX12_readLaw_109 ?_
          refine q_putI (pc := 110) fp_X12_393 hm dX12_readLaw_110 ?_
          rw [cl_21 hw, nI_1, cl_un hw]
          refine r_aload_n (pc := 113) 0 dX12_readLaw_113 rfl ?_
          refine q_getR (pc := 114) fl_X12_42 hm (md_f22 hm) dX12_readLaw_114 ?_
          refine r_iload_n (pc := 117) 2 dX12_readLaw_117 rfl ?_
          refine r_iconst (pc := 118) (3) dX12_readLaw_118 rfl ?_
          refine r_iadd (pc := 119) dX12_readLaw_119 ?_
          refine r_aload_n (pc := 120) 0 dX12_readLaw_120 rfl ?_
          refine q_getI (pc := 121) fl_X12_297 hm dX12_readLaw_121 ?_
          refine q_iast (pc := 124) (j := 8 * q + 3) (md_r22 hm) (by decide) (by simp only [fa_lit, nI_add, nI_mul]) (by omega) (by decide) dX12_readLaw_124 ?_
          rw [rM_23, cl_uw hw]
          obtain ⟨y, hy, hyr⟩ := hr
          refine r_iload_n (pc := 125) 1 dX12_readLaw_125 rfl ?_
          refine r_iconst (pc := 126) (3) dX12_readLaw_126 rfl ?_
          refine r_icmp_eq (pc := 127) (tgt := 135) dX12_readLaw_127 (by decide) (fun c_127 => ?_) (fun c_127 => ?_)
          · rw [if_pos c_127] at hy
            subst hy
            simp only at hyr
            exact good135 _ _ (i + 1) lv c0 sZ _ _ _ _ _ _ hq12 rfl hyr (fun z => absurd c_127 z) (Nat.le_refl _) (by omega) hnx hlv (fun _ _ => ⟨rfl, rfl⟩)
          · rw [if_neg c_127] at hy
            refine r_aload_n (pc := 130) 0 dX12_readLaw_130 rfl ?_
            refine r_iconst (pc := 131) (0) dX12_readLaw_131 rfl ?_
            refine r_callV (pc := 132) (As := [_]) mv_X12_readExpression ml_X12_396 (cl_expr (test := false) (c0 := c0) (O0 := O0) (A0 := A0) hm hw hn h4 ho hlv hnx (by omega) hy) (q_is hm) rfl rfl (Nat.le_of_ble_eq_true rfl) (Nat.le_of_ble_eq_true rfl) (Nat.le_of_ble_eq_true rfl) (Nat.le_of_ble_eq_true rfl) (Nat.le_of_ble_eq_true rfl) dX12_readLaw_132 (fun r h1 hp => ?_)
            obtain ⟨rfl, hp⟩ := hp
            show Wp E mX12_readLaw _ _ _ _ [] _ 0 0
            cases y with
            | inl j =>
              obtain ⟨cc, lv', pp', op', O', A', P', T', rfl⟩ := hp
              exact bad135 _ _ _ _ _ _ _ _ _ _ _ j hq12 hyr
            | inr y =>
              obtain ⟨cc, pp', op', O', A', P', T', rfl, k1, k2, k3, k4, k5⟩ := hp
              have k1' := k1.1
              exact good135 _ _ y.1 y.2.1 cc y.2.2 _ _ _ _ _ _ hq12 rfl hyr (fun _ => k1) (by omega) k2 k3 k4 k5
        have loop : ∀ k, k ≤ 8 → Wp E mX12_readLaw (Rm 7 0 0) (Qm E (pC h m μ l n q c0 C0 O0 A0 rr) 0 0) 75 [(0, .ref m), (1, .int hd), (2, .int (nI (8 * q))), (3, .int (nI k))] [] (mH h m (rM (clM μ 10 (zC C0 q k) (nI q)) n (i + 1) false (nI c0) (nI lv) pp op O0 A0 P T) (rL μ l n (i + 1))) 0 0 := by
          refine upTo (fun k hk ih => ?_) ?_
          · refine r_iload_n (pc := 75) 3 dX12_readLaw_75 rfl ?_
            refine r_bipush (pc := 76) (8) dX12_readLaw_76 rfl ?_
            refine r_icmp_ge (pc := 78) (tgt := 96) dX12_readLaw_78 (by decide) (fun c_78 => ?_) (fun c_78 => ?_)
            · exact absurd c_78 (nI_ge (b := 8) hk (by decide))
            · refine r_aload_n (pc := 81) 0 dX12_readLaw_81 rfl ?_
              refine q_getR (pc := 82) fl_X12_42 hm (md_f22 hm) dX12_readLaw_82 ?_
              refine r_iload_n (pc := 85) 2 dX12_readLaw_85 rfl ?_
              refine r_iload_n (pc := 86) 3 dX12_readLaw_86 rfl ?_
              refine r_iadd (pc := 87) dX12_readLaw_87 ?_
              refine r_iconst (pc := 88) (0) dX12_readLaw_88 rfl ?_
              refine q_iast (pc := 89) (j := 8 * q + k) (md_r22 hm) (by decide) (by simp only [fa_lit, nI_add, nI_mul]) (by omega) (by decide) dX12_readLaw_89 ?_
              refine r_iinc (pc := 90) (v := _ + (1)) (lv' := [(0, _), (1, _), (2, _), (3, _)]) 3 dX12_readLaw_90 rfl rfl (Nat.le_of_ble_eq_true rfl) rfl ?_
              refine r_goto (pc := 93) (tgt := 75) dX12_readLaw_93 (by decide) ?_
              rw [cl_uw hw, zC_s, nI_1]
              exact ih
          · refine r_iload_n (pc := 75) 3 dX12_readLaw_75 rfl ?_
            refine r_bipush (pc := 76) (8) dX12_readLaw_76 rfl ?_
            refine r_icmp_ge (pc := 78) (tgt := 96) dX12_readLaw_78 (by decide) (fun c_78 => ?_) (fun c_78 => ?_)
            · exact at96
            · exact absurd (show (8 : Int32) ≤ nI 8 by decide) c_78
        have h0 := loop 0 (by omega)
        rw [zC_0] at h0
        exact h0
      · exact absurd (show bI false = 0 from rfl) c_61
  have at34 : ∀ k : Int32, Wp E mX12_readLaw (Rm 7 0 0) (Qm E (pC h m μ l n q c0 C0 O0 A0 rr) 0 0) 34 [(0, .ref m), (1, .int hd), (2, .int k)] [] (mH h m (rM (clM μ 10 C0 (nI q)) n i false (nI c0) (nI lv) pp op O0 A0 P T) (rL μ l n i)) 0 0 := by
    intro k
    refine r_aload_n (pc := 34) 0 dX12_readLaw_34 rfl ?_
    refine r_iload_n (pc := 35) 1 dX12_readLaw_35 rfl ?_
    refine r_iconst (pc := 36) (-1) dX12_readLaw_36 rfl ?_
    refine r_icmp_eq (pc := 37) (tgt := 53) dX12_readLaw_37 (by decide) (fun c_37 => ?_) (fun c_37 => ?_)
    · refine r_iconst (pc := 53) (0) dX12_readLaw_53 rfl ?_
      exact at54 false _ (decide_eq_false (fun z => z (Or.inl c_37))).symm
    · refine r_aload_n (pc := 40) 0 dX12_readLaw_40 rfl ?_
      refine q_getI (pc := 41) fl_X12_393 hm dX12_readLaw_41 ?_
      refine r_bipush (pc := 44) (12) dX12_readLaw_44 rfl ?_
      refine r_icmp_ge (pc := 46) (tgt := 53) dX12_readLaw_46 (by decide) (fun c_46 => ?_) (fun c_46 => ?_)
      · rw [cl_21 hw] at c_46
        refine r_iconst (pc := 53) (0) dX12_readLaw_53 rfl ?_
        exact at54 false _ (decide_eq_false (fun z => z (Or.inr (fun y => nI_ge (a := q) (b := 12) y (by decide) c_46)))).symm
      · rw [cl_21 hw] at c_46
        refine r_iconst (pc := 49) (1) dX12_readLaw_49 rfl ?_
        refine r_goto (pc := 50) (tgt := 54) dX12_readLaw_50 (by decide) ?_
        exact at54 true _ (decide_eq_true (p := ¬ (hd = -1 ∨ ¬ q < 12)) (fun z => z.elim c_37 (fun y => c_46 (nI_le (a := 12) (b := q) (by omega) (by omega))))).symm
  have loop : ∀ k, k ≤ 4 → Wp E mX12_readLaw (Rm 7 0 0) (Qm E (pC h m μ l n q c0 C0 O0 A0 rr) 0 0) 4 [(0, .ref m), (1, .int (hdN (l 17) (tk (μ 9) n i) k)), (2, .int (nI k))] [] (mH h m (rM (clM μ 10 C0 (nI q)) n i false (nI c0) (nI lv) pp op O0 A0 P T) (rL μ l n i)) 0 0 := by
    refine upTo (fun k hk ih => ?_) ?_
    · refine r_iload_n (pc := 4) 2 dX12_readLaw_4 rfl ?_
      refine r_iconst (pc := 5) (4) dX12_readLaw_5 rfl ?_
      refine r_icmp_ge (pc := 6) (tgt := 34) dX12_readLaw_6 (by decide) (fun c_6 => ?_) (fun c_6 => ?_)
      · exact absurd c_6 (nI_ge (b := 4) hk (by decide))
      · refine r_aload_n (pc := 9) 0 dX12_readLaw_9 rfl ?_
        refine r_aload_n (pc := 10) 0 dX12_readLaw_10 rfl ?_
        refine q_getR (pc := 11) fl_X12_96 hm (md_f33 hm) dX12_readLaw_11 ?_
        refine r_iload_n (pc := 14) 2 dX12_readLaw_14 rfl ?_
        refine q_lald (pc := 15) (j := k) (md_r33 hm) (by decide) rfl (by omega) (by decide) dX12_readLaw_15 ?_
        refine r_dV (pc := 16) (As := [_]) mv_X12_isWord ml_X12_318 (cl_isW hm hw _) (q_is hm) rfl rfl (Nat.le_of_ble_eq_true rfl) (Nat.le_of_ble_eq_true rfl) (Nat.le_of_ble_eq_true rfl) (Nat.le_of_ble_eq_true rfl) (Nat.le_of_ble_eq_true rfl) dX12_readLaw_16 ?_
        refine r_if_eq (pc := 19) (tgt := 26) dX12_readLaw_19 (by decide) (fun c_19 => ?_) (fun c_19 => ?_)
        · rw [rL_o (by decide)] at c_19
          have e9 : hdN (l 17) (tk (μ 9) n i) (k + 1) = hdN (l 17) (tk (μ 9) n i) k := by rw [hdN, if_neg (by rw [bI_0.mp c_19]; decide)]
          rw [e9] at ih
          refine r_iload_n (pc := 26) 1 dX12_readLaw_26 rfl ?_
          refine r_istore_n (pc := 27) (lv' := [(0, _), (1, _), (2, _)]) dX12_readLaw_27 (Nat.le_of_ble_eq_true rfl) rfl ?_
          refine r_iinc (pc := 28) (v := _ + (1)) (lv' := [(0, _), (1, _), (2, _)]) 2 dX12_readLaw_28 rfl rfl (Nat.le_of_ble_eq_true rfl) rfl ?_
          refine r_goto (pc := 31) (tgt := 4) dX12_readLaw_31 (by decide) ?_
          rw [nI_1]; exact ih
        · rw [rL_o (by decide)] at c_19
          have e9 : hdN (l 17) (tk (μ 9) n i) (k + 1) = nI k := by rw [hdN, if_pos (bI_n0.mp c_19)]
          rw [e9] at ih
          refine r_iload_n (pc := 22) 2 dX12_readLaw_22 rfl ?_
          refine r_goto (pc := 23) (tgt := 27) dX12_readLaw_23 (by decide) ?_
          refine r_istore_n (pc := 27) (lv' := [(0, _), (1, _), (2, _)]) dX12_readLaw_27 (Nat.le_of_ble_eq_true rfl) rfl ?_
          refine r_iinc (pc := 28) (v := _ + (1)) (lv' := [(0, _), (1, _), (2, _)]) 2 dX12_readLaw_28 rfl rfl (Nat.le_of_ble_eq_true rfl) rfl ?_
          refine r_goto (pc := 31) (tgt := 4) dX12_readLaw_31 (by decide) ?_
          rw [nI_1]; exact ih
    · rw [hde]
      refine r_iload_n (pc := 4) 2 dX12_readLaw_4 rfl ?_
      refine r_iconst (pc := 5) (4) dX12_readLaw_5 rfl ?_
      refine r_icmp_ge (pc := 6) (tgt := 34) dX12_readLaw_6 (by decide) (fun c_6 => ?_) (fun c_6 => ?_)
      · exact at34 _
      · exact absurd (show (4 : Int32) ≤ nI 4 by decide) c_6
  refine r_iconst (pc := 0) (-1) dX12_readLaw_0 rfl ?_
  refine r_istore_n (pc := 1) (lv' := [(0, _), (1, _)]) dX12_readLaw_1 (Nat.le_of_ble_eq_true rfl) rfl ?_
  refine r_iconst (pc := 2) (0) dX12_readLaw_2 rfl ?_
  refine r_istore_n (pc := 3) (lv' := [(0, _), (1, _), (2, _)]) dX12_readLaw_3 (Nat.le_of_ble_eq_true rfl) rfl ?_
  exact loop 0 (by omega)
end CLAUSE
