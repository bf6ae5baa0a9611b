/-! what a piece of the reference's code means -/
section CODE
def sBin (op : Int32) (s1 s2 : Sm) : Sm := fun e => match s1 e with
  | none => none
  | some x => match s2 e with
    | none => none
    | some y => if rkB op x y = true then none else some (rkV op x y)
def sNot (s : Sm) : Sm := fun e => match s e with
  | none => none
  | some v => some (1 - v)
def sAnd (s1 s2 : Sm) : Sm := fun e => match s1 e with
  | none => none
  | some x => if x = 0 then some x else s2 e
def sOr (s1 s2 : Sm) : Sm := fun e => match s1 e with
  | none => none
  | some x => if x = 1 then some x else s2 e
/-- what a leaf is, in a law, in orders -/
def lfE (od : Bool) (e : Nat → Int64) (op arg : Int32) : Int64 := if op = 0 then arg.toInt64 else if od = false then e (op.toNatClampNeg - 1) else if op < 5 then e (op.toNatClampNeg - 1) else if op = 5 then e (4 + arg.toNatClampNeg) else if op = 6 then e (10 + arg.toNatClampNeg) else e (16 + arg.toNatClampNeg)
def legit (od : Bool) (op arg : Int32) : Prop := op = 0 ∨ (od = false ∧ ∃ k, 1 ≤ k ∧ k ≤ 8 ∧ op = nI k) ∨ (od = true ∧ ∃ k, 1 ≤ k ∧ k ≤ 7 ∧ op = nI k ∧ (5 ≤ k → ∃ a, arg = nI a ∧ a < 6 ∧ (k = 7 → a < 3)))
def LfOK (od : Bool) (e : Nat → Int64) (lf : Int32 → Int32 → Option Int64) : Prop := ∀ op arg, legit od op arg → lf op arg = some (lfE od e op arg)
def sLf (od : Bool) (op arg : Int32) : Sm := fun e => some (lfE od e op arg)
theorem legit_lt {od : Bool} {op arg : Int32} (hl : legit od op arg) : op < 20 := by
  rcases hl with rfl | ⟨_, k, h1, h2, rfl⟩ | ⟨_, k, h1, h2, rfl, _⟩
  · decide
  · exact Int32.not_le.mp (nI_ge (a := k) (b := 20) (by omega) (by decide))
  · exact Int32.not_le.mp (nI_ge (a := k) (b := 20) (by omega) (by decide))
section RN
variable {O A : Nat → Int32} {lf : Int32 → Int32 → Option Int64}
abbrev Xs : Type := Nat × Nat × (Nat → Int64)
/-- so many steps, all within a piece -/
def Rn (O A : Nat → Int32) (lf : Int32 → Int32 → Option Int64) (a b : Nat) : Nat → Xs → Xs → Prop
  | 0, x, y => x = y
  | N + 1, x, y => a ≤ x.1 ∧ x.1 < b ∧ ∃ z, mSt O A lf x.1 x.2.1 x.2.2 = some (false, z) ∧ Rn O A lf a b N z y
theorem Rn_tr {a b : Nat} {y z : Xs} {M : Nat} (h2 : Rn O A lf a b M y z) : ∀ (N : Nat) (x : Xs), Rn O A lf a b N x y → Rn O A lf a b (N + M) x z
  | 0, x, h1 => by rw [Nat.zero_add]; cases h1; exact h2
  | N + 1, x, h1 => by
    obtain ⟨g1, g2, w, hw, h3⟩ := h1
    rw [Nat.add_right_comm]
    exact ⟨g1, g2, w, hw, Rn_tr h2 N w h3⟩
theorem Rn_1 {a b k n : Nat} {f : Nat → Int64} {z : Xs} (g1 : a ≤ k) (g2 : k < b) (hz : mSt O A lf k n f = some (false, z)) : Rn O A lf a b 1 (k, n, f) z := ⟨g1, g2, z, hz, rfl⟩
theorem Rn_wide {a b a' b' : Nat} (ha : a' ≤ a) (hb : b ≤ b') {y : Xs} : ∀ (N : Nat) (x : Xs), Rn O A lf a b N x y → Rn O A lf a' b' N x y
  | 0, x, h1 => h1
  | N + 1, x, h1 => by
    obtain ⟨g1, g2, w, hw, h3⟩ := h1
    exact ⟨by omega, by omega, w, hw, Rn_wide ha hb N w h3⟩
theorem mSt_cong {O' A' : Nat → Int32} {k n : Nat} {f : Nat → Int64} (hO : O' k = O k) (hA : A' k = A k) : mSt O' A' lf k n f = mSt O A lf k n f := by
  unfold mSt; rw [hO, hA]
theorem Rn_cong {O' A' : Nat → Int32} {a b : Nat} (hc : ∀ k, a ≤ k → k < b → O' k = O k ∧ A' k = A k) {y : Xs} : ∀ (N : Nat) (x : Xs), Rn O A lf a b N x y → Rn O' A' lf a b N x y
  | 0, x, h1 => h1
  | N + 1, x, h1 => by
    obtain ⟨g1, g2, w, hw, h3⟩ := h1
    exact ⟨g1, g2, w, by rw [mSt_cong (hc _ g1 g2).1 (hc _ g1 g2).2]; exact hw, Rn_cong hc N w h3⟩
end RN
/-- the code from a to b lays down just what s is -/
def Seg (O A : Nat → Int32) (od : Bool) (a b : Nat) (s : Sm) : Prop := a < b ∧ ∀ e lf, LfOK od e lf → ∀ n f, n + (b - a) ≤ 400 →
  (∀ v, s e = some v → ∃ N f', Rn O A lf a b N (a, n, f) (b, n + 1, f') ∧ (∀ j, j < n → f' j = f j) ∧ f' n = v) ∧
  (s e = none → ∃ N y z, Rn O A lf a b N (a, n, f) y ∧ a ≤ y.1 ∧ y.1 < b ∧ mSt O A lf y.1 y.2.1 y.2.2 = some (true, z))
theorem Seg_cong {O A O' A' : Nat → Int32} {od : Bool} {a b : Nat} {s : Sm} (hc : ∀ k, a ≤ k → k < b → O' k = O k ∧ A' k = A k) (hs : Seg O A od a b s) : Seg O' A' od a b s := by
  refine ⟨hs.1, fun e lf hlf n f hn => ⟨fun v hv => ?_, fun hv => ?_⟩⟩
  · obtain ⟨N, f', h1, h2, h3⟩ := (hs.2 e lf hlf n f hn).1 v hv
    exact ⟨N, f', Rn_cong hc _ _ h1, h2, h3⟩
  · obtain ⟨N, y, z, h1, g1, g2, h2⟩ := (hs.2 e lf hlf n f hn).2 hv
    exact ⟨N, y, z, Rn_cong hc _ _ h1, g1, g2, by rw [mSt_cong (hc _ g1 g2).1 (hc _ g1 g2).2]; exact h2⟩
section SEG
variable {O A : Nat → Int32} {od : Bool}
theorem Seg_leaf {a : Nat} (hl : legit od (O a) (A a)) : Seg O A od a (a + 1) (sLf od (O a) (A a)) := by
  refine ⟨Nat.lt_succ_self a, fun e lf hlf n f hn => ⟨fun v hv => ?_, fun hv => by cases hv⟩⟩
  cases hv
  refine ⟨1, va_up f n (lfE od e (O a) (A a)), ⟨Nat.le_refl _, Nat.lt_succ_self a, (a + 1, n + 1, va_up f n (lfE od e (O a) (A a))), ?_, rfl⟩, fun j hj => va_up_ne _ _ (by omega), va_up_self _ _ _⟩
  show mSt O A lf a n f = _
  unfold mSt
  rw [if_pos (legit_lt hl), if_pos (by omega), hlf _ _ hl]
  rfl
theorem Seg_bin {a q k : Nat} {s1 s2 : Sm} (h1 : Seg O A od a q s1) (h2 : Seg O A od q k s2) (h20 : ¬ O k < 20) (h28 : O k < 28) : Seg O A od a (k + 1) (sBin (O k) s1 s2) := by
  have g1 := h1.1
  have g2 := h2.1
  refine ⟨by omega, fun e lf hlf n f hn => ?_⟩
  have r1 := h1.2 e lf hlf n f (by omega)
  unfold sBin
  cases hs1 : s1 e with
  | none =>
    refine ⟨fun v hv => (by simp [hs1] at hv), fun _ => ?_⟩
    obtain ⟨N, y, z, w1, w2, w3, w4⟩ := r1.2 hs1
    exact ⟨N, y, z, Rn_wide (Nat.le_refl _) (by omega) _ _ w1, w2, by omega, w4⟩
  | some x =>
    obtain ⟨N1, f1, w1, w2, w3⟩ := r1.1 x hs1
    have r2 := h2.2 e lf hlf (n + 1) f1 (by omega)
    have w1' := Rn_wide (a' := a) (b' := k + 1) (Nat.le_refl _) (by omega) _ _ w1
    cases hs2 : s2 e with
    | none =>
      refine ⟨fun v hv => (by simp [hs1, hs2] at hv), fun _ => ?_⟩
      obtain ⟨N2, y, z, u1, u2, u3, u4⟩ := r2.2 hs2
      exact ⟨N1 + N2, y, z, Rn_tr (Rn_wide (by omega) (by omega) _ _ u1) _ _ w1', by omega, by omega, u4⟩
    | some y =>
      obtain ⟨N2, f2, u1, u2, u3⟩ := r2.1 y hs2
      have u1' := Rn_tr (Rn_wide (a' := a) (b' := k + 1) (by omega) (by omega) _ _ u1) _ _ w1'
      have en : f2 n = x := (u2 n (by omega)).trans w3
      have est : mSt O A lf k (n + 1 + 1) f2 = some (rkB (O k) x y, k + 1, n + 1, va_up f2 n (rkV (O k) x y)) := by
        unfold mSt
        rw [if_neg h20, if_pos h28, if_pos ⟨by omega, by omega⟩, show n + 1 + 1 - 2 = n by omega, show n + 1 + 1 - 1 = n + 1 by omega, en, u3]
      simp only [hs1, hs2]
      cases hb : rkB (O k) x y with
      | true =>
        refine ⟨fun v hv => by simp at hv, fun _ => ?_⟩
        rw [hb] at est
        exact ⟨N1 + N2, (k, n + 1 + 1, f2), _, u1', show a ≤ k by omega, Nat.lt_succ_self k, est⟩
      | false =>
        refine ⟨fun v hv => ?_, fun hv => by simp at hv⟩
        have ev : rkV (O k) x y = v := by simpa using hv
        rw [hb] at est
        refine ⟨N1 + N2 + 1, va_up f2 n (rkV (O k) x y), Rn_tr (y := (k, n + 1 + 1, f2)) (Rn_1 (by omega) (Nat.lt_succ_self k) est) _ _ u1', fun j hj => ?_, ?_⟩
        · rw [va_up_ne _ _ (by omega), u2 j (by omega), w2 j hj]
        · rw [va_up_self]; exact ev
theorem Seg_not {a k : Nat} {s : Sm} (h1 : Seg O A od a k s) (hO : O k = 28) : Seg O A od a (k + 1) (sNot s) := by
  have g1 := h1.1
  refine ⟨by omega, fun e lf hlf n f hn => ?_⟩
  have r1 := h1.2 e lf hlf n f (by omega)
  unfold sNot
  cases hs1 : s e with
  | none =>
    refine ⟨fun v hv => (by simp [hs1] at hv), fun _ => ?_⟩
    obtain ⟨N, y, z, w1, w2, w3, w4⟩ := r1.2 hs1
    exact ⟨N, y, z, Rn_wide (Nat.le_refl _) (by omega) _ _ w1, w2, by omega, w4⟩
  | some x =>
    obtain ⟨N1, f1, w1, w2, w3⟩ := r1.1 x hs1
    have w1' := Rn_wide (a' := a) (b' := k + 1) (Nat.le_refl _) (by omega) _ _ w1
    refine ⟨fun v hv => ?_, fun hv => (by simp [hs1] at hv)⟩
    simp only [hs1] at hv
    have ev : 1 - x = v := by simpa using hv
    have est : mSt O A lf k (n + 1) f1 = some (false, k + 1, n + 1, va_up f1 n (1 - x)) := by
      unfold mSt
      rw [hO, if_neg (by decide), if_neg (by decide), if_pos rfl, if_pos ⟨by omega, by omega⟩, show n + 1 - 1 = n by omega, w3]
    refine ⟨N1 + 1, va_up f1 n (1 - x), Rn_tr (y := (k, n + 1, f1)) (Rn_1 (by omega) (Nat.lt_succ_self k) est) _ _ w1', fun j hj => ?_, ?_⟩
    · rw [va_up_ne _ _ (by omega), w2 j hj]
    · rw [va_up_self]; exact ev
/-- a leap over what stands behind, if what stands ahead is w -/
def sLeap (w : Int64) (s1 s2 : Sm) : Sm := fun e => match s1 e with
  | none => none
  | some x => if x = w then some x else s2 e
theorem Seg_leap {a b k : Nat} {s1 s2 : Sm} (h1 : Seg O A od a b s1) (h2 : Seg O A od (b + 1) k s2) (hO : O b = 29 ∨ O b = 30) (hA : A b = nI k) (hk : k ≤ 400) : Seg O A od a k (sLeap (if O b = 29 then 0 else 1) s1 s2) := by
  have g1 := h1.1
  have g2 := h2.1
  refine ⟨by omega, fun e lf hlf n f hn => ?_⟩
  have r1 := h1.2 e lf hlf n f (by omega)
  unfold sLeap
  have n20 : ¬ O b < 20 := by rcases hO with q | q <;> rw [q] <;> decide
  have n28 : ¬ O b < 28 := by rcases hO with q | q <;> rw [q] <;> decide
  have e28 : ¬ O b = 28 := by rcases hO with q | q <;> rw [q] <;> decide
  cases hs1 : s1 e with
  | none =>
    refine ⟨fun v hv => (by simp [hs1] at hv), fun _ => ?_⟩
    obtain ⟨N, y, z, w1, w2, w3, w4⟩ := r1.2 hs1
    exact ⟨N, y, z, Rn_wide (Nat.le_refl _) (by omega) _ _ w1, w2, by omega, w4⟩
  | some x =>
    obtain ⟨N1, f1, w1, w2, w3⟩ := r1.1 x hs1
    have w1' := Rn_wide (a' := a) (b' := k) (Nat.le_refl _) (by omega) _ _ w1
    simp only [hs1]
    by_cases hx : x = (if O b = 29 then 0 else 1)
    · rw [if_pos hx]
      refine ⟨fun v hv => ?_, fun hv => by cases hv⟩
      have est : mSt O A lf b (n + 1) f1 = some (false, k, n + 1, f1) := by
        unfold mSt
        rw [if_neg n20, if_neg n28, if_neg e28, if_pos ⟨by omega, by omega⟩, show n + 1 - 1 = n by omega, w3, if_pos hx, hA, if_pos (nI_pos' (by omega)), nI_clamp (by omega)]
      refine ⟨N1 + 1, f1, Rn_tr (y := (b, n + 1, f1)) (Rn_1 (by omega) (by omega) est) _ _ w1', w2, ?_⟩
      rw [w3]; cases hv; rfl
    · rw [if_neg hx]
      have est : mSt O A lf b (n + 1) f1 = some (false, b + 1, n, f1) := by
        unfold mSt
        rw [if_neg n20, if_neg n28, if_neg e28, if_pos ⟨by omega, by omega⟩, show n + 1 - 1 = n by omega, w3, if_neg hx]
      have w1'' := Rn_tr (y := (b, n + 1, f1)) (z := (b + 1, n, f1)) (M := 1) (Rn_1 (by omega) (by omega) est) _ _ w1'
      have r2 := h2.2 e lf hlf n f1 (by omega)
      refine ⟨fun v hv => ?_, fun hv => ?_⟩
      · obtain ⟨N2, f2, u1, u2, u3⟩ := r2.1 v hv
        exact ⟨N1 + 1 + N2, f2, Rn_tr (Rn_wide (by omega) (Nat.le_refl _) _ _ u1) _ _ w1'', fun j hj => (u2 j hj).trans (w2 j hj), u3⟩
      · obtain ⟨N2, y, z, u1, u2, u3, u4⟩ := r2.2 hv
        exact ⟨N1 + 1 + N2, y, z, Rn_tr (Rn_wide (by omega) (Nat.le_refl _) _ _ u1) _ _ w1'', by omega, u3, u4⟩
end SEG
theorem Rn_mRun {O A : Nat → Int32} {lf : Int32 → Int32 → Option Int64} {a b : Nat} {y : Xs} {M : Nat} {r : Bool × Nat × (Nat → Int64)} (hr : mRun O A lf b M y.1 y.2.1 y.2.2 = some r) : ∀ (N : Nat) (x : Xs), Rn O A lf a b N x y → mRun O A lf b (N + M) x.1 x.2.1 x.2.2 = some r
  | 0, x, h1 => by cases h1; rw [Nat.zero_add]; exact hr
  | N + 1, x, h1 => by
    obtain ⟨g1, g2, w, hw, h3⟩ := h1
    rw [Nat.add_right_comm, mRun, if_pos g2, hw]
    exact Rn_mRun hr N w h3
/-- so it is reckoned -/
theorem Seg_mEv {O A : Nat → Int32} {od : Bool} {a b : Nat} {s : Sm} (hs : Seg O A od a b s) (hb : b ≤ 400) {e : Nat → Int64} {lf : Int32 → Int32 → Option Int64} (hlf : LfOK od e lf) (f0 : Nat → Int64) : mEv O A lf a b f0 (s e) := by
  have h1 := hs.2 e lf hlf 0 f0 (by omega)
  cases hv : s e with
  | none =>
    obtain ⟨N, y, z, w1, w2, w3, w4⟩ := h1.2 hv
    obtain ⟨k', n', f'⟩ := z
    refine ⟨N + 1, true, n', f', Rn_mRun (M := 1) ?_ N _ w1, rfl⟩
    rw [mRun, if_pos w3, w4]
  | some v =>
    obtain ⟨N, f', w1, w2, w3⟩ := h1.1 v hv
    refine ⟨N + 0, false, 1, f', Rn_mRun (M := 0) ?_ N _ w1, ?_⟩
    · show mRun O A lf b 0 b (0 + 1) f' = _
      rw [mRun, if_neg (Nat.lt_irrefl b)]
    · rw [if_neg (by decide), if_pos (by decide), w3]
end CODE
