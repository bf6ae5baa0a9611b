/-! what a piece of the class's code means -/
section CCODE
def copO (op : Int32) : Int32 := if op = 43 then 20 else if op = 45 then 21 else if op = 42 then 22 else if op = 47 then 23 else if op = 37 then 24 else if op = 60 then 25 else if op = 62 then 26 else if op = 61 then 27 else 0
def outB (v : Int64) : Bool := !decide (-1000000000 ≤ v ∧ v ≤ 1000000000)
def cSt (O A wd : Nat → Int32) (wl k n : Nat) (f : Nat → Int64) : Option (Bool × Xs) :=
  if O k = 300 then (if n < 50 then some (false, k + 1, n + 1, va_up f n (A k).toInt64) else none)
  else if O k = 303 then (if n < 50 ∧ inN (A k) wl = true then some (false, k + 1, n + 1, va_up f n (wd (A k).toNatClampNeg).toInt64) else none)
  else if O k = 256 ∨ O k = 257 then (if 1 ≤ n ∧ n ≤ 50 then (if (f (n - 1) = 1 ↔ O k = 256) then (if nI (k + 1) ≤ A k then some (false, (A k).toNatClampNeg, n, va_up f (n - 1) (if O k = 256 then 1 else 0)) else none) else some (false, k + 1, n - 1, f)) else none)
  else if O k = 258 then (if 1 ≤ n ∧ n ≤ 50 then some (outB (1 - f (n - 1)), k + 1, n, va_up f (n - 1) (1 - f (n - 1))) else none)
  else if ¬ copO (O k) = 0 then (if 2 ≤ n ∧ n ≤ 50 then some (rkB (copO (O k)) (f (n - 2)) (f (n - 1)), k + 1, n - 1, va_up f (n - 2) (rkV (copO (O k)) (f (n - 2)) (f (n - 1)))) else none) else none
def cRun (O A wd : Nat → Int32) (wl b : Nat) : Nat → Nat → Nat → (Nat → Int64) → Option (Bool × Nat × (Nat → Int64))
  | 0, k, n, f => if k < b then none else some (false, n, f)
  | N + 1, k, n, f => if k < b then (match cSt O A wd wl k n f with
      | none => none
      | some (true, _, n', f') => some (true, n', f')
      | some (false, k', n', f') => cRun O A wd wl b N k' n' f') else some (false, n, f)
section CRN
variable {O A wd : Nat → Int32} {wl : Nat}
def CRn (O A wd : Nat → Int32) (wl a b : Nat) : Nat → Xs → Xs → Prop
  | 0, x, y => x = y
  | N + 1, x, y => a ≤ x.1 ∧ x.1 < b ∧ ∃ z, cSt O A wd wl x.1 x.2.1 x.2.2 = some (false, z) ∧ CRn O A wd wl a b N z y
theorem CRn_tr {a b : Nat} {y z : Xs} {M : Nat} (h2 : CRn O A wd wl a b M y z) : ∀ (N : Nat) (x : Xs), CRn O A wd wl a b N x y → CRn O A wd wl a b (N + M) x z
  | 0, x, h1 => by rw [Nat.zero_add]; cases h1; exact h2
  | N + 1, x, h1 => by
    obtain ⟨g1, g2, w, hw, h3⟩ := h1
    rw [Nat.add_right_comm]
    exact ⟨g1, g2, w, hw, CRn_tr h2 N w h3⟩
theorem CRn_1 {a b k n : Nat} {f : Nat → Int64} {z : Xs} (g1 : a ≤ k) (g2 : k < b) (hz : cSt O A wd wl k n f = some (false, z)) : CRn O A wd wl a b 1 (k, n, f) z := ⟨g1, g2, z, hz, rfl⟩
theorem CRn_wide {a b a' b' : Nat} (ha : a' ≤ a) (hb : b ≤ b') {y : Xs} : ∀ (N : Nat) (x : Xs), CRn O A wd wl a b N x y → CRn O A wd wl a' b' N x y
  | 0, x, h1 => h1
  | N + 1, x, h1 => by
    obtain ⟨g1, g2, w, hw, h3⟩ := h1
    exact ⟨by omega, by omega, w, hw, CRn_wide ha hb N w h3⟩
theorem cSt_cong {O' A' : Nat → Int32} {k n : Nat} {f : Nat → Int64} (hO : O' k = O k) (hA : A' k = A k) : cSt O' A' wd wl k n f = cSt O A wd wl k n f := by
  unfold cSt; rw [hO, hA]
theorem CRn_cong {O' A' : Nat → Int32} {a b : Nat} (hc : ∀ k, a ≤ k → k < b → O' k = O k ∧ A' k = A k) {y : Xs} : ∀ (N : Nat) (x : Xs), CRn O A wd wl a b N x y → CRn O' A' wd wl a b N x y
  | 0, x, h1 => h1
  | N + 1, x, h1 => by
    obtain ⟨g1, g2, w, hw, h3⟩ := h1
    exact ⟨g1, g2, w, by rw [cSt_cong (hc _ g1 g2).1 (hc _ g1 g2).2]; exact hw, CRn_cong hc N w h3⟩
end CRN
/-- the code from a to b, of so many leaves, lays down just what s is -/
def CSeg (O A : Nat → Int32) (wl a b lf : Nat) (s : Sm) : Prop := a < b ∧ 1 ≤ lf ∧ ∀ (e : Nat → Int64) (wd : Nat → Int32), (∀ j, j < wl → e j = (wd j).toInt64) → ∀ n f, n + lf ≤ 50 →
  (∀ v, s e = some v → ∃ N f', CRn O A wd wl a b N (a, n, f) (b, n + 1, f') ∧ (∀ j, j < n → f' j = f j) ∧ f' n = v) ∧
  (s e = none → ∃ N y z, CRn O A wd wl a b N (a, n, f) y ∧ a ≤ y.1 ∧ y.1 < b ∧ cSt O A wd wl y.1 y.2.1 y.2.2 = some (true, z))
def IsT (s : Sm) : Prop := ∀ e v, s e = some v → v = 0 ∨ v = 1
section CSEG
variable {O A : Nat → Int32} {wl : Nat}
theorem CSeg_cong {O' A' : Nat → Int32} {a b lf : Nat} {s : Sm} (hc : ∀ k, a ≤ k → k < b → O' k = O k ∧ A' k = A k) (hs : CSeg O A wl a b lf s) : CSeg O' A' wl a b lf s := by
  refine ⟨hs.1, hs.2.1, fun e wd hwd n f hn => ⟨fun v hv => ?_, fun hv => ?_⟩⟩
  · obtain ⟨N, f', h1, h2, h3⟩ := (hs.2.2 e wd hwd n f hn).1 v hv
    exact ⟨N, f', CRn_cong hc _ _ h1, h2, h3⟩
  · obtain ⟨N, y, z, h1, g1, g2, h2⟩ := (hs.2.2 e wd hwd n f hn).2 hv
    exact ⟨N, y, z, CRn_cong hc _ _ h1, g1, g2, by rw [cSt_cong (hc _ g1 g2).1 (hc _ g1 g2).2]; exact h2⟩
theorem CSeg_num {a : Nat} {s : Sm} (hO : O a = 300) (hs : ∀ e, s e = some (A a).toInt64) : CSeg O A wl a (a + 1) 1 s := by
  refine ⟨Nat.lt_succ_self a, Nat.le_refl _, fun e wd _ n f hn => ⟨fun v hv => ?_, fun hv => by rw [hs e] at hv; cases hv⟩⟩
  rw [hs e] at hv
  cases hv
  refine ⟨1, va_up f n (A a).toInt64, CRn_1 (Nat.le_refl _) (Nat.lt_succ_self a) ?_, fun j hj => va_up_ne _ _ (by omega), va_up_self _ _ _⟩
  unfold cSt
  rw [if_pos hO, if_pos (by omega)]
theorem CSeg_word {a w : Nat} {s : Sm} (hO : O a = 303) (hA : A a = nI w) (hw : w < wl) (hwl : wl < 2 ^ 31) (hs : ∀ e, s e = some (e w)) : CSeg O A wl a (a + 1) 1 s := by
  refine ⟨Nat.lt_succ_self a, Nat.le_refl _, fun e wd hwd n f hn => ⟨fun v hv => ?_, fun hv => by rw [hs e] at hv; cases hv⟩⟩
  rw [hs e] at hv
  cases hv
  refine ⟨1, va_up f n (e w), CRn_1 (Nat.le_refl _) (Nat.lt_succ_self a) ?_, fun j hj => va_up_ne _ _ (by omega), va_up_self _ _ _⟩
  unfold cSt
  rw [if_neg (by rw [hO]; decide), if_pos hO, hA, if_pos ⟨by omega, by rw [inN_nI (by omega)]; exact decide_eq_true hw⟩, nI_clamp (by omega), hwd w hw]
theorem cop_no {op : Int32} (hc : ¬ copO op = 0) : ¬ op = 300 ∧ ¬ op = 303 ∧ ¬ (op = 256 ∨ op = 257) ∧ ¬ op = 258 := by
  refine ⟨fun z => hc (by rw [z]; decide), fun z => hc (by rw [z]; decide), fun z => ?_, fun z => hc (by rw [z]; decide)⟩
  rcases z with z | z <;> exact hc (by rw [z]; decide)
theorem CSeg_bin {a q k l1 l2 : Nat} {s1 s2 : Sm} (h1 : CSeg O A wl a q l1 s1) (h2 : CSeg O A wl q k l2 s2) (hc : ¬ copO (O k) = 0) : CSeg O A wl a (k + 1) (l1 + l2) (sBin (copO (O k)) s1 s2) := by
  have g1 := h1.1
  have g2 := h2.1
  have p1 := h1.2.1
  obtain ⟨n1, n2, n3, n4⟩ := cop_no hc
  refine ⟨by omega, by omega, fun e wd hwd n f hn => ?_⟩
  have r1 := h1.2.2 e wd hwd n f (by omega)
  unfold sBin
  cases hs1 : s1 e with
  | none =>
    refine ⟨fun v hv => (by simp [hs1] at hv), fun _ => ?_⟩
    obtain ⟨N, y, z, w1, w2, w3, w4⟩ := r1.2 hs1
    exact ⟨N, y, z, CRn_wide (Nat.le_refl _) (by omega) _ _ w1, w2, by omega, w4⟩
  | some x =>
    obtain ⟨N1, f1, w1, w2, w3⟩ := r1.1 x hs1
    have r2 := h2.2.2 e wd hwd (n + 1) f1 (by omega)
    have w1' := CRn_wide (a' := a) (b' := k + 1) (Nat.le_refl _) (by omega) _ _ w1
    cases hs2 : s2 e with
    | none =>
      refine ⟨fun v hv => (by simp [hs1, hs2] at hv), fun _ => ?_⟩
      obtain ⟨N2, y, z, u1, u2, u3, u4⟩ := r2.2 hs2
      exact ⟨N1 + N2, y, z, CRn_tr (CRn_wide (by omega) (by omega) _ _ u1) _ _ w1', by omega, by omega, u4⟩
    | some y =>
      obtain ⟨N2, f2, u1, u2, u3⟩ := r2.1 y hs2
      have u1' := CRn_tr (CRn_wide (a' := a) (b' := k + 1) (by omega) (by omega) _ _ u1) _ _ w1'
      have en : f2 n = x := (u2 n (by omega)).trans w3
      have p2 := h2.2.1
      have est : cSt O A wd wl k (n + 1 + 1) f2 = some (rkB (copO (O k)) x y, k + 1, n + 1, va_up f2 n (rkV (copO (O k)) x y)) := by
        unfold cSt
        rw [if_neg n1, if_neg n2, if_neg n3, if_neg n4, if_pos hc, if_pos ⟨by omega, by omega⟩, show n + 1 + 1 - 2 = n by omega, show n + 1 + 1 - 1 = n + 1 by omega, en, u3]
      simp only [hs1, hs2]
      cases hb : rkB (copO (O k)) x y with
      | true =>
        refine ⟨fun v hv => by simp at hv, fun _ => ?_⟩
        rw [hb] at est
        exact ⟨N1 + N2, (k, n + 1 + 1, f2), _, u1', show a ≤ k by omega, Nat.lt_succ_self k, est⟩
      | false =>
        refine ⟨fun v hv => ?_, fun hv => by simp at hv⟩
        have ev : rkV (copO (O k)) x y = v := by simpa using hv
        rw [hb] at est
        refine ⟨N1 + N2 + 1, va_up f2 n (rkV (copO (O k)) x y), CRn_tr (y := (k, n + 1 + 1, f2)) (CRn_1 (by omega) (Nat.lt_succ_self k) est) _ _ u1', fun j hj => ?_, ?_⟩
        · rw [va_up_ne _ _ (by omega), u2 j (by omega), w2 j hj]
        · rw [va_up_self]; exact ev
theorem CSeg_not {a k lf : Nat} {s : Sm} (h1 : CSeg O A wl a k lf s) (hO : O k = 258) (hT : IsT s) : CSeg O A wl a (k + 1) lf (sNot s) := by
  have g1 := h1.1
  have p1 := h1.2.1
  refine ⟨by omega, p1, fun e wd hwd n f hn => ?_⟩
  have r1 := h1.2.2 e wd hwd n f (by omega)
  unfold sNot
  cases hs1 : s e with
  | none =>
    refine ⟨fun v hv => (by simp [hs1] at hv), fun _ => ?_⟩
    obtain ⟨N, y, z, w1, w2, w3, w4⟩ := r1.2 hs1
    exact ⟨N, y, z, CRn_wide (Nat.le_refl _) (by omega) _ _ w1, w2, by omega, w4⟩
  | some x =>
    obtain ⟨N1, f1, w1, w2, w3⟩ := r1.1 x hs1
    have w1' := CRn_wide (a' := a) (b' := k + 1) (Nat.le_refl _) (by omega) _ _ w1
    refine ⟨fun v hv => ?_, fun hv => (by simp [hs1] at hv)⟩
    simp only [hs1] at hv
    have ev : 1 - x = v := by simpa using hv
    have hout : outB (1 - x) = false := by rcases hT e x hs1 with rfl | rfl <;> decide
    have est : cSt O A wd wl k (n + 1) f1 = some (false, k + 1, n + 1, va_up f1 n (1 - x)) := by
      unfold cSt
      rw [hO, if_neg (by decide), if_neg (by decide), if_neg (by decide), if_pos rfl, if_pos ⟨by omega, by omega⟩, show n + 1 - 1 = n by omega, w3, hout]
    refine ⟨N1 + 1, va_up f1 n (1 - x), CRn_tr (y := (k, n + 1, f1)) (CRn_1 (by omega) (Nat.lt_succ_self k) est) _ _ w1', fun j hj => ?_, ?_⟩
    · rw [va_up_ne _ _ (by omega), w2 j hj]
    · rw [va_up_self]; exact ev
theorem CSeg_leap {a b k l1 l2 : Nat} {s1 s2 : Sm} (h1 : CSeg O A wl a b l1 s1) (h2 : CSeg O A wl (b + 1) k l2 s2) (hO : O b = 256 ∨ O b = 257) (hA : A b = nI k) (hk : k < 2 ^ 31) (hT : IsT s1) : CSeg O A wl a k (l1 + l2) (sLeap (if O b = 257 then 0 else 1) s1 s2) := by
  have g1 := h1.1
  have g2 := h2.1
  have p1 := h1.2.1
  refine ⟨by omega, by omega, fun e wd hwd n f hn => ?_⟩
  have r1 := h1.2.2 e wd hwd n f (by omega)
  unfold sLeap
  have n1 : ¬ O b = 300 := by rcases hO with q | q <;> rw [q] <;> decide
  have n2 : ¬ O b = 303 := by rcases hO with q | q <;> rw [q] <;> decide
  cases hs1 : s1 e with
  | none =>
    refine ⟨fun v hv => (by simp [hs1] at hv), fun _ => ?_⟩
    obtain ⟨N, y, z, w1, w2, w3, w4⟩ := r1.2 hs1
    exact ⟨N, y, z, CRn_wide (Nat.le_refl _) (by omega) _ _ w1, w2, by omega, w4⟩
  | some x =>
    obtain ⟨N1, f1, w1, w2, w3⟩ := r1.1 x hs1
    have w1' := CRn_wide (a' := a) (b' := k) (Nat.le_refl _) (by omega) _ _ w1
    have hx01 := hT e x hs1
    have hiff : (x = 1 ↔ O b = 256) ↔ x = (if O b = 257 then 0 else 1) := by
      rcases hO with q | q <;> rw [q] <;> rcases hx01 with rfl | rfl <;> decide
    simp only [hs1]
    by_cases hx : x = (if O b = 257 then 0 else 1)
    · rw [if_pos hx]
      refine ⟨fun v hv => ?_, fun hv => by cases hv⟩
      have etop : (if O b = 256 then (1 : Int64) else 0) = x := by
        rw [hx]; rcases hO with q | q <;> rw [q] <;> decide
      have est : cSt O A wd wl b (n + 1) f1 = some (false, k, n + 1, va_up f1 n x) := by
        unfold cSt
        rw [if_neg n1, if_neg n2, if_pos hO, if_pos ⟨by omega, by omega⟩, show n + 1 - 1 = n by omega, w3, if_pos (hiff.mpr hx), hA, if_pos (nI_le (by omega) hk), nI_clamp hk, etop]
      refine ⟨N1 + 1, va_up f1 n x, CRn_tr (y := (b, n + 1, f1)) (CRn_1 (by omega) (by omega) est) _ _ w1', fun j hj => ?_, ?_⟩
      · rw [va_up_ne _ _ (by omega), w2 j hj]
      · rw [va_up_self]; cases hv; rfl
    · rw [if_neg hx]
      have est : cSt O A wd wl b (n + 1) f1 = some (false, b + 1, n, f1) := by
        unfold cSt
        rw [if_neg n1, if_neg n2, if_pos hO, if_pos ⟨by omega, by omega⟩, show n + 1 - 1 = n by omega, w3, if_neg (fun z => hx (hiff.mp z))]
      have w1'' := CRn_tr (y := (b, n + 1, f1)) (z := (b + 1, n, f1)) (M := 1) (CRn_1 (by omega) (by omega) est) _ _ w1'
      have r2 := h2.2.2 e wd hwd n f1 (by omega)
      refine ⟨fun v hv => ?_, fun hv => ?_⟩
      · obtain ⟨N2, f2, u1, u2, u3⟩ := r2.1 v hv
        exact ⟨N1 + 1 + N2, f2, CRn_tr (CRn_wide (by omega) (Nat.le_refl _) _ _ u1) _ _ w1'', fun j hj => (u2 j hj).trans (w2 j hj), u3⟩
      · obtain ⟨N2, y, z, u1, u2, u3, u4⟩ := r2.2 hv
        exact ⟨N1 + 1 + N2, y, z, CRn_tr (CRn_wide (by omega) (Nat.le_refl _) _ _ u1) _ _ w1'', by omega, u3, u4⟩
end CSEG
theorem CRn_run {O A wd : Nat → Int32} {wl a b : Nat} {y : Xs} {M : Nat} {r : Bool × Nat × (Nat → Int64)} (hr : cRun O A wd wl b M y.1 y.2.1 y.2.2 = some r) : ∀ (N : Nat) (x : Xs), CRn O A wd wl a b N x y → cRun O A wd wl b (N + M) x.1 x.2.1 x.2.2 = some r
  | 0, x, h1 => by cases h1; rw [Nat.zero_add]; exact hr
  | N + 1, x, h1 => by
    obtain ⟨g1, g2, w, hw, h3⟩ := h1
    rw [Nat.add_right_comm, cRun, if_pos g2, hw]
    exact CRn_run hr N w h3
/-- what reckoning comes to -/
def cVal (q : Option Int64) : Int64 := q.getD (-9223372036854775808)
theorem CSeg_run {O A : Nat → Int32} {wl a b lf : Nat} {s : Sm} (hs : CSeg O A wl a b lf s) (h50 : lf ≤ 50) {e : Nat → Int64} {wd : Nat → Int32} (hwd : ∀ j, j < wl → e j = (wd j).toInt64) (f0 : Nat → Int64) : ∃ N bk n' f', cRun O A wd wl b N a 0 f0 = some (bk, n', f') ∧ (if bk = true then -9223372036854775808 else if 0 < n' then f' 0 else 1) = cVal (s e) := by
  have h1 := hs.2.2 e wd hwd 0 f0 (by omega)
  cases hv : s e with
  | none =>
    obtain ⟨N, y, z, w1, w2, w3, w4⟩ := h1.2 hv
    obtain ⟨k', n', f'⟩ := z
    refine ⟨N + 1, true, n', f', CRn_run (M := 1) ?_ N _ w1, rfl⟩
    rw [cRun, if_pos w3, w4]
  | some v =>
    obtain ⟨N, f', w1, w2, w3⟩ := h1.1 v hv
    refine ⟨N + 0, false, 1, f', CRn_run (M := 0) ?_ N _ w1, ?_⟩
    · show cRun O A wd wl b 0 b (0 + 1) f' = _
      rw [cRun, if_neg (Nat.lt_irrefl b)]
    · rw [if_neg (by decide), if_pos (by decide), w3]; rfl
theorem cRun_step {O A wd : Nat → Int32} {wl b N k n : Nat} {f : Nat → Int64} {r : Bool × Nat × (Nat → Int64)} (hk : k < b) (hr : cRun O A wd wl b N k n f = some r) : ∃ N' q k2 n2 f2, cSt O A wd wl k n f = some (q, k2, n2, f2) ∧ (q = true → r = (true, n2, f2)) ∧ (q = false → cRun O A wd wl b N' k2 n2 f2 = some r ∧ N' + 1 = N) := by
  cases N with
  | zero => rw [cRun, if_pos hk] at hr; cases hr
  | succ N =>
    rw [cRun, if_pos hk] at hr
    cases hc : cSt O A wd wl k n f with
    | none => rw [hc] at hr; cases hr
    | some z =>
      obtain ⟨q, k2, n2, f2⟩ := z
      rw [hc] at hr
      refine ⟨N, q, k2, n2, f2, rfl, fun hq => ?_, fun hq => ?_⟩
      · subst hq; exact (Option.some.inj hr).symm
      · subst hq; exact ⟨hr, rfl⟩
theorem cRun_end {O A wd : Nat → Int32} {wl b N k n : Nat} {f : Nat → Int64} {r : Bool × Nat × (Nat → Int64)} (hk : ¬ k < b) (hr : cRun O A wd wl b N k n f = some r) : r = (false, n, f) := by
  cases N with
  | zero => rw [cRun, if_neg hk] at hr; exact (Option.some.inj hr).symm
  | succ N => rw [cRun, if_neg hk] at hr; exact (Option.some.inj hr).symm
end CCODE
