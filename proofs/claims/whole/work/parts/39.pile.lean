/-! the pile and the code so far; the reader as a machine over tokens -/
section PILE
abbrev PE : Type := Int32 × Sm
/-- the pile as it lies, and where the code of what comes next begins -/
def PL (O A P T : Nat → Int32) (od : Bool) (c0 : Nat) : List PE → Nat → Prop
  | [], q => q = c0
  | x :: r, q => P r.length = x.1 ∧ ∃ a, PL O A P T od c0 r a ∧ (if x.1 = 29 ∨ x.1 = 30 then ∃ b, b < 400 ∧ T r.length = nI b ∧ O b = x.1 ∧ Seg O A od a b x.2 ∧ q = b + 1 else if (28 : Int32) ≤ x.1 then q = a else ¬ x.1 < 20 ∧ Seg O A od a q x.2)
theorem PL_le {O A P T : Nat → Int32} {od : Bool} {c0 : Nat} : ∀ (pl : List PE) (q : Nat), PL O A P T od c0 pl q → c0 ≤ q
  | [], q, h => by cases h; exact Nat.le_refl _
  | x :: r, q, h => by
    obtain ⟨_, a, h1, h2⟩ := h
    have := PL_le r a h1
    split at h2
    · obtain ⟨b, _, _, _, hs, rfl⟩ := h2
      have := hs.1; omega
    · split at h2
      · omega
      · have := h2.2.1; omega
theorem PL_cong {O A P T O' A' P' T' : Nat → Int32} {od : Bool} {c0 : Nat} : ∀ (pl : List PE) (q : Nat), (∀ k, c0 ≤ k → k < q → O' k = O k ∧ (A' k = A k ∨ ∀ (x : PE) (r : List PE) (b : Nat), False)) → (∀ k, k < pl.length → P' k = P k ∧ T' k = T k) → PL O A P T od c0 pl q → PL O' A' P' T' od c0 pl q
  | [], q, _, _, h => h
  | x :: r, q, hc, hp, h => by
    have hc2 : ∀ k, c0 ≤ k → k < q → O' k = O k ∧ A' k = A k := fun k h1 h2 => ⟨(hc k h1 h2).1, (hc k h1 h2).2.resolve_right (fun z => z x r 0)⟩
    obtain ⟨h0, a, h1, h2⟩ := h
    have ha := PL_le r a h1
    refine ⟨(hp r.length (Nat.lt_succ_self _)).1.trans h0, a, ?_, ?_⟩
    · refine PL_cong r a (fun k g1 g2 => hc k g1 ?_) (fun k hk => hp k (Nat.lt_succ_of_lt hk)) h1
      split at h2
      · obtain ⟨b, _, _, _, hs, rfl⟩ := h2
        have := hs.1; omega
      · split at h2
        · omega
        · have := h2.2.1; omega
    · split
      · next he =>
        rw [if_pos he] at h2
        obtain ⟨b, hb, ht, ho, hs, rfl⟩ := h2
        have := hs.1
        exact ⟨b, hb, (hp r.length (Nat.lt_succ_self _)).2.trans ht, (hc2 b (by omega) (by omega)).1.trans ho, Seg_cong (fun k g1 g2 => hc2 k (by omega) (by omega)) hs, rfl⟩
      · next he =>
        rw [if_neg he] at h2
        split
        · next h28 => rw [if_pos h28] at h2; exact h2
        · next h28 =>
          rw [if_neg h28] at h2
          exact ⟨h2.1, Seg_cong (fun k g1 g2 => hc2 k (by omega) (by omega)) h2.2⟩
theorem PL_cg {O A P T O' A' P' T' : Nat → Int32} {od : Bool} {c0 : Nat} {pl : List PE} {q : Nat} (hc : ∀ k, c0 ≤ k → k < q → O' k = O k ∧ A' k = A k) (hp : ∀ k, k < pl.length → P' k = P k ∧ T' k = T k) (h : PL O A P T od c0 pl q) : PL O' A' P' T' od c0 pl q :=
  PL_cong pl q (fun k h1 h2 => ⟨(hc k h1 h2).1, Or.inl (hc k h1 h2).2⟩) hp h
/-- taken from the pile -/
def cmb (x : PE) (s : Sm) : Sm := if x.1 = 29 ∨ x.1 = 30 then sLeap (if x.1 = 29 then 0 else 1) x.2 s else if x.1 = 28 then sNot s else sBin x.1 x.2 s
def stlA (least : Int32) : List PE → Sm → List PE × Sm
  | [], s => ([], s)
  | x :: r, s => if bndF x.1 < least then (x :: r, s) else stlA least r (cmb x s)
theorem bnd_31 {x least : Int32} (h1 : 0 < least) (hb : ¬ bndF x < least) : ¬ (31 : Int32) ≤ x := by
  intro z
  unfold bndF at hb
  rw [if_pos z] at hb
  exact hb h1
theorem i32_28 {x : Int32} (h31 : ¬ (31 : Int32) ≤ x) (h29 : ¬ (x = 29 ∨ x = 30)) (h28 : (28 : Int32) ≤ x) : x = 28 := by
  rw [fa_le] at h31 h28
  have e31 : (31 : Int32).toInt = 31 := by decide
  have e28 : (28 : Int32).toInt = 28 := by decide
  rw [e31] at h31
  rw [e28] at h28
  have n29 : x.toInt ≠ 29 := fun z => h29 (Or.inl (Int32.toInt_inj.mp (z.trans (by decide))))
  have n30 : x.toInt ≠ 30 := fun z => h29 (Or.inr (Int32.toInt_inj.mp (z.trans (by decide))))
  exact Int32.toInt_inj.mp (show x.toInt = 28 by omega)
theorem stl_sem {P T : Nat → Int32} {od : Bool} {c0 : Nat} {least : Int32} (hl : 0 < least) : ∀ (pl : List PE) (q k : Nat) (s : Sm) (O A : Nat → Int32), PL O A P T od c0 pl q → Seg O A od q k s → k + pndN P pl.length ≤ 400 →
    (stl P T least pl.length k O A).1 = (stlA least pl s).1.length ∧ (stlA least pl s).1.length ≤ pl.length ∧ (stl P T least pl.length k O A).2.1 + pndN P (stl P T least pl.length k O A).1 ≤ k + pndN P pl.length ∧
    (∀ j, j < c0 → (stl P T least pl.length k O A).2.2.1 j = O j ∧ (stl P T least pl.length k O A).2.2.2 j = A j) ∧
    ∃ q', PL (stl P T least pl.length k O A).2.2.1 (stl P T least pl.length k O A).2.2.2 P T od c0 (stlA least pl s).1 q' ∧ Seg (stl P T least pl.length k O A).2.2.1 (stl P T least pl.length k O A).2.2.2 od q' (stl P T least pl.length k O A).2.1 (stlA least pl s).2
  | [], q, k, s, O, A, hpl, hseg, hk => ⟨rfl, Nat.le_refl _, Nat.le_refl _, fun _ _ => ⟨rfl, rfl⟩, q, hpl, hseg⟩
  | x :: r, q, k, s, O, A, hpl, hseg, hk => by
    obtain ⟨h0, a, h1, h2⟩ := id hpl
    have ha := PL_le r a h1
    have hq := PL_le _ q hpl
    have hqk := hseg.1
    rw [List.length_cons, stl, stlA, h0]
    rw [List.length_cons, pndN, h0] at hk
    by_cases hb : bndF x.1 < least
    · rw [if_pos hb, if_pos hb]
      refine ⟨rfl, Nat.le_refl _, ?_, fun _ _ => ⟨rfl, rfl⟩, q, hpl, hseg⟩
      exact Nat.le_refl _
    · rw [if_neg hb, if_neg hb]
      have h31 := bnd_31 hl hb
      by_cases hao : x.1 = 29 ∨ x.1 = 30
      · rw [if_pos hao] at h2 hk
        rw [if_pos hao]
        obtain ⟨b, hb4, hT, hO, hs, rfl⟩ := h2
        have hab := hs.1
        rw [hT, nI_clamp (by omega)]
        have hsg : Seg O (va_up A b (nI k)) od a k (cmb x s) := by
          have h3 := Seg_leap (O := O) (A := va_up A b (nI k)) (od := od) (s1 := x.2) (s2 := s) (a := a) (b := b) (k := k) (Seg_cong (fun j g1 g2 => ⟨rfl, va_up_ne _ _ (by omega)⟩) hs) (Seg_cong (fun j g1 g2 => ⟨rfl, va_up_ne _ _ (by omega)⟩) hseg) (by rw [hO]; exact hao) (va_up_self _ _ _) (by omega)
          rw [hO] at h3
          unfold cmb; rw [if_pos hao]; exact h3
        have hpl2 : PL O (va_up A b (nI k)) P T od c0 r a := PL_cg (fun j g1 g2 => ⟨rfl, va_up_ne _ _ (by omega)⟩) (fun _ _ => ⟨rfl, rfl⟩) h1
        obtain ⟨r1, r2, r3, r4, r5⟩ := stl_sem hl r a k (cmb x s) O (va_up A b (nI k)) hpl2 hsg (by omega)
        refine ⟨r1, by omega, ?_, fun j hj => ?_, r5⟩
        · rw [pndN, h0, if_pos hao]; omega
        · exact ⟨(r4 j hj).1, (r4 j hj).2.trans (va_up_ne _ _ (by omega))⟩
      · rw [if_neg hao] at h2 hk
        rw [if_neg hao]
        have hsg : Seg (va_up O k x.1) (va_up A k 0) od a (k + 1) (cmb x s) ∧ a ≤ q := by
          unfold cmb
          rw [if_neg hao]
          have hcg : ∀ {u v : Nat} {w : Sm}, Seg O A od u v w → v ≤ k → Seg (va_up O k x.1) (va_up A k 0) od u v w := fun hw hv => Seg_cong (fun j g1 g2 => ⟨va_up_ne _ _ (by omega), va_up_ne _ _ (by omega)⟩) hw
          by_cases h28 : (28 : Int32) ≤ x.1
          · rw [if_pos h28] at h2
            have e28 := i32_28 h31 hao h28
            rw [if_pos e28]
            subst h2
            exact ⟨Seg_not (hcg hseg (Nat.le_refl _)) (by rw [va_up_self]; exact e28), Nat.le_refl _⟩
          · rw [if_neg h28] at h2
            have e28 : ¬ x.1 = 28 := fun z => h28 (by rw [z]; decide)
            rw [if_neg e28]
            have h3 := Seg_bin (O := va_up O k x.1) (A := va_up A k 0) (od := od) (hcg h2.2 (by omega)) (hcg hseg (Nat.le_refl _)) (by rw [va_up_self]; exact h2.1) (by rw [va_up_self]; exact Int32.not_le.mp h28)
            rw [va_up_self] at h3
            exact ⟨h3, Nat.le_of_lt h2.2.1⟩
        have hpl2 : PL (va_up O k x.1) (va_up A k 0) P T od c0 r a := PL_cg (fun j g1 g2 => ⟨va_up_ne _ _ (by omega), va_up_ne _ _ (by omega)⟩) (fun _ _ => ⟨rfl, rfl⟩) h1
        obtain ⟨r1, r2, r3, r4, r5⟩ := stl_sem hl r a (k + 1) (cmb x s) _ _ hpl2 hsg.1 (by omega)
        refine ⟨r1, by omega, ?_, fun j hj => ?_, r5⟩
        · rw [pndN, h0, if_neg hao]; omega
        · exact ⟨(r4 j hj).1.trans (va_up_ne _ _ (by omega)), (r4 j hj).2.trans (va_up_ne _ _ (by omega))⟩
/-! the machine -/
def innA : List PE → Int32
  | [] => -1
  | x :: r => if (31 : Int32) ≤ x.1 then x.1 else innA r
def cmpA : List PE → Bool
  | [] => false
  | x :: r => if (20 : Int32) ≤ x.1 ∧ x.1 ≤ 24 then cmpA r else decide ((25 : Int32) ≤ x.1 ∧ x.1 ≤ 27)
theorem PL_inn {O A P T : Nat → Int32} {od : Bool} {c0 : Nat} : ∀ (pl : List PE) (q : Nat), PL O A P T od c0 pl q → innN P pl.length = innA pl
  | [], q, _ => rfl
  | x :: r, q, h => by
    obtain ⟨h0, a, h1, _⟩ := h
    rw [List.length_cons, innN, innA, h0, PL_inn r a h1]
theorem PL_cmp {O A P T : Nat → Int32} {od : Bool} {c0 : Nat} : ∀ (pl : List PE) (q : Nat), PL O A P T od c0 pl q → cmpN P pl.length = cmpA pl
  | [], q, _ => rfl
  | x :: r, q, h => by
    obtain ⟨h0, a, h1, _⟩ := h
    rw [List.length_cons, cmpN, cmpA, h0, PL_cmp r a h1]
theorem PL_T {O A P T : Nat → Int32} {od : Bool} {c0 : Nat} : ∀ (pl : List PE) (q : Nat), PL O A P T od c0 pl q → ∀ x, x < pl.length → (P x = 29 ∨ P x = 30) → ∃ t, t < 400 ∧ T x = nI t
  | [], q, _, x, hx, _ => absurd hx (Nat.not_lt_zero _)
  | y :: r, q, h, x, hx, he => by
    obtain ⟨h0, a, h1, h2⟩ := h
    rw [List.length_cons] at hx
    by_cases hxr : x = r.length
    · subst hxr
      rw [h0] at he
      rw [if_pos he] at h2
      obtain ⟨b, hb, ht, _⟩ := h2
      exact ⟨b, hb, ht⟩
    · exact PL_T r a h1 x (by omega) he
theorem pndN_cong {P P' : Nat → Int32} : ∀ p, (∀ k, k < p → P' k = P k) → pndN P' p = pndN P p
  | 0, _ => rfl
  | p + 1, h => by rw [pndN, pndN, h p (Nat.lt_succ_self p), pndN_cong p (fun k hk => h k (Nat.lt_succ_of_lt hk))]
theorem pndN_up {P : Nat → Int32} {p : Nat} {x : Int32} : pndN (va_up P p x) (p + 1) = pndN P p + (if x = 29 ∨ x = 30 then 0 else 1) := by
  rw [pndN, va_up_self, pndN_cong p (fun k hk => va_up_ne _ _ (by omega))]
theorem pndN_mono {P : Nat → Int32} : ∀ {p q : Nat}, p ≤ q → pndN P p ≤ pndN P q
  | p, 0, h => by rw [show p = 0 by omega]; exact Nat.le_refl _
  | p, q + 1, h => by
    by_cases hp : p = q + 1
    · rw [hp]; exact Nat.le_refl _
    · rw [pndN]; have := pndN_mono (P := P) (show p ≤ q by omega); omega
def sZ : Sm := fun _ => none
/-- turn, token, leaves, brackets open, the pile, what was read -/
abbrev AS : Type := Int32 × Nat × Nat × Nat × List PE × Sm
def opnA (x tn : Int32) (i lv op : Nat) (pl : List PE) : Option (Nat ⊕ AS) := if op < 8 then some (.inr (tn, i + 1, lv, op + 1, (x, sZ) :: pl, sZ)) else some (.inl i)
def prtA (wl wo : Nat → Int64) (od : Bool) (t : Tk) : Int32 := if od = true then ptN wo t 7 else ptN wl t 8
def digB (t : Tk) : Bool := decide (t.2.2.1 = 2 ∧ t.2.2.2 ≤ 1000)
section MACHINE
variable (wl wo : Nat → Int64) (od : Bool) (tks : Nat → Tk)
def rpA (i lv op : Nat) (pl : List PE) : Option (Nat ⊕ AS) :=
  if tS (tks i) 91 = true then opnA 32 1 i lv op pl
  else if (¬ prtA wl wo od (tks i) = -1 ∨ digB (tks i) = true) ∧ lv < 50 then
    (if od = true ∧ (5 : Int32) ≤ prtA wl wo od (tks i) then (if numB (tks (i + 1)) 0 (if prtA wl wo od (tks i) = 7 then 2 else 5) = true then some (.inr (3, i + 2, lv + 1, op, pl, sLf od (prtA wl wo od (tks i)) (tks (i + 1)).2.2.2.toInt32)) else some (.inl (i + 1)))
     else some (.inr (3, i + 1, lv + 1, op, pl, sLf od (if prtA wl wo od (tks i) = -1 then 0 else prtA wl wo od (tks i)) (if digB (tks i) = true then (tks i).2.2.2.toInt32 else 0))))
  else some (.inl i)
def rplA (i lv op : Nat) (pl : List PE) : Option (Nat ⊕ AS) :=
  if tW (tks i) 14836 = true then some (.inr (0, i + 1, lv, op, (28, sZ) :: pl, sZ))
  else if tS (tks i) 40 = true then opnA 31 0 i lv op pl else rpA wl wo od tks i lv op pl
def sgnA (t : Tk) : Int32 := if tS t 43 = true then 20 else if tS t 45 = true then 21 else if tS t 42 = true then 22 else if tS t 47 = true then 23 else if tS t 37 = true then 24 else -1
def cmsA (t : Tk) : Int32 := if tS t 60 = true then 25 else if tS t 62 = true then 26 else 27
def clsA (tn : Int32) (i lv op : Nat) (R : List PE × Sm) : Option (Nat ⊕ AS) := match R.1 with
  | [] => none
  | x :: r => if (31 : Int32) ≤ x.1 ∧ 0 < op then some (.inr (tn, i + 1, lv, op - 1, r, R.2)) else none
def bsA (test : Bool) (i lv op : Nat) (pl : List PE) (s : Sm) : Option (Nat ⊕ AS) :=
  if ¬ sgnA (tks i) = -1 then some (.inr (1, i + 1, lv, op, (sgnA (tks i), (stlA (bndF (sgnA (tks i))) pl s).2) :: (stlA (bndF (sgnA (tks i))) pl s).1, sZ))
  else if innA pl = 32 then (if tS (tks i) 93 = true then clsA 3 i lv op (stlA 5 pl s) else some (.inl i))
  else if innA pl = -1 ∧ test = false then some (.inr (4, i, lv, op, pl, s))
  else if cmpA pl = true then some (.inr (2, i, lv, op, pl, s))
  else if ¬ cmsA (tks i) = 27 ∨ tS (tks i) 61 = true then some (.inr (1, i + 1, lv, op, (cmsA (tks i), (stlA 5 pl s).2) :: (stlA 5 pl s).1, sZ))
  else some (.inl i)
def btA (i lv op : Nat) (pl : List PE) (s : Sm) : Option (Nat ⊕ AS) :=
  if tW (tks i) 1476 = true then some (.inr (0, i + 1, lv, op, (29, (stlA 2 pl s).2) :: (stlA 2 pl s).1, sZ))
  else if tW (tks i) 498 = true then some (.inr (0, i + 1, lv, op, (30, (stlA 1 pl s).2) :: (stlA 1 pl s).1, sZ))
  else if innA pl = -1 then some (.inr (4, i, lv, op, pl, s))
  else if tS (tks i) 41 = true then clsA 2 i lv op (stlA 1 pl s) else some (.inl i)
def asS (test : Bool) (st : AS) : Option (Nat ⊕ AS) :=
  if st.1 = 0 then rplA wl wo od tks st.2.1 st.2.2.1 st.2.2.2.1 st.2.2.2.2.1
  else if st.1 = 1 then rpA wl wo od tks st.2.1 st.2.2.1 st.2.2.2.1 st.2.2.2.2.1
  else if st.1 = 3 then bsA tks test st.2.1 st.2.2.1 st.2.2.2.1 st.2.2.2.2.1 st.2.2.2.2.2
  else btA tks st.2.1 st.2.2.1 st.2.2.2.1 st.2.2.2.2.1 st.2.2.2.2.2
def asR (test : Bool) : Nat → AS → Option (Nat ⊕ AS)
  | 0, st => if st.1 = 4 then some (.inr st) else none
  | N + 1, st => if st.1 = 4 then some (.inr st) else match asS wl wo od tks test st with
    | none => none
    | some (.inl j) => some (.inl j)
    | some (.inr st') => asR test N st'
end MACHINE
end PILE
