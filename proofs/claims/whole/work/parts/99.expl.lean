/-! what explains a row of doings: the two ways come to the same -/
section EXPL
variable {r : Nat → Int32} {fo : Option (List Cl)} {k y li : Nat}
theorem dfN_sub {a b : Nat} : subN (dfN a b) a := fun i hi z => by
  rw [dfN_bit hi] at z
  cases hc : a.testBit i with
  | true => rfl
  | false => rw [hc] at z; cases z
theorem dfN_df {a b : Nat} (hb : b < 512) (hs : subN b a) : dfN a (dfN a b) = b ∨ ¬ a < 512 := by
  by_cases ha : a < 512
  · left
    apply set_ext (dfN_lt ha) hb
    intro i hi
    rw [dfN_bit hi, dfN_bit hi]
    have := hs i hi
    cases h1 : a.testBit i <;> cases h2 : b.testBit i
    · rfl
    · rw [h1, h2] at this; exact absurd (this rfl) (by decide)
    · rfl
    · rfl
  · exact Or.inr ha
theorem dfN_z {a : Nat} (ha : a < 512) : dfN a 0 = a := set_ext (dfN_lt ha) ha (fun i hi => by rw [dfN_bit hi, Nat.zero_testBit]; cases a.testBit i <;> rfl)
theorem pc_0 : pcN 0 9 = 0 := by decide
theorem pc_n0 {T : Nat} (hT : T < 512) (h0 : ¬ T = 0) : 1 ≤ pcN T 9 := by
  obtain ⟨i, hi, hb⟩ := set_ne hT h0
  exact pc_pos T hT i hi hb
theorem o8 {t : Nat} (ht : t < 512) (h8 : pcN t 9 ≤ 8) : (8 : Int32) - onesN (nI t) 9 = nI (8 - pcN t 9) := by
  rw [onesN_pc ht 9 (Nat.le_refl _)]
  exact nI_sub (a := 8) h8
/-- what is known of a place that is reached -/
def LNf (y li j q : Nat) : Prop := ∃ yt l, q = 9 * yt + l ∧ l < 9 ∧ yt < 512 ∧ subN yt y ∧ pcN y 9 < j + pcN yt 9 ∧ (yt = y → l = li) ∧ (¬ yt = y → y.testBit l = true ∧ yt.testBit l = false)
theorem LN_1 (hli : li < 9) {q : Nat} : LN r fo k (9 * y + li) 1 q ↔ (9 * y + li < 4608 ∧ q = 9 * y + li ∧ shP r fo k 0 li (8 - onesN (nI y) 9)) := by
  have q1 : (9 * y + li) / 9 = y := by omega
  have q2 : (9 * y + li) % 9 = li := by omega
  show LayP r fo k 0 (LN r fo k (9 * y + li) 0) q ↔ _
  constructor
  · rintro ⟨i, hi, hP, hcb⟩
    have hi0 : i = 9 * y + li := hP
    subst hi0
    rcases hcb with ⟨h1, h2⟩ | ⟨h1, _⟩
    · rw [q1, q2] at h2; exact ⟨hi, h1, h2⟩
    · omega
  · rintro ⟨h0, h1, h2⟩
    exact ⟨9 * y + li, h0, rfl, Or.inl ⟨h1, by rw [q1, q2]; exact h2⟩⟩
theorem LN_f (hy : y < 511) (hli : li < 9) : ∀ j, ∀ q, LN r fo k (9 * y + li) (j + 1) q → LNf y li (j + 1) q
  | 0, q, h => by
    obtain ⟨-, e, -⟩ := (LN_1 hli).mp h
    exact ⟨y, li, e, hli, by omega, fun _ _ z => z, by omega, fun _ => rfl, fun z => absurd rfl z⟩
  | j + 1, q, h => by
    obtain ⟨i, hi, hP, hcb⟩ := h
    obtain ⟨ya, la, e, hla, hya, hs, hpc, hn1, hn2⟩ := LN_f hy hli j i hP
    have q1 : i / 9 = ya := by omega
    have q2 : i % 9 = la := by omega
    rcases hcb with ⟨h1, h2⟩ | ⟨-, t, ht, hb, hsh, hq⟩
    · exact ⟨ya, la, by omega, hla, hya, hs, by omega, hn1, hn2⟩
    · rw [q1] at hb hq
      have hbit := sb9 ya hya t ht hb
      have hpc2 := pc_sb ya hya t ht hb
      have hle : ya - 2 ^ t ≤ ya := Nat.sub_le _ _
      refine ⟨ya - 2 ^ t, t, hq, ht, by omega, fun x hx z => ?_, by omega, fun z => ?_, fun _ => ⟨hs t ht hb, ?_⟩⟩
      · rw [hbit x hx] at z
        refine hs x hx ?_
        cases hc : ya.testBit x with
        | true => rfl
        | false => rw [hc] at z; cases z
      · have := hbit t ht
        rw [z, hs t ht hb, decide_eq_true rfl, hb] at this
        cases this
      · rw [hbit t ht, decide_eq_true rfl, hb]; rfl
/-- one doing more, at a set taken -/
theorem LN_s (hy : y < 511) (hli : li < 9) {j T l : Nat} (hT : T < 512) (hs : subN T y) (hl : l < 9) : LN r fo k (9 * y + li) (j + 1 + 1) (9 * dfN y T + l) ↔ (shP r fo k (j + 1) l (nI (8 - pcN (dfN y T) 9)) ∧ (LN r fo k (9 * y + li) (j + 1) (9 * dfN y T + l) ∨ (T.testBit l = true ∧ ∃ l', l' < 9 ∧ LN r fo k (9 * y + li) (j + 1) (9 * dfN y (T - 2 ^ l) + l')))) := by
  have hdl : dfN y T < 512 := dfN_lt (by omega)
  have hp8 := pc_le8 y hy
  have hpd := pc_df hs 9 (Nat.le_refl _)
  have q1 : (9 * dfN y T + l) / 9 = dfN y T := by omega
  have q2 : (9 * dfN y T + l) % 9 = l := by omega
  constructor
  · rintro ⟨i, hi, hP, hcb⟩
    obtain ⟨ya, la, e, hla, hya, hsa, hpc, hn1, hn2⟩ := LN_f hy hli j i hP
    have w1 : i / 9 = ya := by omega
    have w2 : i % 9 = la := by omega
    rcases hcb with ⟨h1, h2⟩ | ⟨-, t, ht, hb, hsh, hq⟩
    · rw [← h1, q1, q2, o8 hdl (by omega)] at h2
      refine ⟨h2, Or.inl ?_⟩
      rw [h1]; exact hP
    · rw [w1] at hb hq hsh
      have hpc2 := pc_sb ya hya t ht hb
      have e1 : dfN y T = ya - 2 ^ t := by omega
      have e2 : l = t := by omega
      subst e2
      have hbit := sb9 ya hya l ht hb
      have hyl := hsa l ht hb
      have hTl : T.testBit l = true := by
        have h1 := dfN_bit (a := y) (b := T) hl
        rw [e1, hbit l hl, hb, decide_eq_true rfl, hyl] at h1
        cases hc : T.testBit l with
        | true => rfl
        | false => rw [hc] at h1; cases h1
      have eya : ya = dfN y (T - 2 ^ l) := by
        apply set_ext hya (dfN_lt (by omega))
        intro x hx
        rw [dfN_bit hx, sb9 T hT l hl hTl x hx]
        have h1 := dfN_bit (a := y) (b := T) hx
        rw [e1, hbit x hx] at h1
        by_cases hxl : x = l
        · rw [hxl, hb, hyl, decide_eq_true rfl]; cases T.testBit l <;> rfl
        · rw [decide_eq_false hxl] at h1 ⊢
          cases h2 : ya.testBit x <;> cases h3 : y.testBit x <;> cases h4 : T.testBit x <;> rw [h2, h3, h4] at h1 <;> first | rfl | cases h1
      refine ⟨?_, Or.inr ⟨hTl, la, hla, by rw [← eya, ← e]; exact hP⟩⟩
      rw [o8 hya (by have := pc_df hsa 9 (Nat.le_refl _); omega)] at hsh
      rw [e1, show 8 - pcN (ya - 2 ^ l) 9 = 8 - pcN ya 9 + 1 by have := pc_df hsa 9 (Nat.le_refl _); omega, ← nI_1]
      exact hsh
  · rintro ⟨hsh, hor⟩
    rcases hor with hP | ⟨hTl, l', hl', hP⟩
    · refine ⟨9 * dfN y T + l, by omega, hP, Or.inl ⟨rfl, ?_⟩⟩
      rw [q1, q2, o8 hdl (by omega)]; exact hsh
    · have hle : T - 2 ^ l ≤ T := Nat.sub_le _ _
      have hyl := hs l hl hTl
      have hbT := sb9 T hT l hl hTl
      have hd2 : dfN y (T - 2 ^ l) < 512 := dfN_lt (by omega)
      have w1 : (9 * dfN y (T - 2 ^ l) + l') / 9 = dfN y (T - 2 ^ l) := by omega
      have hb : (dfN y (T - 2 ^ l)).testBit l = true := by rw [dfN_bit hl, hbT l hl, hyl, decide_eq_true rfl]; cases T.testBit l <;> rfl
      have hbit := sb9 _ hd2 l hl hb
      have e1 : dfN y (T - 2 ^ l) - 2 ^ l = dfN y T := by
        apply set_ext (Nat.lt_of_le_of_lt (Nat.sub_le _ _) hd2) hdl
        intro x hx
        rw [hbit x hx, dfN_bit hx, dfN_bit hx, hbT x hx]
        by_cases hxl : x = l
        · rw [hxl, hTl, decide_eq_true rfl]; cases y.testBit l <;> rfl
        · rw [decide_eq_false hxl]; cases y.testBit x <;> cases T.testBit x <;> rfl
      have hpc2 := pc_sb _ hd2 l hl hb
      rw [e1] at hpc2
      refine ⟨9 * dfN y (T - 2 ^ l) + l', by omega, hP, Or.inr ⟨by omega, l, hl, ?_, ?_, ?_⟩⟩
      · rw [w1]; exact hb
      · have h9 := pc_df (a := y) (b := T - 2 ^ l) (fun x hx z => by
          rw [hbT x hx] at z
          refine hs x hx ?_
          cases hc : T.testBit x with
          | true => rfl
          | false => rw [hc] at z; cases z) 9 (Nat.le_refl _)
        rw [w1, o8 hd2 (by omega), nI_1, show 8 - pcN (dfN y (T - 2 ^ l)) 9 + 1 = 8 - pcN (dfN y T) 9 by omega]; exact hsh
      · rw [w1, e1]
/-- what the class has laid down behind j doings -/
def LaI (r : Nat → Int32) (fo : Option (List Cl)) (k y li j : Nat) (g : Nat → Int32) : Prop := (∀ T, T < 512 → subN T y → ∃ S, S < 512 ∧ g T = nI S ∧ ∀ l, l < 9 → (S.testBit l = true ↔ LN r fo k (9 * y + li) j (9 * dfN y T + l))) ∧ ∀ T, T < 512 → ¬ subN T y → g T = 0
theorem LaI.ne {j : Nat} {g : Nat → Int32} (hI : LaI r fo k y li j g) {T : Nat} (hT : T < 512) (hs : subN T y) : ¬ g T = 0 ↔ ∃ l, l < 9 ∧ LN r fo k (9 * y + li) j (9 * dfN y T + l) := by
  obtain ⟨S, hS, e, hb⟩ := hI.1 T hT hs
  rw [e]
  constructor
  · intro z
    obtain ⟨l, hl, hbl⟩ := set_ne hS (fun w => z (by rw [w]; rfl))
    exact ⟨l, hl, (hb l hl).mp hbl⟩
  · rintro ⟨l, hl, hP⟩ z
    have h1 := (hb l hl).mpr hP
    rw [(nI_z (by omega)).mp z, Nat.zero_testBit] at h1
    cases h1
def FtP (r : Nat → Int32) (fo : Option (List Cl)) (k y li sg : Nat) (F : Nat → Int32) : Prop := ∀ t j, t ≤ pcN y 9 → t ≤ j → j < sg → SetIs (F (8 * t + j)) 9 (shB r fo k j (nI (8 - pcN y 9 + t)) (if t = 0 then 2 ^ li else y))
theorem sub_0 : subN 0 y := fun i _ z => by rw [Nat.zero_testBit] at z; cases z
theorem LaI_1 (hy : y < 511) (hli : li < 9) {sg : Nat} {F g : Nat → Int32} (hsg : 0 < sg) (hF : FtP r fo k y li sg F) (hg : ∀ T, T < 512 → g T = 0) : LaI r fo k y li 1 (va_up g 0 (F 0)) := by
  have hp8 := pc_le8 y hy
  refine ⟨fun T hT hs => ?_, fun T hT hs => ?_⟩
  · by_cases h0 : T = 0
    · subst h0
      obtain ⟨S, hS, e, hb⟩ := hF 0 0 (by omega) (by omega) hsg
      refine ⟨S, hS, by rw [va_up_self]; exact e, fun l hl => ?_⟩
      rw [hb l hl, decide_eq_true hl, Bool.true_and, dfN_z (by omega), LN_1 hli, o8 (by omega) hp8]
      unfold shB shP
      rw [if_pos rfl, Nat.testBit_two_pow, Nat.add_zero]
      constructor
      · intro z
        rw [Bool.and_eq_true] at z
        have z1 : li = l := of_decide_eq_true z.1
        subst z1
        exact ⟨by omega, rfl, of_decide_eq_true z.2⟩
      · rintro ⟨-, z1, z2⟩
        have z3 : li = l := by omega
        subst z3
        rw [decide_eq_true rfl, decide_eq_true z2]; rfl
    · refine ⟨0, by decide, by rw [va_up_ne _ _ h0]; exact hg T hT, fun l hl => ?_⟩
      rw [Nat.zero_testBit, LN_1 hli]
      refine ⟨fun z => absurd z (by decide), fun z => ?_⟩
      have h1 : dfN y T = y := by omega
      have h2 := pc_df hs 9 (Nat.le_refl _)
      have h3 := pc_n0 hT h0
      rw [h1] at h2
      omega
  · rw [va_up_ne _ _ (fun z => hs (by rw [z]; exact sub_0))]; exact hg T hT
theorem LaI_s (hy : y < 511) (hli : li < 9) {sg j : Nat} {F g : Nat → Int32} (hj : j + 1 < sg) (hF : FtP r fo k y li sg F) (hI : LaI r fo k y li (j + 1) g) : LaI r fo k y li (j + 1 + 1) (va_up (dgF F g y (j + 1) 0) 0 (g 0 &&& F (j + 1))) := by
  have hp8 := pc_le8 y hy
  refine ⟨fun T hT hs => ?_, fun T hT hs => ?_⟩
  · obtain ⟨S, hS, eS, hSb⟩ := hI.1 T hT hs
    have hpd := pc_df hs 9 (Nat.le_refl _)
    by_cases h0 : T = 0
    · subst h0
      obtain ⟨A, hA, eA, hAb⟩ := hF 0 (j + 1) (by omega) (by omega) hj
      rw [Nat.mul_zero, Nat.zero_add] at eA
      simp only [Nat.add_zero] at hAb
      refine ⟨S &&& A, Nat.lt_of_le_of_lt Nat.and_le_left hS, by rw [va_up_self, eS, eA, and_nI], fun l hl => ?_⟩
      rw [Nat.testBit_and, Bool.and_eq_true, hSb l hl, hAb l hl, decide_eq_true hl, Bool.true_and, LN_s hy hli hT hs hl]
      unfold shB shP
      rw [dfN_z (by omega), if_pos trivial, Nat.testBit_two_pow, Nat.zero_testBit]
      constructor
      · rintro ⟨z1, z2⟩
        rw [Bool.and_eq_true] at z2
        exact ⟨of_decide_eq_true z2.2, Or.inl z1⟩
      · rintro ⟨z1, z2 | z2⟩
        · obtain ⟨yt, l2, e, hl2, -, -, -, hn1, -⟩ := LN_f hy hli j _ z2
          have e1 : yt = y := by omega
          have e2 : l2 = l := by omega
          refine ⟨z2, ?_⟩
          rw [decide_eq_true z1, decide_eq_true (show li = l by rw [← e2]; exact (hn1 e1).symm)]; rfl
        · cases z2.1
    · have hle := sub_le hT (by omega) hs
      have hpT := pc_n0 hT h0
      have eg : va_up (dgF F g y (j + 1) 0) 0 (g 0 &&& F (j + 1)) T = (F (8 * pcN T 9 + (j + 1)) &&& nI T) &&& (g T ||| nwN g T 9) := by
        rw [va_up_ne _ _ h0]; unfold dgF; rw [if_pos ⟨by omega, hle, by omega, (dfN_0 hT).mpr hs⟩]
      rw [eg]
      obtain ⟨N, hN, eN, hNb⟩ := nwN_set (g := g) (T := T) 9 (Nat.le_refl _)
      have hsub : ∀ l, l < 9 → T.testBit l = true → subN (T - 2 ^ l) y := fun l hl hb x hx z => by
        rw [sb9 T hT l hl hb x hx] at z
        refine hs x hx ?_
        cases hc : T.testBit x with
        | true => rfl
        | false => rw [hc] at z; cases z
      by_cases hjT : pcN T 9 ≤ j + 1
      · obtain ⟨A, hA, eA, hAb⟩ := hF (pcN T 9) (j + 1) (by omega) hjT hj
        rw [if_neg (by omega)] at hAb
        refine ⟨(A &&& T) &&& (S ||| N), Nat.lt_of_le_of_lt Nat.and_le_left (Nat.lt_of_le_of_lt Nat.and_le_left hA), by rw [eA, eS, eN, and_nI, or_nI, and_nI], fun l hl => ?_⟩
        rw [LN_s hy hli hT hs hl, Nat.testBit_and, Nat.testBit_and, Nat.testBit_or, hAb l hl, hNb l hl, decide_eq_true hl, Bool.true_and, Bool.true_and, show 8 - pcN (dfN y T) 9 = 8 - pcN y 9 + pcN T 9 by omega]
        unfold shB shP
        simp only [Bool.and_eq_true, Bool.or_eq_true, decide_eq_true_eq]
        rw [hSb l hl]
        constructor
        · rintro ⟨⟨⟨-, z2⟩, z3⟩, z4⟩
          refine ⟨z2, z4.imp id (fun z => ⟨z3, ?_⟩)⟩
          exact (hI.ne (Nat.lt_of_le_of_lt (Nat.sub_le _ _) hT) (hsub l hl z3)).mp z.2
        · rintro ⟨z1, z2⟩
          have hTl : T.testBit l = true := by
            rcases z2 with z | z
            · obtain ⟨yt, l2, e, hl2, -, -, -, -, hn2⟩ := LN_f hy hli j _ z
              have e1 : yt = dfN y T := by omega
              have e2 : l2 = l := by omega
              have hne : ¬ yt = y := fun w => by rw [← e1, w] at hpd; omega
              obtain ⟨v1, v2⟩ := hn2 hne
              rw [e1, e2, dfN_bit hl] at v2
              rw [e2] at v1
              rw [v1] at v2
              cases hc : T.testBit l with
              | true => rfl
              | false => rw [hc] at v2; cases v2
            · exact z.1
          refine ⟨⟨⟨hs l hl hTl, z1⟩, hTl⟩, z2.imp id (fun z => ⟨hTl, ?_⟩)⟩
          exact (hI.ne (Nat.lt_of_le_of_lt (Nat.sub_le _ _) hT) (hsub l hl hTl)).mpr z.2
      · have hno : ∀ l, l < 9 → ¬ LN r fo k (9 * y + li) (j + 1) (9 * dfN y T + l) := fun l hl z => by
          obtain ⟨yt, l2, e, hl2, -, -, hpc, -, -⟩ := LN_f hy hli j _ z
          have e1 : yt = dfN y T := by omega
          rw [e1] at hpc; omega
        have hS0 : S = 0 := set_ext hS (by decide) (fun l hl => by
          rw [Nat.zero_testBit]
          cases hc : S.testBit l with
          | false => rfl
          | true => exact absurd ((hSb l hl).mp hc) (hno l hl))
        have hN0 : N = 0 := set_ext hN (by decide) (fun l hl => by
          rw [Nat.zero_testBit, hNb l hl, decide_eq_true hl, Bool.true_and]
          show (T.testBit l && decide (¬ g (T - 2 ^ l) = 0)) = false
          cases hb : T.testBit l with
          | false => rfl
          | true =>
            have h9 := hsub l hl hb
            have hpd2 := pc_df h9 9 (Nat.le_refl _)
            have hpc2 := pc_sb T hT l hl hb
            rw [decide_eq_false (fun z => ?_)]
            · rfl
            · obtain ⟨l', hl', hP⟩ := (hI.ne (Nat.lt_of_le_of_lt (Nat.sub_le _ _) hT) h9).mp z
              obtain ⟨yt, l2, e, hl2, -, -, hpc, -, -⟩ := LN_f hy hli j _ hP
              have e1 : yt = dfN y (T - 2 ^ l) := by omega
              rw [e1] at hpc; omega)
        refine ⟨0, by decide, ?_, fun l hl => ⟨fun z => absurd z (by rw [Nat.zero_testBit]; decide), fun z => ?_⟩⟩
        · rw [eS, eN, hS0, hN0]
          show _ &&& (0 ||| 0 : Int32) = 0
          rw [Int32.or_zero, Int32.and_zero]
        · obtain ⟨yt, l2, e, hl2, -, -, hpc, -, -⟩ := LN_f hy hli (j + 1) _ z
          have e1 : yt = dfN y T := by omega
          rw [e1] at hpc; omega
  · have h0 : ¬ T = 0 := fun z => hs (by rw [z]; exact sub_0)
    rw [va_up_ne _ _ h0]
    unfold dgF
    rw [if_neg (fun z => hs ((dfN_0 hT).mp z.2.2.2))]
    exact hI.2 T hT hs
/-- the least of some numbers; none: -1 -/
def Lst (Q : Nat → Prop) (v : Int32) : Prop := (v = -1 ∧ ∀ s, ¬ Q s) ∨ ∃ s, s ≤ 100 ∧ v = nI s ∧ Q s ∧ ∀ s', Q s' → s ≤ s'
theorem Lst.eq {Q Q' : Nat → Prop} {v w : Int32} (h1 : Lst Q v) (h2 : Lst Q' w) (hq : ∀ s, Q s ↔ Q' s) : v = w := by
  rcases h1 with ⟨e1, n1⟩ | ⟨s, -, e1, a1, b1⟩
  · rcases h2 with ⟨e2, -⟩ | ⟨s, -, -, a2, -⟩
    · rw [e1, e2]
    · exact absurd ((hq s).mpr a2) (n1 s)
  · rcases h2 with ⟨-, n2⟩ | ⟨s', -, e2, a2, b2⟩
    · exact absurd ((hq s).mp a1) (n2 s)
    · rw [e1, e2, Nat.le_antisymm (b1 s' ((hq s').mpr a2)) (b2 s ((hq s).mp a1))]
theorem exN_mn {P : Nat → Prop} {b : Nat} (hb : b ≤ 20) (hP : ∀ i, P i → i < 4608 ∧ pcN (i / 9) 9 ≤ b) : ∀ n, n ≤ 4608 → (exN P (nI b) n = 100000000 ∧ ∀ i, i < n → ¬ P i) ∨ ∃ s, s ≤ b ∧ exN P (nI b) n = nI s ∧ (∃ i, i < n ∧ P i ∧ s = b - pcN (i / 9) 9) ∧ ∀ i, i < n → P i → s ≤ b - pcN (i / 9) 9
  | 0, _ => Or.inl ⟨rfl, fun i hi => by omega⟩
  | n + 1, hn => by
    have ih := exN_mn hb hP n (by omega)
    by_cases hp : P n
    · obtain ⟨-, hpc⟩ := hP n hp
      have ev : nI b - onesN (nI (n / 9)) 9 = nI (b - pcN (n / 9) 9) := by rw [onesN_pc (by omega) 9 (Nat.le_refl _), nI_sub hpc]
      rcases ih with ⟨e, hno⟩ | ⟨s, hs, e, ⟨i, hi, hPi, es⟩, hmin⟩
      · right
        refine ⟨b - pcN (n / 9) 9, by omega, ?_, ⟨n, by omega, hp, rfl⟩, fun i hi hPi => ?_⟩
        · rw [exN_y ⟨hp, by rw [ev, e]; exact nI_lt (b := 100000000) (by omega) (by decide)⟩, ev]
        · rcases Nat.lt_or_ge i n with z | z
          · exact absurd hPi (hno i z)
          · rw [show i = n by omega]; exact Nat.le_refl _
      · right
        by_cases hlt : b - pcN (n / 9) 9 < s
        · refine ⟨b - pcN (n / 9) 9, by omega, ?_, ⟨n, by omega, hp, rfl⟩, fun i hi hPi => ?_⟩
          · rw [exN_y ⟨hp, by rw [ev, e]; exact nI_lt hlt (by omega)⟩, ev]
          · rcases Nat.lt_or_ge i n with z | z
            · have := hmin i z hPi; omega
            · rw [show i = n by omega]; exact Nat.le_refl _
        · refine ⟨s, hs, ?_, ⟨i, by omega, hPi, es⟩, fun i hi hPi => ?_⟩
          · rw [exN_n (fun z => by rw [ev, e] at z; exact absurd z.2 (nI_nlt (by omega) (by omega)))]; exact e
          · rcases Nat.lt_or_ge i n with z | z
            · exact hmin i z hPi
            · rw [show i = n by omega]; omega
    · rw [exN_n (fun z => hp z.1)]
      rcases ih with ⟨e, hno⟩ | ⟨s, hs, e, ⟨i, hi, hPi, es⟩, hmin⟩
      · refine Or.inl ⟨e, fun i hi => ?_⟩
        rcases Nat.lt_or_ge i n with z | z
        · exact hno i z
        · rw [show i = n by omega]; exact hp
      · refine Or.inr ⟨s, hs, e, ⟨i, by omega, hPi, es⟩, fun i hi hPi => ?_⟩
        rcases Nat.lt_or_ge i n with z | z
        · exact hmin i z hPi
        · rw [show i = n by omega] at hPi; exact absurd hPi hp
/-- the reference's fewest is the least -/
theorem exV_mn (hy : y < 511) (hli : li < 9) (eli : r (8 + k) = nI li) (ey : r (14 + k) = nI y) {sg : Nat} (hsg : 0 < sg) : Lst (fun s => ∃ T, T < 512 ∧ subN T y ∧ (∃ l, l < 9 ∧ LN r fo k (9 * y + li) sg (9 * dfN y T + l)) ∧ s = 1 + pcN T 9) (if exV r fo k sg = 100000000 then -1 else exV r fo k sg) := by
  have hp8 := pc_le8 y hy
  obtain ⟨j, rfl⟩ : ∃ j, sg = j + 1 := ⟨sg - 1, by omega⟩
  have e0 : exV r fo k (j + 1) = exN (LN r fo k (9 * y + li) (j + 1)) (nI (1 + pcN y 9)) 4608 := by
    unfold exV
    rw [ey, eli, nI_clamp (by omega), nI_clamp (by omega), onesN_pc (by omega) 9 (Nat.le_refl _), show (1 : Int32) = nI 1 from rfl, nI_add]
  rw [e0]
  have hP : ∀ i, LN r fo k (9 * y + li) (j + 1) i → i < 4608 ∧ pcN (i / 9) 9 ≤ 1 + pcN y 9 := fun i hi => by
    obtain ⟨yt, l, e, hl, hyt, hs, -, -, -⟩ := LN_f hy hli j i hi
    have := pc_df hs 9 (Nat.le_refl _)
    rw [show i / 9 = yt by omega]
    omega
  rcases exN_mn (by omega) hP 4608 (Nat.le_refl _) with ⟨e, hno⟩ | ⟨s, hs, e, ⟨i, hi, hPi, es⟩, hmin⟩
  · rw [e, if_pos rfl]
    refine Or.inl ⟨rfl, ?_⟩
    rintro s ⟨T, hT, hsT, ⟨l, hl, hPl⟩, -⟩
    exact hno _ (by have := dfN_lt (a := y) (b := T) (by omega); omega) hPl
  · rw [e, if_neg (fun z => by have := nI_inj (b := 100000000) (by omega) (by decide) z; omega)]
    refine Or.inr ⟨s, by omega, rfl, ?_, ?_⟩
    · obtain ⟨yt, l, ei, hl, hyt, hs2, -, -, -⟩ := LN_f hy hli j i hPi
      have hpd := pc_df hs2 9 (Nat.le_refl _)
      have hdd : dfN y (dfN y yt) = yt := (dfN_df hyt hs2).resolve_right (by omega)
      refine ⟨dfN y yt, dfN_lt (by omega), dfN_sub, ⟨l, hl, by rw [hdd, ← ei]; exact hPi⟩, ?_⟩
      rw [es, show i / 9 = yt by omega]
      omega
    · rintro s' ⟨T, hT, hsT, ⟨l, hl, hPl⟩, es'⟩
      have hpd := pc_df hsT 9 (Nat.le_refl _)
      have hdl := dfN_lt (a := y) (b := T) (by omega)
      have := hmin _ (by omega) hPl
      rw [show (9 * dfN y T + l) / 9 = dfN y T by omega] at this
      omega
end EXPL
