/-! the relation between the class's heap and the reference's memory: ports and their laws -/
section REL
variable {E : En} {h h1 : Hp} {x p : Nat} {r r' : Nat → Int32}
theorem mRun_cong {O A O' A' : Nat → Int32} {lf : Int32 → Int32 → Option Int64} {b : Nat} (hc : ∀ k, k < b → O' k = O k ∧ A' k = A k) : ∀ (N k n : Nat) (f : Nat → Int64), mRun O' A' lf b N k n f = mRun O A lf b N k n f
  | 0, _, _, _ => rfl
  | N + 1, k, n, f => by
    unfold mRun
    by_cases hk : k < b
    · rw [if_pos hk, if_pos hk, mSt_cong (hc k hk).1 (hc k hk).2]
      cases mSt O A lf k n f with
      | none => rfl
      | some y =>
        obtain ⟨bk, k', n', f'⟩ := y
        cases bk with
        | true => rfl
        | false => exact mRun_cong hc N k' n' f'
    · rw [if_neg hk, if_neg hk]
theorem mEv_cong {O A O' A' : Nat → Int32} {lf : Int32 → Int32 → Option Int64} {a b : Nat} {f0 : Nat → Int64} {v : Option Int64} (hc : ∀ k, k < b → O' k = O k ∧ A' k = A k) (hm : mEv O A lf a b f0 v) : mEv O' A' lf a b f0 v := by
  obtain ⟨N, bk, n', f', h1, h2⟩ := hm
  exact ⟨N, bk, n', f', (mRun_cong hc N a 0 f0).trans h1, h2⟩
theorem LawOK.cg {i : Nat} {cls : List Cl} (hl : LawOK r i cls) (hh : ∀ j, 50 + 900 * i ≤ j → j < 50 + 900 * i + 900 → r' j = r j) : LawOK r' i cls := by
  obtain ⟨h6, h12, hlen, hcl⟩ := hl
  refine ⟨h6, h12, (hh _ (by omega) (by omega)).trans hlen, fun q d hq => ?_⟩
  have hq12 : q < 12 := by
    rcases Nat.lt_or_ge q cls.length with z | z
    · omega
    · rw [List.getElem?_eq_none z] at hq; cases hq
  obtain ⟨a3, a4, a5, a6, b3, b4, b5, b6, e0, e3, e4, e5, e6, hif, hsum⟩ := hcl q d hq
  refine ⟨a3, a4, a5, a6, b3, b4, b5, b6, (hh _ (by omega) (by omega)).trans e0, (hh _ (by omega) (by omega)).trans e3, (hh _ (by omega) (by omega)).trans e4, (hh _ (by omega) (by omega)).trans e5, (hh _ (by omega) (by omega)).trans e6, ?_, fun hn e f0 => ?_⟩
  · cases hd : d.2.1 with
    | none => rw [hd] at hif; exact hif
    | some s =>
      rw [hd] at hif
      exact ⟨hif.1, fun e f0 => mEv_cong (fun k hk => ⟨hh _ (by omega) (by omega), hh _ (by omega) (by omega)⟩) (hif.2 e f0)⟩
  · exact mEv_cong (fun k hk => ⟨hh _ (by omega) (by omega), hh _ (by omega) (by omega)⟩) (hsum hn e f0)
/-- a port's laws: what they mean in both -/
def LwS (E : En) (h : Hp) (x p : Nat) (r : Nat → Int32) (nl : Nat) : Prop := (∀ i, i < nl → ∃ cls t nn, LawOK r i cls ∧ hR h (p + 9) i = some t ∧ x + 135 < t ∧ LwT E h t nn cls) ∧ ∀ i, i < 6 → ∀ t, hR h (p + 9) i = some t → x + 135 < t ∧ isA E h t 10
/-- a row of the reference's, within its bounds -/
def RwG (r : Nat → Int32) (nc ns nl sg : Nat) : Prop := RwOK r nc ns ∧ (r 3 = nI nl ∧ nl ≤ 6) ∧ (r 2 = nI sg ∧ sg ≤ 8) ∧ (r 4 = -1 ∨ ∃ f, f < nl ∧ r 4 = nI f) ∧ Gn r
/-- a port of the class is a row of the reference's -/
def PoR (E : En) (h : Hp) (x p : Nat) (r : Nat → Int32) : Prop := PtV h p r ∧ ∃ nc ns nl sg, RwG r nc ns nl sg ∧ LwS E h x p r nl
theorem law_at {nl : Nat} (hl : LwS E h x p r nl) (hl6 : nl ≤ 6) {c : Int32} (hc : c = -1 ∨ ∃ f, f < nl ∧ c = nI f) : ∃ lw fo, (inN c nl = true → hR h (p + 9) c.toNatClampNeg = lw) ∧ (inN c nl = false → lw = none) ∧ FoL E h x fo lw ∧ (match fo with | none => c = -1 | some cls => ∃ i, c = nI i ∧ LawOK r i cls) := by
  rcases hc with rfl | ⟨f, hf, rfl⟩
  · have hn : inN (-1) nl = false := by
      unfold inN
      exact decide_eq_false (fun z => absurd z.1 (by decide))
    exact ⟨none, none, fun z => by (rw [hn] at z; cases z), fun _ => rfl, rfl, rfl⟩
  · obtain ⟨cls, t, nn, h1, h2, h3, h4⟩ := hl.1 f hf
    have hy : inN (nI f) nl = true := by rw [inN_nI (by omega)]; exact decide_eq_true hf
    exact ⟨some t, some cls, fun _ => by rw [nI_clamp (by omega)]; exact h2, fun z => by (rw [hy] at z; cases z), ⟨t, nn, rfl, h3, h4⟩, f, rfl, h1⟩
theorem PoR.lv (hc : CS E h x) (hp : PoR E h x (x + 3) r) : ∃ nc ns nl sg lw fo, RwG r nc ns nl sg ∧ LwS E h x (x + 3) r nl ∧ Lv E h x r nc ns nl lw fo ∧ FoOK r fo := by
  obtain ⟨hv, nc, ns, nl, sg, hg, hl⟩ := hp
  obtain ⟨lw, fo, a1, a2, a3, a4⟩ := law_at hl hg.2.1.2 hg.2.2.2.1
  refine ⟨nc, ns, nl, sg, lw, fo, hg, hl, ⟨hc, hv, hg.1, hg.2.1, ⟨a1, a2⟩, a3⟩, ?_⟩
  cases fo with
  | none => exact a4
  | some cls => exact a4
theorem LwS.fr {S : Nat → Nat → Prop} {nl : Nat} (hl : LwS E h x p r nl) (f : Fr S h h1) (q1 : ∀ i, ¬ S (p + 9) i) (q2 : ∀ t nn i k, txS E h t nn → x + 135 < t → i ≤ 5 → ¬ S (t + i) k) : LwS E h1 x p r nl := by
  refine ⟨fun i hi => ?_, fun i hi t ht => ?_⟩
  · obtain ⟨cls, t, nn, a1, a2, a3, a4⟩ := hl.1 i hi
    exact ⟨cls, t, nn, a1, (f.R (q1 i)).trans a2, a3, a4.fr f (fun j k hj => q2 t nn j k a4.1 a3 hj)⟩
  · rw [f.R (q1 i)] at ht
    obtain ⟨a1, a2⟩ := hl.2 i hi t ht
    exact ⟨a1, a2.fr f⟩
theorem LwS.cg {nl : Nat} (hl : LwS E h x p r nl) (hl6 : nl ≤ 6) (hh : ∀ j, 50 ≤ j → j < 5450 → r' j = r j) : LwS E h x p r' nl := by
  refine ⟨fun i hi => ?_, hl.2⟩
  obtain ⟨cls, t, nn, a1, a2, a3, a4⟩ := hl.1 i hi
  exact ⟨cls, t, nn, a1.cg (fun j h1 h2 => hh j (by omega) (by omega)), a2, a3, a4⟩
theorem tx_pt {t n : Nat} (ht : txS E h t n) (hp : ptS E h p) : t + 5 < p ∨ p + 9 < t := by
  obtain ⟨t0, t1, t2, t3, t4, t5⟩ := ht
  obtain ⟨p0, p1, p2, p3, p4, p5, p6, p7, p8, p9⟩ := hp
  have nA : ∀ {a c kd len : Nat}, isA E h a c → c < 13 → isR E h a kd len → 13 ≤ kd → False := fun h1 h2 h3 h4 => by
    have := h1.2.2.symm.trans h3.2.2.1; omega
  apply Classical.byContradiction
  intro z
  rcases (show t = p ∨ t = p + 1 ∨ t = p + 2 ∨ t = p + 3 ∨ t = p + 4 ∨ t = p + 5 ∨ t = p + 6 ∨ t = p + 7 ∨ t = p + 8 ∨ t = p + 9 ∨ p = t + 1 ∨ p = t + 2 ∨ p = t + 3 ∨ p = t + 4 ∨ p = t + 5 by omega) with e | e | e | e | e | e | e | e | e | e | e | e | e | e | e
  · subst e; have := t0.2.2.symm.trans p0.2.2; omega
  · subst e; exact nA t0 (by decide) p1.2 (by decide)
  · subst e; exact nA t0 (by decide) p2.2 (by decide)
  · subst e; exact nA t0 (by decide) p3.2 (by decide)
  · subst e; exact nA t0 (by decide) p4.2 (by decide)
  · subst e; exact nA t0 (by decide) p5.2 (by decide)
  · subst e; exact nA t0 (by decide) p6.2 (by decide)
  · subst e; exact nA t0 (by decide) p7.2 (by decide)
  · subst e; exact nA t0 (by decide) p8.2 (by decide)
  · subst e; exact nA t0 (by decide) p9.2 (by decide)
  · subst e; exact nA p0 (by decide) t1.2 (by decide)
  · subst e; exact nA p0 (by decide) t2.2 (by decide)
  · subst e; exact nA p0 (by decide) t3.2 (by decide)
  · subst e; exact nA p0 (by decide) t4.2 (by decide)
  · subst e; exact nA p0 (by decide) t5.2 (by decide)
theorem pt_pt {q : Nat} (hq : ptS E h q) (hp : ptS E h p) (hne : ¬ p = q) : q + 9 < p ∨ p + 9 < q := by
  obtain ⟨q0, q1, q2, q3, q4, q5, q6, q7, q8, q9⟩ := hq
  obtain ⟨p0, p1, p2, p3, p4, p5, p6, p7, p8, p9⟩ := hp
  have nA : ∀ {a c kd len : Nat}, isA E h a c → c < 13 → isR E h a kd len → 13 ≤ kd → False := fun h1 h2 h3 h4 => by
    have := h1.2.2.symm.trans h3.2.2.1; omega
  apply Classical.byContradiction
  intro z
  rcases (show q = p + 1 ∨ q = p + 2 ∨ q = p + 3 ∨ q = p + 4 ∨ q = p + 5 ∨ q = p + 6 ∨ q = p + 7 ∨ q = p + 8 ∨ q = p + 9 ∨ p = q + 1 ∨ p = q + 2 ∨ p = q + 3 ∨ p = q + 4 ∨ p = q + 5 ∨ p = q + 6 ∨ p = q + 7 ∨ p = q + 8 ∨ p = q + 9 by omega) with e | e | e | e | e | e | e | e | e | e | e | e | e | e | e | e | e | e
  · subst e; exact nA q0 (by decide) p1.2 (by decide)
  · subst e; exact nA q0 (by decide) p2.2 (by decide)
  · subst e; exact nA q0 (by decide) p3.2 (by decide)
  · subst e; exact nA q0 (by decide) p4.2 (by decide)
  · subst e; exact nA q0 (by decide) p5.2 (by decide)
  · subst e; exact nA q0 (by decide) p6.2 (by decide)
  · subst e; exact nA q0 (by decide) p7.2 (by decide)
  · subst e; exact nA q0 (by decide) p8.2 (by decide)
  · subst e; exact nA q0 (by decide) p9.2 (by decide)
  · subst e; exact nA p0 (by decide) q1.2 (by decide)
  · subst e; exact nA p0 (by decide) q2.2 (by decide)
  · subst e; exact nA p0 (by decide) q3.2 (by decide)
  · subst e; exact nA p0 (by decide) q4.2 (by decide)
  · subst e; exact nA p0 (by decide) q5.2 (by decide)
  · subst e; exact nA p0 (by decide) q6.2 (by decide)
  · subst e; exact nA p0 (by decide) q7.2 (by decide)
  · subst e; exact nA p0 (by decide) q8.2 (by decide)
  · subst e; exact nA p0 (by decide) q9.2 (by decide)
/-! the groups of the relation -/
/-- what was kept of a row -/
def RwS (s : Nat → Int32) : Prop := (∀ k, k < 6 → CatOK s k) ∧ (∀ k, k < 6 → ∃ e, e ≤ 9 ∧ s (20 + k) = nI e) ∧ (∀ k, k < 6 → ∃ g, g ≤ 9999 ∧ s (26 + k) = nI g) ∧ (∀ k, k < 6 → s (32 + k) = -1 ∨ ∃ q, q < 3 ∧ s (32 + k) = nI q) ∧ (∃ y, y ≤ 999 ∧ s 5 = nI y) ∧ Gn s
def SnK (μ : Mu) (i : Nat) : Prop := (∃ kd, kd < 4 ∧ μ 6 i = nI kd) ∧ μ 5 (33 * i + 1) = μ 2 6 ∧ μ 5 (33 * i + 2) = μ 2 7 ∧ RwS (Sn μ i)
def PsR (h : Hp) (x : Nat) (μ : Mu) : Prop := PsM h (x + 40) μ ∧ (μ 0 8 = nI (uF μ) ∧ uF μ ≤ 16) ∧ ∀ i, i < uF μ → SnK μ i
def ImR (E : En) (h : Hp) (x : Nat) (μ : Mu) (i : Nat) : Prop := (μ 4 i = 0 ∧ hR h (x + 13) i = none) ∨ (μ 4 i = 1 ∧ ∃ p, hR h (x + 13) i = some p ∧ x + 135 < p ∧ ptS E h p ∧ PoR E h x p (fun j => μ 3 (5450 * i + j)))
def ImD (h : Hp) (x : Nat) : Prop := ∀ p, hR h (x + 13) 0 = some p → ¬ hR h (x + 13) 1 = some p
def TaR (h : Hp) (x : Nat) (μ : Mu) : Prop := (∃ t, t ≤ 400 ∧ μ 0 13 = nI t ∧ hI h (x + 24) 1 = nI t) ∧ (∀ k, hI h (x + 25) k = μ 9 k) ∧ ByOK (μ 9) 400
def CoR (h : Hp) (x : Nat) (μ : Mu) : Prop := (hI h x 11 = μ 0 11 ∧ hI h x 12 = μ 0 18 ∧ hI h x 13 = μ 0 55 ∧ hI h x 14 = μ 0 1) ∧ ∀ j, j < 7 → hI h (x + 101) j = μ 1 j
def BhR (h : Hp) (x : Nat) (μ : Mu) : Prop := ∃ rb n, PtV h (x + 14) rb ∧ rb 0 = nI n ∧ n ≤ 6 ∧ (μ 0 59 = nI n ∨ (μ 0 59 = -1 ∧ n = 0)) ∧ ∀ k, k < n → rb (8 + k) = μ 33 k ∧ bcF (rb (14 + k)) = μ 33 (6 + k) ∧ rb (26 + k) = μ 33 (12 + k)
def WoR (h : Hp) (x : Nat) : Prop := WdV h x ∧ hI h (x + 30) 0 = nI 0
/-- the class's heap is the reference's memory -/
def CR (E : En) (h : Hp) (x : Nat) (μ : Mu) : Prop := CS E h x ∧ PoR E h x (x + 3) (μ 2) ∧ PsR h x μ ∧ ((∀ i, i < 2 → ImR E h x μ i) ∧ ImD h x) ∧ TaR h x μ ∧ CoR h x μ ∧ BhR h x μ ∧ WoR h x ∧ μ 0 20 = 0
end REL
