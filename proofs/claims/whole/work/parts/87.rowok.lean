/-! acts: rows stay rows; what is kept, by the reference's memory -/
section ROWOK
variable {r r' : Nat → Int32} {nc ns : Nat}
theorem RwOK.cg (hr : RwOK r nc ns) (hh : ∀ j, (j < 2 ∨ j = 6 ∨ j = 7 ∨ (38 ≤ j ∧ j < 41)) → r' j = r j) (hcat : ∀ k, k < 6 → CatOK r' k) (hear : ∀ k, k < 6 → ∃ e, e ≤ 9 ∧ r' (20 + k) = nI e) (hgo : ∀ k, k < 6 → ∃ g, g ≤ 9999 ∧ r' (26 + k) = nI g) (hsh : ∀ k, k < 6 → r' (32 + k) = -1 ∨ ∃ s, s < 3 ∧ r' (32 + k) = nI s) (hy : ∃ y, y ≤ 999 ∧ r' 5 = nI y) : RwOK r' nc ns := by
  obtain ⟨a1, a2, a3, a4, a5, a6, a7, a8, a9, a10, a11, a12⟩ := hr
  refine ⟨(hh 0 (by omega)).trans a1, a2, (hh 1 (by omega)).trans a3, a4, hcat, hear, hgo, hsh, hy, ?_, ?_, fun k hk => ?_⟩
  · obtain ⟨d, h1, h2⟩ := a10; exact ⟨d, h1, (hh 6 (by omega)).trans h2⟩
  · obtain ⟨d, h1, h2⟩ := a11; exact ⟨d, h1, (hh 7 (by omega)).trans h2⟩
  · obtain ⟨d, h1, h2⟩ := a12 k hk; exact ⟨d, h1, (hh (38 + k) (by omega)).trans h2⟩
theorem CatOK.cg {k : Nat} (hc : CatOK r k) (h1 : r' (8 + k) = r (8 + k)) (h2 : r' (14 + k) = r (14 + k)) : CatOK r' k := by
  unfold CatOK; rw [h1, h2]; exact hc
theorem RwOK.sh (hr : RwOK r nc ns) {k : Nat} {v : Int32} (hk : k < 6) (hs : v = -1 ∨ ∃ s, s < 3 ∧ v = nI s) : RwOK (va_up r (32 + k) v) nc ns := by
  have ne : ∀ j, j ≠ 32 + k → va_up r (32 + k) v j = r j := fun j hj => va_up_ne _ _ hj
  refine hr.cg (fun j hj => ne j (by omega)) (fun i hi => (hr.2.2.2.2.1 i hi).cg (ne _ (by omega)) (ne _ (by omega))) (fun i hi => by rw [ne _ (by omega)]; exact hr.2.2.2.2.2.1 i hi) (fun i hi => by rw [ne _ (by omega)]; exact hr.2.2.2.2.2.2.1 i hi) (fun i hi => ?_) (by rw [ne _ (by omega)]; exact hr.2.2.2.2.2.2.2.2.1)
  by_cases h1 : i = k
  · subst h1; rw [va_up_self]; exact hs
  · rw [ne _ (by omega)]; exact hr.2.2.2.2.2.2.2.1 i hi
theorem RwOK.ea (hr : RwOK r nc ns) {k e : Nat} (hk : k < 6) (he : e ≤ 9) : RwOK (va_up r (20 + k) (nI e)) nc ns := by
  have ne : ∀ j, j ≠ 20 + k → va_up r (20 + k) (nI e) j = r j := fun j hj => va_up_ne _ _ hj
  refine hr.cg (fun j hj => ne j (by omega)) (fun i hi => (hr.2.2.2.2.1 i hi).cg (ne _ (by omega)) (ne _ (by omega))) (fun i hi => ?_) (fun i hi => by rw [ne _ (by omega)]; exact hr.2.2.2.2.2.2.1 i hi) (fun i hi => by rw [ne _ (by omega)]; exact hr.2.2.2.2.2.2.2.1 i hi) (by rw [ne _ (by omega)]; exact hr.2.2.2.2.2.2.2.2.1)
  by_cases h1 : i = k
  · subst h1; rw [va_up_self]; exact ⟨e, he, rfl⟩
  · rw [ne _ (by omega)]; exact hr.2.2.2.2.2.1 i hi
theorem die9 : ∀ y, y < 512 → ∀ k, k < 9 → y.testBit k = true → (y - 2 ^ k < 512 ∧ (y - 2 ^ k).testBit k = false) := by decide +kernel
theorem m1_nI {n : Nat} (hn : n < 2 ^ 31) : ¬ (-1 : Int32) = nI n := by
  intro z
  have h1 := congrArg Int32.toInt z
  rw [nI_toInt hn, show ((-1 : Int32)).toInt = -1 by decide] at h1
  omega
theorem nI_inj {a b : Nat} (ha : a < 2 ^ 31) (hb : b < 2 ^ 31) (he : nI a = nI b) : a = b := by
  have h1 := congrArg Int32.toInt he
  rw [nI_toInt ha, nI_toInt hb] at h1
  omega
theorem RwOK.cat (hr : RwOK r nc ns) {k : Nat} {v w : Int32} (hk : k < 6) (hl : v = -1 ∨ ∃ li, li < 9 ∧ v = nI li) (hy : ∃ y, y < 512 ∧ w = nI y ∧ ∀ li, li < 9 → v = nI li → y.testBit li = false) : RwOK (va_up (va_up r (8 + k) v) (14 + k) w) nc ns := by
  have ne : ∀ j, j ≠ 8 + k → j ≠ 14 + k → va_up (va_up r (8 + k) v) (14 + k) w j = r j := fun j h1 h2 => by rw [va_up_ne _ _ h2, va_up_ne _ _ h1]
  refine hr.cg (fun j hj => ne j (by omega) (by omega)) (fun i hi => ?_) (fun i hi => by rw [ne _ (by omega) (by omega)]; exact hr.2.2.2.2.2.1 i hi) (fun i hi => by rw [ne _ (by omega) (by omega)]; exact hr.2.2.2.2.2.2.1 i hi) (fun i hi => by rw [ne _ (by omega) (by omega)]; exact hr.2.2.2.2.2.2.2.1 i hi) (by rw [ne _ (by omega) (by omega)]; exact hr.2.2.2.2.2.2.2.2.1)
  by_cases h1 : i = k
  · subst h1
    unfold CatOK
    rw [va_up_self, va_up_ne _ _ (show 8 + i ≠ 14 + i by omega), va_up_self]
    exact ⟨hl, hy⟩
  · exact (hr.2.2.2.2.1 i hi).cg (ne _ (by omega) (by omega)) (ne _ (by omega) (by omega))
theorem dieR_eq {k : Nat} {life : Int32} : dieR r k life = va_up (va_up (va_up r (8 + k) (if life = 9 then -1 else life)) (14 + k) (yetF (r (14 + k)) life)) (32 + k) (if life = 9 then -1 else r (32 + k)) := rfl
theorem RwOK.die (hr : RwOK r nc ns) {k : Nat} (hk : k < 6) {life : Int32} (hl : (life = 9 ∧ r (14 + k) = 0) ∨ (¬ life = 9 ∧ inN life 10 = true ∧ isB (r (14 + k)) life = true)) : RwOK (dieR r k life) nc ns := by
  rw [dieR_eq]
  obtain ⟨y, hy, ey⟩ := rw_y hr hk
  rcases hl with ⟨h9, h0⟩ | ⟨h9, hin, hb⟩
  · rw [if_pos h9, if_pos h9]
    refine RwOK.sh (RwOK.cat hr hk (Or.inl rfl) ⟨0, by decide, ?_, fun li hli z => absurd z (m1_nI (by omega))⟩) hk (Or.inl rfl)
    unfold yetF
    rw [if_pos h9, h0]; decide
  · obtain ⟨lf, hlf, rfl⟩ := inN_of (by decide) hin
    have hlf9 : lf < 9 := by
      rcases Nat.lt_or_ge lf 9 with z | z
      · exact z
      · exact absurd (by rw [show lf = 9 by omega]; rfl) h9
    rw [if_neg h9, if_neg h9]
    rw [ey] at hb
    rw [isB9 y hy lf hlf9] at hb
    obtain ⟨d1, d2⟩ := die9 y hy lf hlf9 hb
    refine RwOK.sh (RwOK.cat hr hk (Or.inr ⟨lf, hlf9, rfl⟩) ⟨y - 2 ^ lf, d1, ?_, fun li hli z => ?_⟩) hk (hr.2.2.2.2.2.2.2.1 k hk)
    · unfold yetF
      rw [if_neg h9, ey, and9 y hy lf hlf9, if_pos hb]
    · have := nI_inj (by omega) (by omega) z
      rw [← this]; exact d2
theorem RwOK.pass (hr : RwOK r nc ns) (fo : Option (List Cl)) (h9 : ¬ r 5 = 999) : RwOK (passR r fo nc) nc ns := by
  unfold passR
  have ne : ∀ j, j ≠ 5 → (j < 26 ∨ 32 ≤ j) → va_up (passK r fo nc) 5 (r 5 + 1) j = r j := fun j h1 h2 => by rw [va_up_ne _ _ h1]; exact passK_lo (by have := hr.2.1; omega)
  refine hr.cg (fun j hj => ne j (by omega) (by omega)) (fun i hi => (hr.2.2.2.2.1 i hi).cg (ne _ (by omega) (by omega)) (ne _ (by omega) (by omega))) (fun i hi => by rw [ne _ (by omega) (by omega)]; exact hr.2.2.2.2.2.1 i hi) (fun i hi => ?_) (fun i hi => by rw [ne _ (by omega) (by omega)]; exact hr.2.2.2.2.2.2.2.1 i hi) ?_
  · rw [va_up_ne _ _ (by omega)]
    unfold passK
    split
    · exact withinF_nI _ (b := 9999) (by decide)
    · exact hr.2.2.2.2.2.2.1 i hi
  · obtain ⟨y, hy, ey⟩ := hr.2.2.2.2.2.2.2.2.1
    rw [va_up_self, ey]
    refine ⟨y + 1, ?_, (nI_succ y).symm⟩
    rcases Nat.lt_or_ge y 999 with z | z
    · omega
    · exact absurd (by rw [ey, show y = 999 by omega]; rfl) h9
theorem RwOK.act (hr : RwOK r nc ns) {fo : Option (List Cl)} {k : Nat} (hk : k < 4) {a b : Int32} (hv : 0 ≤ actV r fo nc ns (nI k) a b) : RwOK (actR r fo nc (nI k) a b) nc ns := by
  have h6 := hr.2.1
  have h3 := hr.2.2.2.1
  rcases (by omega : k = 0 ∨ k = 1 ∨ k = 2 ∨ k = 3) with rfl | rfl | rfl | rfl
  · have hv2 : 0 ≤ signV r fo nc ns a b := hv
    show RwOK (va_up r (32 + a.toNatClampNeg) b) nc ns
    have hc := sign_c h6 hv2
    refine RwOK.sh hr (by omega) ?_
    unfold signV at hv2
    split at hv2
    · next hcc =>
      obtain ⟨s, hs, es⟩ := inN_of (by omega) hcc.2
      exact Or.inr ⟨s, by omega, es⟩
    · exact absurd hv2 (by decide)
  · have hv2 : 0 ≤ dieV r nc a b := hv
    show RwOK (dieR r a.toNatClampNeg b) nc ns
    have hc := die_c h6 hv2
    refine RwOK.die hr (by omega) ?_
    unfold dieV at hv2
    split at hv2
    · next hin =>
      split at hv2
      · split at hv2
        · next hcc =>
          rcases hcc.2 with z | z
          · exact Or.inl z
          · exact Or.inr ⟨z.1, hin, z.2⟩
        · exact absurd hv2 (by decide)
      · exact absurd hv2 (by decide)
    · exact absurd hv2 (by decide)
  · have hv2 : 0 ≤ clipV r nc a b := hv
    show RwOK (va_up r (20 + a.toNatClampNeg) b) nc ns
    have hc := (clip_c h6 hv2).1
    unfold clipV at hv2
    split at hv2
    · next hin =>
      obtain ⟨e, he, rfl⟩ := inN_of (by decide) hin
      exact RwOK.ea hr (by omega) (by omega)
    · exact absurd hv2 (by decide)
  · have hv2 : 0 ≤ passV r := hv
    show RwOK (passR r fo nc) nc ns
    refine RwOK.pass hr fo (fun z => ?_)
    unfold passV at hv2
    rw [if_pos z] at hv2
    exact absurd hv2 (by decide)
end ROWOK
section PASTM
variable {E : En} {h : Hp} {x : Nat} {μ : Mu} {l : La}
/-- what is kept, as a row of numbers -/
def Sn (μ : Mu) (i : Nat) : Nat → Int32 := fun j => μ 5 (33 * i + (j - 5))
def PsM (h : Hp) (a : Nat) (μ : Mu) : Prop := ∃ nw, PsV h a nw (uF μ) (μ 6) (Sn μ)
theorem PsV.cg {a nw u : Nat} {K K' : Nat → Int32} {S S' : Nat → Nat → Int32} (hp : PsV h a nw u K S) (hK : ∀ i, i < u → K' i = K i) (hS : ∀ i, i < u → ∀ j, (j = 5 ∨ (8 ≤ j ∧ j < 38)) → S' i j = S i j) : PsV h a nw u K' S' := by
  obtain ⟨e2, e3, hn, hu, hk⟩ := hp
  refine ⟨e2, e3, hn, hu, fun i hi => ⟨(hk i hi).1.trans (hK i hi).symm, ?_⟩⟩
  obtain ⟨-, g1, g2⟩ := hk i hi
  exact ⟨g1.trans (hS i hi 5 (Or.inl rfl)).symm, fun j h1 h2 => (g2 j h1 h2).trans (hS i hi (7 + j) (by omega)).symm⟩
theorem rem_K {u : Nat} {s : Int32} (h16 : u ≤ 16) {i : Nat} (hi : i < kpU u) : remM μ u s 6 i = kpF (μ 6) u s i := by
  unfold remM
  rw [up2_ne (by omega)]
  unfold kpU at hi
  unfold kpF remU remA
  by_cases h1 : u = 16
  · rw [if_pos h1] at hi ⊢
    rw [if_pos h1, if_pos h1]
    by_cases h2 : i < 15
    · rw [up2_ne (by omega), if_pos h2]
      unfold keepN
      rw [if_neg (by omega), up2_ne (by omega)]
      unfold shK
      rw [if_pos ⟨rfl, h2⟩]
      unfold shN
      rw [if_neg (by omega)]
    · rw [if_neg h2, show i = 15 by omega, up2_at]
  · rw [if_neg h1] at hi ⊢
    rw [if_neg h1, if_neg h1]
    by_cases h2 : i < u
    · rw [up2_ne (by omega), if_pos h2]
      unfold keepN
      rw [if_neg (by omega)]
    · rw [if_neg h2, show i = u by omega, up2_at]
theorem rem_S {u : Nat} {s : Int32} (h16 : u ≤ 16) {i j : Nat} (hi : i < kpU u) (hj : 5 ≤ j) (hj2 : j < 38) : remM μ u s 5 (33 * i + (j - 5)) = kpF (Sn μ) u (μ 2) i j := by
  unfold remM
  rw [up2_ne (by omega), up2_ne (by omega)]
  unfold kpU at hi
  unfold kpF remU remA keepN
  by_cases h1 : u = 16
  · rw [if_pos h1] at hi ⊢
    rw [if_pos h1, if_pos h1]
    by_cases h2 : i < 15
    · rw [if_neg (by omega), if_pos h2, up2_ne (by omega)]
      unfold shK
      rw [if_neg (by omega)]
      unfold shN
      rw [if_pos ⟨rfl, by omega⟩]
      unfold Sn
      rw [show 33 * i + (j - 5) + 33 = 33 * (i + 1) + (j - 5) by omega]
    · rw [if_pos ⟨rfl, by omega, by omega⟩, if_neg h2, up2_ne (by omega)]
      unfold shK
      rw [if_neg (by omega)]
      unfold shN
      rw [if_neg (by omega), show 5 + (33 * i + (j - 5) - 33 * 15) = j by omega]
  · rw [if_neg h1] at hi ⊢
    rw [if_neg h1, if_neg h1]
    by_cases h2 : i < u
    · rw [if_neg (by omega), if_pos h2]; rfl
    · rw [if_pos ⟨rfl, by omega, by omega⟩, if_neg h2, show 5 + (33 * i + (j - 5) - 33 * u) = j by omega]
theorem up_setR {ν : Mu} {i : Nat} {v : Int32} {r : Nat → Int32} (hr : ν 2 = r) : up2 ν 2 i v = setR ν (va_up r i v) := by
  funext o j
  unfold setR
  by_cases ho : o = 2
  · subst ho
    rw [if_pos rfl]
    by_cases hj : j = i
    · subst hj; rw [up2_at, va_up_self]
    · rw [up2_ne (by omega), va_up_ne _ _ hj, hr]
  · rw [if_neg ho, up2_ne (by omega)]
theorem setR_setR {ν : Mu} {r r2 : Nat → Int32} : setR (setR ν r) r2 = setR ν r2 := by
  funext o j; unfold setR
  by_cases ho : o = 2
  · rw [if_pos ho, if_pos ho]
  · rw [if_neg ho, if_neg ho, if_neg ho]
theorem rem_2 {u : Nat} {s : Int32} (h16 : u ≤ 16) : remM μ u s 2 = μ 2 := by funext j; exact rem_keep h16 (by omega)
theorem act_yes {fo : Option (List Cl)} {nc ns k : Nat} (hk : k < 4) (h16 : uF μ ≤ 16) {a b : Int32} (hv : 0 ≤ actV (μ 2) fo nc ns (nI k) a b) : actM μ fo nc ns (nI k) a b = setR (remM μ (uF μ) (nI k)) (actR (μ 2) fo nc (nI k) a b) := by
  rcases (by omega : k = 0 ∨ k = 1 ∨ k = 2 ∨ k = 3) with rfl | rfl | rfl | rfl
  · have hv2 : 0 ≤ signV (μ 2) fo nc ns a b := hv
    show signM (signV (μ 2) fo nc ns a b) (uF μ) a b μ = setR (remM μ (uF μ) 0) (va_up (μ 2) (32 + a.toNatClampNeg) b)
    unfold signM
    rw [if_pos hv2, up_setR (rem_2 h16)]
  · have hv2 : 0 ≤ dieV (μ 2) nc a b := hv
    show dieM (dieV (μ 2) nc a b) (uF μ) a b μ = setR (remM μ (uF μ) 1) (dieR (μ 2) a.toNatClampNeg b)
    unfold dieM
    rw [if_pos hv2]
    unfold dieItM
    rw [rem_2 h16, up_setR (rem_2 h16), up_setR setR_2, up_setR setR_2, setR_setR, setR_setR]
    rfl
  · have hv2 : 0 ≤ clipV (μ 2) nc a b := hv
    show clipM (clipV (μ 2) nc a b) (uF μ) a b μ = setR (remM μ (uF μ) 2) (va_up (μ 2) (20 + a.toNatClampNeg) b)
    unfold clipM
    rw [if_pos hv2, up_setR (rem_2 h16)]
  · have hv2 : 0 ≤ passV (μ 2) := hv
    show (if μ 2 5 = 999 then μ else setR (remM μ (uF μ) 3) (passR (μ 2) fo nc)) = setR (remM μ (uF μ) 3) (passR (μ 2) fo nc)
    rw [if_neg]
    intro z
    unfold passV at hv2
    rw [if_pos z] at hv2
    exact absurd hv2 (by decide)
theorem act_not {fo : Option (List Cl)} {nc ns k : Nat} (hk : k < 4) {a b : Int32} (hv : ¬ 0 ≤ actV (μ 2) fo nc ns (nI k) a b) (h5 : ∃ y, y ≤ 999 ∧ μ 2 5 = nI y) : actM μ fo nc ns (nI k) a b = μ := by
  rcases (by omega : k = 0 ∨ k = 1 ∨ k = 2 ∨ k = 3) with rfl | rfl | rfl | rfl
  · have hv2 : ¬ 0 ≤ signV (μ 2) fo nc ns a b := hv
    show signM (signV (μ 2) fo nc ns a b) (uF μ) a b μ = μ
    unfold signM
    rw [if_neg hv2]
  · have hv2 : ¬ 0 ≤ dieV (μ 2) nc a b := hv
    show dieM (dieV (μ 2) nc a b) (uF μ) a b μ = μ
    unfold dieM
    rw [if_neg hv2]
  · have hv2 : ¬ 0 ≤ clipV (μ 2) nc a b := hv
    show clipM (clipV (μ 2) nc a b) (uF μ) a b μ = μ
    unfold clipM
    rw [if_neg hv2]
  · have hv2 : ¬ 0 ≤ passV (μ 2) := hv
    show (if μ 2 5 = 999 then μ else setR (remM μ (uF μ) 3) (passR (μ 2) fo nc)) = μ
    unfold passV at hv2
    by_cases z : μ 2 5 = 999
    · rw [if_pos z]
    · rw [if_neg z] at hv2
      obtain ⟨y, hy, ey⟩ := h5
      rw [ey, ← nI_succ] at hv2
      exact absurd (nI_pos' (by omega)) hv2
theorem kpU_rem {u : Nat} : remU u + 1 = kpU u := by unfold remU kpU; split <;> rfl
theorem act_past {nw : Nat} {kind : Int32} {r' : Nat → Int32} (h16 : uF μ ≤ 16) {a : Nat} (hp : PsV h a nw (kpU (uF μ)) (kpF (μ 6) (uF μ) kind) (kpF (Sn μ) (uF μ) (μ 2))) : PsM h a (setR (remM μ (uF μ) kind) r') := by
  have eu : uF (setR (remM μ (uF μ) kind) r') = kpU (uF μ) := by
    unfold uF
    rw [setR_ne (by decide)]
    exact (rem_u h16).1.trans kpU_rem
  refine ⟨nw, ?_⟩
  rw [eu]
  refine hp.cg (fun i hi => ?_) (fun i hi j hj => ?_)
  · rw [setR_ne (by decide)]; exact rem_K h16 hi
  · show setR (remM μ (uF μ) kind) r' 5 _ = _
    rw [setR_ne (by decide)]; exact rem_S h16 hi (by omega) (by omega)
/-- an act, by the reference's memory -/
theorem c1_actM {nc ns nl : Nat} {lw : Option Nat} {fo : Option (List Cl)} (hL : Lv E h x (μ 2) nc ns nl lw fo) (hps : PsM h (x + 40) μ) {k : Nat} (hk : k < 4) (a b : Int32) : Ct E 5 0 0 mX1_act [.ref (x + 39), .int (nI k), .int a, .int b] h (fun w h' => w = some (.int (actV (μ 2) fo nc ns (nI k) a b)) ∧ Fr (acS x) h h' ∧ PtV h' (x + 3) (actM μ fo nc ns (nI k) a b 2) ∧ PsM h' (x + 40) (actM μ fo nc ns (nI k) a b)) := by
  obtain ⟨nw, hpv⟩ := hps
  have h16 := hpv.2.2.2.1
  refine Ct.mono ?_ (c1_act hL hpv hk a b)
  rintro w h' ⟨rfl, f, hv, hkp⟩
  refine ⟨rfl, f, ?_⟩
  by_cases hv0 : 0 ≤ actV (μ 2) fo nc ns (nI k) a b
  · rw [act_yes hk h16 hv0, setR_2]
    rw [if_pos hv0] at hv
    unfold kpP at hkp
    rw [if_pos hv0] at hkp
    exact ⟨hv, act_past h16 hkp⟩
  · rw [act_not hk hv0 hL.2.2.1.2.2.2.2.2.2.2.2.1]
    rw [if_neg hv0] at hv
    unfold kpP at hkp
    rw [if_neg hv0] at hkp
    exact ⟨hv, nw, hkp⟩
end PASTM
