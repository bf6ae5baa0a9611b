/-! the relation: acts, small writes -/
section REL3
variable {E : En} {h h1 : Hp} {x p : Nat} {r r' : Nat → Int32} {μ μ' : Mu} {S : Nat → Nat → Prop}
/-- the memory's own bounds -/
def GM (μ : Mu) (nc ns nl sg : Nat) : Prop := RwG (μ 2) nc ns nl sg ∧ (μ 0 8 = nI (uF μ) ∧ uF μ ≤ 16) ∧ ∀ i, i < uF μ → SnK μ i
theorem RwOK.rs {nc ns : Nat} (hr : RwOK r nc ns) (hg : Gn r) : RwS r := ⟨hr.2.2.2.2.1, hr.2.2.2.2.2.1, hr.2.2.2.2.2.2.1, hr.2.2.2.2.2.2.2.1, hr.2.2.2.2.2.2.2.2.1, hg⟩
theorem RwS.cg {s s' : Nat → Int32} (hs : RwS s) (e : ∀ j, 5 ≤ j → j < 38 → s' j = s j) : RwS s' := by
  obtain ⟨b1, b2, b3, b4, b5, b6⟩ := hs
  refine ⟨fun k hk => (b1 k hk).cg (e _ (by omega) (by omega)) (e _ (by omega) (by omega)), fun k hk => by rw [e _ (by omega) (by omega)]; exact b2 k hk, fun k hk => by rw [e _ (by omega) (by omega)]; exact b3 k hk, fun k hk => by rw [e _ (by omega) (by omega)]; exact b4 k hk, by rw [e _ (by omega) (by omega)]; exact b5, fun k hk z => ?_⟩
  rw [e _ (by omega) (by omega)] at z ⊢
  exact b6 k hk z
theorem Gn.sh {k : Nat} {v : Int32} (hg : Gn r) (hk : k < 6) (ha : v = -1 ∨ ¬ r (8 + k) = -1) : Gn (va_up r (32 + k) v) := fun i hi e => by
  rw [va_up_ne _ _ (by omega)] at e
  by_cases hik : i = k
  · subst hik
    rw [va_up_self]
    exact ha.resolve_right (fun z => z e)
  · rw [va_up_ne _ _ (by omega)]; exact hg i hi e
theorem Gn.act {nc ns : Nat} (hr : RwOK r nc ns) (hg : Gn r) {fo : Option (List Cl)} {k : Nat} (hk : k < 4) {a b : Int32} (hv : 0 ≤ actV r fo nc ns (nI k) a b) : Gn (actR r fo nc (nI k) a b) := by
  have h6 := hr.2.1
  rcases (by omega : k = 0 ∨ k = 1 ∨ k = 2 ∨ k = 3) with rfl | rfl | rfl | rfl
  · have hv2 : 0 ≤ signV r fo nc ns a b := hv
    show Gn (va_up r (32 + a.toNatClampNeg) b)
    have hc := sign_c h6 hv2
    refine hg.sh (by omega) (Or.inr ?_)
    unfold signV at hv2
    split at hv2
    · split at hv2
      · exact absurd hv2 (by decide)
      · next hn =>
        intro z
        exact hn (Or.inl (decide_eq_false (fun w => w z)))
    · exact absurd hv2 (by decide)
  · have hv2 : 0 ≤ dieV r nc a b := hv
    show Gn (dieR r a.toNatClampNeg b)
    have hc := die_c h6 hv2
    rw [dieR_eq]
    intro i hi e
    rw [va_up_ne _ _ (by omega), va_up_ne _ _ (by omega)] at e
    by_cases hik : i = a.toNatClampNeg
    · subst hik
      rw [va_up_self] at e
      rw [va_up_self]
      by_cases h9 : b = 9
      · rw [if_pos h9]
      · rw [if_neg h9] at e
        subst e
        unfold dieV at hv2
        rw [if_neg (fun z => by unfold inN at z; exact absurd (of_decide_eq_true z).1 (by decide))] at hv2
        exact absurd hv2 (by decide)
    · rw [va_up_ne _ _ (by omega)] at e
      rw [va_up_ne _ _ (by omega), va_up_ne _ _ (by omega), va_up_ne _ _ (by omega)]
      exact hg i hi e
  · show Gn (va_up r (20 + a.toNatClampNeg) b)
    have hc := (clip_c h6 (show 0 ≤ clipV r nc a b from hv)).1
    intro i hi e
    rw [va_up_ne _ _ (by omega)] at e ⊢
    exact hg i hi e
  · show Gn (passR r fo nc)
    unfold passR
    have ne : ∀ j, j ≠ 5 → (j < 26 ∨ 32 ≤ j) → va_up (passK r fo nc) 5 (r 5 + 1) j = r j := fun j h1 h2 => by rw [va_up_ne _ _ h1]; exact passK_lo (by omega)
    intro i hi e
    rw [ne _ (by omega) (by omega)] at e ⊢
    exact hg i hi e
/-- what acts leave of a row -/
theorem actR_keep {nc ns : Nat} {fo : Option (List Cl)} (h6 : nc ≤ 6) {k : Nat} (hk : k < 4) {a b : Int32} (hv : 0 ≤ actV r fo nc ns (nI k) a b) {j : Nat} (hj : j < 5 ∨ j = 6 ∨ j = 7 ∨ 38 ≤ j) : actR r fo nc (nI k) a b j = r j := by
  rcases (by omega : k = 0 ∨ k = 1 ∨ k = 2 ∨ k = 3) with rfl | rfl | rfl | rfl
  · have hc := sign_c h6 (show 0 ≤ signV r fo nc ns a b from hv)
    show va_up r (32 + a.toNatClampNeg) b j = r j
    rw [va_up_ne _ _ (by omega)]
  · have hc := die_c h6 (show 0 ≤ dieV r nc a b from hv)
    show dieR r a.toNatClampNeg b j = r j
    rw [dieR_eq, va_up_ne _ _ (by omega), va_up_ne _ _ (by omega), va_up_ne _ _ (by omega)]
  · have hc := (clip_c h6 (show 0 ≤ clipV r nc a b from hv)).1
    show va_up r (20 + a.toNatClampNeg) b j = r j
    rw [va_up_ne _ _ (by omega)]
  · show passR r fo nc j = r j
    unfold passR
    rw [va_up_ne _ _ (by omega)]; exact passK_lo (by omega)
theorem GM.act {nc ns nl sg : Nat} (hg : GM μ nc ns nl sg) {fo : Option (List Cl)} {k : Nat} (hk : k < 4) {a b : Int32} : GM (actM μ fo nc ns (nI k) a b) nc ns nl sg := by
  obtain ⟨⟨hrw, h3, h2, h4, hgn⟩, ⟨hu, h16⟩, hsn⟩ := id hg
  have h6 := hrw.2.1
  by_cases hv : 0 ≤ actV (μ 2) fo nc ns (nI k) a b
  · rw [act_yes hk h16 hv]
    have kp : ∀ {j : Nat}, (j < 5 ∨ j = 6 ∨ j = 7 ∨ 38 ≤ j) → actR (μ 2) fo nc (nI k) a b j = μ 2 j := fun hj => actR_keep h6 hk hv hj
    have eu : setR (remM μ (uF μ) (nI k)) (actR (μ 2) fo nc (nI k) a b) 0 8 = nI (kpU (uF μ)) := by
      rw [setR_ne (by decide)]
      unfold remM
      rw [up2_at, kpU_rem]
    have hk16 : kpU (uF μ) ≤ 16 := by unfold kpU; split <;> omega
    have eU : uF (setR (remM μ (uF μ) (nI k)) (actR (μ 2) fo nc (nI k) a b)) = kpU (uF μ) := by
      show (setR (remM μ (uF μ) (nI k)) (actR (μ 2) fo nc (nI k) a b) 0 8).toNatClampNeg = _
      rw [eu, nI_clamp (by omega)]
    refine ⟨?_, ⟨by rw [eU]; exact eu, by rw [eU]; exact hk16⟩, fun i hi => ?_⟩
    · rw [setR_2]
      exact ⟨hrw.act hk hv, by rw [kp (by omega)]; exact h3, by rw [kp (by omega)]; exact h2, by rw [kp (by omega)]; exact h4, Gn.act hrw hgn hk hv⟩
    · rw [eU] at hi
      have hS : ∀ j, 5 ≤ j → j < 38 → setR (remM μ (uF μ) (nI k)) (actR (μ 2) fo nc (nI k) a b) 5 (33 * i + (j - 5)) = kpF (Sn μ) (uF μ) (μ 2) i j := fun j h1 h2 => by
        rw [setR_ne (by decide)]; exact rem_S h16 hi h1 h2
      have hK : setR (remM μ (uF μ) (nI k)) (actR (μ 2) fo nc (nI k) a b) 6 i = kpF (μ 6) (uF μ) (nI k) i := by
        rw [setR_ne (by decide)]; exact rem_K h16 hi
      -- an earlier one, or the row as it was
      have cs : (∃ i', i' < uF μ ∧ kpF (Sn μ) (uF μ) (μ 2) i = Sn μ i' ∧ kpF (μ 6) (uF μ) (nI k) i = μ 6 i') ∨ (kpF (Sn μ) (uF μ) (μ 2) i = μ 2 ∧ kpF (μ 6) (uF μ) (nI k) i = nI k) := by
        unfold kpU at hi
        unfold kpF
        by_cases h1 : uF μ = 16
        · rw [if_pos h1] at hi
          rw [if_pos h1, if_pos h1]
          by_cases h2 : i < 15
          · rw [if_pos h2, if_pos h2]; exact Or.inl ⟨i + 1, by omega, rfl, rfl⟩
          · rw [if_neg h2, if_neg h2]; exact Or.inr ⟨rfl, rfl⟩
        · rw [if_neg h1] at hi
          rw [if_neg h1, if_neg h1]
          by_cases h2 : i < uF μ
          · rw [if_pos h2, if_pos h2]; exact Or.inl ⟨i, h2, rfl, rfl⟩
          · rw [if_neg h2, if_neg h2]; exact Or.inr ⟨rfl, rfl⟩
      have e6 := hS 6 (by omega) (by omega)
      have e7 := hS 7 (by omega) (by omega)
      unfold SnK
      rw [setR_2, kp (by omega), kp (by omega), hK]
      rcases cs with ⟨i', hi', c1, c2⟩ | ⟨c1, c2⟩
      · obtain ⟨⟨kd, g1, g2⟩, g3, g4, g5⟩ := hsn i' hi'
        rw [c1] at e6 e7
        refine ⟨⟨kd, g1, c2.trans g2⟩, e6.trans g3, e7.trans g4, g5.cg (fun j h1 h2 => ?_)⟩
        exact (hS j h1 h2).trans (by rw [c1])
      · rw [c1] at e6 e7
        refine ⟨⟨k, hk, c2⟩, e6, e7, (hrw.rs hgn).cg (fun j h1 h2 => ?_)⟩
        exact (hS j h1 h2).trans (by rw [c1])
  · rw [act_not hk hv hrw.2.2.2.2.2.2.2.2.1]; exact hg
/-- a row, and what was kept, changed in both -/
theorem CR.row {nc ns nl sg : Nat} (hr : CR E h x μ) (f : Fr S h h1) (q : ∀ a k, S a k → scP x a k ∨ ptW (x + 3) a k ∨ psW (x + 40) a k) (hv : PtV h1 (x + 3) (μ' 2)) (hg : GM μ' nc ns nl sg) (hps : PsM h1 (x + 40) μ') (h3 : μ' 2 3 = μ 2 3) (h50 : ∀ j, 50 ≤ j → j < 5450 → μ' 2 j = μ 2 j) (em : ∀ o j, obI o j → o ≠ 2 → o ≠ 5 → o ≠ 6 → ¬ (o = 0 ∧ j = 8) → μ' o j = μ o j) : CR E h1 x μ' := by
  obtain ⟨hc, ⟨hv0, nc0, ns0, nl0, sg0, hg0, hl0⟩, hs, ⟨hi, hd⟩, ht, hco, hb, hw, h20⟩ := hr
  have fa : ∀ {a k : Nat}, S a k → ¬ x + 135 < a ∧ ¬ (x + 12 ≤ a ∧ a ≤ x + 25) ∧ ¬ a = x ∧ ¬ a = x + 101 ∧ ¬ a = x + 33 ∧ ¬ (a = x + 30 ∧ k = 0) := fun z => by
    rcases q _ _ z with z | z | z
    · have := sc_far z; omega
    · unfold ptW at z; omega
    · have := ps_far z; omega
  have enl : nl = nl0 := by
    have e := hg.1.2.1.1
    rw [h3, hg0.2.1.1] at e
    have h6 := hg.1.2.1.2
    have h7 := hg0.2.1.2
    exact (nI_inj (by omega) (by omega) e).symm
  subst enl
  have eo : ∀ o, (o = 1 ∨ o = 9 ∨ o = 33) → μ' o = μ o := fun o ho => by funext j; exact em o j (by unfold obI; omega) (by omega) (by omega) (by omega) (by omega)
  have cs : ∀ a k, csP x a k → ¬ S a k := fun a k hq z => by
    rcases q _ _ z with z | z | z
    · exact csP_sc hq z
    · exact csP_pw (Or.inl rfl) hq z
    · exact csP_ac hq (Or.inr (Or.inr z))
  refine ⟨hc.fr f cs, ⟨hv, nc, ns, nl, sg, hg.1, (hl0.fr f (fun i z => by have := fa z; omega) (fun t nn i k _ ht hi z => by have := fa z; omega)).cg hg.1.2.1.2 h50⟩, ⟨hps, hg.2⟩, ⟨fun i h2 => ((hi i h2).fr f (fun k z => by have := fa z; omega) (fun a k ha z => (fa z).1 ha)).mu h2 (em _ _ (by unfold obI; omega) (by omega) (by omega) (by omega) (by omega)) (fun j _ => em _ _ (by unfold obI; omega) (by omega) (by omega) (by omega) (by omega)), fun p e1 => ?_⟩, (ht.fr f (fun z => by have := fa z; omega) (fun k z => by have := fa z; omega)).mu (em _ _ (by unfold obI; omega) (by omega) (by omega) (by omega) (by omega)) (eo 9 (by omega)), (hco.fr f (fun k _ _ z => by have := fa z; omega) (fun k z => by have := fa z; omega)).mu ⟨em _ _ (by unfold obI; omega) (by omega) (by omega) (by omega) (by omega), em _ _ (by unfold obI; omega) (by omega) (by omega) (by omega) (by omega), em _ _ (by unfold obI; omega) (by omega) (by omega) (by omega) (by omega), em _ _ (by unfold obI; omega) (by omega) (by omega) (by omega) (by omega)⟩ (eo 1 (by omega)), (hb.fr f (fun i k hi z => by have := fa z; omega)).mu (em _ _ (by unfold obI; omega) (by omega) (by omega) (by omega) (by omega)) (eo 33 (by omega)), hw.fr f (fun k z => by have := fa z; omega) (fun z => by have := fa z; omega), (em _ _ (by unfold obI; omega) (by omega) (by omega) (by omega) (by omega)).trans h20⟩
  rw [f.R (fun z => by have := fa z; omega)] at e1 ⊢
  exact hd p e1
theorem CR.gm (hr : CR E h x μ) : ∃ nc ns nl sg, GM μ nc ns nl sg := by
  obtain ⟨hc, ⟨hv0, nc0, ns0, nl0, sg0, hg0, hl0⟩, hs, -⟩ := hr
  exact ⟨nc0, ns0, nl0, sg0, hg0, hs.2⟩
end REL3
