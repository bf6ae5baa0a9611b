/-! the relation: what it doesn't see -/
section REL2
variable {E : En} {h h1 : Hp} {x p : Nat} {r r' : Nat → Int32} {μ μ' : Mu} {S : Nat → Nat → Prop}
theorem PtV.cg (hv : PtV h p r) (hh : ∀ j, j < 49 → r' j = r j) : PtV h p r' := by
  obtain ⟨⟨a1, a2, a3, a4, a5⟩, b1, b2, b3, b4, b5, b6, b7, b8⟩ := hv
  exact ⟨⟨a1.trans (hh _ (by omega)).symm, a2.trans (hh _ (by omega)).symm, a3.trans (hh _ (by omega)).symm, a4.trans (hh _ (by omega)).symm, a5.trans (hh _ (by omega)).symm⟩, fun k hk => (b1 k hk).trans (hh _ (by omega)).symm, fun k hk => (b2 k hk).trans (hh _ (by omega)).symm, fun k hk => (b3 k hk).trans (hh _ (by omega)).symm, fun k hk => (b4 k hk).trans (hh _ (by omega)).symm, fun k hk => (b5 k hk).trans (hh _ (by omega)).symm, fun k hk => (b6 k hk).trans (hh _ (by omega)).symm, fun k hk => (b7 k hk).trans (hh _ (by omega)).symm, fun k hk => (b8 k hk).trans (hh _ (by omega)).symm⟩
theorem Gn.cg (hg : Gn r) (hh : ∀ j, j < 49 → r' j = r j) : Gn r' := fun k hk e => by
  rw [hh _ (by omega)] at e ⊢
  exact hg k hk e
theorem RwOK.cgA {nc ns : Nat} (hr : RwOK r nc ns) (hh : ∀ j, j < 49 → r' j = r j) : RwOK r' nc ns :=
  hr.cg (fun j hj => hh j (by omega)) (fun k hk => (hr.2.2.2.2.1 k hk).cg (hh _ (by omega)) (hh _ (by omega))) (fun k hk => by rw [hh _ (by omega)]; exact hr.2.2.2.2.2.1 k hk) (fun k hk => by rw [hh _ (by omega)]; exact hr.2.2.2.2.2.2.1 k hk) (fun k hk => by rw [hh _ (by omega)]; exact hr.2.2.2.2.2.2.2.1 k hk) (by rw [hh _ (by omega)]; exact hr.2.2.2.2.2.2.2.2.1)
theorem RwG.cg {nc ns nl sg : Nat} (hg : RwG r nc ns nl sg) (hh : ∀ j, j < 49 → r' j = r j) : RwG r' nc ns nl sg :=
  ⟨hg.1.cgA hh, by rw [hh 3 (by omega)]; exact hg.2.1, by rw [hh 2 (by omega)]; exact hg.2.2.1, by rw [hh 4 (by omega)]; exact hg.2.2.2.1, hg.2.2.2.2.cg hh⟩
theorem PoR.cg (hp : PoR E h x p r) (hh : ∀ j, j < 5450 → r' j = r j) : PoR E h x p r' := by
  obtain ⟨hv, nc, ns, nl, sg, hg, hl⟩ := hp
  exact ⟨hv.cg (fun j hj => hh j (by omega)), nc, ns, nl, sg, hg.cg (fun j hj => hh j (by omega)), hl.cg hg.2.1.2 (fun j h1 h2 => hh j h2)⟩
theorem PoR.fr (hp : PoR E h x p r) (f : Fr S h h1) (q1 : ∀ i k, i ≤ 9 → ¬ S (p + i) k) (q2 : ∀ t nn i k, txS E h t nn → x + 135 < t → i ≤ 5 → ¬ S (t + i) k) : PoR E h1 x p r := by
  obtain ⟨hv, nc, ns, nl, sg, hg, hl⟩ := hp
  exact ⟨hv.fr f (fun i k hi => q1 i k (by omega)), nc, ns, nl, sg, hg, hl.fr f (fun i => q1 9 i (by omega)) q2⟩
theorem PsR.fr (hp : PsR h x μ) (f : Fr S h h1) (q : ∀ i k, i ≤ 18 → ¬ S (x + 40 + i) k) : PsR h1 x μ := by
  obtain ⟨⟨nw, hv⟩, hu, hs⟩ := hp
  exact ⟨⟨nw, hv.fr f (q 0 2 (by omega)) (q 0 3 (by omega)) (fun i k h1 h2 => q i k h2)⟩, hu, hs⟩
theorem PsR.mu (hp : PsR h x μ) (h8 : μ' 0 8 = μ 0 8) (h6 : ∀ i, i < 16 → μ' 6 i = μ 6 i) (h5 : ∀ j, j < 528 → μ' 5 j = μ 5 j) (h26 : μ' 2 6 = μ 2 6) (h27 : μ' 2 7 = μ 2 7) : PsR h x μ' := by
  obtain ⟨⟨nw, hv⟩, ⟨hu, h16⟩, hs⟩ := hp
  have eu : uF μ' = uF μ := by unfold uF; rw [h8]
  refine ⟨⟨nw, ?_⟩, ⟨by rw [eu, h8]; exact hu, by rw [eu]; exact h16⟩, fun i hi => ?_⟩
  · rw [eu]
    exact hv.cg (fun i hi => h6 i (by omega)) (fun i hi j hj => h5 _ (by omega))
  · rw [eu] at hi
    obtain ⟨⟨kd, a1, a2⟩, a3, a4, b1, b2, b3, b4, b5, b6⟩ := hs i hi
    have eS : ∀ j, j < 38 → Sn μ' i j = Sn μ i j := fun j hj => h5 _ (by omega)
    refine ⟨⟨kd, a1, (h6 i (by omega)).trans a2⟩, by rw [h5 _ (by omega), h26]; exact a3, by rw [h5 _ (by omega), h27]; exact a4, fun k hk => (b1 k hk).cg (eS _ (by omega)) (eS _ (by omega)), fun k hk => by rw [eS _ (by omega)]; exact b2 k hk, fun k hk => by rw [eS _ (by omega)]; exact b3 k hk, fun k hk => by rw [eS _ (by omega)]; exact b4 k hk, by rw [eS _ (by omega)]; exact b5, fun k hk e => ?_⟩
    rw [eS _ (by omega)] at e ⊢
    exact b6 k hk e
/-- images are far from what is written -/
theorem ImR.fr {i : Nat} (hp : ImR E h x μ i) (f : Fr S h h1) (q1 : ∀ k, ¬ S (x + 13) k) (q2 : ∀ a k, x + 135 < a → ¬ S a k) : ImR E h1 x μ i := by
  rcases hp with ⟨a1, a2⟩ | ⟨a1, p, a2, a3, a4, a5⟩
  · exact Or.inl ⟨a1, (f.R (q1 i)).trans a2⟩
  · exact Or.inr ⟨a1, p, (f.R (q1 i)).trans a2, a3, a4.fr f (fun k _ => q2 p k a3), a5.fr f (fun j k hj => q2 _ _ (by omega)) (fun t nn j k _ ht hj => q2 _ _ (by omega))⟩
theorem ImR.mu {i : Nat} (hp : ImR E h x μ i) (hi : i < 2) (h4 : μ' 4 i = μ 4 i) (h3 : ∀ j, j < 10900 → μ' 3 j = μ 3 j) : ImR E h x μ' i := by
  rcases hp with ⟨a1, a2⟩ | ⟨a1, p, a2, a3, a4, a5⟩
  · exact Or.inl ⟨h4.trans a1, a2⟩
  · exact Or.inr ⟨h4.trans a1, p, a2, a3, a4, a5.cg (fun j hj => h3 _ (by omega))⟩
theorem TaR.fr (hp : TaR h x μ) (f : Fr S h h1) (q1 : ¬ S (x + 24) 1) (q2 : ∀ k, ¬ S (x + 25) k) : TaR h1 x μ := by
  obtain ⟨⟨t, a1, a2, a3⟩, a4, a5⟩ := hp
  exact ⟨⟨t, a1, a2, (f.I q1).trans a3⟩, fun k => (f.I (q2 k)).trans (a4 k), a5⟩
theorem TaR.mu (hp : TaR h x μ) (h0 : μ' 0 13 = μ 0 13) (h9 : μ' 9 = μ 9) : TaR h x μ' := by
  unfold TaR; rw [h0, h9]; exact hp
theorem CoR.fr (hp : CoR h x μ) (f : Fr S h h1) (q1 : ∀ k, 11 ≤ k → k ≤ 14 → ¬ S x k) (q2 : ∀ k, ¬ S (x + 101) k) : CoR h1 x μ := by
  obtain ⟨⟨a1, a2, a3, a4⟩, a5⟩ := hp
  exact ⟨⟨(f.I (q1 _ (by omega) (by omega))).trans a1, (f.I (q1 _ (by omega) (by omega))).trans a2, (f.I (q1 _ (by omega) (by omega))).trans a3, (f.I (q1 _ (by omega) (by omega))).trans a4⟩, fun j hj => (f.I (q2 j)).trans (a5 j hj)⟩
theorem CoR.mu (hp : CoR h x μ) (h0 : μ' 0 11 = μ 0 11 ∧ μ' 0 18 = μ 0 18 ∧ μ' 0 55 = μ 0 55 ∧ μ' 0 1 = μ 0 1) (h1 : μ' 1 = μ 1) : CoR h x μ' := by
  unfold CoR; rw [h0.1, h0.2.1, h0.2.2.1, h0.2.2.2, h1]; exact hp
theorem BhR.fr (hp : BhR h x μ) (f : Fr S h h1) (q1 : ∀ i k, i ≤ 8 → ¬ S (x + 14 + i) k) : BhR h1 x μ := by
  obtain ⟨rb, n, a1, a2⟩ := hp
  exact ⟨rb, n, a1.fr f q1, a2⟩
theorem BhR.mu (hp : BhR h x μ) (h0 : μ' 0 59 = μ 0 59) (h33 : μ' 33 = μ 33) : BhR h x μ' := by
  unfold BhR; rw [h0, h33]; exact hp
theorem WoR.fr (hp : WoR h x) (f : Fr S h h1) (q1 : ∀ k, ¬ S (x + 33) k) (q2 : ¬ S (x + 30) 0) : WoR h1 x := ⟨fun i hi => (f.I (q1 i)).trans (hp.1 i hi), (f.I q2).trans hp.2⟩
/-- what the relation doesn't see -/
def scP (x a k : Nat) : Prop := (reS x a k ∧ ¬ a = x + 24) ∨ foS x a k ∨ siS x a k ∨ rmS x a k ∨ (a = x + 88 ∧ (k = 3 ∨ k = 4 ∨ k = 5)) ∨ a = x + 89 ∨ (x + 102 ≤ a ∧ a ≤ x + 135)
theorem ro_sc {a k : Nat} (hs : roS x a k) : scP x a k := hs.elim (fun z => Or.inr (Or.inl z)) (fun z => Or.inr (Or.inr (Or.inl z)))
theorem ak_sc {a k : Nat} (hs : akS x a k) : scP x a k := ro_sc (ak_ro hs)
theorem csP_sc {a k : Nat} (hq : csP x a k) : ¬ scP x a k := by
  rintro (z | z | z | z | z | z | z)
  · exact csP_re hq z.1
  · exact csP_fo hq z
  · exact csP_si hq z
  · exact csP_rm hq z
  · exact csP_88 hq z
  · exact csP_or hq (Or.inr (Or.inl z))
  · obtain ⟨t, ht, rfl, rfl⟩ := hq
    have key : ∀ t ∈ csF, ¬ 102 ≤ t.1 := by decide +kernel
    have := key t ht
    omega
theorem cf_far {q a k : Nat} (hs : cfS q a k) : q ≤ a ∧ a ≤ q + 9 := by unfold cfS ptW at hs; omega
theorem ps_far {q a k : Nat} (hs : psW q a k) : q ≤ a ∧ a ≤ q + 18 := by unfold psW at hs; omega
theorem sc_far {a k : Nat} (hs : scP x a k) : ¬ x + 135 < a ∧ ¬ (x + 3 ≤ a ∧ a ≤ x + 25) ∧ ¬ a = x ∧ ¬ (x + 40 ≤ a ∧ a ≤ x + 58) ∧ ¬ a = x + 101 ∧ ¬ a = x + 33 ∧ ¬ (a = x + 30 ∧ k = 0) := by
  rcases hs with ⟨z, w⟩ | z | z | z | z | z | z
  · unfold reS at z
    rcases z with z | z | z | z | z | z | z | z | z | z | z <;> omega
  · unfold foS akS at z
    rcases z with z | z | z <;> omega
  · unfold siS akS at z
    rcases z with z | z | z <;> omega
  · rcases z with z | z
    · have := cf_far z; omega
    · have := ps_far z; omega
  · omega
  · omega
  · omega
theorem CR.fr (hr : CR E h x μ) (f : Fr S h h1) (q : ∀ a k, S a k → scP x a k) : CR E h1 x μ := by
  obtain ⟨hc, hp, hs, ⟨hi, hd⟩, ht, hco, hb, hw, h20⟩ := hr
  have fa : ∀ {a k : Nat}, S a k → ¬ x + 135 < a ∧ ¬ (x + 3 ≤ a ∧ a ≤ x + 25) ∧ ¬ a = x ∧ ¬ (x + 40 ≤ a ∧ a ≤ x + 58) ∧ ¬ a = x + 101 ∧ ¬ a = x + 33 ∧ ¬ (a = x + 30 ∧ k = 0) := fun z => sc_far (q _ _ z)
  refine ⟨hc.fr f (fun a k hq z => csP_sc hq (q a k z)), hp.fr f (fun i k hi z => by have := fa z; omega) (fun t nn i k _ ht hi z => by have := fa z; omega), hs.fr f (fun i k hi z => by have := fa z; omega), ⟨fun i h2 => (hi i h2).fr f (fun k z => by have := fa z; omega) (fun a k ha z => (fa z).1 ha), fun p e1 => ?_⟩, ht.fr f (fun z => by have := fa z; omega) (fun k z => by have := fa z; omega), hco.fr f (fun k _ _ z => by have := fa z; omega) (fun k z => by have := fa z; omega), hb.fr f (fun i k hi z => by have := fa z; omega), hw.fr f (fun k z => by have := fa z; omega) (fun z => by have := fa z; omega), h20⟩
  rw [f.R (fun z => by have := fa z; omega)] at e1 ⊢
  exact hd p e1
theorem CR.mu (hr : CR E h x μ) (q : ∀ o j, obI o j → μ' o j = μ o j) : CR E h x μ' := by
  obtain ⟨hc, hp, hs, ⟨hi, hd⟩, ht, hco, hb, hw, h20⟩ := hr
  have e : ∀ o, (o = 1 ∨ o = 2 ∨ o = 3 ∨ o = 4 ∨ o = 6 ∨ o = 9 ∨ o = 33) → μ' o = μ o := fun o ho => by
    funext j; exact q o j (by unfold obI; omega)
  refine ⟨hc, by rw [e 2 (by omega)]; exact hp, hs.mu (q _ _ (by unfold obI; omega)) (fun i _ => q _ _ (by unfold obI; omega)) (fun j hj => q _ _ (by unfold obI; omega)) (q _ _ (by unfold obI; omega)) (q _ _ (by unfold obI; omega)), ⟨fun i h2 => (hi i h2).mu h2 (q _ _ (by unfold obI; omega)) (fun j _ => q _ _ (by unfold obI; omega)), hd⟩, ht.mu (q _ _ (by unfold obI; omega)) (e 9 (by omega)), hco.mu ⟨q _ _ (by unfold obI; omega), q _ _ (by unfold obI; omega), q _ _ (by unfold obI; omega), q _ _ (by unfold obI; omega)⟩ (e 1 (by omega)), hb.mu (q _ _ (by unfold obI; omega)) (e 33 (by omega)), hw, (q _ _ (by unfold obI; omega)).trans h20⟩
theorem CR.ob {l l' : La} (hr : CR E h x μ) (ho : Ob μ l μ' l') : CR E h x μ' := hr.mu (Ob.pt.mp ho).1
/-- an answer is told, in both -/
theorem CR.tell (hr : CR E h x μ) (v : Int32) (hv : v < 0 → ∃ j, j < 7 ∧ -v = nI j) : CR E (toH x h v) x (tellM μ v) := by
  have f : Fr (fun a k => (a = x ∧ k = 14) ∨ a = x + 101) h (toH x h v) := by
    unfold toH
    split
    · exact (Fr.wI (Or.inl ⟨rfl, rfl⟩)).tr (Fr.wI (Or.inr rfl))
    · exact Fr.wI (Or.inl ⟨rfl, rfl⟩)
  have qm : ∀ o j, ¬ (o = 0 ∧ j = 1) → o ≠ 1 → tellM μ v o j = μ o j := fun o j h1 h2 => by
    unfold tellM
    split
    · rw [up2_ne (by omega), up2_ne (by omega)]
    · rw [up2_ne (by omega)]
  have qo : ∀ o, o ≠ 0 → o ≠ 1 → tellM μ v o = μ o := fun o h1 h2 => by funext j; exact qm o j (by omega) h2
  obtain ⟨hc, hp, hs, ⟨hi, hd⟩, ht, hco, hb, hw, h20⟩ := hr
  refine ⟨hc.fr f (fun a k hq z => ?_), by rw [qo 2 (by omega) (by omega)]; exact hp.fr f (fun i k hi z => by omega) (fun t nn i k _ ht hi z => by omega), (hs.fr f (fun i k hi z => by omega)).mu (qm _ _ (by omega) (by omega)) (fun i _ => qm _ _ (by omega) (by omega)) (fun j _ => qm _ _ (by omega) (by omega)) (qm _ _ (by omega) (by omega)) (qm _ _ (by omega) (by omega)), ⟨fun i h2 => ((hi i h2).fr f (fun k z => by omega) (fun a k ha z => by omega)).mu h2 (qm _ _ (by omega) (by omega)) (fun j _ => qm _ _ (by omega) (by omega)), fun p e1 => ?_⟩, (ht.fr f (fun z => by omega) (fun k z => by omega)).mu (qm _ _ (by omega) (by omega)) (qo 9 (by omega) (by omega)), ?_, (hb.fr f (fun i k hi z => by omega)).mu (qm _ _ (by omega) (by omega)) (qo 33 (by omega) (by omega)), hw.fr f (fun k z => by omega) (fun z => by omega), (qm _ _ (by omega) (by omega)).trans h20⟩
  · obtain ⟨t, ht, rfl, rfl⟩ := hq
    have key : ∀ t ∈ csF, ¬ ((t.1 = 0 ∧ t.2.1 = 14) ∨ t.1 = 101) := by decide +kernel
    exact key t ht (by omega)
  · rw [f.R (by omega)] at e1 ⊢
    exact hd p e1
  · obtain ⟨⟨a1, a2, a3, a4⟩, a5⟩ := hco
    unfold toH tellM
    by_cases hn : v < 0
    · obtain ⟨j0, hj0, e0⟩ := hv hn
      rw [if_pos hn, if_pos hn, e0, nI_clamp (by omega)]
      refine ⟨⟨?_, ?_, ?_, ?_⟩, fun j hj => ?_⟩
      · rw [hI_ne (by omega), hI_ne (by omega), up2_ne (by omega), up2_ne (by omega)]; exact a1
      · rw [hI_ne (by omega), hI_ne (by omega), up2_ne (by omega), up2_ne (by omega)]; exact a2
      · rw [hI_ne (by omega), hI_ne (by omega), up2_ne (by omega), up2_ne (by omega)]; exact a3
      · rw [hI_ne (by omega), hI_at, up2_ne (by omega), up2_at]
      · by_cases hjj : j = j0
        · subst hjj
          rw [hI_at, up2_at, a5 j hj]
        · rw [hI_ne (by omega), hI_ne (by omega), up2_ne (by omega), up2_ne (by omega)]; exact a5 j hj
    · rw [if_neg hn, if_neg hn]
      refine ⟨⟨?_, ?_, ?_, ?_⟩, fun j hj => ?_⟩
      · rw [hI_ne (by omega), up2_ne (by omega)]; exact a1
      · rw [hI_ne (by omega), up2_ne (by omega)]; exact a2
      · rw [hI_ne (by omega), up2_ne (by omega)]; exact a3
      · rw [hI_at, up2_at]
      · rw [hI_ne (by omega), up2_ne (by omega)]; exact a5 j hj
end REL2
