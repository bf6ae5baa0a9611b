/-! both at a time: the rest -/
section BOTH2
variable {E : En} {g h1 : Hp} {μ μ1 μ2 : Mu} {l l2 : La}
theorem tw_pass (hi : Inv E g μ l) : TwI E 6 0 0 8 mX11_pass mX12_pass [] g := by
  obtain ⟨hr, hm, he, ⟨hw, h7, h11⟩, hn⟩ := id hi
  obtain ⟨nc, ns, nl, sg, lw, fo, hg, hls, hL, hfo⟩ := PoR.lv hr.1 hr.2.1
  have hgm : GM μ nc ns nl sg := ⟨hg, hr.2.2.1.2⟩
  have hx : Mx μ fo nc ns := ⟨hr.2.2.2.2.2.2.2.2, hfo, hg.1.1, hg.1.2.1, hg.1.2.2.1, hg.1.2.2.2.1⟩
  have hcat : ∀ k, k < nc → CatOK (μ 2) k := fun k hk => hg.1.2.2.2.2.1 k (by have := hg.1.2.1; omega)
  have hu := hgm.2.1.1
  have h16 := hgm.2.1.2
  obtain ⟨⟨t, ht4, ht, ht1⟩, hta, hby⟩ := hr.2.2.2.2.1
  have top : eZ E + 135 < eZ E + hN g := by omega
  obtain ⟨y, hy9, hy⟩ := hg.1.2.2.2.2.2.2.2.2.1
  have key : ∀ (ν : Mu) (κ : La), Ob (if μ 2 5 = 999 then up2 μ 0 0 0 else remM (up2 μ 0 0 0) (uF μ) 3) l ν κ → Ob (tellM (actM μ fo nc ns (nI 3) 0 0) (actV (μ 2) fo nc ns (nI 3) 0 0)) l (tellM (passM (μ 2) fo nc (uF μ) ν) (passV (μ 2))) κ := fun ν κ ho => by
    refine Ob.tellC ?_ (passV (μ 2))
    show Ob (if μ 2 5 = 999 then μ else setR (remM μ (uF μ) 3) (passR (μ 2) fo nc)) l (if μ 2 5 = 999 then ν else setR ν (passR (μ 2) fo nc)) κ
    by_cases h9 : μ 2 5 = 999
    · rw [if_pos h9] at ho
      rw [if_pos h9, if_pos h9]
      exact Ob.th.tr ho
    · rw [if_neg h9] at ho
      rw [if_neg h9, if_neg h9]
      exact ((Ob.th.rem (uF μ) 3).tr ho).cR _
  refine ⟨_, c11_pass hr hgm hL, fun r1 h1 q1 => ?_⟩
  obtain ⟨rfl, hr1, hk1⟩ := q1
  obtain ⟨hm1, he1⟩ := hi.ref hk1
  have c2 := ct_mpass (μ := μ) (l := l) hm1 hx hu h16 hy hy9
  rw [he1] at c2
  refine ⟨_, rfl, _, c2, hm1, fun r2 g2 q2 => ?_⟩
  obtain ⟨ν, κ, hS, rfl, rfl⟩ := q2
  exact ⟨rfl, _, _, hi.fin hk1 hr1 (key ν κ hS.ob)⟩
theorem tw_rich (hi : Inv E g μ l) (a0 : Int32) : TwI E 3 0 0 6 mX11_rich mX12_rich [.int a0] g := by
  obtain ⟨hr, hm, he, ⟨hw, h7, h11⟩, hn⟩ := id hi
  obtain ⟨nc, ns, nl, sg, lw, fo, hg, hls, hL, hfo⟩ := PoR.lv hr.1 hr.2.1
  have hgm : GM μ nc ns nl sg := ⟨hg, hr.2.2.1.2⟩
  have hx : Mx μ fo nc ns := ⟨hr.2.2.2.2.2.2.2.2, hfo, hg.1.1, hg.1.2.1, hg.1.2.2.1, hg.1.2.2.2.1⟩
  have hcat : ∀ k, k < nc → CatOK (μ 2) k := fun k hk => hg.1.2.2.2.2.1 k (by have := hg.1.2.1; omega)
  have hu := hgm.2.1.1
  have h16 := hgm.2.1.2
  obtain ⟨⟨t, ht4, ht, ht1⟩, hta, hby⟩ := hr.2.2.2.2.1
  have top : eZ E + 135 < eZ E + hN g := by omega
  have ex : ∃ lw2 fo2, (isLawB nl a0 = true → LwA g (eZ E + 3) (va_up (μ 2) 4 a0) nl lw2 ∧ FoL E g (eZ E) fo2 lw2) ∧ (isLawB nl a0 = true → Mx (up2 μ 2 4 a0) fo2 nc ns) := by
    by_cases hb : isLawB nl a0 = true
    · have hc : a0 = -1 ∨ ∃ f, f < nl ∧ a0 = nI f := by
        unfold isLawB at hb
        rw [Bool.or_eq_true, decide_eq_true_eq] at hb
        rcases hb with z | z
        · exact Or.inl z
        · exact Or.inr (inN_of (by have := hg.2.1.2; omega) z)
      obtain ⟨lw2, fo2, q1, q2, q3, q4⟩ := law_at hls hg.2.1.2 hc
      have e4 : up2 μ 2 4 a0 2 = va_up (μ 2) 4 a0 := up2_same
      refine ⟨lw2, fo2, fun _ => ⟨⟨?_, ?_⟩, q3⟩, fun _ => ⟨?_, ?_, ?_, hg.1.2.1, ?_, hg.1.2.2.2.1⟩⟩
      · rw [va_up_self]; exact q1
      · rw [va_up_self]; exact q2
      · rw [up2_ne (by omega)]; exact hx.1
      · rw [e4]
        cases fo2 with
        | none => show va_up (μ 2) 4 a0 4 = -1; rw [va_up_self]; exact q4
        | some cls =>
          obtain ⟨i, e1, e2⟩ := q4
          exact ⟨i, by rw [va_up_self]; exact e1, e2.cg (fun j j1 j2 => va_up_ne _ _ (by omega))⟩
      · rw [e4, va_up_ne _ _ (by omega)]; exact hg.1.1
      · rw [e4, va_up_ne _ _ (by omega)]; exact hg.1.2.2.1
    · exact ⟨none, none, fun z => absurd z hb, fun z => absurd z hb⟩
  obtain ⟨lw2, fo2, q3, q4⟩ := ex
  refine ⟨_, c11_rich hL a0 q3, fun r1 h1 q1 => ?_⟩
  obtain ⟨rfl, f1⟩ := q1
  have hk1 : Kp (eZ E) g h1 := kp_ro f1
  have hr1 : CR E h1 (eZ E) μ := hr.fr f1 (fun a k z => ro_sc z)
  obtain ⟨hm1, he1⟩ := hi.ref hk1
  have c2 := ct_mrich (μ := μ) (l := l) hm1 a0 hg.2.1.1 hg.2.1.2 q4
  rw [he1] at c2
  refine ⟨_, rfl, _, c2, hm1, fun r2 g2 q2 => ?_⟩
  obtain ⟨ν, κ, rfl, hS, rfl⟩ := q2
  exact ⟨rfl, _, _, hi.fin hk1 hr1 (Ob.th.tr hS.x.ob)⟩
theorem Ob.drO {μ' : Mu} {l' : La} (hO : Ob μ l μ' l') (T : Nat → Int32) (k : Nat) : Ob (drN μ T k) l (drN μ' T k) l' := by
  obtain ⟨p1, p2⟩ := Ob.pt.mp hO
  refine Ob.pt.mpr ⟨fun o j hq => ?_, p2⟩
  unfold drN
  rw [p1 o j hq]
theorem tw_years (hi : Inv E g μ l) (a0 a1 : Int32) : TwI E 5 0 0 7 mX11_years mX12_years [.int a0, .int a1] g := by
  obtain ⟨hr, hm, he, ⟨hw, h7, h11⟩, hn⟩ := id hi
  obtain ⟨nc, ns, nl, sg, lw, fo, hg, hls, hL, hfo⟩ := PoR.lv hr.1 hr.2.1
  have hgm : GM μ nc ns nl sg := ⟨hg, hr.2.2.1.2⟩
  have hx : Mx μ fo nc ns := ⟨hr.2.2.2.2.2.2.2.2, hfo, hg.1.1, hg.1.2.1, hg.1.2.2.1, hg.1.2.2.2.1⟩
  have hcat : ∀ k, k < nc → CatOK (μ 2) k := fun k hk => hg.1.2.2.2.2.1 k (by have := hg.1.2.1; omega)
  have hu := hgm.2.1.1
  have h16 := hgm.2.1.2
  obtain ⟨⟨t, ht4, ht, ht1⟩, hta, hby⟩ := hr.2.2.2.2.1
  have top : eZ E + 135 < eZ E + hN g := by omega
  have key : ∀ (ν : Mu) (κ : La), Ob μ l ν κ → Ob (yearsM (μ 2) fo nc a0 a1 μ) l (yearsM (μ 2) fo nc a0 a1 ν) κ := fun ν κ ho => by
    unfold yearsM
    by_cases hz : yearsOK nc a0 a1 = 0
    · rw [if_pos hz, if_pos hz]
      exact ((ho.up 0 59 (nI nc)).drO _ nc).tellC _
    · rw [if_neg hz, if_neg hz]
      exact ho.tellC _
  refine ⟨_, c11_years hr hgm hL a0 a1, fun r1 h1 q1 => ?_⟩
  obtain ⟨rfl, hr1, hk1⟩ := q1
  obtain ⟨hm1, he1⟩ := hi.ref hk1
  have c2 := ct_myears (μ := μ) (l := l) hm1 hx a0 a1
  rw [he1] at c2
  refine ⟨_, rfl, _, c2, hm1, fun r2 g2 q2 => ?_⟩
  obtain ⟨ν, κ, ho, rfl, rfl⟩ := q2
  exact ⟨rfl, _, _, hi.fin hk1 hr1 (key ν κ ho)⟩
theorem tw_law (hi : Inv E g μ l) : TwI E 44 6 869 8 mX11_law mX12_law [] g := by
  obtain ⟨hr, hm, he, ⟨hw, h7, h11⟩, hn⟩ := id hi
  obtain ⟨nc, ns, nl, sg, lw, fo, hg, hls, hL, hfo⟩ := PoR.lv hr.1 hr.2.1
  have hgm : GM μ nc ns nl sg := ⟨hg, hr.2.2.1.2⟩
  have hx : Mx μ fo nc ns := ⟨hr.2.2.2.2.2.2.2.2, hfo, hg.1.1, hg.1.2.1, hg.1.2.2.1, hg.1.2.2.2.1⟩
  have hcat : ∀ k, k < nc → CatOK (μ 2) k := fun k hk => hg.1.2.2.2.2.1 k (by have := hg.1.2.1; omega)
  have hu := hgm.2.1.1
  have h16 := hgm.2.1.2
  obtain ⟨⟨t, ht4, ht, ht1⟩, hta, hby⟩ := hr.2.2.2.2.1
  have top : eZ E + 135 < eZ E + hN g := by omega
  have h20 : μ 0 20 = 0 := hx.1
  refine ⟨_, c11_law hw h7 hr hgm ht ht4 top, fun r1 h1 q1 => ?_⟩
  obtain ⟨hk1, q1⟩ := q1
  obtain ⟨hm1, he1⟩ := hi.ref hk1
  by_cases h6 : nl = 6
  · rw [if_pos h6] at q1
    obtain ⟨rfl, hr1⟩ := q1
    have c2 := ct_mlaw (μ := μ) (l := l) hm1 ht ht4 h20 hg.2.1.1 hg.2.1.2 (R := .inl 0) (fun z => by omega)
    rw [he1] at c2
    refine ⟨_, rfl, _, c2, hm1, fun r2 g2 q2 => ?_⟩
    unfold pLaw at q2
    rw [if_pos h6] at q2
    obtain ⟨rfl, rfl⟩ := q2
    exact ⟨rfl, _, _, hi.fin hk1 hr1 Ob.rf⟩
  · rw [if_neg h6] at q1
    obtain ⟨R, hRn, hq⟩ := q1
    have c2 := ct_mlaw (μ := μ) (l := l) hm1 ht ht4 h20 hg.2.1.1 hg.2.1.2 (R := R) (fun _ => hRn)
    rw [he1] at c2
    cases R with
    | inl j =>
      obtain ⟨rfl, hr1⟩ := hq
      refine ⟨_, rfl, _, c2, hm1, fun r2 g2 q2 => ?_⟩
      unfold pLaw at q2
      rw [if_neg h6] at q2
      obtain ⟨ν, κ, ho, rfl, rfl⟩ := q2
      exact ⟨rfl, _, _, hi.fin hk1 hr1 (ho.tellC _)⟩
    | inr cls =>
      obtain ⟨rfl, all⟩ := hq
      refine ⟨_, rfl, _, c2, hm1, fun r2 g2 q2 => ?_⟩
      unfold pLaw at q2
      rw [if_neg h6] at q2
      obtain ⟨ν, κ, R2, ho, rfl, rfl, b1, b2, b3⟩ := q2
      exact ⟨rfl, _, _, hi.fin hk1 (all R2 b1 b2 b3) ((ho.cR R2).tellC _)⟩
theorem tw_orders (hi : Inv E g μ l) : TwI E 44 0 0 10 mX11_orders mX12_orders [] g := by
  obtain ⟨hr, hm, he, ⟨hw, h7, h11⟩, hn⟩ := id hi
  obtain ⟨nc, ns, nl, sg, lw, fo, hg, hls, hL, hfo⟩ := PoR.lv hr.1 hr.2.1
  have hgm : GM μ nc ns nl sg := ⟨hg, hr.2.2.1.2⟩
  have hx : Mx μ fo nc ns := ⟨hr.2.2.2.2.2.2.2.2, hfo, hg.1.1, hg.1.2.1, hg.1.2.2.1, hg.1.2.2.2.1⟩
  have hcat : ∀ k, k < nc → CatOK (μ 2) k := fun k hk => hg.1.2.2.2.2.1 k (by have := hg.1.2.1; omega)
  have hu := hgm.2.1.1
  have h16 := hgm.2.1.2
  obtain ⟨⟨t, ht4, ht, ht1⟩, hta, hby⟩ := hr.2.2.2.2.1
  have top : eZ E + 135 < eZ E + hN g := by omega
  have hea : ∀ k, k < nc → 0 ≤ μ 2 (20 + k) := fun k hk => by obtain ⟨e, e1, e2⟩ := hg.1.2.2.2.2.2.1 k (by have := hg.1.2.1; omega); rw [e2]; exact nI_pos' (by omega)
  have hJ : JR μ fo nc ns := ⟨hx, ⟨hu, h16⟩, hea⟩
  refine ⟨_, c11_orders hw h11 hr hgm hL ht ht4, fun r1 h1 q1 => ?_⟩
  obtain ⟨hk1, R, hRn, hq⟩ := q1
  obtain ⟨hm1, he1⟩ := hi.ref hk1
  have c2 := ct_morders (μ := μ) (l := l) hm1 hJ ht ht4 (R := R) hRn
  rw [he1] at c2
  cases R with
  | inl j =>
    obtain ⟨rfl, hr1⟩ := hq
    refine ⟨_, rfl, _, c2, hm1, fun r2 g2 q2 => ?_⟩
    obtain ⟨ν, κ, ho, rfl, rfl⟩ := q2
    exact ⟨rfl, _, _, hi.fin hk1 hr1 (ho.tellC _)⟩
  | inr ds =>
    dsimp only at hq
    cases hF : lisF fo nc ns ds 0 (up2 (up2 (up2 (up2 (up2 μ 0 55 (-1)) 0 13 0) 0 18 (-1)) 0 53 0) 0 54 (-1)) with
    | inl k =>
      rw [hF] at hq
      obtain ⟨rfl, hr1⟩ := hq
      refine ⟨_, rfl, _, c2, hm1, fun r2 g2 q2 => ?_⟩
      unfold pOr at q2
      dsimp only at q2
      rw [hF] at q2
      obtain ⟨ν, κ, ho, rfl, rfl⟩ := q2
      exact ⟨rfl, _, _, hi.fin hk1 hr1 (ho.tellC _)⟩
    | inr β =>
      rw [hF] at hq
      obtain ⟨rfl, hr1⟩ := hq
      refine ⟨_, rfl, _, c2, hm1, fun r2 g2 q2 => ?_⟩
      unfold pOr at q2
      dsimp only at q2
      rw [hF] at q2
      obtain ⟨ν, κ, ho, rfl, rfl⟩ := q2
      exact ⟨rfl, _, _, hi.fin hk1 hr1 (ho.tellC _)⟩
end BOTH2
