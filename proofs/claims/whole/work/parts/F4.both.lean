/-! both at a time: what holds between two calls -/
section BOTH
variable {E : En} {g h1 : Hp} {μ μ1 μ2 : Mu} {l l2 : La}
/-- between two calls: the class and the reference are alike; the reference's cells are this memory -/
def Inv (E : En) (g : Hp) (μ : Mu) (l : La) : Prop := CR E g (eZ E) μ ∧ Md E g (eZ E + 102) ∧ mH g (eZ E + 102) μ l = g ∧ (Wls (l 15) (l 16) ∧ Whs (l 17) 7 ∧ Whs (l 31) 11) ∧ 136 ≤ hN g
theorem Inv.start : Inv E (h00 E) mu0 la0 := ⟨st_cr, st_md, st_mH, ⟨st_wl, st_w7, st_w11⟩, Nat.le_refl _⟩
theorem Md.kp (hm : Md E g (eZ E + 102)) (hk : Kp (eZ E) g h1) : Md E h1 (eZ E + 102) := by
  have A : ∀ ci, isA E g (eZ E + 102) ci → isA E h1 (eZ E + 102) ci := fun ci z => ⟨z.1, by have := z.2.1; have := hk.1; omega, (hk.2 _ (by omega) (by omega)).1.trans z.2.2⟩
  have B : ∀ i kd len, i ≤ 33 → isR E g (eZ E + 102 + i) kd len → isR E h1 (eZ E + 102 + i) kd len := fun i kd len hi z => ⟨z.1, by have := z.2.1; have := hk.1; omega, (hk.2 _ (by omega) (by omega)).1.trans z.2.2.1, (hk.2 _ (by omega) (by omega)).2.1.trans z.2.2.2⟩
  have R : ∀ k v, hR g (eZ E + 102) k = v → hR h1 (eZ E + 102) k = v := fun k v z => (congrFun (hk.2 _ (by omega) (by omega)).2.2.2.2 k).trans z
  exact ⟨A _ (md_is hm), ⟨R _ _ (md_f2 hm), B _ _ _ (by omega) (md_r2 hm)⟩, ⟨R _ _ (md_f3 hm), B _ _ _ (by omega) (md_r3 hm)⟩, ⟨R _ _ (md_f4 hm), B _ _ _ (by omega) (md_r4 hm)⟩, ⟨R _ _ (md_f5 hm), B _ _ _ (by omega) (md_r5 hm)⟩, ⟨R _ _ (md_f6 hm), B _ _ _ (by omega) (md_r6 hm)⟩, ⟨R _ _ (md_f7 hm), B _ _ _ (by omega) (md_r7 hm)⟩, ⟨R _ _ (md_f9 hm), B _ _ _ (by omega) (md_r9 hm)⟩, ⟨R _ _ (md_f10 hm), B _ _ _ (by omega) (md_r10 hm)⟩, ⟨R _ _ (md_f12 hm), B _ _ _ (by omega) (md_r12 hm)⟩, ⟨R _ _ (md_f22 hm), B _ _ _ (by omega) (md_r22 hm)⟩, ⟨R _ _ (md_f24 hm), B _ _ _ (by omega) (md_r24 hm)⟩, ⟨R _ _ (md_f25 hm), B _ _ _ (by omega) (md_r25 hm)⟩, ⟨R _ _ (md_f27 hm), B _ _ _ (by omega) (md_r27 hm)⟩, ⟨R _ _ (md_f28 hm), B _ _ _ (by omega) (md_r28 hm)⟩, ⟨R _ _ (md_f31 hm), B _ _ _ (by omega) (md_r31 hm)⟩, ⟨R _ _ (md_f32 hm), B _ _ _ (by omega) (md_r32 hm)⟩, ⟨R _ _ (md_f33 hm), B _ _ _ (by omega) (md_r33 hm)⟩, ⟨R _ _ (md_f35 hm), B _ _ _ (by omega) (md_r35 hm)⟩, ⟨R _ _ (md_f36 hm), B _ _ _ (by omega) (md_r36 hm)⟩, ⟨R _ _ (md_f37 hm), B _ _ _ (by omega) (md_r37 hm)⟩, ⟨R _ _ (md_f41 hm), B _ _ _ (by omega) (md_r41 hm)⟩, ⟨R _ _ (md_f42 hm), B _ _ _ (by omega) (md_r42 hm)⟩, ⟨R _ _ (md_f43 hm), B _ _ _ (by omega) (md_r43 hm)⟩, ⟨R _ _ (md_f44 hm), B _ _ _ (by omega) (md_r44 hm)⟩, ⟨R _ _ (md_f45 hm), B _ _ _ (by omega) (md_r45 hm)⟩, ⟨R _ _ (md_f46 hm), B _ _ _ (by omega) (md_r46 hm)⟩, ⟨R _ _ (md_f47 hm), B _ _ _ (by omega) (md_r47 hm)⟩, ⟨R _ _ (md_f48 hm), B _ _ _ (by omega) (md_r48 hm)⟩, ⟨R _ _ (md_f49 hm), B _ _ _ (by omega) (md_r49 hm)⟩, ⟨R _ _ (md_f50 hm), B _ _ _ (by omega) (md_r50 hm)⟩, ⟨R _ _ (md_f51 hm), B _ _ _ (by omega) (md_r51 hm)⟩, ⟨R _ _ (md_f52 hm), B _ _ _ (by omega) (md_r52 hm)⟩, ⟨R _ _ (md_f58 hm), B _ _ _ (by omega) (md_r58 hm)⟩⟩
theorem Inv.ref (hi : Inv E g μ l) (hk : Kp (eZ E) g h1) : Md E h1 (eZ E + 102) ∧ mH h1 (eZ E + 102) μ l = h1 := by
  obtain ⟨-, hm, he, -, -⟩ := hi
  refine ⟨hm.kp hk, ?_⟩
  have eI : ∀ o, o < 34 → hI h1 (eZ E + 102 + o) = μ o := fun o ho => by
    rw [(hk.2 _ (by omega) (by omega)).2.2.1, ← he, mH_I ho]
  have eJ : ∀ o, o < 34 → hJ h1 (eZ E + 102 + o) = l o := fun o ho => by
    rw [(hk.2 _ (by omega) (by omega)).2.2.2.1, ← he, mH_J ho]
  have e1 : (fun a => if eZ E + 102 ≤ a ∧ a < eZ E + 102 + 34 then μ (a - (eZ E + 102)) else h1.2.1 a) = h1.2.1 := by
    funext a
    by_cases z : eZ E + 102 ≤ a ∧ a < eZ E + 102 + 34
    · rw [if_pos z, ← eI _ (by omega)]
      show h1.2.1 _ = h1.2.1 a
      rw [show eZ E + 102 + (a - (eZ E + 102)) = a by omega]
    · rw [if_neg z]
  have e2 : (fun a => if eZ E + 102 ≤ a ∧ a < eZ E + 102 + 34 then l (a - (eZ E + 102)) else h1.2.2.1 a) = h1.2.2.1 := by
    funext a
    by_cases z : eZ E + 102 ≤ a ∧ a < eZ E + 102 + 34
    · rw [if_pos z, ← eJ _ (by omega)]
      show h1.2.2.1 _ = h1.2.2.1 a
      rw [show eZ E + 102 + (a - (eZ E + 102)) = a by omega]
    · rw [if_neg z]
  unfold mH
  rw [e1, e2]
theorem mH_mH {h : Hp} {m : Nat} : mH (mH h m μ l) m μ l = mH h m μ l := by
  have e : ∀ {α : Type} (f g : Nat → α), (fun a => if m ≤ a ∧ a < m + 34 then f (a - m) else (fun a => if m ≤ a ∧ a < m + 34 then f (a - m) else g a) a) = fun a => if m ≤ a ∧ a < m + 34 then f (a - m) else g a := fun f g => by
    funext a
    by_cases z : m ≤ a ∧ a < m + 34
    · rw [if_pos z, if_pos z]
    · rw [if_neg z]
  unfold mH
  dsimp only
  rw [e, e]
theorem mH_fr {x : Nat} : Fr (fun a _ => x + 102 ≤ a ∧ a ≤ x + 135) h1 (mH h1 (x + 102) μ l) := ⟨rfl, fun a k hs => by
  refine ⟨?_, ?_, rfl⟩
  · show (if x + 102 ≤ a ∧ a < x + 102 + 34 then μ (a - (x + 102)) else h1.2.1 a) k = h1.2.1 a k
    rw [if_neg (by omega)]
  · show (if x + 102 ≤ a ∧ a < x + 102 + 34 then l (a - (x + 102)) else h1.2.2.1 a) k = h1.2.2.1 a k
    rw [if_neg (by omega)]⟩
/-- behind both calls -/
theorem Inv.fin (hi : Inv E g μ l) (hk : Kp (eZ E) g h1) (hr : CR E h1 (eZ E) μ1) (ho : Ob μ1 l μ2 l2) : Inv E (mH h1 (eZ E + 102) μ2 l2) μ2 l2 := by
  obtain ⟨p1, p2⟩ := Ob.pt.mp ho
  obtain ⟨-, hm, -, ⟨w1, w2, w3⟩, hn⟩ := hi
  have hm1 : Md E h1 (eZ E + 102) := hm.kp hk
  refine ⟨(hr.fr mH_fr (fun a k z => Or.inr (Or.inr (Or.inr (Or.inr (Or.inr (Or.inr z))))))).mu p1, hm1, mH_mH, ⟨?_, ?_, ?_⟩, Nat.le_trans hn hk.1⟩
  · rw [p2 15 (by decide), p2 16 (by decide)]; exact w1
  · rw [p2 17 (by decide)]; exact w2
  · rw [p2 31 (by decide)]; exact w3
/-- the two calls of one name: both return, and the same -/
def TwI (E : En) (d1 mc ms d2 : Nat) (M1 M2 : Mi) (as : List Value) (g : Hp) : Prop := ∃ p1, Ct E d1 mc ms M1 (.ref (eZ E) :: as) g p1 ∧ ∀ r1 h1, p1 r1 h1 → ∃ v, r1 = some (.int v) ∧ ∃ p2, Ct E d2 0 0 M2 (.ref (eZ E + 102) :: as) h1 p2 ∧ Md E h1 (eZ E + 102) ∧ ∀ r2 g2, p2 r2 g2 → r2 = some (.int v) ∧ ∃ μ' l', Inv E g2 μ' l'
def TwJ (E : En) (d1 mc ms d2 : Nat) (M1 M2 : Mi) (as : List Value) (g : Hp) : Prop := ∃ p1, Ct E d1 mc ms M1 (.ref (eZ E) :: as) g p1 ∧ ∀ r1 h1, p1 r1 h1 → ∃ v, r1 = some (.long v) ∧ ∃ p2, Ct E d2 0 0 M2 (.ref (eZ E + 102) :: as) h1 p2 ∧ Md E h1 (eZ E + 102) ∧ ∀ r2 g2, p2 r2 g2 → r2 = some (.long v) ∧ ∃ μ' l', Inv E g2 μ' l'
theorem kp_rf : Kp (eZ E) g g := ⟨Nat.le_refl _, fun a _ _ => ⟨rfl, rfl, rfl, rfl, rfl⟩⟩
theorem tw_cat (hi : Inv E g μ l) (a0 : Int32) : TwI E 2 0 0 3 mX11_cat mX12_cat [.int a0] g := by
  obtain ⟨hr, hm, he, ⟨hw, h7, h11⟩, hn⟩ := id hi
  obtain ⟨nc, ns, nl, sg, lw, fo, hg, hls, hL, hfo⟩ := PoR.lv hr.1 hr.2.1
  have hgm : GM μ nc ns nl sg := ⟨hg, hr.2.2.1.2⟩
  have hx : Mx μ fo nc ns := ⟨hr.2.2.2.2.2.2.2.2, hfo, hg.1.1, hg.1.2.1, hg.1.2.2.1, hg.1.2.2.2.1⟩
  have hcat : ∀ k, k < nc → CatOK (μ 2) k := fun k hk => hg.1.2.2.2.2.1 k (by have := hg.1.2.1; omega)
  have hu := hgm.2.1.1
  have h16 := hgm.2.1.2
  obtain ⟨⟨t, ht4, ht, ht1⟩, hta, hby⟩ := hr.2.2.2.2.1
  have top : eZ E + 135 < eZ E + hN g := by omega
  refine ⟨_, c11_cat hr hgm a0, fun r1 h1 q1 => ?_⟩
  obtain ⟨rfl, hr1, hk1⟩ := q1
  obtain ⟨hm1, he1⟩ := hi.ref hk1
  have c2 := ct_mcat (μ := μ) (l := l) hm1 a0 hg.1.1 hg.1.2.1
  rw [he1] at c2
  refine ⟨_, rfl, _, c2, hm1, fun r2 g2 q2 => ?_⟩
  obtain ⟨rfl, rfl⟩ := q2
  exact ⟨rfl, _, _, hi.fin hk1 hr1 Ob.rf⟩
theorem tw_ship (hi : Inv E g μ l) (a0 : Int32) : TwI E 1 0 0 1 mX11_ship mX12_ship [.int a0] g := by
  obtain ⟨hr, hm, he, ⟨hw, h7, h11⟩, hn⟩ := id hi
  obtain ⟨nc, ns, nl, sg, lw, fo, hg, hls, hL, hfo⟩ := PoR.lv hr.1 hr.2.1
  have hgm : GM μ nc ns nl sg := ⟨hg, hr.2.2.1.2⟩
  have hx : Mx μ fo nc ns := ⟨hr.2.2.2.2.2.2.2.2, hfo, hg.1.1, hg.1.2.1, hg.1.2.2.1, hg.1.2.2.2.1⟩
  have hcat : ∀ k, k < nc → CatOK (μ 2) k := fun k hk => hg.1.2.2.2.2.1 k (by have := hg.1.2.1; omega)
  have hu := hgm.2.1.1
  have h16 := hgm.2.1.2
  obtain ⟨⟨t, ht4, ht, ht1⟩, hta, hby⟩ := hr.2.2.2.2.1
  have top : eZ E + 135 < eZ E + hN g := by omega
  refine ⟨_, c11_ship hr hgm a0, fun r1 h1 q1 => ?_⟩
  obtain ⟨rfl, hr1, hk1⟩ := q1
  obtain ⟨hm1, he1⟩ := hi.ref hk1
  have c2 := ct_mship (μ := μ) (l := l) hm1 a0 hg.1.2.2.1 hg.1.2.2.2.1
  rw [he1] at c2
  refine ⟨_, rfl, _, c2, hm1, fun r2 g2 q2 => ?_⟩
  obtain ⟨rfl, rfl⟩ := q2
  exact ⟨rfl, _, _, hi.fin hk1 hr1 Ob.rf⟩
theorem tw_terms (hi : Inv E g μ l) {T : Nat} (hst : StK E "NineLives" "MOST_OF_TERM" "[I" (.ref T)) (har : TaK E T 3 mostF) (a0 a1 : Int32) : TwI E 2 0 0 1 mX11_terms mX12_terms [.int a0, .int a1] g := by
  obtain ⟨hr, hm, he, ⟨hw, h7, h11⟩, hn⟩ := id hi
  obtain ⟨nc, ns, nl, sg, lw, fo, hg, hls, hL, hfo⟩ := PoR.lv hr.1 hr.2.1
  have hgm : GM μ nc ns nl sg := ⟨hg, hr.2.2.1.2⟩
  have hx : Mx μ fo nc ns := ⟨hr.2.2.2.2.2.2.2.2, hfo, hg.1.1, hg.1.2.1, hg.1.2.2.1, hg.1.2.2.2.1⟩
  have hcat : ∀ k, k < nc → CatOK (μ 2) k := fun k hk => hg.1.2.2.2.2.1 k (by have := hg.1.2.1; omega)
  have hu := hgm.2.1.1
  have h16 := hgm.2.1.2
  obtain ⟨⟨t, ht4, ht, ht1⟩, hta, hby⟩ := hr.2.2.2.2.1
  have top : eZ E + 135 < eZ E + hN g := by omega
  refine ⟨_, c11_terms hr hgm hst har a0 a1, fun r1 h1 q1 => ?_⟩
  obtain ⟨rfl, hr1, hk1⟩ := q1
  obtain ⟨hm1, he1⟩ := hi.ref hk1
  have c2 := ct_mterms (μ := μ) (l := l) hm1 a0 a1
  rw [he1] at c2
  refine ⟨_, rfl, _, c2, hm1, fun r2 g2 q2 => ?_⟩
  obtain ⟨rfl, rfl⟩ := q2
  exact ⟨rfl, _, _, hi.fin hk1 hr1 Ob.rf⟩
theorem tw_feed (hi : Inv E g μ l) (a0 a1 a2 a3 a4 : Int32) : TwI E 1 0 0 1 mX11_feed mX12_feed [.int a0, .int a1, .int a2, .int a3, .int a4] g := by
  obtain ⟨hr, hm, he, ⟨hw, h7, h11⟩, hn⟩ := id hi
  obtain ⟨nc, ns, nl, sg, lw, fo, hg, hls, hL, hfo⟩ := PoR.lv hr.1 hr.2.1
  have hgm : GM μ nc ns nl sg := ⟨hg, hr.2.2.1.2⟩
  have hx : Mx μ fo nc ns := ⟨hr.2.2.2.2.2.2.2.2, hfo, hg.1.1, hg.1.2.1, hg.1.2.2.1, hg.1.2.2.2.1⟩
  have hcat : ∀ k, k < nc → CatOK (μ 2) k := fun k hk => hg.1.2.2.2.2.1 k (by have := hg.1.2.1; omega)
  have hu := hgm.2.1.1
  have h16 := hgm.2.1.2
  obtain ⟨⟨t, ht4, ht, ht1⟩, hta, hby⟩ := hr.2.2.2.2.1
  have top : eZ E + 135 < eZ E + hN g := by omega
  refine ⟨_, c11_feed hr ht ht4 a0 a1 a2 a3 a4, fun r1 h1 q1 => ?_⟩
  obtain ⟨rfl, hr1, hk1⟩ := q1
  obtain ⟨hm1, he1⟩ := hi.ref hk1
  have c2 := ct_mfeed (μ := μ) (l := l) hm1 a0 a1 a2 a3 a4 ht ht4
  rw [he1] at c2
  refine ⟨_, rfl, _, c2, hm1, fun r2 g2 q2 => ?_⟩
  obtain ⟨rfl, rfl⟩ := q2
  exact ⟨rfl, _, _, hi.fin hk1 hr1 Ob.rf⟩
theorem tw_end (hi : Inv E g μ l) (a0 : Int32) : TwI E 0 0 0 0 mX11_end mX12_end [.int a0] g := by
  obtain ⟨hr, hm, he, ⟨hw, h7, h11⟩, hn⟩ := id hi
  obtain ⟨nc, ns, nl, sg, lw, fo, hg, hls, hL, hfo⟩ := PoR.lv hr.1 hr.2.1
  have hgm : GM μ nc ns nl sg := ⟨hg, hr.2.2.1.2⟩
  have hx : Mx μ fo nc ns := ⟨hr.2.2.2.2.2.2.2.2, hfo, hg.1.1, hg.1.2.1, hg.1.2.2.1, hg.1.2.2.2.1⟩
  have hcat : ∀ k, k < nc → CatOK (μ 2) k := fun k hk => hg.1.2.2.2.2.1 k (by have := hg.1.2.1; omega)
  have hu := hgm.2.1.1
  have h16 := hgm.2.1.2
  obtain ⟨⟨t, ht4, ht, ht1⟩, hta, hby⟩ := hr.2.2.2.2.1
  have top : eZ E + 135 < eZ E + hN g := by omega
  refine ⟨_, c11_end hr ht ht4 a0, fun r1 h1 q1 => ?_⟩
  obtain ⟨rfl, hr1, hk1⟩ := q1
  obtain ⟨hm1, he1⟩ := hi.ref hk1
  have c2 := ct_mend (μ := μ) (l := l) hm1 a0 ht ht4
  rw [he1] at c2
  refine ⟨_, rfl, _, c2, hm1, fun r2 g2 q2 => ?_⟩
  obtain ⟨rfl, rfl⟩ := q2
  exact ⟨rfl, _, _, hi.fin hk1 hr1 Ob.rf⟩
theorem tw_row (hi : Inv E g μ l) : TwI E 2 0 0 3 mX11_row mX12_row [] g := by
  obtain ⟨hr, hm, he, ⟨hw, h7, h11⟩, hn⟩ := id hi
  obtain ⟨nc, ns, nl, sg, lw, fo, hg, hls, hL, hfo⟩ := PoR.lv hr.1 hr.2.1
  have hgm : GM μ nc ns nl sg := ⟨hg, hr.2.2.1.2⟩
  have hx : Mx μ fo nc ns := ⟨hr.2.2.2.2.2.2.2.2, hfo, hg.1.1, hg.1.2.1, hg.1.2.2.1, hg.1.2.2.2.1⟩
  have hcat : ∀ k, k < nc → CatOK (μ 2) k := fun k hk => hg.1.2.2.2.2.1 k (by have := hg.1.2.1; omega)
  have hu := hgm.2.1.1
  have h16 := hgm.2.1.2
  obtain ⟨⟨t, ht4, ht, ht1⟩, hta, hby⟩ := hr.2.2.2.2.1
  have top : eZ E + 135 < eZ E + hN g := by omega
  refine ⟨_, c11_row hr hgm ht ht4, fun r1 h1 q1 => ?_⟩
  obtain ⟨rfl, hr1, hk1⟩ := q1
  obtain ⟨hm1, he1⟩ := hi.ref hk1
  have c2 := ct_mrow (μ := μ) (l := l) hm1 ht ht4 hg.1.1 hg.1.2.1
  rw [he1] at c2
  refine ⟨_, rfl, _, c2, hm1, fun r2 g2 q2 => ?_⟩
  obtain ⟨rfl, rfl⟩ := q2
  exact ⟨rfl, _, _, hi.fin hk1 hr1 Ob.rf⟩
theorem tw_force (hi : Inv E g μ l) (a0 : Int32) : TwI E 1 0 0 2 mX11_force mX12_force [.int a0] g := by
  obtain ⟨hr, hm, he, ⟨hw, h7, h11⟩, hn⟩ := id hi
  obtain ⟨nc, ns, nl, sg, lw, fo, hg, hls, hL, hfo⟩ := PoR.lv hr.1 hr.2.1
  have hgm : GM μ nc ns nl sg := ⟨hg, hr.2.2.1.2⟩
  have hx : Mx μ fo nc ns := ⟨hr.2.2.2.2.2.2.2.2, hfo, hg.1.1, hg.1.2.1, hg.1.2.2.1, hg.1.2.2.2.1⟩
  have hcat : ∀ k, k < nc → CatOK (μ 2) k := fun k hk => hg.1.2.2.2.2.1 k (by have := hg.1.2.1; omega)
  have hu := hgm.2.1.1
  have h16 := hgm.2.1.2
  obtain ⟨⟨t, ht4, ht, ht1⟩, hta, hby⟩ := hr.2.2.2.2.1
  have top : eZ E + 135 < eZ E + hN g := by omega
  refine ⟨_, c11_force hr hgm a0, fun r1 h1 q1 => ?_⟩
  obtain ⟨rfl, hr1, hk1⟩ := q1
  obtain ⟨hm1, he1⟩ := hi.ref hk1
  have c2 := ct_mforce (μ := μ) (l := l) hm1 a0 hg.2.1.1 (by have := hg.2.1.2; omega)
  rw [he1] at c2
  refine ⟨_, rfl, _, c2, hm1, fun r2 g2 q2 => ?_⟩
  obtain ⟨rfl, rfl⟩ := q2
  exact ⟨rfl, _, _, hi.fin hk1 hr1 Ob.rf⟩
theorem tw_undo (hi : Inv E g μ l) : TwI E 4 0 0 1 mX11_undo mX12_undo [] g := by
  obtain ⟨hr, hm, he, ⟨hw, h7, h11⟩, hn⟩ := id hi
  obtain ⟨nc, ns, nl, sg, lw, fo, hg, hls, hL, hfo⟩ := PoR.lv hr.1 hr.2.1
  have hgm : GM μ nc ns nl sg := ⟨hg, hr.2.2.1.2⟩
  have hx : Mx μ fo nc ns := ⟨hr.2.2.2.2.2.2.2.2, hfo, hg.1.1, hg.1.2.1, hg.1.2.2.1, hg.1.2.2.2.1⟩
  have hcat : ∀ k, k < nc → CatOK (μ 2) k := fun k hk => hg.1.2.2.2.2.1 k (by have := hg.1.2.1; omega)
  have hu := hgm.2.1.1
  have h16 := hgm.2.1.2
  obtain ⟨⟨t, ht4, ht, ht1⟩, hta, hby⟩ := hr.2.2.2.2.1
  have top : eZ E + 135 < eZ E + hN g := by omega
  refine ⟨_, c11_undo hr hgm, fun r1 h1 q1 => ?_⟩
  obtain ⟨rfl, hr1, hk1⟩ := q1
  obtain ⟨hm1, he1⟩ := hi.ref hk1
  have c2 := ct_undo (μ := μ) (l := l) hm1 hu h16 (fun j hj => by obtain ⟨⟨kd, q1, q2⟩, -⟩ := hgm.2.2 j hj; rw [q2]; exact nI_pos' (by omega))
  rw [he1] at c2
  refine ⟨_, rfl, _, c2, hm1, fun r2 g2 q2 => ?_⟩
  obtain ⟨rfl, rfl⟩ := q2
  exact ⟨rfl, _, _, hi.fin hk1 hr1 Ob.rf⟩
theorem tw_seen (hi : Inv E g μ l) (a0 : Int32) : TwI E 1 0 0 1 mX11_seen mX12_seen [.int a0] g := by
  obtain ⟨hr, hm, he, ⟨hw, h7, h11⟩, hn⟩ := id hi
  obtain ⟨nc, ns, nl, sg, lw, fo, hg, hls, hL, hfo⟩ := PoR.lv hr.1 hr.2.1
  have hgm : GM μ nc ns nl sg := ⟨hg, hr.2.2.1.2⟩
  have hx : Mx μ fo nc ns := ⟨hr.2.2.2.2.2.2.2.2, hfo, hg.1.1, hg.1.2.1, hg.1.2.2.1, hg.1.2.2.2.1⟩
  have hcat : ∀ k, k < nc → CatOK (μ 2) k := fun k hk => hg.1.2.2.2.2.1 k (by have := hg.1.2.1; omega)
  have hu := hgm.2.1.1
  have h16 := hgm.2.1.2
  obtain ⟨⟨t, ht4, ht, ht1⟩, hta, hby⟩ := hr.2.2.2.2.1
  have top : eZ E + 135 < eZ E + hN g := by omega
  refine ⟨_, c11_seen hr hgm a0, fun r1 h1 q1 => ?_⟩
  obtain ⟨rfl, hr1, hk1⟩ := q1
  obtain ⟨hm1, he1⟩ := hi.ref hk1
  have c2 := ct_mseen (μ := μ) (l := l) hm1 a0 hg.2.2.1.1 hg.2.2.1.2
  rw [he1] at c2
  refine ⟨_, rfl, _, c2, hm1, fun r2 g2 q2 => ?_⟩
  obtain ⟨rfl, rfl⟩ := q2
  exact ⟨rfl, _, _, hi.fin hk1 hr1 Ob.rf⟩
theorem tw_forget (hi : Inv E g μ l) : TwI E 0 0 0 0 mX11_forget mX12_forget [] g := by
  obtain ⟨hr, hm, he, ⟨hw, h7, h11⟩, hn⟩ := id hi
  obtain ⟨nc, ns, nl, sg, lw, fo, hg, hls, hL, hfo⟩ := PoR.lv hr.1 hr.2.1
  have hgm : GM μ nc ns nl sg := ⟨hg, hr.2.2.1.2⟩
  have hx : Mx μ fo nc ns := ⟨hr.2.2.2.2.2.2.2.2, hfo, hg.1.1, hg.1.2.1, hg.1.2.2.1, hg.1.2.2.2.1⟩
  have hcat : ∀ k, k < nc → CatOK (μ 2) k := fun k hk => hg.1.2.2.2.2.1 k (by have := hg.1.2.1; omega)
  have hu := hgm.2.1.1
  have h16 := hgm.2.1.2
  obtain ⟨⟨t, ht4, ht, ht1⟩, hta, hby⟩ := hr.2.2.2.2.1
  have top : eZ E + 135 < eZ E + hN g := by omega
  refine ⟨_, c11_forget hr hgm, fun r1 h1 q1 => ?_⟩
  obtain ⟨rfl, hr1, hk1⟩ := q1
  obtain ⟨hm1, he1⟩ := hi.ref hk1
  have c2 := ct_mforget (μ := μ) (l := l) hm1
  rw [he1] at c2
  refine ⟨_, rfl, _, c2, hm1, fun r2 g2 q2 => ?_⟩
  obtain ⟨rfl, rfl⟩ := q2
  exact ⟨rfl, _, _, hi.fin hk1 hr1 Ob.rf⟩
theorem tw_image (hi : Inv E g μ l) (hao : AoK E "NineLives$Text") (a0 : Int32) : TwI E 2 10 64 1 mX11_image mX12_image [.int a0] g := by
  obtain ⟨hr, hm, he, ⟨hw, h7, h11⟩, hn⟩ := id hi
  obtain ⟨nc, ns, nl, sg, lw, fo, hg, hls, hL, hfo⟩ := PoR.lv hr.1 hr.2.1
  have hgm : GM μ nc ns nl sg := ⟨hg, hr.2.2.1.2⟩
  have hx : Mx μ fo nc ns := ⟨hr.2.2.2.2.2.2.2.2, hfo, hg.1.1, hg.1.2.1, hg.1.2.2.1, hg.1.2.2.2.1⟩
  have hcat : ∀ k, k < nc → CatOK (μ 2) k := fun k hk => hg.1.2.2.2.2.1 k (by have := hg.1.2.1; omega)
  have hu := hgm.2.1.1
  have h16 := hgm.2.1.2
  obtain ⟨⟨t, ht4, ht, ht1⟩, hta, hby⟩ := hr.2.2.2.2.1
  have top : eZ E + 135 < eZ E + hN g := by omega
  refine ⟨_, c11_image hr top hao a0, fun r1 h1 q1 => ?_⟩
  obtain ⟨rfl, hr1, hk1⟩ := q1
  obtain ⟨hm1, he1⟩ := hi.ref hk1
  have c2 := ct_mimage (μ := μ) (l := l) hm1 a0
  rw [he1] at c2
  refine ⟨_, rfl, _, c2, hm1, fun r2 g2 q2 => ?_⟩
  obtain ⟨rfl, rfl⟩ := q2
  exact ⟨rfl, _, _, hi.fin hk1 hr1 Ob.rf⟩
theorem tw_back (hi : Inv E g μ l) (a0 : Int32) : TwI E 2 0 0 2 mX11_back mX12_back [.int a0] g := by
  obtain ⟨hr, hm, he, ⟨hw, h7, h11⟩, hn⟩ := id hi
  obtain ⟨nc, ns, nl, sg, lw, fo, hg, hls, hL, hfo⟩ := PoR.lv hr.1 hr.2.1
  have hgm : GM μ nc ns nl sg := ⟨hg, hr.2.2.1.2⟩
  have hx : Mx μ fo nc ns := ⟨hr.2.2.2.2.2.2.2.2, hfo, hg.1.1, hg.1.2.1, hg.1.2.2.1, hg.1.2.2.2.1⟩
  have hcat : ∀ k, k < nc → CatOK (μ 2) k := fun k hk => hg.1.2.2.2.2.1 k (by have := hg.1.2.1; omega)
  have hu := hgm.2.1.1
  have h16 := hgm.2.1.2
  obtain ⟨⟨t, ht4, ht, ht1⟩, hta, hby⟩ := hr.2.2.2.2.1
  have top : eZ E + 135 < eZ E + hN g := by omega
  refine ⟨_, c11_back hr hgm a0, fun r1 h1 q1 => ?_⟩
  obtain ⟨rfl, hr1, hk1⟩ := q1
  obtain ⟨hm1, he1⟩ := hi.ref hk1
  have c2 := ct_mback (μ := μ) (l := l) hm1 a0
  rw [he1] at c2
  refine ⟨_, rfl, _, c2, hm1, fun r2 g2 q2 => ?_⟩
  obtain ⟨rfl, rfl⟩ := q2
  exact ⟨rfl, _, _, hi.fin hk1 hr1 Ob.rf⟩
theorem tw_of (hi : Inv E g μ l) (a0 a1 : Int32) : TwI E 4 0 0 6 mX11_of mX12_of [.int a0, .int a1] g := by
  obtain ⟨hr, hm, he, ⟨hw, h7, h11⟩, hn⟩ := id hi
  obtain ⟨nc, ns, nl, sg, lw, fo, hg, hls, hL, hfo⟩ := PoR.lv hr.1 hr.2.1
  have hgm : GM μ nc ns nl sg := ⟨hg, hr.2.2.1.2⟩
  have hx : Mx μ fo nc ns := ⟨hr.2.2.2.2.2.2.2.2, hfo, hg.1.1, hg.1.2.1, hg.1.2.2.1, hg.1.2.2.2.1⟩
  have hcat : ∀ k, k < nc → CatOK (μ 2) k := fun k hk => hg.1.2.2.2.2.1 k (by have := hg.1.2.1; omega)
  have hu := hgm.2.1.1
  have h16 := hgm.2.1.2
  obtain ⟨⟨t, ht4, ht, ht1⟩, hta, hby⟩ := hr.2.2.2.2.1
  have top : eZ E + 135 < eZ E + hN g := by omega
  refine ⟨_, c11_of hL a0 a1, fun r1 h1 q1 => ?_⟩
  obtain ⟨rfl, f1⟩ := q1
  have hk1 : Kp (eZ E) g h1 := kp_ro f1
  have hr1 : CR E h1 (eZ E) μ := hr.fr f1 (fun a k z => ro_sc z)
  obtain ⟨hm1, he1⟩ := hi.ref hk1
  have c2 := ct_mof (μ := μ) (l := l) hm1 hx a0 a1
  rw [he1] at c2
  refine ⟨_, rfl, _, c2, hm1, fun r2 g2 q2 => ?_⟩
  obtain ⟨ν, κ, rfl, hS, rfl⟩ := q2
  exact ⟨rfl, _, _, hi.fin hk1 hr1 (Ob.th.tr hS.x.ob)⟩
theorem tw_at (hi : Inv E g μ l) (a0 a1 : Int32) : TwI E 5 0 0 7 mX11_at mX12_at [.int a0, .int a1] g := by
  obtain ⟨hr, hm, he, ⟨hw, h7, h11⟩, hn⟩ := id hi
  obtain ⟨nc, ns, nl, sg, lw, fo, hg, hls, hL, hfo⟩ := PoR.lv hr.1 hr.2.1
  have hgm : GM μ nc ns nl sg := ⟨hg, hr.2.2.1.2⟩
  have hx : Mx μ fo nc ns := ⟨hr.2.2.2.2.2.2.2.2, hfo, hg.1.1, hg.1.2.1, hg.1.2.2.1, hg.1.2.2.2.1⟩
  have hcat : ∀ k, k < nc → CatOK (μ 2) k := fun k hk => hg.1.2.2.2.2.1 k (by have := hg.1.2.1; omega)
  have hu := hgm.2.1.1
  have h16 := hgm.2.1.2
  obtain ⟨⟨t, ht4, ht, ht1⟩, hta, hby⟩ := hr.2.2.2.2.1
  have top : eZ E + 135 < eZ E + hN g := by omega
  refine ⟨_, c11_at hL a0 a1, fun r1 h1 q1 => ?_⟩
  obtain ⟨rfl, f1⟩ := q1
  have hk1 : Kp (eZ E) g h1 := kp_ro f1
  have hr1 : CR E h1 (eZ E) μ := hr.fr f1 (fun a k z => ro_sc z)
  obtain ⟨hm1, he1⟩ := hi.ref hk1
  have c2 := ct_mat (μ := μ) (l := l) hm1 hx a0 a1
  rw [he1] at c2
  refine ⟨_, rfl, _, c2, hm1, fun r2 g2 q2 => ?_⟩
  obtain ⟨ν, κ, rfl, hS, rfl⟩ := q2
  exact ⟨rfl, _, _, hi.fin hk1 hr1 (Ob.th.tr hS.x.ob)⟩
theorem tw_had (hi : Inv E g μ l) (a0 a1 : Int32) : TwJ E 6 0 0 7 mX11_had mX12_had [.int a0, .int a1] g := by
  obtain ⟨hr, hm, he, ⟨hw, h7, h11⟩, hn⟩ := id hi
  obtain ⟨nc, ns, nl, sg, lw, fo, hg, hls, hL, hfo⟩ := PoR.lv hr.1 hr.2.1
  have hgm : GM μ nc ns nl sg := ⟨hg, hr.2.2.1.2⟩
  have hx : Mx μ fo nc ns := ⟨hr.2.2.2.2.2.2.2.2, hfo, hg.1.1, hg.1.2.1, hg.1.2.2.1, hg.1.2.2.2.1⟩
  have hcat : ∀ k, k < nc → CatOK (μ 2) k := fun k hk => hg.1.2.2.2.2.1 k (by have := hg.1.2.1; omega)
  have hu := hgm.2.1.1
  have h16 := hgm.2.1.2
  obtain ⟨⟨t, ht4, ht, ht1⟩, hta, hby⟩ := hr.2.2.2.2.1
  have top : eZ E + 135 < eZ E + hN g := by omega
  refine ⟨_, c11_had hL a0 a1, fun r1 h1 q1 => ?_⟩
  obtain ⟨rfl, f1⟩ := q1
  have hk1 : Kp (eZ E) g h1 := kp_ro f1
  have hr1 : CR E h1 (eZ E) μ := hr.fr f1 (fun a k z => ro_sc z)
  obtain ⟨hm1, he1⟩ := hi.ref hk1
  have c2 := ct_mhad (μ := μ) (l := l) hm1 hx hcat a0 a1
  rw [he1] at c2
  refine ⟨_, rfl, _, c2, hm1, fun r2 g2 q2 => ?_⟩
  obtain ⟨ν, κ, hS, rfl, rfl⟩ := q2
  exact ⟨rfl, _, _, hi.fin hk1 hr1 (Ob.th.tr hS.ob)⟩
theorem tw_next (hi : Inv E g μ l) (a0 a1 : Int32) : TwI E 6 0 0 7 mX11_next mX12_next [.int a0, .int a1] g := by
  obtain ⟨hr, hm, he, ⟨hw, h7, h11⟩, hn⟩ := id hi
  obtain ⟨nc, ns, nl, sg, lw, fo, hg, hls, hL, hfo⟩ := PoR.lv hr.1 hr.2.1
  have hgm : GM μ nc ns nl sg := ⟨hg, hr.2.2.1.2⟩
  have hx : Mx μ fo nc ns := ⟨hr.2.2.2.2.2.2.2.2, hfo, hg.1.1, hg.1.2.1, hg.1.2.2.1, hg.1.2.2.2.1⟩
  have hcat : ∀ k, k < nc → CatOK (μ 2) k := fun k hk => hg.1.2.2.2.2.1 k (by have := hg.1.2.1; omega)
  have hu := hgm.2.1.1
  have h16 := hgm.2.1.2
  obtain ⟨⟨t, ht4, ht, ht1⟩, hta, hby⟩ := hr.2.2.2.2.1
  have top : eZ E + 135 < eZ E + hN g := by omega
  refine ⟨_, c11_next hL a0 a1, fun r1 h1 q1 => ?_⟩
  obtain ⟨rfl, f1⟩ := q1
  have hk1 : Kp (eZ E) g h1 := kp_ro f1
  have hr1 : CR E h1 (eZ E) μ := hr.fr f1 (fun a k z => ro_sc z)
  obtain ⟨hm1, he1⟩ := hi.ref hk1
  have c2 := ct_mnext (μ := μ) (l := l) hm1 hx hcat a0 a1
  rw [he1] at c2
  refine ⟨_, rfl, _, c2, hm1, fun r2 g2 q2 => ?_⟩
  obtain ⟨ν, κ, hS, rfl, rfl⟩ := q2
  exact ⟨rfl, _, _, hi.fin hk1 hr1 (Ob.th.tr hS.ob)⟩
theorem tw_likely (hi : Inv E g μ l) (a0 a1 : Int32) : TwJ E 5 0 0 6 mX11_likely mX12_likely [.int a0, .int a1] g := by
  obtain ⟨hr, hm, he, ⟨hw, h7, h11⟩, hn⟩ := id hi
  obtain ⟨nc, ns, nl, sg, lw, fo, hg, hls, hL, hfo⟩ := PoR.lv hr.1 hr.2.1
  have hgm : GM μ nc ns nl sg := ⟨hg, hr.2.2.1.2⟩
  have hx : Mx μ fo nc ns := ⟨hr.2.2.2.2.2.2.2.2, hfo, hg.1.1, hg.1.2.1, hg.1.2.2.1, hg.1.2.2.2.1⟩
  have hcat : ∀ k, k < nc → CatOK (μ 2) k := fun k hk => hg.1.2.2.2.2.1 k (by have := hg.1.2.1; omega)
  have hu := hgm.2.1.1
  have h16 := hgm.2.1.2
  obtain ⟨⟨t, ht4, ht, ht1⟩, hta, hby⟩ := hr.2.2.2.2.1
  have top : eZ E + 135 < eZ E + hN g := by omega
  refine ⟨_, c11_likely hL a0 a1, fun r1 h1 q1 => ?_⟩
  obtain ⟨rfl, f1⟩ := q1
  have hk1 : Kp (eZ E) g h1 := kp_ro f1
  have hr1 : CR E h1 (eZ E) μ := hr.fr f1 (fun a k z => ro_sc z)
  obtain ⟨hm1, he1⟩ := hi.ref hk1
  have c2 := ct_mlikely (μ := μ) (l := l) hm1 hx hcat a0 a1
  rw [he1] at c2
  refine ⟨_, rfl, _, c2, hm1, fun r2 g2 q2 => ?_⟩
  obtain ⟨ν, κ, hS, rfl, rfl⟩ := q2
  exact ⟨rfl, _, _, hi.fin hk1 hr1 (Ob.th.tr hS.ob)⟩
theorem tw_canBe (hi : Inv E g μ l) (a0 : Int32) : TwI E 5 0 0 7 mX11_canBe mX12_canBe [.int a0] g := by
  obtain ⟨hr, hm, he, ⟨hw, h7, h11⟩, hn⟩ := id hi
  obtain ⟨nc, ns, nl, sg, lw, fo, hg, hls, hL, hfo⟩ := PoR.lv hr.1 hr.2.1
  have hgm : GM μ nc ns nl sg := ⟨hg, hr.2.2.1.2⟩
  have hx : Mx μ fo nc ns := ⟨hr.2.2.2.2.2.2.2.2, hfo, hg.1.1, hg.1.2.1, hg.1.2.2.1, hg.1.2.2.2.1⟩
  have hcat : ∀ k, k < nc → CatOK (μ 2) k := fun k hk => hg.1.2.2.2.2.1 k (by have := hg.1.2.1; omega)
  have hu := hgm.2.1.1
  have h16 := hgm.2.1.2
  obtain ⟨⟨t, ht4, ht, ht1⟩, hta, hby⟩ := hr.2.2.2.2.1
  have top : eZ E + 135 < eZ E + hN g := by omega
  refine ⟨_, c11_canBe hL hg.2.2.1.1 hg.2.2.1.2 a0, fun r1 h1 q1 => ?_⟩
  obtain ⟨rfl, f1⟩ := q1
  have hk1 : Kp (eZ E) g h1 := kp_ro f1
  have hr1 : CR E h1 (eZ E) μ := hr.fr f1 (fun a k z => ro_sc z)
  obtain ⟨hm1, he1⟩ := hi.ref hk1
  have c2 := ct_mcanBe (μ := μ) (l := l) hm1 hx hg.2.2.1.1 hg.2.2.1.2 a0
  rw [he1] at c2
  refine ⟨_, rfl, _, c2, hm1, fun r2 g2 q2 => ?_⟩
  obtain ⟨ν, κ, rfl, hS, rfl⟩ := q2
  exact ⟨rfl, _, _, hi.fin hk1 hr1 (Ob.th.tr hS.x.ob)⟩
theorem tw_look (hi : Inv E g μ l) (a0 a1 : Int32) : TwI E 6 0 0 7 mX11_look mX12_look [.int a0, .int a1] g := by
  obtain ⟨hr, hm, he, ⟨hw, h7, h11⟩, hn⟩ := id hi
  obtain ⟨nc, ns, nl, sg, lw, fo, hg, hls, hL, hfo⟩ := PoR.lv hr.1 hr.2.1
  have hgm : GM μ nc ns nl sg := ⟨hg, hr.2.2.1.2⟩
  have hx : Mx μ fo nc ns := ⟨hr.2.2.2.2.2.2.2.2, hfo, hg.1.1, hg.1.2.1, hg.1.2.2.1, hg.1.2.2.2.1⟩
  have hcat : ∀ k, k < nc → CatOK (μ 2) k := fun k hk => hg.1.2.2.2.2.1 k (by have := hg.1.2.1; omega)
  have hu := hgm.2.1.1
  have h16 := hgm.2.1.2
  obtain ⟨⟨t, ht4, ht, ht1⟩, hta, hby⟩ := hr.2.2.2.2.1
  have top : eZ E + 135 < eZ E + hN g := by omega
  refine ⟨_, c11_look hL hg.2.2.1.1 hg.2.2.1.2 a0 a1, fun r1 h1 q1 => ?_⟩
  obtain ⟨rfl, f1⟩ := q1
  have hk1 : Kp (eZ E) g h1 := kp_ro f1
  have hr1 : CR E h1 (eZ E) μ := hr.fr f1 (fun a k z => ro_sc z)
  obtain ⟨hm1, he1⟩ := hi.ref hk1
  have c2 := ct_mlook (μ := μ) (l := l) hm1 hx hg.2.2.1.1 hg.2.2.1.2 a0 a1
  rw [he1] at c2
  refine ⟨_, rfl, _, c2, hm1, fun r2 g2 q2 => ?_⟩
  obtain ⟨ν, κ, hS, rfl, rfl⟩ := q2
  exact ⟨rfl, _, _, hi.fin hk1 hr1 (Ob.th.tr hS.ob)⟩
theorem tw_explained (hi : Inv E g μ l) (a0 : Int32) : TwI E 6 0 0 7 mX11_explained mX12_explained [.int a0] g := by
  obtain ⟨hr, hm, he, ⟨hw, h7, h11⟩, hn⟩ := id hi
  obtain ⟨nc, ns, nl, sg, lw, fo, hg, hls, hL, hfo⟩ := PoR.lv hr.1 hr.2.1
  have hgm : GM μ nc ns nl sg := ⟨hg, hr.2.2.1.2⟩
  have hx : Mx μ fo nc ns := ⟨hr.2.2.2.2.2.2.2.2, hfo, hg.1.1, hg.1.2.1, hg.1.2.2.1, hg.1.2.2.2.1⟩
  have hcat : ∀ k, k < nc → CatOK (μ 2) k := fun k hk => hg.1.2.2.2.2.1 k (by have := hg.1.2.1; omega)
  have hu := hgm.2.1.1
  have h16 := hgm.2.1.2
  obtain ⟨⟨t, ht4, ht, ht1⟩, hta, hby⟩ := hr.2.2.2.2.1
  have top : eZ E + 135 < eZ E + hN g := by omega
  refine ⟨_, c11_explained hL hg.2.2.1.1 hg.2.2.1.2 a0, fun r1 h1 q1 => ?_⟩
  obtain ⟨rfl, f1⟩ := q1
  have hk1 : Kp (eZ E) g h1 := kp_ro f1
  have hr1 : CR E h1 (eZ E) μ := hr.fr f1 (fun a k z => ro_sc z)
  obtain ⟨hm1, he1⟩ := hi.ref hk1
  have c2 := ct_mexplained (μ := μ) (l := l) hm1 hx hg.2.2.1.1 hg.2.2.1.2 hcat a0
  rw [he1] at c2
  refine ⟨_, rfl, _, c2, hm1, fun r2 g2 q2 => ?_⟩
  obtain ⟨ν, κ, hS, rfl, rfl⟩ := q2
  exact ⟨rfl, _, _, hi.fin hk1 hr1 (Ob.th.tr hS.ob)⟩
theorem tw_complete (hi : Inv E g μ l) (a0 a1 : Int32) : TwI E 5 0 0 7 mX11_complete mX12_complete [.int a0, .int a1] g := by
  obtain ⟨hr, hm, he, ⟨hw, h7, h11⟩, hn⟩ := id hi
  obtain ⟨nc, ns, nl, sg, lw, fo, hg, hls, hL, hfo⟩ := PoR.lv hr.1 hr.2.1
  have hgm : GM μ nc ns nl sg := ⟨hg, hr.2.2.1.2⟩
  have hx : Mx μ fo nc ns := ⟨hr.2.2.2.2.2.2.2.2, hfo, hg.1.1, hg.1.2.1, hg.1.2.2.1, hg.1.2.2.2.1⟩
  have hcat : ∀ k, k < nc → CatOK (μ 2) k := fun k hk => hg.1.2.2.2.2.1 k (by have := hg.1.2.1; omega)
  have hu := hgm.2.1.1
  have h16 := hgm.2.1.2
  obtain ⟨⟨t, ht4, ht, ht1⟩, hta, hby⟩ := hr.2.2.2.2.1
  have top : eZ E + 135 < eZ E + hN g := by omega
  refine ⟨_, c11_complete hL a0 a1, fun r1 h1 q1 => ?_⟩
  obtain ⟨rfl, f1⟩ := q1
  have hk1 : Kp (eZ E) g h1 := kp_ro f1
  have hr1 : CR E h1 (eZ E) μ := hr.fr f1 (fun a k z => ro_sc z)
  obtain ⟨hm1, he1⟩ := hi.ref hk1
  have c2 := ct_mcomplete (μ := μ) (l := l) hm1 hx a0 a1
  rw [he1] at c2
  refine ⟨_, rfl, _, c2, hm1, fun r2 g2 q2 => ?_⟩
  obtain ⟨ν, κ, rfl, hS, rfl⟩ := q2
  exact ⟨rfl, _, _, hi.fin hk1 hr1 (Ob.th.tr hS.x.ob)⟩
theorem tw_safe (hi : Inv E g μ l) (a0 : Int32) : TwJ E 3 0 0 6 mX11_safe mX12_safe [.int a0] g := by
  obtain ⟨hr, hm, he, ⟨hw, h7, h11⟩, hn⟩ := id hi
  obtain ⟨nc, ns, nl, sg, lw, fo, hg, hls, hL, hfo⟩ := PoR.lv hr.1 hr.2.1
  have hgm : GM μ nc ns nl sg := ⟨hg, hr.2.2.1.2⟩
  have hx : Mx μ fo nc ns := ⟨hr.2.2.2.2.2.2.2.2, hfo, hg.1.1, hg.1.2.1, hg.1.2.2.1, hg.1.2.2.2.1⟩
  have hcat : ∀ k, k < nc → CatOK (μ 2) k := fun k hk => hg.1.2.2.2.2.1 k (by have := hg.1.2.1; omega)
  have hu := hgm.2.1.1
  have h16 := hgm.2.1.2
  obtain ⟨⟨t, ht4, ht, ht1⟩, hta, hby⟩ := hr.2.2.2.2.1
  have top : eZ E + 135 < eZ E + hN g := by omega
  refine ⟨_, c11_safe hL hg.2.2.2.2 a0, fun r1 h1 q1 => ?_⟩
  obtain ⟨rfl, f1⟩ := q1
  have hk1 : Kp (eZ E) g h1 := kp_ro f1
  have hr1 : CR E h1 (eZ E) μ := hr.fr f1 (fun a k z => ro_sc z)
  obtain ⟨hm1, he1⟩ := hi.ref hk1
  have c2 := ct_msafe (μ := μ) (l := l) hm1 hx a0
  rw [he1] at c2
  refine ⟨_, rfl, _, c2, hm1, fun r2 g2 q2 => ?_⟩
  obtain ⟨ν, κ, rfl, hS, rfl⟩ := q2
  exact ⟨rfl, _, _, hi.fin hk1 hr1 (Ob.th.tr hS.x.ob)⟩
theorem tw_passing (hi : Inv E g μ l) (a0 : Int32) : TwI E 4 0 0 7 mX11_passing mX12_passing [.int a0] g := by
  obtain ⟨hr, hm, he, ⟨hw, h7, h11⟩, hn⟩ := id hi
  obtain ⟨nc, ns, nl, sg, lw, fo, hg, hls, hL, hfo⟩ := PoR.lv hr.1 hr.2.1
  have hgm : GM μ nc ns nl sg := ⟨hg, hr.2.2.1.2⟩
  have hx : Mx μ fo nc ns := ⟨hr.2.2.2.2.2.2.2.2, hfo, hg.1.1, hg.1.2.1, hg.1.2.2.1, hg.1.2.2.2.1⟩
  have hcat : ∀ k, k < nc → CatOK (μ 2) k := fun k hk => hg.1.2.2.2.2.1 k (by have := hg.1.2.1; omega)
  have hu := hgm.2.1.1
  have h16 := hgm.2.1.2
  obtain ⟨⟨t, ht4, ht, ht1⟩, hta, hby⟩ := hr.2.2.2.2.1
  have top : eZ E + 135 < eZ E + hN g := by omega
  refine ⟨_, c11_passing hL a0, fun r1 h1 q1 => ?_⟩
  obtain ⟨rfl, f1⟩ := q1
  have hk1 : Kp (eZ E) g h1 := kp_ro f1
  have hr1 : CR E h1 (eZ E) μ := hr.fr f1 (fun a k z => ro_sc z)
  obtain ⟨hm1, he1⟩ := hi.ref hk1
  have c2 := ct_mpassing (μ := μ) (l := l) hm1 hx a0
  rw [he1] at c2
  refine ⟨_, rfl, _, c2, hm1, fun r2 g2 q2 => ?_⟩
  obtain ⟨ν, κ, rfl, hS, rfl⟩ := q2
  exact ⟨rfl, _, _, hi.fin hk1 hr1 (Ob.th.tr hS.x.ob)⟩
theorem tw_mice (hi : Inv E g μ l) : TwI E 0 0 0 0 mX11_mice mX12_mice [] g := by
  obtain ⟨hr, hm, he, ⟨hw, h7, h11⟩, hn⟩ := id hi
  obtain ⟨nc, ns, nl, sg, lw, fo, hg, hls, hL, hfo⟩ := PoR.lv hr.1 hr.2.1
  have hgm : GM μ nc ns nl sg := ⟨hg, hr.2.2.1.2⟩
  have hx : Mx μ fo nc ns := ⟨hr.2.2.2.2.2.2.2.2, hfo, hg.1.1, hg.1.2.1, hg.1.2.2.1, hg.1.2.2.2.1⟩
  have hcat : ∀ k, k < nc → CatOK (μ 2) k := fun k hk => hg.1.2.2.2.2.1 k (by have := hg.1.2.1; omega)
  have hu := hgm.2.1.1
  have h16 := hgm.2.1.2
  obtain ⟨⟨t, ht4, ht, ht1⟩, hta, hby⟩ := hr.2.2.2.2.1
  have top : eZ E + 135 < eZ E + hN g := by omega
  refine ⟨_, c11_mice hr.1, fun r1 h1 q1 => ?_⟩
  obtain ⟨rfl, rfl⟩ := q1
  have c2 := ct_mmice (μ := μ) (l := l) hm
  rw [he] at c2
  refine ⟨_, rfl, _, c2, hm, fun r2 g2 q2 => ?_⟩
  obtain ⟨rfl, rfl⟩ := q2
  exact ⟨by rw [hr.2.2.2.2.2.1.1.1], _, _, hi.fin kp_rf hr Ob.th⟩
theorem tw_fault (hi : Inv E g μ l) : TwI E 0 0 0 0 mX11_fault mX12_fault [] g := by
  obtain ⟨hr, hm, he, ⟨hw, h7, h11⟩, hn⟩ := id hi
  obtain ⟨nc, ns, nl, sg, lw, fo, hg, hls, hL, hfo⟩ := PoR.lv hr.1 hr.2.1
  have hgm : GM μ nc ns nl sg := ⟨hg, hr.2.2.1.2⟩
  have hx : Mx μ fo nc ns := ⟨hr.2.2.2.2.2.2.2.2, hfo, hg.1.1, hg.1.2.1, hg.1.2.2.1, hg.1.2.2.2.1⟩
  have hcat : ∀ k, k < nc → CatOK (μ 2) k := fun k hk => hg.1.2.2.2.2.1 k (by have := hg.1.2.1; omega)
  have hu := hgm.2.1.1
  have h16 := hgm.2.1.2
  obtain ⟨⟨t, ht4, ht, ht1⟩, hta, hby⟩ := hr.2.2.2.2.1
  have top : eZ E + 135 < eZ E + hN g := by omega
  refine ⟨_, c11_fault hr.1, fun r1 h1 q1 => ?_⟩
  obtain ⟨rfl, rfl⟩ := q1
  have c2 := ct_mfault (μ := μ) (l := l) hm
  rw [he] at c2
  refine ⟨_, rfl, _, c2, hm, fun r2 g2 q2 => ?_⟩
  obtain ⟨rfl, rfl⟩ := q2
  exact ⟨by rw [hr.2.2.2.2.2.1.1.2.1], _, _, hi.fin kp_rf hr Ob.th⟩
theorem tw_stopped (hi : Inv E g μ l) : TwI E 0 0 0 0 mX11_stopped mX12_stopped [] g := by
  obtain ⟨hr, hm, he, ⟨hw, h7, h11⟩, hn⟩ := id hi
  obtain ⟨nc, ns, nl, sg, lw, fo, hg, hls, hL, hfo⟩ := PoR.lv hr.1 hr.2.1
  have hgm : GM μ nc ns nl sg := ⟨hg, hr.2.2.1.2⟩
  have hx : Mx μ fo nc ns := ⟨hr.2.2.2.2.2.2.2.2, hfo, hg.1.1, hg.1.2.1, hg.1.2.2.1, hg.1.2.2.2.1⟩
  have hcat : ∀ k, k < nc → CatOK (μ 2) k := fun k hk => hg.1.2.2.2.2.1 k (by have := hg.1.2.1; omega)
  have hu := hgm.2.1.1
  have h16 := hgm.2.1.2
  obtain ⟨⟨t, ht4, ht, ht1⟩, hta, hby⟩ := hr.2.2.2.2.1
  have top : eZ E + 135 < eZ E + hN g := by omega
  refine ⟨_, c11_stopped hr.1, fun r1 h1 q1 => ?_⟩
  obtain ⟨rfl, rfl⟩ := q1
  have c2 := ct_mstopped (μ := μ) (l := l) hm
  rw [he] at c2
  refine ⟨_, rfl, _, c2, hm, fun r2 g2 q2 => ?_⟩
  obtain ⟨rfl, rfl⟩ := q2
  exact ⟨by rw [hr.2.2.2.2.2.1.1.2.2.1], _, _, hi.fin kp_rf hr Ob.th⟩
theorem tw_status (hi : Inv E g μ l) : TwI E 0 0 0 0 mX11_status mX12_status [] g := by
  obtain ⟨hr, hm, he, ⟨hw, h7, h11⟩, hn⟩ := id hi
  obtain ⟨nc, ns, nl, sg, lw, fo, hg, hls, hL, hfo⟩ := PoR.lv hr.1 hr.2.1
  have hgm : GM μ nc ns nl sg := ⟨hg, hr.2.2.1.2⟩
  have hx : Mx μ fo nc ns := ⟨hr.2.2.2.2.2.2.2.2, hfo, hg.1.1, hg.1.2.1, hg.1.2.2.1, hg.1.2.2.2.1⟩
  have hcat : ∀ k, k < nc → CatOK (μ 2) k := fun k hk => hg.1.2.2.2.2.1 k (by have := hg.1.2.1; omega)
  have hu := hgm.2.1.1
  have h16 := hgm.2.1.2
  obtain ⟨⟨t, ht4, ht, ht1⟩, hta, hby⟩ := hr.2.2.2.2.1
  have top : eZ E + 135 < eZ E + hN g := by omega
  refine ⟨_, c11_status hr.1, fun r1 h1 q1 => ?_⟩
  obtain ⟨rfl, rfl⟩ := q1
  have c2 := ct_mstatus (μ := μ) (l := l) hm
  rw [he] at c2
  refine ⟨_, rfl, _, c2, hm, fun r2 g2 q2 => ?_⟩
  obtain ⟨rfl, rfl⟩ := q2
  exact ⟨by rw [hr.2.2.2.2.2.1.1.2.2.2], _, _, hi.fin kp_rf hr Ob.th⟩
theorem tw_frauds (hi : Inv E g μ l) : TwI E 2 0 0 1 mX11_frauds mX12_frauds [] g := by
  obtain ⟨hr, hm, he, ⟨hw, h7, h11⟩, hn⟩ := id hi
  obtain ⟨nc, ns, nl, sg, lw, fo, hg, hls, hL, hfo⟩ := PoR.lv hr.1 hr.2.1
  have hgm : GM μ nc ns nl sg := ⟨hg, hr.2.2.1.2⟩
  have hx : Mx μ fo nc ns := ⟨hr.2.2.2.2.2.2.2.2, hfo, hg.1.1, hg.1.2.1, hg.1.2.2.1, hg.1.2.2.2.1⟩
  have hcat : ∀ k, k < nc → CatOK (μ 2) k := fun k hk => hg.1.2.2.2.2.1 k (by have := hg.1.2.1; omega)
  have hu := hgm.2.1.1
  have h16 := hgm.2.1.2
  obtain ⟨⟨t, ht4, ht, ht1⟩, hta, hby⟩ := hr.2.2.2.2.1
  have top : eZ E + 135 < eZ E + hN g := by omega
  refine ⟨_, c11_frauds hr.1 hr.2.1.1 hg.1.1 hg.1.2.1, fun r1 h1 q1 => ?_⟩
  obtain ⟨rfl, rfl⟩ := q1
  have c2 := ct_mfrauds (μ := μ) (l := l) hm hg.1.1 hg.1.2.1
  rw [he] at c2
  refine ⟨_, rfl, _, c2, hm, fun r2 g2 q2 => ?_⟩
  obtain ⟨rfl, rfl⟩ := q2
  exact ⟨rfl, _, _, hi.fin kp_rf hr Ob.th⟩
theorem tw_unused (hi : Inv E g μ l) : TwI E 2 0 0 2 mX11_unused mX12_unused [] g := by
  obtain ⟨hr, hm, he, ⟨hw, h7, h11⟩, hn⟩ := id hi
  obtain ⟨nc, ns, nl, sg, lw, fo, hg, hls, hL, hfo⟩ := PoR.lv hr.1 hr.2.1
  have hgm : GM μ nc ns nl sg := ⟨hg, hr.2.2.1.2⟩
  have hx : Mx μ fo nc ns := ⟨hr.2.2.2.2.2.2.2.2, hfo, hg.1.1, hg.1.2.1, hg.1.2.2.1, hg.1.2.2.2.1⟩
  have hcat : ∀ k, k < nc → CatOK (μ 2) k := fun k hk => hg.1.2.2.2.2.1 k (by have := hg.1.2.1; omega)
  have hu := hgm.2.1.1
  have h16 := hgm.2.1.2
  obtain ⟨⟨t, ht4, ht, ht1⟩, hta, hby⟩ := hr.2.2.2.2.1
  have top : eZ E + 135 < eZ E + hN g := by omega
  refine ⟨_, c11_unused hr.1 hr.2.1.1 hg.1.1 hg.1.2.1, fun r1 h1 q1 => ?_⟩
  obtain ⟨rfl, rfl⟩ := q1
  have c2 := ct_munused (μ := μ) (l := l) hm hg.1.1 hg.1.2.1
  rw [he] at c2
  refine ⟨_, rfl, _, c2, hm, fun r2 g2 q2 => ?_⟩
  obtain ⟨rfl, rfl⟩ := q2
  exact ⟨rfl, _, _, hi.fin kp_rf hr Ob.th⟩
theorem tw_count (hi : Inv E g μ l) (a0 : Int32) : TwI E 2 0 0 2 mX11_count mX12_count [.int a0] g := by
  obtain ⟨hr, hm, he, ⟨hw, h7, h11⟩, hn⟩ := id hi
  obtain ⟨nc, ns, nl, sg, lw, fo, hg, hls, hL, hfo⟩ := PoR.lv hr.1 hr.2.1
  have hgm : GM μ nc ns nl sg := ⟨hg, hr.2.2.1.2⟩
  have hx : Mx μ fo nc ns := ⟨hr.2.2.2.2.2.2.2.2, hfo, hg.1.1, hg.1.2.1, hg.1.2.2.1, hg.1.2.2.2.1⟩
  have hcat : ∀ k, k < nc → CatOK (μ 2) k := fun k hk => hg.1.2.2.2.2.1 k (by have := hg.1.2.1; omega)
  have hu := hgm.2.1.1
  have h16 := hgm.2.1.2
  obtain ⟨⟨t, ht4, ht, ht1⟩, hta, hby⟩ := hr.2.2.2.2.1
  have top : eZ E + 135 < eZ E + hN g := by omega
  refine ⟨_, c11_count hr.1 hr.2.1.1 hg.1.1 hg.1.2.1 hu (hr.2.2.1.1.choose_spec.2.1) (ht1.trans ht.symm) hr.2.2.2.2.2.1.2 a0, fun r1 h1 q1 => ?_⟩
  obtain ⟨rfl, rfl⟩ := q1
  have c2 := ct_mcount (μ := μ) (l := l) hm a0 hg.1.1 hg.1.2.1
  rw [he] at c2
  refine ⟨_, rfl, _, c2, hm, fun r2 g2 q2 => ?_⟩
  obtain ⟨rfl, rfl⟩ := q2
  exact ⟨rfl, _, _, hi.fin kp_rf hr Ob.th⟩
theorem tw_drawn (hi : Inv E g μ l) (a0 a1 : Int32) : TwI E 1 0 0 1 mX11_drawn mX12_drawn [.int a0, .int a1] g := by
  obtain ⟨hr, hm, he, ⟨hw, h7, h11⟩, hn⟩ := id hi
  obtain ⟨nc, ns, nl, sg, lw, fo, hg, hls, hL, hfo⟩ := PoR.lv hr.1 hr.2.1
  have hgm : GM μ nc ns nl sg := ⟨hg, hr.2.2.1.2⟩
  have hx : Mx μ fo nc ns := ⟨hr.2.2.2.2.2.2.2.2, hfo, hg.1.1, hg.1.2.1, hg.1.2.2.1, hg.1.2.2.2.1⟩
  have hcat : ∀ k, k < nc → CatOK (μ 2) k := fun k hk => hg.1.2.2.2.2.1 k (by have := hg.1.2.1; omega)
  have hu := hgm.2.1.1
  have h16 := hgm.2.1.2
  obtain ⟨⟨t, ht4, ht, ht1⟩, hta, hby⟩ := hr.2.2.2.2.1
  have top : eZ E + 135 < eZ E + hN g := by omega
  obtain ⟨rb, nb, b1, b2, b3, b4, b5⟩ := hr.2.2.2.2.2.2.1
  refine ⟨_, c11_drawn hr.1 b1 b2 b3 b5 a0 a1, fun r1 h1 q1 => ?_⟩
  obtain ⟨rfl, rfl⟩ := q1
  have c2 := ct_mdrawn (μ := μ) (l := l) hm a0 a1 b4 b3
  rw [he] at c2
  refine ⟨_, rfl, _, c2, hm, fun r2 g2 q2 => ?_⟩
  obtain ⟨rfl, rfl⟩ := q2
  exact ⟨rfl, _, _, hi.fin kp_rf hr Ob.th⟩
theorem uF_ob {ν : Mu} {κ : La} (ho : Ob μ l ν κ) : uF ν = uF μ := by unfold uF; rw [ho.f8]
theorem tw_sign (hi : Inv E g μ l) (a0 a1 : Int32) : TwI E 6 0 0 7 mX11_sign mX12_sign [.int a0, .int a1] g := by
  obtain ⟨hr, hm, he, ⟨hw, h7, h11⟩, hn⟩ := id hi
  obtain ⟨nc, ns, nl, sg, lw, fo, hg, hls, hL, hfo⟩ := PoR.lv hr.1 hr.2.1
  have hgm : GM μ nc ns nl sg := ⟨hg, hr.2.2.1.2⟩
  have hx : Mx μ fo nc ns := ⟨hr.2.2.2.2.2.2.2.2, hfo, hg.1.1, hg.1.2.1, hg.1.2.2.1, hg.1.2.2.2.1⟩
  have hcat : ∀ k, k < nc → CatOK (μ 2) k := fun k hk => hg.1.2.2.2.2.1 k (by have := hg.1.2.1; omega)
  have hu := hgm.2.1.1
  have h16 := hgm.2.1.2
  obtain ⟨⟨t, ht4, ht, ht1⟩, hta, hby⟩ := hr.2.2.2.2.1
  have top : eZ E + 135 < eZ E + hN g := by omega
  have hea : ∀ k, k < nc → 0 ≤ μ 2 (20 + k) := fun k hk => by obtain ⟨e, e1, e2⟩ := hg.1.2.2.2.2.2.1 k (by have := hg.1.2.1; omega); rw [e2]; exact nI_pos' (by omega)
  have key : ∀ (ν : Mu) (κ : La), Ob μ l ν κ → Ob (tellM (actM μ fo nc ns (nI 0) a0 a1) (actV (μ 2) fo nc ns (nI 0) a0 a1)) l (tellM (signM (signV (μ 2) fo nc ns a0 a1) (uF μ) a0 a1 ν) (signV (μ 2) fo nc ns a0 a1)) κ := fun ν κ ho => by
    have e : actM ν fo nc ns (nI 0) a0 a1 = signM (signV (μ 2) fo nc ns a0 a1) (uF μ) a0 a1 ν := by
      have e1 : actM ν fo nc ns (nI 0) a0 a1 = signM (signV (ν 2) fo nc ns a0 a1) (uF ν) a0 a1 ν := rfl
      rw [e1, ho.row, uF_ob ho]
    rw [← e]
    exact (ho.act fo nc ns (nI 0) a0 a1).tellC _
  refine ⟨_, c11_sign hr hgm hL a0 a1, fun r1 h1 q1 => ?_⟩
  obtain ⟨rfl, hr1, hk1⟩ := q1
  obtain ⟨hm1, he1⟩ := hi.ref hk1
  have c2 := ct_msign (μ := μ) (l := l) hm1 hx hu h16 a0 a1
  rw [he1] at c2
  refine ⟨_, rfl, _, c2, hm1, fun r2 g2 q2 => ?_⟩
  obtain ⟨ν, κ, hS, rfl, rfl⟩ := q2
  exact ⟨rfl, _, _, hi.fin hk1 hr1 (key ν κ (Ob.th.tr hS.ob))⟩
theorem tw_die (hi : Inv E g μ l) (a0 a1 : Int32) : TwI E 6 0 0 3 mX11_die mX12_die [.int a0, .int a1] g := by
  obtain ⟨hr, hm, he, ⟨hw, h7, h11⟩, hn⟩ := id hi
  obtain ⟨nc, ns, nl, sg, lw, fo, hg, hls, hL, hfo⟩ := PoR.lv hr.1 hr.2.1
  have hgm : GM μ nc ns nl sg := ⟨hg, hr.2.2.1.2⟩
  have hx : Mx μ fo nc ns := ⟨hr.2.2.2.2.2.2.2.2, hfo, hg.1.1, hg.1.2.1, hg.1.2.2.1, hg.1.2.2.2.1⟩
  have hcat : ∀ k, k < nc → CatOK (μ 2) k := fun k hk => hg.1.2.2.2.2.1 k (by have := hg.1.2.1; omega)
  have hu := hgm.2.1.1
  have h16 := hgm.2.1.2
  obtain ⟨⟨t, ht4, ht, ht1⟩, hta, hby⟩ := hr.2.2.2.2.1
  have top : eZ E + 135 < eZ E + hN g := by omega
  have hea : ∀ k, k < nc → 0 ≤ μ 2 (20 + k) := fun k hk => by obtain ⟨e, e1, e2⟩ := hg.1.2.2.2.2.2.1 k (by have := hg.1.2.1; omega); rw [e2]; exact nI_pos' (by omega)
  have key : ∀ (ν : Mu) (κ : La), Ob μ l ν κ → Ob (tellM (actM μ fo nc ns (nI 1) a0 a1) (actV (μ 2) fo nc ns (nI 1) a0 a1)) l (tellM (dieM (dieV (μ 2) nc a0 a1) (uF μ) a0 a1 ν) (dieV (μ 2) nc a0 a1)) κ := fun ν κ ho => by
    have e : actM ν fo nc ns (nI 1) a0 a1 = dieM (dieV (μ 2) nc a0 a1) (uF μ) a0 a1 ν := by
      have e1 : actM ν fo nc ns (nI 1) a0 a1 = dieM (dieV (ν 2) nc a0 a1) (uF ν) a0 a1 ν := rfl
      rw [e1, ho.row, uF_ob ho]
    rw [← e]
    exact (ho.act fo nc ns (nI 1) a0 a1).tellC _
  refine ⟨_, c11_die hr hgm hL a0 a1, fun r1 h1 q1 => ?_⟩
  obtain ⟨rfl, hr1, hk1⟩ := q1
  obtain ⟨hm1, he1⟩ := hi.ref hk1
  have c2 := ct_mdie (μ := μ) (l := l) hm1 hg.1.1 hg.1.2.1 hu h16 a0 a1
  rw [he1] at c2
  refine ⟨_, rfl, _, c2, hm1, fun r2 g2 q2 => ?_⟩
  obtain ⟨rfl, rfl⟩ := q2
  exact ⟨rfl, _, _, hi.fin hk1 hr1 (key _ _ Ob.th)⟩
theorem tw_clip (hi : Inv E g μ l) (a0 a1 : Int32) : TwI E 6 0 0 3 mX11_clip mX12_clip [.int a0, .int a1] g := by
  obtain ⟨hr, hm, he, ⟨hw, h7, h11⟩, hn⟩ := id hi
  obtain ⟨nc, ns, nl, sg, lw, fo, hg, hls, hL, hfo⟩ := PoR.lv hr.1 hr.2.1
  have hgm : GM μ nc ns nl sg := ⟨hg, hr.2.2.1.2⟩
  have hx : Mx μ fo nc ns := ⟨hr.2.2.2.2.2.2.2.2, hfo, hg.1.1, hg.1.2.1, hg.1.2.2.1, hg.1.2.2.2.1⟩
  have hcat : ∀ k, k < nc → CatOK (μ 2) k := fun k hk => hg.1.2.2.2.2.1 k (by have := hg.1.2.1; omega)
  have hu := hgm.2.1.1
  have h16 := hgm.2.1.2
  obtain ⟨⟨t, ht4, ht, ht1⟩, hta, hby⟩ := hr.2.2.2.2.1
  have top : eZ E + 135 < eZ E + hN g := by omega
  have hea : ∀ k, k < nc → 0 ≤ μ 2 (20 + k) := fun k hk => by obtain ⟨e, e1, e2⟩ := hg.1.2.2.2.2.2.1 k (by have := hg.1.2.1; omega); rw [e2]; exact nI_pos' (by omega)
  have key : ∀ (ν : Mu) (κ : La), Ob μ l ν κ → Ob (tellM (actM μ fo nc ns (nI 2) a0 a1) (actV (μ 2) fo nc ns (nI 2) a0 a1)) l (tellM (clipM (clipV (μ 2) nc a0 a1) (uF μ) a0 a1 ν) (clipV (μ 2) nc a0 a1)) κ := fun ν κ ho => by
    have e : actM ν fo nc ns (nI 2) a0 a1 = clipM (clipV (μ 2) nc a0 a1) (uF μ) a0 a1 ν := by
      have e1 : actM ν fo nc ns (nI 2) a0 a1 = clipM (clipV (ν 2) nc a0 a1) (uF ν) a0 a1 ν := rfl
      rw [e1, ho.row, uF_ob ho]
    rw [← e]
    exact (ho.act fo nc ns (nI 2) a0 a1).tellC _
  refine ⟨_, c11_clip hr hgm hL a0 a1, fun r1 h1 q1 => ?_⟩
  obtain ⟨rfl, hr1, hk1⟩ := q1
  obtain ⟨hm1, he1⟩ := hi.ref hk1
  have c2 := ct_mclip (μ := μ) (l := l) hm1 hg.1.1 hg.1.2.1 hu h16 hea a0 a1
  rw [he1] at c2
  refine ⟨_, rfl, _, c2, hm1, fun r2 g2 q2 => ?_⟩
  obtain ⟨rfl, rfl⟩ := q2
  exact ⟨rfl, _, _, hi.fin hk1 hr1 (key _ _ Ob.th)⟩
end BOTH
