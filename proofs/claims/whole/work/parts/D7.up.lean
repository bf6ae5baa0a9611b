/-! the relation, when the heap grows -/
section UP
variable {E : En} {h h1 : Hp} {x p : Nat} {r : Nat → Int32} {μ : Mu}
/-- the heap has grown, and all that was there stands -/
def Gr (E : En) (h h1 : Hp) : Prop := hN h ≤ hN h1 ∧ ∀ b, b < eZ E + hN h → hK h1 b = hK h b ∧ hL h1 b = hL h b ∧ hI h1 b = hI h b ∧ hJ h1 b = hJ h b ∧ hR h1 b = hR h b
theorem Gr.A (g : Gr E h h1) {a ci : Nat} (z : isA E h a ci) : isA E h1 a ci := ⟨z.1, by have := z.2.1; have := g.1; omega, (g.2 _ z.2.1).1.trans z.2.2⟩
theorem Gr.Rr (g : Gr E h h1) {a ci ln : Nat} (z : isR E h a ci ln) : isR E h1 a ci ln := ⟨z.1, by have := z.2.1; have := g.1; omega, (g.2 _ z.2.1).1.trans z.2.2.1, (g.2 _ z.2.1).2.1.trans z.2.2.2⟩
theorem Gr.I (g : Gr E h h1) {b : Nat} (hb : b < eZ E + hN h) : hI h1 b = hI h b := (g.2 b hb).2.2.1
theorem Gr.R (g : Gr E h h1) {b : Nat} (hb : b < eZ E + hN h) : hR h1 b = hR h b := (g.2 b hb).2.2.2.2
theorem CS.top (hc : CS E h x) : x + 101 < eZ E + hN h := by
  have := hc.1 (101, 13, 7) (by decide +kernel)
  exact this.2.1
theorem CS.up (hc : CS E h x) (g : Gr E h h1) : CS E h1 x := by
  have ht := hc.top
  refine ⟨fun t ht => ?_, fun t h2 => ?_⟩
  · obtain ⟨a1, a2, a3, a4⟩ := hc.1 t ht
    obtain ⟨b1, b2, -⟩ := g.2 _ a2
    exact ⟨a1, by have := g.1; omega, b1.trans a3, b2.trans a4⟩
  · have key : ∀ t ∈ csF, t.1 ≤ 101 := by decide +kernel
    have := key t h2
    rw [g.R (by omega)]; exact hc.2 t h2
theorem PtV.up (hv : PtV h p r) (g : Gr E h h1) (hb : p + 8 < eZ E + hN h) : PtV h1 p r := by
  unfold PtV
  rw [g.I (b := p) (by omega), g.I (b := p + 8) (by omega), g.I (b := p + 1) (by omega), g.I (b := p + 2) (by omega), g.I (b := p + 3) (by omega), g.I (b := p + 4) (by omega), g.I (b := p + 5) (by omega), g.I (b := p + 6) (by omega), g.I (b := p + 7) (by omega)]
  exact hv
theorem ptS.up (hp : ptS E h p) (g : Gr E h h1) : ptS E h1 p := by
  have f : ∀ k v, hR h p k = v → hR h1 p k = v := fun k v z => (congrFun (g.R hp.1.2.1) k).trans z
  exact ⟨g.A hp.1, ⟨f _ _ (pt_f1 hp), g.Rr (pt_r1 hp)⟩, ⟨f _ _ (pt_f2 hp), g.Rr (pt_r2 hp)⟩, ⟨f _ _ (pt_f3 hp), g.Rr (pt_r3 hp)⟩, ⟨f _ _ (pt_f4 hp), g.Rr (pt_r4 hp)⟩, ⟨f _ _ (pt_f5 hp), g.Rr (pt_r5 hp)⟩, ⟨f _ _ (pt_f7 hp), g.Rr (pt_r7 hp)⟩, ⟨f _ _ (pt_f9 hp), g.Rr (pt_r9 hp)⟩, ⟨f _ _ (pt_f10 hp), g.Rr (pt_r10 hp)⟩, ⟨f _ _ (pt_f12 hp), g.Rr (pt_r12 hp)⟩⟩
theorem LwT.up {t nn : Nat} {cls : List Cl} (hl : LwT E h t nn cls) (g : Gr E h h1) : LwT E h1 t nn cls := by
  have htx := hl.1
  have b5 := (tx_r5 htx).2.1
  unfold LwT
  rw [g.I (b := t) (by omega), g.I (b := t + 1) (by omega), g.I (b := t + 3) (by omega), g.I (b := t + 4) (by omega), g.I (b := t + 5) (by omega)]
  exact ⟨htx.up g.1 (fun b hb => ⟨(g.2 b hb).1, (g.2 b hb).2.1, (g.2 b hb).2.2.2.2⟩), hl.2⟩
theorem LwS.up {nl : Nat} (hl : LwS E h x p r nl) (g : Gr E h h1) (hb : p + 9 < eZ E + hN h) : LwS E h1 x p r nl := by
  unfold LwS
  rw [g.R hb]
  refine ⟨fun i hi => ?_, fun i hi t ht => ?_⟩
  · obtain ⟨cls, t, nn, a1, a2, a3, a4⟩ := hl.1 i hi
    exact ⟨cls, t, nn, a1, a2, a3, a4.up g⟩
  · obtain ⟨a1, a2⟩ := hl.2 i hi t ht
    exact ⟨a1, g.A a2⟩
theorem PoR.up (hp : PoR E h x p r) (g : Gr E h h1) (hb : p + 9 < eZ E + hN h) : PoR E h1 x p r := by
  obtain ⟨hv, nc, ns, nl, sg, hg, hl⟩ := hp
  exact ⟨hv.up g (by omega), nc, ns, nl, sg, hg, hl.up g hb⟩
theorem PsM.up {a : Nat} (hp : PsM h a μ) (g : Gr E h h1) (hb : a + 18 < eZ E + hN h) : PsM h1 a μ := by
  obtain ⟨nw, e2, e3, hn, hu, hk⟩ := hp
  refine ⟨nw, by rw [g.I (by omega)]; exact e2, by rw [g.I (by omega)]; exact e3, hn, hu, fun i hi => ?_⟩
  obtain ⟨k1, k2⟩ := hk i hi
  have hlt := slt_lt nw (uF μ) i
  exact ⟨by rw [g.I (by omega)]; exact k1, k2.cg (g.I (by omega))⟩
theorem CR.up (hr : CR E h x μ) (g : Gr E h h1) : CR E h1 x μ := by
  obtain ⟨hc, hp, hs, ⟨hi, hd⟩, ht, hco, hb, hw, h20⟩ := hr
  have top := hc.top
  refine ⟨hc.up g, hp.up g (by omega), ⟨hs.1.up g (by omega), hs.2⟩, ⟨fun i h2 => ?_, ?_⟩, ?_, ?_, ?_, ?_, h20⟩
  · rcases hi i h2 with ⟨a1, a2⟩ | ⟨a1, p, a2, a3, a4, a5⟩
    · exact Or.inl ⟨a1, by rw [g.R (by omega)]; exact a2⟩
    · exact Or.inr ⟨a1, p, by rw [g.R (by omega)]; exact a2, a3, a4.up g, a5.up g (pt_r12 a4).2.1⟩
  · unfold ImD; rw [g.R (by omega)]; exact hd
  · unfold TaR; rw [g.I (b := x + 24) (by omega), g.I (b := x + 25) (by omega)]; exact ht
  · unfold CoR; rw [g.I (b := x) (by omega), g.I (b := x + 101) (by omega)]; exact hco
  · obtain ⟨rb, n, a1, a2⟩ := hb
    exact ⟨rb, n, a1.up g (by omega), a2⟩
  · unfold WoR WdV; rw [g.I (b := x + 33) (by omega), g.I (b := x + 30) (by omega)]; exact hw
end UP
