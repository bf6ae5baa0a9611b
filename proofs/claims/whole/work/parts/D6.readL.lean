/-! a law read, in the class -/
section READL
variable {E : En} {h : Hp} {x n : Nat} {μ : Mu} {wl wo wh : Nat → Int64}
theorem c6_readL (hw : Wls wl wo) (hh : Whs wh 7) (hr : CR E h x μ) (hn : μ 0 13 = nI n) (h4 : n ≤ 400) : Ct E 43 0 0 mX6_read [.ref (x + 26), .ref (x + 24), .int 1] h (fun v h' => (Fr (reS x) h h' ∧ hI h' (x + 24) 1 = 0) ∧ ∃ R, LawRun wl wo wh (tk (μ 9) n) 13 0 0 0 R ∧ (match R with
    | .inl j => v = some (.int (nI (tk (μ 9) n j).1))
    | .inr cls => v = some (.int (-1)) ∧ LwT E h' (x + 27) 400 cls)) := by
  obtain ⟨-, a4, a5⟩ := hr.2.2.2.2.1
  have hb : hI h (x + 25) = μ 9 := by funext k; exact a4 k
  have hG := c6_readG (E := E) (x := x) (b := μ 9) (od := false) (h := h) (n := n) (fun h' sz q d => LcC h' (x + 27) sz q d) (LawCl wl wo wh (tk (μ 9) n)) hr.1 hr.2.2.2.2.2.2.2.1.1 (hr.sz hn) h4 hb (fun q hq => a5 q (by omega)) hr.2.2.2.2.2.2.2.1.2 (fun N g i lv c q hs hq h30 => c6_hasClauseL hw hh hs hq h30) (fun g g1 sz sz' q q2 c d hl f hq hs hs' => LcC.fr hl f hq hs hs') (fun i lv => by unfold LawCl; rw [if_pos (Or.inr (by omega))])
  refine Ct.mono ?_ hG
  rintro v h' ⟨hf, R, hR, hm⟩
  refine ⟨hf, R, RunG_law _ _ _ _ _ hR, ?_⟩
  cases R with
  | inl j => exact hm
  | inr cls =>
    obtain ⟨e, g1, g2, sz, g3, g4, g5⟩ := hm
    exact ⟨e, LwT_of (cs_tx27 (hr.1.re hf.1)) (Nat.le_refl _) g1 g2 g3 g4 g5⟩
end READL
