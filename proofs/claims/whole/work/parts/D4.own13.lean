/-! the class's own methods: orders() -/
section OWN13
variable {E : En} {h h1 h2 : Hp} {x n : Nat} {μ : Mu} {wl wo wh : Nat → Int64}
theorem c6_readO (hw : Wls wl wo) (hh : Whs wh 11) (hr : CR E h x μ) (hn : μ 0 13 = nI n) (h4 : n ≤ 400) : Ct E 43 0 0 mX6_read [.ref (x + 26), .ref (x + 24), .int 0] h (fun v h' => (Fr (reS x) h h' ∧ hI h' (x + 24) 1 = 0) ∧ ∃ R, OrdRun wl wo wh (tk (μ 9) n) 13 0 0 0 R ∧ (match R with
    | .inl j => v = some (.int (nI (tk (μ 9) n j).1))
    | .inr ds => v = some (.int (-1)) ∧ OdT h' (x + 27) ds)) := by
  obtain ⟨-, a4, a5⟩ := hr.2.2.2.2.1
  have hb : hI h (x + 25) = μ 9 := by funext k; exact a4 k
  have hG := c6_readG (E := E) (x := x) (b := μ 9) (od := true) (h := h) (n := n) (fun h' sz q d => OdC h' (x + 27) sz q d) (OrdCl wl wo wh (tk (μ 9) n)) hr.1 hr.2.2.2.2.2.2.2.1.1 (hr.sz hn) h4 hb (fun q hq => a5 q (by omega)) hr.2.2.2.2.2.2.2.1.2 (fun N g i lv c q hs hq h30 => c6_hasClauseO hw hh hs hq h30) (fun g g1 sz sz' q q2 c d hl f hq hs hs' => OdC.fr hl f hq hs hs') (fun i lv => by unfold OrdCl; rw [if_pos (Or.inr (by omega))])
  refine Ct.mono ?_ hG
  rintro v h' ⟨hf, R, hR, hm⟩
  refine ⟨hf, R, RunG_ord _ _ _ _ _ hR, ?_⟩
  cases R with
  | inl j => exact hm
  | inr ds => exact ⟨hm.1, hm.2.1, hm.2.2.1, hm.2.2.2⟩
end OWN13
