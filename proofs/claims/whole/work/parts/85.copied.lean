/-! the class: a text copied -/
section COPIED
variable {E : En} {h : Hp} {t : Nat}
theorem txS.up {h1 : Hp} {n0 : Nat} (hp : txS E h t n0) (hNN : hN h ≤ hN h1) (q : ∀ b, b < eZ E + hN h → hK h1 b = hK h b ∧ hL h1 b = hL h b ∧ hR h1 b = hR h b) : txS E h1 t n0 := by
  have fA : ∀ {a ci}, isA E h a ci → isA E h1 a ci := fun z => ⟨z.1, by have := z.2.1; omega, (q _ z.2.1).1.trans z.2.2⟩
  have fR : ∀ {a ci ln}, isR E h a ci ln → isR E h1 a ci ln := fun z => ⟨z.1, by have := z.2.1; omega, (q _ z.2.1).1.trans z.2.2.1, (q _ z.2.1).2.1.trans z.2.2.2⟩
  have f : ∀ k v, hR h t k = v → hR h1 t k = v := fun k v z => (congrFun (q t hp.1.2.1).2.2 k).trans z
  exact ⟨fA hp.1, ⟨f _ _ (tx_f1 hp), fR (tx_r1 hp)⟩, ⟨f _ _ (tx_f2 hp), fR (tx_r2 hp)⟩, ⟨f _ _ (tx_f3 hp), fR (tx_r3 hp)⟩, ⟨f _ _ (tx_f4 hp), fR (tx_r4 hp)⟩, ⟨f _ _ (tx_f5 hp), fR (tx_r5 hp)⟩⟩
theorem hNew_low {z kd n0 b : Nat} (hb : b ≠ z) : hK (hNew h z kd n0) b = hK h b ∧ hL (hNew h z kd n0) b = hL h b ∧ hI (hNew h z kd n0) b = hI h b ∧ hJ (hNew h z kd n0) b = hJ h b ∧ hR (hNew h z kd n0) b = hR h b := by
  refine ⟨?_, ?_, ?_, ?_, ?_⟩ <;> simp [hNew, hK, hL, hI, hJ, hR, va_up, hb]
theorem hNew_is {kd n0 : Nat} : isA E (hNew h (eZ E + hN h) kd n0) (eZ E + hN h) kd := ⟨by omega, by show _ < eZ E + (hN h + 1); omega, by simp [hNew, hK, va_up]⟩
/-- t copied to a new text w -/
def CpT (E : En) (h h1 : Hp) (t w sz : Nat) : Prop := hN h1 = hN h + 6 ∧ (∀ b, b < w → hK h1 b = hK h b ∧ hL h1 b = hL h b ∧ hI h1 b = hI h b ∧ hJ h1 b = hJ h b ∧ hR h1 b = hR h b) ∧ txS E h1 w sz ∧ (hI h1 w 0 = hI h t 0 ∧ hI h1 w 6 = hI h t 6 ∧ hI h1 w 7 = hI h t 7) ∧ (∀ k, k < 12 → hI h1 (w + 1) k = hI h (t + 1) k) ∧ (∀ k, k < 12 → hI h1 (w + 2) k = hI h (t + 2) k) ∧ (∀ k, k < 37 → hI h1 (w + 3) k = hI h (t + 3) k) ∧ (∀ k, k < sz → hI h1 (w + 4) k = hI h (t + 4) k) ∧ (∀ k, k < sz → hI h1 (w + 5) k = hI h (t + 5) k)
end COPIED
