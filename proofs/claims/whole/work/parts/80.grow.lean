/-! a heap that grows: a new array, kept in a field -/
section GROW
variable {E : En} {M : Mi} {R : Room} {Q : Qg} {pc : Nat} {lv lv' : List (Nat × Value)} {st : List Value} {h : Hp} {cl sl : Nat}
def Nw (h g : Hp) (a k z kd n0 : Nat) : Prop := hN g = hN h + 1 ∧ (hK g z = kd ∧ hL g z = n0) ∧ hR g a k = some z ∧ (∀ b, b ≠ z → hK g b = hK h b ∧ hL g b = hL h b ∧ hI g b = hI h b ∧ hJ g b = hJ h b) ∧ (∀ b j, b ≠ z → ¬ (b = a ∧ j = k) → hR g b j = hR h b j) ∧ (∀ j, hI g z j = 0 ∧ hJ g z j = 0 ∧ (z ≠ a → hR g z j = none))
theorem nw_is {h0 : Hp} {a k z kd n0 : Nat} : Nw h0 (wR (hNew h0 z kd n0) a k (some z)) a k z kd n0 := by
  refine ⟨rfl, ⟨?_, ?_⟩, up2_at, fun b hb => ⟨?_, ?_, ?_, ?_⟩, fun b j hb hj => ?_, fun j => ⟨?_, ?_, fun ha => ?_⟩⟩
  · simp [wR, hNew, hK, va_up]
  · simp [wR, hNew, hL, va_up]
  · simp [wR, hNew, hK, va_up, hb]
  · simp [wR, hNew, hL, va_up, hb]
  · simp [wR, hNew, hI, va_up, hb]
  · simp [wR, hNew, hJ, va_up, hb]
  · show up2 _ a k _ b j = _
    rw [up2_ne hj]
    simp [hNew, hR, va_up, hb]
  · simp [wR, hNew, hI, va_up]
  · simp [wR, hNew, hJ, va_up]
  · show up2 _ a k _ z j = _
    rw [up2_ne (fun q => ha q.1)]
    simp [hNew, va_up]
theorem isA_new {a ci kd n0 : Nat} (ha : isA E h a ci) : isA E (hNew h (eZ E + hN h) kd n0) a ci := by
  have hne : a ≠ eZ E + hN h := by have := ha.2.1; omega
  refine ⟨ha.1, ?_, ?_⟩
  · show a < eZ E + (hN h + 1); have := ha.2.1; omega
  · rw [← ha.2.2]; simp [hNew, hK, va_up, hne]
theorem r_nwput {idx ci k a n0 kd : Nat} {v : Int32} {ty : FieldType} {fin : Bool} {atype : ArrayType} (ht : (atype = .int ∧ kd = 13) ∨ (atype = .long ∧ kd = 14) ∨ (atype = .boolean ∧ kd = 15)) (hn : v = nI n0) (hNm : n0 < 1000000) (hc1 : cl + 1 ≤ R.cells) (hs1 : sl + n0 ≤ R.slots) (hf : Fp M.1.cls idx ci k 2 ty fin) (hty : (∃ n1, ty = .object n1) ∨ ∃ t, ty = .array t) (hini : fin = true → M.1.name = "<init>") (ha : isA E h a ci) (hd : decode M.2.1 pc = .ok (.newarray atype, 2)) (hd2 : decode M.2.1 (pc + 2) = .ok (.putfield idx, 3)) (kk : ∀ g, Nw h g a k (eZ E + hN h) kd n0 → Wp E M R Q (pc + 5) lv st g (cl + 1) (sl + n0)) : Wp E M R Q pc lv (.int v :: .ref a :: st) h cl sl := by
  refine r_newarr ht hn hNm hc1 hs1 hd ?_
  refine r_putR hf hty hini (isA_new ha) hd2 ?_
  exact kk _ nw_is
/-- what stands below stays -/
theorem Nw.kA {g : Hp} {a k kd n0 b ci : Nat} (w : Nw h g a k (eZ E + hN h) kd n0) (hb : isA E h b ci) : isA E g b ci := by
  have hne : b ≠ eZ E + hN h := by have := hb.2.1; omega
  exact ⟨hb.1, by rw [w.1]; have := hb.2.1; omega, ((w.2.2.2.1 b hne).1).trans hb.2.2⟩
theorem Nw.kR {g : Hp} {a k kd n0 b ci ln : Nat} (w : Nw h g a k (eZ E + hN h) kd n0) (hb : isR E h b ci ln) : isR E g b ci ln := by
  have hne : b ≠ eZ E + hN h := by have := hb.2.1; omega
  exact ⟨hb.1, by rw [w.1]; have := hb.2.1; omega, ((w.2.2.2.1 b hne).1).trans hb.2.2.1, ((w.2.2.2.1 b hne).2.1).trans hb.2.2.2⟩
theorem Nw.kN {g : Hp} {a k kd n0 : Nat} (w : Nw h g a k (eZ E + hN h) kd n0) : isR E g (eZ E + hN h) kd n0 := ⟨by omega, by rw [w.1]; omega, w.2.1.1, w.2.1.2⟩
end GROW
