/-! the class: what a new text is -/
section NEWTEXT2
variable {E : En} {h g1 g2 g3 g4 g5 : Hp}
theorem nw_text {t n0 : Nat} (ht : isA E h t 10) (hz : eZ E + hN h = t + 1) (w1 : Nw h g1 t 1 (eZ E + hN h) 13 12) (w2 : Nw g1 g2 t 2 (eZ E + hN g1) 13 12) (w3 : Nw g2 g3 t 3 (eZ E + hN g2) 13 37) (w4 : Nw g3 g4 t 4 (eZ E + hN g3) 13 n0) (w5 : Nw g4 g5 t 5 (eZ E + hN g4) 13 n0) : txS E g5 t n0 ∧ hN g5 = hN h + 5 ∧ (∀ b, b ≤ t → hK g5 b = hK h b ∧ hL g5 b = hL h b ∧ hI g5 b = hI h b ∧ hJ g5 b = hJ h b) ∧ (∀ b j, b < t → hR g5 b j = hR h b j) ∧ ∀ b j, t < b → b < t + 6 → hI g5 b j = 0 := by
  have e2 : eZ E + hN g1 = t + 2 := by rw [w1.1]; omega
  have e3 : eZ E + hN g2 = t + 3 := by rw [w2.1]; omega
  have e4 : eZ E + hN g3 = t + 4 := by rw [w3.1]; omega
  have e5 : eZ E + hN g4 = t + 5 := by rw [w4.1]; omega
  have a5 := w5.kA (w4.kA (w3.kA (w2.kA (w1.kA ht))))
  have r1 := w5.kR (w4.kR (w3.kR (w2.kR w1.kN)))
  have r2 := w5.kR (w4.kR (w3.kR w2.kN))
  have r3 := w5.kR (w4.kR w3.kN)
  have r4 := w5.kR w4.kN
  have r5 := w5.kN
  have n5 : hN g5 = hN h + 5 := by rw [w5.1, w4.1, w3.1, w2.1, w1.1]
  rw [hz] at w1 r1
  rw [e2] at w2 r2
  rw [e3] at w3 r3
  rw [e4] at w4 r4
  rw [e5] at w5 r5
  refine ⟨⟨a5, ⟨(w5.2.2.2.2.1 t 1 (by omega) (by omega)).trans ((w4.2.2.2.2.1 t 1 (by omega) (by omega)).trans ((w3.2.2.2.2.1 t 1 (by omega) (by omega)).trans ((w2.2.2.2.2.1 t 1 (by omega) (by omega)).trans (w1.2.2.1)))), r1⟩, ⟨(w5.2.2.2.2.1 t 2 (by omega) (by omega)).trans ((w4.2.2.2.2.1 t 2 (by omega) (by omega)).trans ((w3.2.2.2.2.1 t 2 (by omega) (by omega)).trans (w2.2.2.1))), r2⟩, ⟨(w5.2.2.2.2.1 t 3 (by omega) (by omega)).trans ((w4.2.2.2.2.1 t 3 (by omega) (by omega)).trans (w3.2.2.1)), r3⟩, ⟨(w5.2.2.2.2.1 t 4 (by omega) (by omega)).trans (w4.2.2.1), r4⟩, ⟨w5.2.2.1, r5⟩⟩, n5, fun b hb => ?_, fun b j hb => ?_, fun b j h1 h2 => ?_⟩
  · have q1 := w1.2.2.2.1 b (by omega)
    have q2 := w2.2.2.2.1 b (by omega)
    have q3 := w3.2.2.2.1 b (by omega)
    have q4 := w4.2.2.2.1 b (by omega)
    have q5 := w5.2.2.2.1 b (by omega)
    exact ⟨(q5.1).trans ((q4.1).trans ((q3.1).trans ((q2.1).trans (q1.1)))), (q5.2.1).trans ((q4.2.1).trans ((q3.2.1).trans ((q2.2.1).trans (q1.2.1)))), (q5.2.2.1).trans ((q4.2.2.1).trans ((q3.2.2.1).trans ((q2.2.2.1).trans (q1.2.2.1)))), (q5.2.2.2).trans ((q4.2.2.2).trans ((q3.2.2.2).trans ((q2.2.2.2).trans (q1.2.2.2))))⟩
  · exact (w5.2.2.2.2.1 b j (by omega) (by omega)).trans ((w4.2.2.2.2.1 b j (by omega) (by omega)).trans ((w3.2.2.2.2.1 b j (by omega) (by omega)).trans ((w2.2.2.2.2.1 b j (by omega) (by omega)).trans (w1.2.2.2.2.1 b j (by omega) (by omega)))))
  · rcases (show b = t + 1 ∨ b = t + 2 ∨ b = t + 3 ∨ b = t + 4 ∨ b = t + 5 by omega) with rfl | rfl | rfl | rfl | rfl
    · exact (congrFun (w5.2.2.2.1 (t + 1) (by omega)).2.2.1 j).trans ((congrFun (w4.2.2.2.1 (t + 1) (by omega)).2.2.1 j).trans ((congrFun (w3.2.2.2.1 (t + 1) (by omega)).2.2.1 j).trans ((congrFun (w2.2.2.2.1 (t + 1) (by omega)).2.2.1 j).trans ((w1.2.2.2.2.2 j).1))))
    · exact (congrFun (w5.2.2.2.1 (t + 2) (by omega)).2.2.1 j).trans ((congrFun (w4.2.2.2.1 (t + 2) (by omega)).2.2.1 j).trans ((congrFun (w3.2.2.2.1 (t + 2) (by omega)).2.2.1 j).trans ((w2.2.2.2.2.2 j).1)))
    · exact (congrFun (w5.2.2.2.1 (t + 3) (by omega)).2.2.1 j).trans ((congrFun (w4.2.2.2.1 (t + 3) (by omega)).2.2.1 j).trans ((w3.2.2.2.2.2 j).1))
    · exact (congrFun (w5.2.2.2.1 (t + 4) (by omega)).2.2.1 j).trans ((w4.2.2.2.2.2 j).1)
    · exact (w5.2.2.2.2.2 j).1
end NEWTEXT2
