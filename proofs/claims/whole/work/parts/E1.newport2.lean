/-! the class: what a new port is -/
section NEWPORT2
variable {E : En} {h g1 g2 g3 g4 g5 g6 g7 g8 g9 : Hp}
/-- a new port's row -/
def r0F : Nat → Int32 := fun j => if j = 6 then 1 else if j = 4 then -1 else 0
theorem nw_port {p : Nat} (hp : isA E h p 5) (h0 : hI h p = fun _ => 0) (hz : eZ E + hN h = p + 1) (w1 : Nw h g1 p 1 (eZ E + hN h) 13 6) (w2 : Nw g1 g2 p 2 (eZ E + hN g1) 13 6) (w3 : Nw g2 g3 p 3 (eZ E + hN g2) 13 6) (w4 : Nw g3 g4 p 4 (eZ E + hN g3) 13 6) (w5 : Nw g4 g5 p 5 (eZ E + hN g4) 13 6) (w6 : Nw g5 g6 p 7 (eZ E + hN g5) 13 3) (w7 : Nw g6 g7 p 9 (eZ E + hN g6) 13 8) (w8 : Nw g7 g8 p 10 (eZ E + hN g7) 13 3) (w9 : Nw (wI g8 (eZ E + hN g7) 1 1) g9 p 12 (eZ E + hN (wI g8 (eZ E + hN g7) 1 1)) 17 6) : ptS E (wI g9 p 13 (-1)) p ∧ hN (wI g9 p 13 (-1)) = hN h + 9 ∧ (∀ b, b < p → hK (wI g9 p 13 (-1)) b = hK h b ∧ hL (wI g9 p 13 (-1)) b = hL h b ∧ hI (wI g9 p 13 (-1)) b = hI h b ∧ hJ (wI g9 p 13 (-1)) b = hJ h b ∧ hR (wI g9 p 13 (-1)) b = hR h b) ∧ PtV (wI g9 p 13 (-1)) p r0F ∧ ∀ i, hR (wI g9 p 13 (-1)) (p + 9) i = none := by
  have e2 : eZ E + hN g1 = p + 2 := by rw [w1.1]; omega
  have e3 : eZ E + hN g2 = p + 3 := by rw [w2.1]; omega
  have e4 : eZ E + hN g3 = p + 4 := by rw [w3.1]; omega
  have e5 : eZ E + hN g4 = p + 5 := by rw [w4.1]; omega
  have e6 : eZ E + hN g5 = p + 6 := by rw [w5.1]; omega
  have e7 : eZ E + hN g6 = p + 7 := by rw [w6.1]; omega
  have e8 : eZ E + hN g7 = p + 8 := by rw [w7.1]; omega
  have e9 : eZ E + hN (wI g8 (eZ E + hN g7) 1 1) = p + 9 := by show eZ E + hN g8 = p + 9; rw [w8.1]; omega
  have a9 : isA E g9 p 5 := w9.kA (w8.kA (w7.kA (w6.kA (w5.kA (w4.kA (w3.kA (w2.kA (w1.kA hp))))))))
  have r1 := w9.kR (h := wI g8 (eZ E + hN g7) 1 1) (w8.kR (w7.kR (w6.kR (w5.kR (w4.kR (w3.kR (w2.kR (w1.kN))))))))
  have r2 := w9.kR (h := wI g8 (eZ E + hN g7) 1 1) (w8.kR (w7.kR (w6.kR (w5.kR (w4.kR (w3.kR (w2.kN)))))))
  have r3 := w9.kR (h := wI g8 (eZ E + hN g7) 1 1) (w8.kR (w7.kR (w6.kR (w5.kR (w4.kR (w3.kN))))))
  have r4 := w9.kR (h := wI g8 (eZ E + hN g7) 1 1) (w8.kR (w7.kR (w6.kR (w5.kR (w4.kN)))))
  have r5 := w9.kR (h := wI g8 (eZ E + hN g7) 1 1) (w8.kR (w7.kR (w6.kR (w5.kN))))
  have r6 := w9.kR (h := wI g8 (eZ E + hN g7) 1 1) (w8.kR (w7.kR (w6.kN)))
  have r7 := w9.kR (h := wI g8 (eZ E + hN g7) 1 1) (w8.kR (w7.kN))
  have r8 := w9.kR (h := wI g8 (eZ E + hN g7) 1 1) (w8.kN)
  have r9 := w9.kN
  rw [hz] at w1 r1
  rw [e2] at w2 r2
  rw [e3] at w3 r3
  rw [e4] at w4 r4
  rw [e5] at w5 r5
  rw [e6] at w6 r6
  rw [e7] at w7 r7
  rw [e8] at w8 r8
  rw [e9] at w9 r9
  rw [e8] at w9
  have hps : ptS E g9 p := ⟨a9, ⟨(w9.2.2.2.2.1 p 1 (by omega) (by omega)).trans ((w8.2.2.2.2.1 p 1 (by omega) (by omega)).trans ((w7.2.2.2.2.1 p 1 (by omega) (by omega)).trans ((w6.2.2.2.2.1 p 1 (by omega) (by omega)).trans ((w5.2.2.2.2.1 p 1 (by omega) (by omega)).trans ((w4.2.2.2.2.1 p 1 (by omega) (by omega)).trans ((w3.2.2.2.2.1 p 1 (by omega) (by omega)).trans ((w2.2.2.2.2.1 p 1 (by omega) (by omega)).trans (w1.2.2.1)))))))), r1⟩, ⟨(w9.2.2.2.2.1 p 2 (by omega) (by omega)).trans ((w8.2.2.2.2.1 p 2 (by omega) (by omega)).trans ((w7.2.2.2.2.1 p 2 (by omega) (by omega)).trans ((w6.2.2.2.2.1 p 2 (by omega) (by omega)).trans ((w5.2.2.2.2.1 p 2 (by omega) (by omega)).trans ((w4.2.2.2.2.1 p 2 (by omega) (by omega)).trans ((w3.2.2.2.2.1 p 2 (by omega) (by omega)).trans (w2.2.2.1))))))), r2⟩, ⟨(w9.2.2.2.2.1 p 3 (by omega) (by omega)).trans ((w8.2.2.2.2.1 p 3 (by omega) (by omega)).trans ((w7.2.2.2.2.1 p 3 (by omega) (by omega)).trans ((w6.2.2.2.2.1 p 3 (by omega) (by omega)).trans ((w5.2.2.2.2.1 p 3 (by omega) (by omega)).trans ((w4.2.2.2.2.1 p 3 (by omega) (by omega)).trans (w3.2.2.1)))))), r3⟩, ⟨(w9.2.2.2.2.1 p 4 (by omega) (by omega)).trans ((w8.2.2.2.2.1 p 4 (by omega) (by omega)).trans ((w7.2.2.2.2.1 p 4 (by omega) (by omega)).trans ((w6.2.2.2.2.1 p 4 (by omega) (by omega)).trans ((w5.2.2.2.2.1 p 4 (by omega) (by omega)).trans (w4.2.2.1))))), r4⟩, ⟨(w9.2.2.2.2.1 p 5 (by omega) (by omega)).trans ((w8.2.2.2.2.1 p 5 (by omega) (by omega)).trans ((w7.2.2.2.2.1 p 5 (by omega) (by omega)).trans ((w6.2.2.2.2.1 p 5 (by omega) (by omega)).trans (w5.2.2.1)))), r5⟩, ⟨(w9.2.2.2.2.1 p 7 (by omega) (by omega)).trans ((w8.2.2.2.2.1 p 7 (by omega) (by omega)).trans ((w7.2.2.2.2.1 p 7 (by omega) (by omega)).trans (w6.2.2.1))), r6⟩, ⟨(w9.2.2.2.2.1 p 9 (by omega) (by omega)).trans ((w8.2.2.2.2.1 p 9 (by omega) (by omega)).trans (w7.2.2.1)), r7⟩, ⟨(w9.2.2.2.2.1 p 10 (by omega) (by omega)).trans (w8.2.2.1), r8⟩, ⟨w9.2.2.1, r9⟩⟩
  have low : ∀ b, b ≤ p → hK g9 b = hK h b ∧ hL g9 b = hL h b ∧ hI g9 b = hI h b ∧ hJ g9 b = hJ h b := fun b hb => by
    have q1 := w1.2.2.2.1 b (by omega)
    have q2 := w2.2.2.2.1 b (by omega)
    have q3 := w3.2.2.2.1 b (by omega)
    have q4 := w4.2.2.2.1 b (by omega)
    have q5 := w5.2.2.2.1 b (by omega)
    have q6 := w6.2.2.2.1 b (by omega)
    have q7 := w7.2.2.2.1 b (by omega)
    have q8 := w8.2.2.2.1 b (by omega)
    have q9 := w9.2.2.2.1 b (by omega)
    have qi : hI (wI g8 (p + 8) 1 1) b = hI g8 b := by funext j; exact hI_ne (by omega)
    exact ⟨q9.1.trans (q8.1.trans (q7.1.trans (q6.1.trans (q5.1.trans (q4.1.trans (q3.1.trans (q2.1.trans (q1.1)))))))), q9.2.1.trans (q8.2.1.trans (q7.2.1.trans (q6.2.1.trans (q5.2.1.trans (q4.2.1.trans (q3.2.1.trans (q2.2.1.trans (q1.2.1)))))))), q9.2.2.1.trans (qi.trans (q8.2.2.1.trans (q7.2.2.1.trans (q6.2.2.1.trans (q5.2.2.1.trans (q4.2.2.1.trans (q3.2.2.1.trans (q2.2.2.1.trans (q1.2.2.1))))))))), q9.2.2.2.trans (q8.2.2.2.trans (q7.2.2.2.trans (q6.2.2.2.trans (q5.2.2.2.trans (q4.2.2.2.trans (q3.2.2.2.trans (q2.2.2.2.trans (q1.2.2.2))))))))⟩
  have z1 : ∀ j, hI g9 (p + 1) j = 0 := fun j => (congrFun (w9.2.2.2.1 (p + 1) (by omega)).2.2.1 j).trans ((hI_ne (by omega)).trans ((congrFun (w8.2.2.2.1 (p + 1) (by omega)).2.2.1 j).trans ((congrFun (w7.2.2.2.1 (p + 1) (by omega)).2.2.1 j).trans ((congrFun (w6.2.2.2.1 (p + 1) (by omega)).2.2.1 j).trans ((congrFun (w5.2.2.2.1 (p + 1) (by omega)).2.2.1 j).trans ((congrFun (w4.2.2.2.1 (p + 1) (by omega)).2.2.1 j).trans ((congrFun (w3.2.2.2.1 (p + 1) (by omega)).2.2.1 j).trans ((congrFun (w2.2.2.2.1 (p + 1) (by omega)).2.2.1 j).trans ((w1.2.2.2.2.2 j).1)))))))))
  have z2 : ∀ j, hI g9 (p + 2) j = 0 := fun j => (congrFun (w9.2.2.2.1 (p + 2) (by omega)).2.2.1 j).trans ((hI_ne (by omega)).trans ((congrFun (w8.2.2.2.1 (p + 2) (by omega)).2.2.1 j).trans ((congrFun (w7.2.2.2.1 (p + 2) (by omega)).2.2.1 j).trans ((congrFun (w6.2.2.2.1 (p + 2) (by omega)).2.2.1 j).trans ((congrFun (w5.2.2.2.1 (p + 2) (by omega)).2.2.1 j).trans ((congrFun (w4.2.2.2.1 (p + 2) (by omega)).2.2.1 j).trans ((congrFun (w3.2.2.2.1 (p + 2) (by omega)).2.2.1 j).trans ((w2.2.2.2.2.2 j).1))))))))
  have z3 : ∀ j, hI g9 (p + 3) j = 0 := fun j => (congrFun (w9.2.2.2.1 (p + 3) (by omega)).2.2.1 j).trans ((hI_ne (by omega)).trans ((congrFun (w8.2.2.2.1 (p + 3) (by omega)).2.2.1 j).trans ((congrFun (w7.2.2.2.1 (p + 3) (by omega)).2.2.1 j).trans ((congrFun (w6.2.2.2.1 (p + 3) (by omega)).2.2.1 j).trans ((congrFun (w5.2.2.2.1 (p + 3) (by omega)).2.2.1 j).trans ((congrFun (w4.2.2.2.1 (p + 3) (by omega)).2.2.1 j).trans ((w3.2.2.2.2.2 j).1)))))))
  have z4 : ∀ j, hI g9 (p + 4) j = 0 := fun j => (congrFun (w9.2.2.2.1 (p + 4) (by omega)).2.2.1 j).trans ((hI_ne (by omega)).trans ((congrFun (w8.2.2.2.1 (p + 4) (by omega)).2.2.1 j).trans ((congrFun (w7.2.2.2.1 (p + 4) (by omega)).2.2.1 j).trans ((congrFun (w6.2.2.2.1 (p + 4) (by omega)).2.2.1 j).trans ((congrFun (w5.2.2.2.1 (p + 4) (by omega)).2.2.1 j).trans ((w4.2.2.2.2.2 j).1))))))
  have z5 : ∀ j, hI g9 (p + 5) j = 0 := fun j => (congrFun (w9.2.2.2.1 (p + 5) (by omega)).2.2.1 j).trans ((hI_ne (by omega)).trans ((congrFun (w8.2.2.2.1 (p + 5) (by omega)).2.2.1 j).trans ((congrFun (w7.2.2.2.1 (p + 5) (by omega)).2.2.1 j).trans ((congrFun (w6.2.2.2.1 (p + 5) (by omega)).2.2.1 j).trans ((w5.2.2.2.2.2 j).1)))))
  have z6 : ∀ j, hI g9 (p + 6) j = 0 := fun j => (congrFun (w9.2.2.2.1 (p + 6) (by omega)).2.2.1 j).trans ((hI_ne (by omega)).trans ((congrFun (w8.2.2.2.1 (p + 6) (by omega)).2.2.1 j).trans ((congrFun (w7.2.2.2.1 (p + 6) (by omega)).2.2.1 j).trans ((w6.2.2.2.2.2 j).1))))
  have z7 : ∀ j, hI g9 (p + 7) j = 0 := fun j => (congrFun (w9.2.2.2.1 (p + 7) (by omega)).2.2.1 j).trans ((hI_ne (by omega)).trans ((congrFun (w8.2.2.2.1 (p + 7) (by omega)).2.2.1 j).trans ((w7.2.2.2.2.2 j).1)))
  have z8 : ∀ j, hI g9 (p + 8) j = if j = 1 then 1 else 0 := fun j => by
    rw [congrFun (w9.2.2.2.1 (p + 8) (by omega)).2.2.1 j]
    by_cases hj : j = 1
    · subst hj; rw [hI_at, if_pos rfl]
    · rw [hI_ne (by omega), if_neg hj]; exact (w8.2.2.2.2.2 j).1
  have f13 : Fr (fun a k => a = p ∧ k = 13) g9 (wI g9 p 13 (-1)) := Fr.wI ⟨rfl, rfl⟩
  refine ⟨hps.fr f13 (fun k hk z => by omega), ?_, fun b hb => ?_, ?_, fun i => ?_⟩
  · show hN g9 = hN h + 9
    have n9 : hN g9 = hN g8 + 1 := w9.1
    rw [n9, w8.1, w7.1, w6.1, w5.1, w4.1, w3.1, w2.1, w1.1]
  · obtain ⟨l1, l2, l3, l4⟩ := low b (by omega)
    refine ⟨l1, l2, ?_, l4, ?_⟩
    · rw [← l3]; funext j; exact f13.I (by omega)
    · funext j
      exact (w9.2.2.2.2.1 b j (by omega) (by omega)).trans ((w8.2.2.2.2.1 b j (by omega) (by omega)).trans ((w7.2.2.2.2.1 b j (by omega) (by omega)).trans ((w6.2.2.2.2.1 b j (by omega) (by omega)).trans ((w5.2.2.2.2.1 b j (by omega) (by omega)).trans ((w4.2.2.2.2.1 b j (by omega) (by omega)).trans ((w3.2.2.2.2.1 b j (by omega) (by omega)).trans ((w2.2.2.2.2.1 b j (by omega) (by omega)).trans (w1.2.2.2.2.1 b j (by omega) (by omega)))))))))
  · have lp : ∀ k, hI g9 p k = 0 := fun k => by rw [(low p (Nat.le_refl _)).2.2.1, h0]
    have lk : ∀ k, k ≠ 13 → hI (wI g9 p 13 (-1)) p k = 0 := fun k hk => (hI_ne (by omega)).trans (lp k)
    have az : ∀ i j, hI (wI g9 p 13 (-1)) (p + (i + 1)) j = hI g9 (p + (i + 1)) j := fun i j => hI_ne (by omega)
    refine ⟨⟨lk _ (by decide), lk _ (by decide), lk _ (by decide), lk _ (by decide), hI_at⟩, fun k hk => ?_, fun k hk => ?_, fun k hk => ?_, fun k hk => ?_, fun k hk => ?_, fun k hk => ?_, fun k hk => ?_, fun k hk => ?_⟩
    · rw [az 7, z8]; unfold r0F
      by_cases hk1 : k = 1
      · rw [if_pos hk1, if_pos (by omega)]
      · rw [if_neg hk1, if_neg (by omega), if_neg (by omega)]
    · rw [az 0, z1]; unfold r0F; rw [if_neg (by omega), if_neg (by omega)]
    · rw [az 1, z2]; unfold r0F; rw [if_neg (by omega), if_neg (by omega)]
    · rw [az 2, z3]; unfold r0F; rw [if_neg (by omega), if_neg (by omega)]
    · rw [az 3, z4]; unfold r0F; rw [if_neg (by omega), if_neg (by omega)]
    · rw [az 4, z5]; unfold r0F; rw [if_neg (by omega), if_neg (by omega)]
    · rw [az 5, z6]; unfold r0F; rw [if_neg (by omega), if_neg (by omega)]
    · rw [az 6, z7]; unfold r0F; rw [if_neg (by omega), if_neg (by omega)]
  · exact (w9.2.2.2.2.2 i).2.2 (by omega)
end NEWPORT2
