/-! the model's memory as two functions: ints and longs by cell and place -/
abbrev Mu : Type := Nat → Nat → Int32
abbrev La : Type := Nat → Nat → Int64
def mH (h : Hp) (m : Nat) (μ : Mu) (l : La) : Hp := (h.1, (fun a => if m ≤ a ∧ a < m + 34 then μ (a - m) else h.2.1 a), (fun a => if m ≤ a ∧ a < m + 34 then l (a - m) else h.2.2.1 a), h.2.2.2)
theorem mH_I {h : Hp} {m o : Nat} {μ : Mu} {l : La} (ho : o < 34) : hI (mH h m μ l) (m + o) = μ o := by
  show (if m ≤ m + o ∧ m + o < m + 34 then μ (m + o - m) else _) = _
  rw [if_pos ⟨by omega, by omega⟩, Nat.add_sub_cancel_left]
theorem mH_J {h : Hp} {m o : Nat} {μ : Mu} {l : La} (ho : o < 34) : hJ (mH h m μ l) (m + o) = l o := by
  show (if m ≤ m + o ∧ m + o < m + 34 then l (m + o - m) else _) = _
  rw [if_pos ⟨by omega, by omega⟩, Nat.add_sub_cancel_left]
theorem up2_mH {α : Type} {f g : Nat → Nat → α} {m o j : Nat} {v : α} (ho : o < 34) : up2 (fun a => if m ≤ a ∧ a < m + 34 then f (a - m) else g a) (m + o) j v = fun a => if m ≤ a ∧ a < m + 34 then up2 f o j v (a - m) else g a := by
  funext a i
  by_cases h1 : a = m + o
  · subst h1
    by_cases h2 : i = j
    · subst h2; simp [up2, ho]
    · simp [up2, h2, ho]
  · by_cases h3 : m ≤ a ∧ a < m + 34
    · have h4 : ¬ a - m = o := by omega
      simp [up2, h1, h3, h4]
    · simp [up2, h1, h3]
theorem mH_wI {h : Hp} {m o j : Nat} {μ : Mu} {l : La} {v : Int32} (ho : o < 34) : wI (mH h m μ l) (m + o) j v = mH h m (up2 μ o j v) l := by
  unfold wI mH
  rw [up2_mH ho]
theorem mH_wJ {h : Hp} {m o j : Nat} {μ : Mu} {l : La} {v : Int64} (ho : o < 34) : wJ (mH h m μ l) (m + o) j v = mH h m μ (up2 l o j v) := by
  unfold wJ mH
  rw [up2_mH ho]
section QROWS
variable {E : En} {M : Mi} {R : Room} {Q : Qg} {pc : Nat} {lv lv' : List (Nat × Value)} {st : List Value} {h : Hp} {cl sl : Nat} {m : Nat} {μ : Mu} {l : La}
theorem q_is (hm : Md E h m) : isA E (mH h m μ l) m 12 := hm.1
theorem q_R {o kd len : Nat} (ha : isR E h (m + o) kd len) : isR E (mH h m μ l) (m + o) kd len := ha
theorem q_getI {idx k : Nat} (hf : Fl M.1.cls idx 12 k 0) (hm : Md E h m) (hd : decode M.2.1 pc = .ok (.getfield idx, 3)) (kk : Wp E M R Q (pc + 3) lv (.int (μ 0 k) :: st) (mH h m μ l) cl sl) : Wp E M R Q pc lv (.ref m :: st) (mH h m μ l) cl sl := by
  refine r_getI hf (q_is hm) hd ?_
  rw [show hI (mH h m μ l) m k = μ 0 k from congrFun (mH_I (o := 0) (by decide)) k]; exact kk
theorem q_getJ {idx k : Nat} (hf : Fl M.1.cls idx 12 k 1) (hm : Md E h m) (hd : decode M.2.1 pc = .ok (.getfield idx, 3)) (kk : Wp E M R Q (pc + 3) lv (.long (l 0 k) :: st) (mH h m μ l) cl sl) : Wp E M R Q pc lv (.ref m :: st) (mH h m μ l) cl sl := by
  refine r_getJ hf (q_is hm) hd ?_
  rw [show hJ (mH h m μ l) m k = l 0 k from congrFun (mH_J (o := 0) (by decide)) k]; exact kk
theorem q_getR {idx k o : Nat} (hf : Fl M.1.cls idx 12 k 2) (hm : Md E h m) (hv : hR h m k = some (m + o)) (hd : decode M.2.1 pc = .ok (.getfield idx, 3)) (kk : Wp E M R Q (pc + 3) lv (.ref (m + o) :: st) (mH h m μ l) cl sl) : Wp E M R Q pc lv (.ref m :: st) (mH h m μ l) cl sl := r_getR hf (q_is hm) hv hd kk
theorem q_putI {idx k : Nat} {v : Int32} (hf : Fp M.1.cls idx 12 k 0 .int false) (hm : Md E h m) (hd : decode M.2.1 pc = .ok (.putfield idx, 3)) (kk : Wp E M R Q (pc + 3) lv st (mH h m (up2 μ 0 k v) l) cl sl) : Wp E M R Q pc lv (.int v :: .ref m :: st) (mH h m μ l) cl sl := by
  refine r_putI hf (q_is hm) hd ?_
  rw [show wI (mH h m μ l) m k v = _ from mH_wI (o := 0) (by decide)]; exact kk
theorem q_putZ {idx k : Nat} {v : Int32} (hf : Fp M.1.cls idx 12 k 0 .boolean false) (hm : Md E h m) (hv : v = 0 ∨ v = 1) (hd : decode M.2.1 pc = .ok (.putfield idx, 3)) (kk : Wp E M R Q (pc + 3) lv st (mH h m (up2 μ 0 k v) l) cl sl) : Wp E M R Q pc lv (.int v :: .ref m :: st) (mH h m μ l) cl sl := by
  refine r_putZ hf (q_is hm) hv hd ?_
  rw [show wI (mH h m μ l) m k v = _ from mH_wI (o := 0) (by decide)]; exact kk
theorem q_putJ {idx k : Nat} {v : Int64} (hf : Fp M.1.cls idx 12 k 1 .long false) (hm : Md E h m) (hd : decode M.2.1 pc = .ok (.putfield idx, 3)) (kk : Wp E M R Q (pc + 3) lv st (mH h m μ (up2 l 0 k v)) cl sl) : Wp E M R Q pc lv (.long v :: .ref m :: st) (mH h m μ l) cl sl := by
  refine r_putJ hf (q_is hm) hd ?_
  rw [show wJ (mH h m μ l) m k v = _ from mH_wJ (o := 0) (by decide)]; exact kk
theorem q_iald {o j len : Nat} {i : Int32} (ha : isR E h (m + o) 13 len) (ho : o < 34) (hi : i = nI j) (hj : j < len) (hs : len < 2 ^ 31) (hd : decode M.2.1 pc = .ok (.iaload, 1)) (kk : Wp E M R Q (pc + 1) lv (.int (μ o j) :: st) (mH h m μ l) cl sl) : Wp E M R Q pc lv (.int i :: .ref (m + o) :: st) (mH h m μ l) cl sl := by
  refine r_iald (q_R ha) hi hj hs hd ?_
  rw [mH_I ho]; exact kk
theorem q_zald {o j len : Nat} {i : Int32} (ha : isR E h (m + o) 15 len) (ho : o < 34) (hi : i = nI j) (hj : j < len) (hs : len < 2 ^ 31) (hd : decode M.2.1 pc = .ok (.baload, 1)) (kk : Wp E M R Q (pc + 1) lv (.int (μ o j) :: st) (mH h m μ l) cl sl) : Wp E M R Q pc lv (.int i :: .ref (m + o) :: st) (mH h m μ l) cl sl := by
  refine r_zald (q_R ha) hi hj hs hd ?_
  rw [mH_I ho]; exact kk
theorem q_lald {o j len : Nat} {i : Int32} (ha : isR E h (m + o) 14 len) (ho : o < 34) (hi : i = nI j) (hj : j < len) (hs : len < 2 ^ 31) (hd : decode M.2.1 pc = .ok (.laload, 1)) (kk : Wp E M R Q (pc + 1) lv (.long (l o j) :: st) (mH h m μ l) cl sl) : Wp E M R Q pc lv (.int i :: .ref (m + o) :: st) (mH h m μ l) cl sl := by
  refine r_lald (q_R ha) hi hj hs hd ?_
  rw [mH_J ho]; exact kk
theorem q_iast {o j len : Nat} {i v : Int32} (ha : isR E h (m + o) 13 len) (ho : o < 34) (hi : i = nI j) (hj : j < len) (hs : len < 2 ^ 31) (hd : decode M.2.1 pc = .ok (.iastore, 1)) (kk : Wp E M R Q (pc + 1) lv st (mH h m (up2 μ o j v) l) cl sl) : Wp E M R Q pc lv (.int v :: .int i :: .ref (m + o) :: st) (mH h m μ l) cl sl := by
  refine r_iast (q_R ha) hi hj hs hd ?_
  rw [mH_wI ho]; exact kk
theorem q_zast {o j len : Nat} {i v : Int32} (ha : isR E h (m + o) 15 len) (ho : o < 34) (hi : i = nI j) (hj : j < len) (hs : len < 2 ^ 31) (hv : v = 0 ∨ v = 1) (hd : decode M.2.1 pc = .ok (.bastore, 1)) (kk : Wp E M R Q (pc + 1) lv st (mH h m (up2 μ o j v) l) cl sl) : Wp E M R Q pc lv (.int v :: .int i :: .ref (m + o) :: st) (mH h m μ l) cl sl := by
  refine r_zast (q_R ha) hi hj hs hv hd ?_
  rw [mH_wI ho]; exact kk
theorem q_last {o j len : Nat} {i : Int32} {v : Int64} (ha : isR E h (m + o) 14 len) (ho : o < 34) (hi : i = nI j) (hj : j < len) (hs : len < 2 ^ 31) (hd : decode M.2.1 pc = .ok (.lastore, 1)) (kk : Wp E M R Q (pc + 1) lv st (mH h m μ (up2 l o j v)) cl sl) : Wp E M R Q pc lv (.long v :: .int i :: .ref (m + o) :: st) (mH h m μ l) cl sl := by
  refine r_last (q_R ha) hi hj hs hd ?_
  rw [mH_wJ ho]; exact kk
end QROWS
