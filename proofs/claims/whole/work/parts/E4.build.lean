/-! what constructors build: cells by their offsets, memory by lists -/
section BUILD
abbrev LkT : Type := List (Nat × Nat × Nat)
abbrev LiT : Type := List (Nat × Nat × Int32)
abbrev LjT : Type := List (Nat × Nat × Int64)
abbrev LrT : Type := List (Nat × Nat × Option Nat)
def lkK (L : LkT) (o : Nat) : Nat × Nat := match L with
  | [] => (0, 0)
  | t :: r => if t.1 = o then t.2 else lkK r o
def lkV {α : Type} (d : α) (L : List (Nat × Nat × α)) (o k : Nat) : α := match L with
  | [] => d
  | t :: r => if t.1 = o ∧ t.2.1 = k then t.2.2 else lkV d r o k
def bL (z n : Nat) (LK : LkT) (LI : LiT) (LJ : LjT) (LR : LrT) : Hp := ((n, (fun a => if z ≤ a then (lkK LK (a - z)).1 else 0), (fun a => if z ≤ a then (lkK LK (a - z)).2 else 0)), (fun a j => if z ≤ a then lkV 0 LI (a - z) j else 0), (fun a j => if z ≤ a then lkV 0 LJ (a - z) j else 0), (fun a j => if z ≤ a then (lkV none LR (a - z) j).map (fun t => z + t) else none))
/-- nothing is known yet of the cells from n on -/
def Fre (n : Nat) (LI : LiT) (LJ : LjT) (LR : LrT) : Prop := (∀ t ∈ LI, t.1 < n) ∧ (∀ t ∈ LJ, t.1 < n) ∧ (∀ t ∈ LR, t.1 < n)
theorem lkV_out {α : Type} {d : α} {n : Nat} : ∀ {L : List (Nat × Nat × α)}, (∀ t ∈ L, t.1 ≠ n) → ∀ j, lkV d L n j = d
  | [], _, _ => rfl
  | t :: r, hh, j => by
    unfold lkV
    rw [if_neg (fun z => hh t List.mem_cons_self z.1)]
    exact lkV_out (fun t' ht => hh t' (List.mem_cons_of_mem _ ht)) j
variable {E : En} {z n n1 o k : Nat} {LK : LkT} {LI : LiT} {LJ : LjT} {LR : LrT}
theorem lk_up {α : Type} {v d : α} {L : List (Nat × Nat × α)} : up2 (fun a j => if z ≤ a then lkV d L (a - z) j else d) (z + o) k v = fun a j => if z ≤ a then lkV d ((o, k, v) :: L) (a - z) j else d := by
  funext a j
  show (if a = z + o ∧ j = k then v else if z ≤ a then lkV d L (a - z) j else d) = if z ≤ a then (if o = a - z ∧ k = j then v else lkV d L (a - z) j) else d
  by_cases ha : z ≤ a
  · rw [if_pos ha, if_pos ha]
    by_cases hq : a = z + o ∧ j = k
    · rw [if_pos hq, if_pos ⟨by omega, hq.2.symm⟩]
    · rw [if_neg hq, if_neg (fun w => hq ⟨by omega, w.2.symm⟩)]
  · rw [if_neg ha, if_neg ha, if_neg (fun w => ha (by omega))]
theorem lk_upR {t : Nat} {L : LrT} : up2 (fun a j => if z ≤ a then (lkV none L (a - z) j).map (fun t => z + t) else none) (z + o) k (some (z + t)) = fun a j => if z ≤ a then (lkV none ((o, k, some t) :: L) (a - z) j).map (fun t => z + t) else none := by
  funext a j
  show (if a = z + o ∧ j = k then some (z + t) else if z ≤ a then (lkV none L (a - z) j).map (fun t => z + t) else none) = if z ≤ a then (if o = a - z ∧ k = j then some t else lkV none L (a - z) j).map (fun t => z + t) else none
  by_cases ha : z ≤ a
  · rw [if_pos ha, if_pos ha]
    by_cases hq : a = z + o ∧ j = k
    · rw [if_pos hq, if_pos ⟨by omega, hq.2.symm⟩]; rfl
    · rw [if_neg hq, if_neg (fun w => hq ⟨by omega, w.2.symm⟩)]
  · rw [if_neg ha, if_neg ha, if_neg (fun w => ha (by omega))]
theorem bL_wI {v : Int32} : wI (bL z n LK LI LJ LR) (z + o) k v = bL z n LK ((o, k, v) :: LI) LJ LR := by
  unfold wI bL; rw [lk_up]
theorem bL_wJ {v : Int64} : wJ (bL z n LK LI LJ LR) (z + o) k v = bL z n LK LI ((o, k, v) :: LJ) LR := by
  unfold wJ bL; rw [lk_up]
theorem bL_wR {t : Nat} : wR (bL z n LK LI LJ LR) (z + o) k (some (z + t)) = bL z n LK LI LJ ((o, k, some t) :: LR) := by
  unfold wR bL; rw [lk_upR]
theorem bL_new {kd len : Nat} (fr : Fre n LI LJ LR) (e1 : n + 1 = n1) : hNew (bL z n LK LI LJ LR) (z + n) kd len = bL z n1 ((n, kd, len) :: LK) LI LJ LR := by
  have kk : ∀ (f : Nat × Nat → Nat) (v : Nat), f (kd, len) = v → va_up (fun a => if z ≤ a then f (lkK LK (a - z)) else 0) (z + n) v = fun a => if z ≤ a then f (lkK ((n, kd, len) :: LK) (a - z)) else 0 := fun f v hv => by
    funext a
    show (if a = z + n then v else if z ≤ a then f (lkK LK (a - z)) else 0) = if z ≤ a then f (if n = a - z then (kd, len) else lkK LK (a - z)) else 0
    by_cases ha : z ≤ a
    · rw [if_pos ha, if_pos ha]
      by_cases hq : a = z + n
      · rw [if_pos hq, if_pos (by omega), hv]
      · rw [if_neg hq, if_neg (by omega)]
    · rw [if_neg ha, if_neg ha, if_neg (by omega)]
  have vv : ∀ {α : Type} (d : α) (L : List (Nat × Nat × α)), (∀ t ∈ L, t.1 < n) → va_up (fun a j => if z ≤ a then lkV d L (a - z) j else d) (z + n) (fun _ => d) = fun a j => if z ≤ a then lkV d L (a - z) j else d := fun d L hL => by
    funext a
    by_cases hq : a = z + n
    · subst hq
      rw [va_up_self]
      funext j
      rw [if_pos (by omega), Nat.add_sub_cancel_left, lkV_out (fun t ht => Nat.ne_of_lt (hL t ht))]
    · rw [va_up_ne _ _ hq]
  have rr : va_up (fun a j => if z ≤ a then (lkV none LR (a - z) j).map (fun t => z + t) else none) (z + n) (fun _ => none) = fun a j => if z ≤ a then (lkV none LR (a - z) j).map (fun t => z + t) else none := by
    funext a
    by_cases hq : a = z + n
    · subst hq
      rw [va_up_self]
      funext j
      rw [if_pos (by omega), Nat.add_sub_cancel_left, lkV_out (fun t ht => Nat.ne_of_lt (fr.2.2 t ht))]; rfl
    · rw [va_up_ne _ _ hq]
  subst e1
  unfold hNew bL
  dsimp only
  rw [kk (fun q => q.1) kd rfl, kk (fun q => q.2) len rfl, vv 0 LI fr.1, vv 0 LJ fr.2.1, rr]
theorem Fre.s (fr : Fre n LI LJ LR) (e1 : n + 1 = n1) : Fre n1 LI LJ LR := ⟨fun t ht => by have := fr.1 t ht; omega, fun t ht => by have := fr.2.1 t ht; omega, fun t ht => by have := fr.2.2 t ht; omega⟩
theorem Fre.r {v : Option Nat} (fr : Fre n LI LJ LR) (ho : o < n) : Fre n LI LJ ((o, k, v) :: LR) := ⟨fr.1, fr.2.1, fun t ht => by
  rcases List.mem_cons.mp ht with rfl | ht
  · exact ho
  · exact fr.2.2 t ht⟩
theorem Fre.i {v : Int32} (fr : Fre n LI LJ LR) (ho : o < n) : Fre n ((o, k, v) :: LI) LJ LR := ⟨fun t ht => by
  rcases List.mem_cons.mp ht with rfl | ht
  · exact ho
  · exact fr.1 t ht, fr.2.1, fr.2.2⟩
/-- an object, an array, by its offset -/
def Oj (LK : LkT) (n o ci : Nat) : Prop := o < n ∧ (lkK LK o).1 = ci
def Ar (LK : LkT) (n o kd len : Nat) : Prop := o < n ∧ lkK LK o = (kd, len)
theorem lkK_ne {kd len : Nat} (ho : o < n) : lkK ((n, kd, len) :: LK) o = lkK LK o := by
  show (if n = o then _ else _) = _
  rw [if_neg (by omega)]
theorem lkK_at {kd len : Nat} : lkK ((n, kd, len) :: LK) n = (kd, len) := by
  show (if n = n then _ else _) = _
  rw [if_pos rfl]
theorem Oj.s {ci kd len : Nat} (hj : Oj LK n o ci) (e1 : n + 1 = n1) : Oj ((n, kd, len) :: LK) n1 o ci := ⟨by have := hj.1; omega, by rw [lkK_ne hj.1]; exact hj.2⟩
theorem Oj.new {ci len : Nat} (e1 : n + 1 = n1) : Oj ((n, ci, len) :: LK) n1 n ci := ⟨by omega, by rw [lkK_at]⟩
theorem Ar.s {kd len kd2 len2 : Nat} (hj : Ar LK n o kd len) (e1 : n + 1 = n1) : Ar ((n, kd2, len2) :: LK) n1 o kd len := ⟨by have := hj.1; omega, by rw [lkK_ne hj.1]; exact hj.2⟩
theorem Ar.new {kd len : Nat} (e1 : n + 1 = n1) : Ar ((n, kd, len) :: LK) n1 n kd len := ⟨by omega, lkK_at⟩
theorem Oj.A {ci : Nat} (hj : Oj LK n o ci) : isA E (bL (eZ E) n LK LI LJ LR) (eZ E + o) ci := ⟨Nat.le_add_right _ _, Nat.add_lt_add_left hj.1 _, by
  show (if eZ E ≤ eZ E + o then (lkK LK (eZ E + o - eZ E)).1 else 0) = ci
  rw [if_pos (Nat.le_add_right _ _), Nat.add_sub_cancel_left]; exact hj.2⟩
theorem Ar.A {kd len : Nat} (hj : Ar LK n o kd len) : isR E (bL (eZ E) n LK LI LJ LR) (eZ E + o) kd len := ⟨Nat.le_add_right _ _, Nat.add_lt_add_left hj.1 _, by
  show (if eZ E ≤ eZ E + o then (lkK LK (eZ E + o - eZ E)).1 else 0) = kd
  rw [if_pos (Nat.le_add_right _ _), Nat.add_sub_cancel_left, hj.2], by
  show (if eZ E ≤ eZ E + o then (lkK LK (eZ E + o - eZ E)).2 else 0) = len
  rw [if_pos (Nat.le_add_right _ _), Nat.add_sub_cancel_left, hj.2]⟩
theorem bL_I {j : Nat} : hI (bL z n LK LI LJ LR) (z + o) j = lkV 0 LI o j := by
  show (if z ≤ z + o then lkV 0 LI (z + o - z) j else 0) = _
  rw [if_pos (Nat.le_add_right _ _), Nat.add_sub_cancel_left]
theorem bL_J {j : Nat} : hJ (bL z n LK LI LJ LR) (z + o) j = lkV 0 LJ o j := by
  show (if z ≤ z + o then lkV 0 LJ (z + o - z) j else 0) = _
  rw [if_pos (Nat.le_add_right _ _), Nat.add_sub_cancel_left]
theorem bL_R {j : Nat} : hR (bL z n LK LI LJ LR) (z + o) j = (lkV none LR o j).map (fun t => z + t) := by
  show (if z ≤ z + o then (lkV none LR (z + o - z) j).map (fun t => z + t) else none) = _
  rw [if_pos (Nat.le_add_right _ _), Nat.add_sub_cancel_left]
end BUILD
section BROWS
variable {E : En} {M : Mi} {R : Room} {Q : Qg} {pc : Nat} {lv lv' : List (Nat × Value)} {st : List Value} {cl sl : Nat} {n n1 o k : Nat} {LK : LkT} {LI : LiT} {LJ : LjT} {LR : LrT}
theorem b_new {idx ci N : Nat} (hf : Nl M.1.cls idx ci N) (fr : Fre n LI LJ LR) (e1 : n + 1 = n1) (hc1 : cl + 1 ≤ R.cells) (hs1 : sl + N ≤ R.slots) (hd : decode M.2.1 pc = .ok (.new idx, 3)) (kk : Wp E M R Q (pc + 3) lv (.ref (eZ E + n) :: st) (bL (eZ E) n1 ((n, ci, 0) :: LK) LI LJ LR) (cl + 1) (sl + N)) : Wp E M R Q pc lv st (bL (eZ E) n LK LI LJ LR) cl sl := by
  refine r_new hf hc1 hs1 hd ?_
  rw [show eZ E + hN (bL (eZ E) n LK LI LJ LR) = eZ E + n from rfl, bL_new fr e1]; exact kk
theorem b_arr {kd N : Nat} {v : Int32} {atype : ArrayType} (ht : (atype = .int ∧ kd = 13) ∨ (atype = .long ∧ kd = 14) ∨ (atype = .boolean ∧ kd = 15)) (hn : v = nI N) (hNm : N < 1000000) (fr : Fre n LI LJ LR) (e1 : n + 1 = n1) (hc1 : cl + 1 ≤ R.cells) (hs1 : sl + N ≤ R.slots) (hd : decode M.2.1 pc = .ok (.newarray atype, 2)) (kk : Wp E M R Q (pc + 2) lv (.ref (eZ E + n) :: st) (bL (eZ E) n1 ((n, kd, N) :: LK) LI LJ LR) (cl + 1) (sl + N)) : Wp E M R Q pc lv (.int v :: st) (bL (eZ E) n LK LI LJ LR) cl sl := by
  refine r_newarr ht hn hNm hc1 hs1 hd ?_
  rw [show eZ E + hN (bL (eZ E) n LK LI LJ LR) = eZ E + n from rfl, bL_new fr e1]; exact kk
theorem b_anw {idx kd N : Nat} {v : Int32} {C0 : String} (ht : (kd = 16 ∧ C0 = "NineLives$Port") ∨ (kd = 17 ∧ C0 = "NineLives$Text")) (hov : AoK E C0) (hlk : Cond.classLink M.1.cls idx C0 ∈ gws) (hn : v = nI N) (hNm : N < 1000000) (fr : Fre n LI LJ LR) (e1 : n + 1 = n1) (hc1 : cl + 1 ≤ R.cells) (hs1 : sl + N ≤ R.slots) (hd : decode M.2.1 pc = .ok (.anewarray idx, 3)) (kk : Wp E M R Q (pc + 3) lv (.ref (eZ E + n) :: st) (bL (eZ E) n1 ((n, kd, N) :: LK) LI LJ LR) (cl + 1) (sl + N)) : Wp E M R Q pc lv (.int v :: st) (bL (eZ E) n LK LI LJ LR) cl sl := by
  refine r_anew2 ht hov hlk hn hNm hc1 hs1 hd ?_
  rw [show eZ E + hN (bL (eZ E) n LK LI LJ LR) = eZ E + n from rfl, bL_new fr e1]; exact kk
theorem b_putR {idx ci t : Nat} {ty : FieldType} {fin : Bool} (hf : Fp M.1.cls idx ci k 2 ty fin) (hty : (∃ n, ty = .object n) ∨ ∃ t, ty = .array t) (hini : fin = true → M.1.name = "<init>") (ha : Oj LK n o ci) (hd : decode M.2.1 pc = .ok (.putfield idx, 3)) (kk : Wp E M R Q (pc + 3) lv st (bL (eZ E) n LK LI LJ ((o, k, some t) :: LR)) cl sl) : Wp E M R Q pc lv (.ref (eZ E + t) :: .ref (eZ E + o) :: st) (bL (eZ E) n LK LI LJ LR) cl sl := by
  refine r_putR hf hty hini ha.A hd ?_
  rw [bL_wR]; exact kk
theorem b_putI {idx ci : Nat} {v : Int32} (hf : Fp M.1.cls idx ci k 0 .int false) (ha : Oj LK n o ci) (hd : decode M.2.1 pc = .ok (.putfield idx, 3)) (kk : Wp E M R Q (pc + 3) lv st (bL (eZ E) n LK ((o, k, v) :: LI) LJ LR) cl sl) : Wp E M R Q pc lv (.int v :: .ref (eZ E + o) :: st) (bL (eZ E) n LK LI LJ LR) cl sl := by
  refine r_putI hf ha.A hd ?_
  rw [bL_wI]; exact kk
theorem b_getR {idx ci t : Nat} (hf : Fl M.1.cls idx ci k 2) (ha : Oj LK n o ci) (hv : lkV none LR o k = some t) (hd : decode M.2.1 pc = .ok (.getfield idx, 3)) (kk : Wp E M R Q (pc + 3) lv (.ref (eZ E + t) :: st) (bL (eZ E) n LK LI LJ LR) cl sl) : Wp E M R Q pc lv (.ref (eZ E + o) :: st) (bL (eZ E) n LK LI LJ LR) cl sl := by
  refine r_getR hf ha.A ?_ hd kk
  rw [bL_R, hv]; rfl
theorem b_iast {j len : Nat} {i v : Int32} (ha : Ar LK n o 13 len) (hi : i = nI j) (hj : j < len) (hs : len < 2 ^ 31) (hd : decode M.2.1 pc = .ok (.iastore, 1)) (kk : Wp E M R Q (pc + 1) lv st (bL (eZ E) n LK ((o, j, v) :: LI) LJ LR) cl sl) : Wp E M R Q pc lv (.int v :: .int i :: .ref (eZ E + o) :: st) (bL (eZ E) n LK LI LJ LR) cl sl := by
  refine r_iast ha.A hi hj hs hd ?_
  rw [bL_wI]; exact kk
theorem b_last {j len : Nat} {i : Int32} {v : Int64} (ha : Ar LK n o 14 len) (hi : i = nI j) (hj : j < len) (hs : len < 2 ^ 31) (hd : decode M.2.1 pc = .ok (.lastore, 1)) (kk : Wp E M R Q (pc + 1) lv st (bL (eZ E) n LK LI ((o, j, v) :: LJ) LR) cl sl) : Wp E M R Q pc lv (.long v :: .int i :: .ref (eZ E + o) :: st) (bL (eZ E) n LK LI LJ LR) cl sl := by
  refine r_last ha.A hi hj hs hd ?_
  rw [bL_wJ]; exact kk
end BROWS
