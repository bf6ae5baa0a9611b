/-! the class: a new port -/
section ANEW2
variable {E : En} {M : Mi} {R : Room} {Q : Qg} {pc : Nat} {lv lv' : List (Nat × Value)} {st : List Value} {h : Hp} {cl sl : Nat}
/-- arrays over this class are known to be there -/
def AoK (E : En) (C0 : String) : Prop := ∀ (U : State) (H : Heap) (args : Array Value), eK E U H → (Cond.arrayOver (.object C0)).before args U = true
theorem r_anew2 {idx kd N : Nat} {n : Int32} {C0 : String} (ht : (kd = 16 ∧ C0 = "NineLives$Port") ∨ (kd = 17 ∧ C0 = "NineLives$Text")) (hov : AoK E C0) (hlk : Cond.classLink M.1.cls idx C0 ∈ gws) (hn : n = nI N) (hNm : N < 1000000) (hc1 : cl + 1 ≤ R.cells) (hs1 : sl + N ≤ R.slots) (hd : decode M.2.1 pc = .ok (.anewarray idx, 3)) (kk : Wp E M R Q (pc + 3) lv (.ref (eZ E + hN h) :: st) (hNew h (eZ E + hN h) kd N) (cl + 1) (sl + N)) : Wp E M R Q pc lv (.int n :: st) h cl sl := by
  intro p e s m ar bl me c C H lo ls hH hS hl
  obtain ⟨hx, hb, -, -, -, -, hown, hts, hKw, hz⟩ := id C
  have hk0 : hK (hNew h (eZ E + hN h) kd N) (eZ E + hN h) = kd := by show va_up _ _ _ _ = _; rw [va_up_self]
  have hl0 : hL (hNew h (eZ E + hN h) kd N) (eZ E + hN h) = N := by show va_up _ _ _ _ = _; rw [va_up_self]
  have hr0 : hR (hNew h (eZ E + hN h) kd N) (eZ E + hN h) = fun _ => none := by show va_up _ _ _ _ = _; rw [va_up_self]
  subst hn
  have h16 : 16 ≤ kd := by rcases ht with z | z <;> rw [z.1] <;> decide
  have hcl : s.vm.findClass ("[" ++ (FieldType.object C0).toString) = some (eC E kd) := by
    rcases ht with ⟨rfl, rfl⟩ | ⟨rfl, rfl⟩
    · obtain ⟨-, kA, comp, f2, f3, f4, f1⟩ := hKw.1.2 3 _ rfl
      exact f1
    · obtain ⟨-, kA, comp, f2, f3, f4, f1⟩ := hKw.1.2 4 _ rfl
      exact f1
  refine W.anew hx hb hown (hts _ hlk) (hov _ _ _ hKw.2.2.1) rfl hd rfl (nI_pos (by omega)) (by rw [nI_clamp (by omega)]; omega) hc1 (by rw [nI_clamp (by omega)]; exact hs1) fun cA kA comp f1 f2 f3 f4 => ?_
  rw [nI_clamp (by omega)]
  have hcA : cA = eC E kd := Option.some.inj (f1.symm.trans hcl)
  subst hcA
  generalize hH1 : H.push ({ cls := eC E kd, slots := Array.replicate N .null, vm := .none } : Cell) = H1
  have z1 : H1.size = H.size + 1 := by rw [← hH1, Array.size_push]
  have e1 : H1[H.size]? = some (arrV (eC E kd) N (fun _ => .null)) := by rw [← hH1, Array.getElem?_push_size, ← arrV_new]
  have o1 : ∀ q : Nat, q < H.size → H1[q]? = H[q]? := fun q hq => by rw [← hH1, Array.getElem?_push, if_neg (Nat.ne_of_lt hq)]
  rw [show H.size = eZ E + hN h from hH.2] at e1 ⊢
  refine kk p e s m ar bl me c C H1 lo ls (hp_pushed hH rfl (fun b hb => hNew_other _ _ hb) ?_ (by rw [hH.2]; rw [hH.2] at z1; exact z1) (fun q hq => o1 q hq)) ⟨by have := hS.1; have := hH.2; omega, fun q g1 g2 => (o1 q (by have := hS.1; have := hH.2; omega)).trans (hS.2.1 q g1 g2), hS.2.2⟩ hl
  rw [hE_refs hk0 h16, hl0, hr0]
  show H1[eZ E + hN h]? = some (vp_cell _ _)
  rw [vp_cell_q]
  exact e1
end ANEW2
section NEWPORT
variable {E : En} {h : Hp}
theorem ck_X5_36 : Cond.classLink RX5 36 "NineLives$Text" ∈ gws := gi1 50 (by decide +kernel) (by decide +kernel)
theorem c5_init {p : Nat} (hp : isA E h p 5) (hz : eZ E + hN h = p + 1) (hao : AoK E "NineLives$Text") : Ct E 1 9 50 mX5_init [.ref p] h (fun v h' => v = none ∧ ∃ g1 g2 g3 g4 g5 g6 g7 g8 g9, Nw h g1 p 1 (eZ E + hN h) 13 6 ∧ Nw g1 g2 p 2 (eZ E + hN g1) 13 6 ∧ Nw g2 g3 p 3 (eZ E + hN g2) 13 6 ∧ Nw g3 g4 p 4 (eZ E + hN g3) 13 6 ∧ Nw g4 g5 p 5 (eZ E + hN g4) 13 6 ∧ Nw g5 g6 p 7 (eZ E + hN g5) 13 3 ∧ Nw g6 g7 p 9 (eZ E + hN g6) 13 8 ∧ Nw g7 g8 p 10 (eZ E + hN g7) 13 3 ∧ Nw (wI g8 (eZ E + hN g7) 1 1) g9 p 12 (eZ E + hN (wI g8 (eZ E + hN g7) 1 1)) 17 6 ∧ h' = wI g9 p 13 (-1)) := by
  refine Ct.of (by decide +kernel) (Nat.le_of_ble_eq_true rfl) ?_
  refine r_aload_n (pc := 0) 0 dX5_init_0 rfl ?_
  refine r_objInit (pc := 1) ml_X5_3 oi_2 oi_3 (Nat.le_of_ble_eq_true rfl) (Nat.le_of_ble_eq_true rfl) dX5_init_1 ?_
  refine r_aload_n (pc := 4) 0 dX5_init_4 rfl ?_
  refine r_bipush (pc := 5) (6) dX5_init_5 rfl ?_
  refine r_nwput (pc := 7) (n0 := 6) (Or.inl ⟨rfl, rfl⟩) rfl (by omega) (Nat.le_of_ble_eq_true rfl) (Nat.le_of_ble_eq_true rfl) fp_X5_9 (Or.inr ⟨_, rfl⟩) (fun _ => rfl) (hp) dX5_init_7 dX5_init_9 (fun g1 w1 => ?_)
  refine r_aload_n (pc := 12) 0 dX5_init_12 rfl ?_
  refine r_bipush (pc := 13) (6) dX5_init_13 rfl ?_
  refine r_nwput (pc := 15) (n0 := 6) (Or.inl ⟨rfl, rfl⟩) rfl (by omega) (Nat.le_of_ble_eq_true rfl) (Nat.le_of_ble_eq_true rfl) fp_X5_15 (Or.inr ⟨_, rfl⟩) (fun _ => rfl) (w1.kA (hp)) dX5_init_15 dX5_init_17 (fun g2 w2 => ?_)
  refine r_aload_n (pc := 20) 0 dX5_init_20 rfl ?_
  refine r_bipush (pc := 21) (6) dX5_init_21 rfl ?_
  refine r_nwput (pc := 23) (n0 := 6) (Or.inl ⟨rfl, rfl⟩) rfl (by omega) (Nat.le_of_ble_eq_true rfl) (Nat.le_of_ble_eq_true rfl) fp_X5_18 (Or.inr ⟨_, rfl⟩) (fun _ => rfl) (w2.kA (w1.kA (hp))) dX5_init_23 dX5_init_25 (fun g3 w3 => ?_)
  refine r_aload_n (pc := 28) 0 dX5_init_28 rfl ?_
  refine r_bipush (pc := 29) (6) dX5_init_29 rfl ?_
  refine r_nwput (pc := 31) (n0 := 6) (Or.inl ⟨rfl, rfl⟩) rfl (by omega) (Nat.le_of_ble_eq_true rfl) (Nat.le_of_ble_eq_true rfl) fp_X5_21 (Or.inr ⟨_, rfl⟩) (fun _ => rfl) (w3.kA (w2.kA (w1.kA (hp)))) dX5_init_31 dX5_init_33 (fun g4 w4 => ?_)
  refine r_aload_n (pc := 36) 0 dX5_init_36 rfl ?_
  refine r_bipush (pc := 37) (6) dX5_init_37 rfl ?_
  refine r_nwput (pc := 39) (n0 := 6) (Or.inl ⟨rfl, rfl⟩) rfl (by omega) (Nat.le_of_ble_eq_true rfl) (Nat.le_of_ble_eq_true rfl) fp_X5_24 (Or.inr ⟨_, rfl⟩) (fun _ => rfl) (w4.kA (w3.kA (w2.kA (w1.kA (hp))))) dX5_init_39 dX5_init_41 (fun g5 w5 => ?_)
  refine r_aload_n (pc := 44) 0 dX5_init_44 rfl ?_
  refine r_iconst (pc := 45) (3) dX5_init_45 rfl ?_
  refine r_nwput (pc := 46) (n0 := 3) (Or.inl ⟨rfl, rfl⟩) rfl (by omega) (Nat.le_of_ble_eq_true rfl) (Nat.le_of_ble_eq_true rfl) fp_X5_27 (Or.inr ⟨_, rfl⟩) (fun _ => rfl) (w5.kA (w4.kA (w3.kA (w2.kA (w1.kA (hp)))))) dX5_init_46 dX5_init_48 (fun g6 w6 => ?_)
  refine r_aload_n (pc := 51) 0 dX5_init_51 rfl ?_
  refine r_bipush (pc := 52) (8) dX5_init_52 rfl ?_
  refine r_nwput (pc := 54) (n0 := 8) (Or.inl ⟨rfl, rfl⟩) rfl (by omega) (Nat.le_of_ble_eq_true rfl) (Nat.le_of_ble_eq_true rfl) fp_X5_30 (Or.inr ⟨_, rfl⟩) (fun _ => rfl) (w6.kA (w5.kA (w4.kA (w3.kA (w2.kA (w1.kA (hp))))))) dX5_init_54 dX5_init_56 (fun g7 w7 => ?_)
  refine r_aload_n (pc := 59) 0 dX5_init_59 rfl ?_
  refine r_iconst (pc := 60) (3) dX5_init_60 rfl ?_
  refine r_nwput (pc := 61) (n0 := 3) (Or.inl ⟨rfl, rfl⟩) rfl (by omega) (Nat.le_of_ble_eq_true rfl) (Nat.le_of_ble_eq_true rfl) fp_X5_33 (Or.inr ⟨_, rfl⟩) (fun _ => rfl) (w7.kA (w6.kA (w5.kA (w4.kA (w3.kA (w2.kA (w1.kA (hp)))))))) dX5_init_61 dX5_init_63 (fun g8 w8 => ?_)
  have a8 : isA E g8 p 5 := w8.kA (w7.kA (w6.kA (w5.kA (w4.kA (w3.kA (w2.kA (w1.kA (hp))))))))
  refine r_aload_n (pc := 66) 0 dX5_init_66 rfl ?_
  refine r_getR (pc := 67) fl_X5_33 a8 w8.2.2.1 dX5_init_67 ?_
  refine r_iconst (pc := 70) (1) dX5_init_70 rfl ?_
  refine r_iconst (pc := 71) (1) dX5_init_71 rfl ?_
  refine r_iast (pc := 72) (j := 1) w8.kN rfl (by decide) (by decide) dX5_init_72 ?_
  have a9 : isA E (wI g8 (eZ E + hN g7) 1 1) p 5 := a8
  refine r_aload_n (pc := 73) 0 dX5_init_73 rfl ?_
  refine r_bipush (pc := 74) (6) dX5_init_74 rfl ?_
  refine r_anew2 (pc := 76) (N := 6) (Or.inr ⟨rfl, rfl⟩) hao ck_X5_36 rfl (by omega) (Nat.le_of_ble_eq_true rfl) (Nat.le_of_ble_eq_true rfl) dX5_init_76 ?_
  refine r_putR (pc := 79) fp_X5_38 (Or.inr ⟨_, rfl⟩) (fun _ => rfl) (isA_new a9) dX5_init_79 ?_
  have w9 : Nw (wI g8 (eZ E + hN g7) 1 1) (wR (hNew (wI g8 (eZ E + hN g7) 1 1) (eZ E + hN (wI g8 (eZ E + hN g7) 1 1)) 17 6) p 12 (some (eZ E + hN (wI g8 (eZ E + hN g7) 1 1)))) p 12 (eZ E + hN (wI g8 (eZ E + hN g7) 1 1)) 17 6 := nw_is
  generalize wR (hNew (wI g8 (eZ E + hN g7) 1 1) (eZ E + hN (wI g8 (eZ E + hN g7) 1 1)) 17 6) p 12 (some (eZ E + hN (wI g8 (eZ E + hN g7) 1 1))) = g9 at w9 ⊢
  refine r_aload_n (pc := 82) 0 dX5_init_82 rfl ?_
  refine r_iconst (pc := 83) (-1) dX5_init_83 rfl ?_
  refine r_putI (pc := 84) fp_X5_42 (w9.kA a9) dX5_init_84 ?_
  refine r_vret (pc := 87) rfl ?_ (Nat.le_of_ble_eq_true rfl) (Nat.le_of_ble_eq_true rfl) dX5_init_87
  exact ⟨rfl, g1, g2, g3, g4, g5, g6, g7, g8, g9, w1, w2, w3, w4, w5, w6, w7, w8, w9, rfl⟩
end NEWPORT
