/-! constructors of the class: what was -/
section CONS2
variable {E : En}
theorem ck_X4_13 : Cond.classLink RX4 13 "[[I" ∈ gws := gi2 73 (by decide +kernel) (by decide +kernel)
theorem c_X4_init {n o : Nat} {LK : LkT} {LI : LiT} {LJ : LjT} {LR : LrT} (ho : Oj LK n o 4) (fr : Fre n LI LJ LR) (haI : AoI E) : Ct E 1 18 528 mX4_init [.ref (eZ E + o)] (bL (eZ E) n LK LI LJ LR) (po none (bL (eZ E) (n + 18) (((n + 17), 13, 16) :: ((n + 16), 13, 31) :: ((n + 15), 13, 31) :: ((n + 14), 13, 31) :: ((n + 13), 13, 31) :: ((n + 12), 13, 31) :: ((n + 11), 13, 31) :: ((n + 10), 13, 31) :: ((n + 9), 13, 31) :: ((n + 8), 13, 31) :: ((n + 7), 13, 31) :: ((n + 6), 13, 31) :: ((n + 5), 13, 31) :: ((n + 4), 13, 31) :: ((n + 3), 13, 31) :: ((n + 2), 13, 31) :: ((n + 1), 13, 31) :: (n, 18, 16) :: LK) (LI) (LJ) ((o, 1, some (n + 17)) :: (o, 0, some n) :: (n, 15, some (n + 16)) :: (n, 14, some (n + 15)) :: (n, 13, some (n + 14)) :: (n, 12, some (n + 13)) :: (n, 11, some (n + 12)) :: (n, 10, some (n + 11)) :: (n, 9, some (n + 10)) :: (n, 8, some (n + 9)) :: (n, 7, some (n + 8)) :: (n, 6, some (n + 7)) :: (n, 5, some (n + 6)) :: (n, 4, some (n + 5)) :: (n, 3, some (n + 4)) :: (n, 2, some (n + 3)) :: (n, 1, some (n + 2)) :: (n, 0, some (n + 1)) :: LR))) := by
  have h0 := ho.1
  refine Ct.of (by decide +kernel) (Nat.le_of_ble_eq_true rfl) ?_
  refine r_aload_n (pc := 0) 0 dX4_init_0 rfl ?_
  refine r_objInit (pc := 1) ml_X4_3 oi_2 oi_3 (Nat.le_of_ble_eq_true rfl) (Nat.le_of_ble_eq_true rfl) dX4_init_1 ?_
  refine r_aload_n (pc := 4) 0 dX4_init_4 rfl ?_
  refine r_bipush (pc := 5) (16) dX4_init_5 rfl ?_
  refine r_bipush (pc := 7) (31) dX4_init_7 rfl ?_
  refine b_multi (pc := 9) haI ck_X4_13 fr (Nat.le_of_ble_eq_true rfl) (Nat.le_of_ble_eq_true rfl) dX4_init_9 ?_
  show Wp E mX4_init _ _ _ _ [.ref (eZ E + n), .ref (eZ E + o)] (bL (eZ E) (n + 17) (((n + 16), 13, 31) :: ((n + 15), 13, 31) :: ((n + 14), 13, 31) :: ((n + 13), 13, 31) :: ((n + 12), 13, 31) :: ((n + 11), 13, 31) :: ((n + 10), 13, 31) :: ((n + 9), 13, 31) :: ((n + 8), 13, 31) :: ((n + 7), 13, 31) :: ((n + 6), 13, 31) :: ((n + 5), 13, 31) :: ((n + 4), 13, 31) :: ((n + 3), 13, 31) :: ((n + 2), 13, 31) :: ((n + 1), 13, 31) :: (n, 18, 16) :: LK) (LI) (LJ) ((n, 15, some (n + 16)) :: (n, 14, some (n + 15)) :: (n, 13, some (n + 14)) :: (n, 12, some (n + 13)) :: (n, 11, some (n + 12)) :: (n, 10, some (n + 11)) :: (n, 9, some (n + 10)) :: (n, 8, some (n + 9)) :: (n, 7, some (n + 8)) :: (n, 6, some (n + 7)) :: (n, 5, some (n + 6)) :: (n, 4, some (n + 5)) :: (n, 3, some (n + 4)) :: (n, 2, some (n + 3)) :: (n, 1, some (n + 2)) :: (n, 0, some (n + 1)) :: LR)) _ _
  refine b_putR (pc := 13) fp_X4_15 (Or.inr ⟨_, rfl⟩) (fun _ => rfl) (((((((((((((((((ho.s rfl).s rfl).s rfl).s rfl).s rfl).s rfl).s rfl).s rfl).s rfl).s rfl).s rfl).s rfl).s rfl).s rfl).s rfl).s rfl).s rfl) dX4_init_13 ?_
  refine r_aload_n (pc := 16) 0 dX4_init_16 rfl ?_
  refine r_bipush (pc := 17) (16) dX4_init_17 rfl ?_
  refine b_arr (pc := 19) (N := 16) (n1 := (n + 18)) (Or.inl ⟨rfl, rfl⟩) rfl (by omega) ((((((((((((((((((((((((((((((((((fr.s rfl).s rfl).r (by omega)).s rfl).r (by omega)).s rfl).r (by omega)).s rfl).r (by omega)).s rfl).r (by omega)).s rfl).r (by omega)).s rfl).r (by omega)).s rfl).r (by omega)).s rfl).r (by omega)).s rfl).r (by omega)).s rfl).r (by omega)).s rfl).r (by omega)).s rfl).r (by omega)).s rfl).r (by omega)).s rfl).r (by omega)).s rfl).r (by omega)).r (by omega)) rfl (Nat.le_of_ble_eq_true rfl) (Nat.le_of_ble_eq_true rfl) dX4_init_19 ?_
  refine b_putR (pc := 21) fp_X4_18 (Or.inr ⟨_, rfl⟩) (fun _ => rfl) ((((((((((((((((((ho.s rfl).s rfl).s rfl).s rfl).s rfl).s rfl).s rfl).s rfl).s rfl).s rfl).s rfl).s rfl).s rfl).s rfl).s rfl).s rfl).s rfl).s rfl) dX4_init_21 ?_
  refine r_vret (pc := 24) rfl ?_ (Nat.le_of_ble_eq_true rfl) (Nat.le_of_ble_eq_true rfl) dX4_init_24
  exact ⟨rfl, rfl⟩
end CONS2
