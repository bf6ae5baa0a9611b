/-! constructors of the class -/
section CONS1
variable {E : En}
theorem lkV_at {α : Type} {d v : α} {o k : Nat} {L : List (Nat × Nat × α)} : lkV d ((o, k, v) :: L) o k = v := by
  show (if o = o ∧ k = k then _ else _) = _
  rw [if_pos ⟨rfl, rfl⟩]
theorem c_X7_init {n o : Nat} {LK : LkT} {LI : LiT} {LJ : LjT} {LR : LrT} (ho : Oj LK n o 7) (fr : Fre n LI LJ LR) : Ct E 1 1 50 mX7_init [.ref (eZ E + o)] (bL (eZ E) n LK LI LJ LR) (po none (bL (eZ E) (n + 1) ((n, 14, 50) :: LK) (LI) (LJ) ((o, 0, some n) :: LR))) := by
  have h0 := ho.1
  refine Ct.of (by decide +kernel) (Nat.le_of_ble_eq_true rfl) ?_
  refine r_aload_n (pc := 0) 0 dX7_init_0 rfl ?_
  refine r_objInit (pc := 1) ml_X7_3 oi_2 oi_3 (Nat.le_of_ble_eq_true rfl) (Nat.le_of_ble_eq_true rfl) dX7_init_1 ?_
  refine r_aload_n (pc := 4) 0 dX7_init_4 rfl ?_
  refine r_bipush (pc := 5) (50) dX7_init_5 rfl ?_
  refine b_arr (pc := 7) (N := 50) (n1 := (n + 1)) (Or.inr (Or.inl ⟨rfl, rfl⟩)) rfl (by omega) fr rfl (Nat.le_of_ble_eq_true rfl) (Nat.le_of_ble_eq_true rfl) dX7_init_7 ?_
  refine b_putR (pc := 9) fp_X7_9 (Or.inr ⟨_, rfl⟩) (fun _ => rfl) (ho.s rfl) dX7_init_9 ?_
  refine r_vret (pc := 12) rfl ?_ (Nat.le_of_ble_eq_true rfl) (Nat.le_of_ble_eq_true rfl) dX7_init_12
  exact ⟨rfl, rfl⟩
theorem c_X9_init {n o : Nat} {LK : LkT} {LI : LiT} {LJ : LjT} {LR : LrT} (ho : Oj LK n o 9) (fr : Fre n LI LJ LR) : Ct E 1 1 400 mX9_init [.ref (eZ E + o)] (bL (eZ E) n LK LI LJ LR) (po none (bL (eZ E) (n + 1) ((n, 13, 400) :: LK) (LI) (LJ) ((o, 0, some n) :: LR))) := by
  have h0 := ho.1
  refine Ct.of (by decide +kernel) (Nat.le_of_ble_eq_true rfl) ?_
  refine r_aload_n (pc := 0) 0 dX9_init_0 rfl ?_
  refine r_objInit (pc := 1) ml_X9_3 oi_2 oi_3 (Nat.le_of_ble_eq_true rfl) (Nat.le_of_ble_eq_true rfl) dX9_init_1 ?_
  refine r_aload_n (pc := 4) 0 dX9_init_4 rfl ?_
  refine r_sipush (pc := 5) (400) dX9_init_5 rfl ?_
  refine b_arr (pc := 8) (N := 400) (n1 := (n + 1)) (Or.inl ⟨rfl, rfl⟩) rfl (by omega) fr rfl (Nat.le_of_ble_eq_true rfl) (Nat.le_of_ble_eq_true rfl) dX9_init_8 ?_
  refine b_putR (pc := 10) fp_X9_9 (Or.inr ⟨_, rfl⟩) (fun _ => rfl) (ho.s rfl) dX9_init_10 ?_
  refine r_vret (pc := 13) rfl ?_ (Nat.le_of_ble_eq_true rfl) (Nat.le_of_ble_eq_true rfl) dX9_init_13
  exact ⟨rfl, rfl⟩
theorem c_X10_init {n o : Nat} {LK : LkT} {LI : LiT} {LJ : LjT} {LR : LrT} (ho : Oj LK n o 10) (fr : Fre n LI LJ LR) : Ct E 1 5 861 mX10_init [.ref (eZ E + o), .int 400] (bL (eZ E) n LK LI LJ LR) (po none (bL (eZ E) (n + 5) (((n + 4), 13, 400) :: ((n + 3), 13, 400) :: ((n + 2), 13, 37) :: ((n + 1), 13, 12) :: (n, 13, 12) :: LK) (LI) (LJ) ((o, 5, some (n + 4)) :: (o, 4, some (n + 3)) :: (o, 3, some (n + 2)) :: (o, 2, some (n + 1)) :: (o, 1, some n) :: LR))) := by
  have h0 := ho.1
  refine Ct.of (by decide +kernel) (Nat.le_of_ble_eq_true rfl) ?_
  refine r_aload_n (pc := 0) 0 dX10_init_0 rfl ?_
  refine r_objInit (pc := 1) ml_X10_3 oi_2 oi_3 (Nat.le_of_ble_eq_true rfl) (Nat.le_of_ble_eq_true rfl) dX10_init_1 ?_
  refine r_aload_n (pc := 4) 0 dX10_init_4 rfl ?_
  refine r_bipush (pc := 5) (12) dX10_init_5 rfl ?_
  refine b_arr (pc := 7) (N := 12) (n1 := (n + 1)) (Or.inl ⟨rfl, rfl⟩) rfl (by omega) fr rfl (Nat.le_of_ble_eq_true rfl) (Nat.le_of_ble_eq_true rfl) dX10_init_7 ?_
  refine b_putR (pc := 9) fp_X10_9 (Or.inr ⟨_, rfl⟩) (fun _ => rfl) (ho.s rfl) dX10_init_9 ?_
  refine r_aload_n (pc := 12) 0 dX10_init_12 rfl ?_
  refine r_bipush (pc := 13) (12) dX10_init_13 rfl ?_
  refine b_arr (pc := 15) (N := 12) (n1 := (n + 2)) (Or.inl ⟨rfl, rfl⟩) rfl (by omega) ((fr.s rfl).r (by omega)) rfl (Nat.le_of_ble_eq_true rfl) (Nat.le_of_ble_eq_true rfl) dX10_init_15 ?_
  refine b_putR (pc := 17) fp_X10_15 (Or.inr ⟨_, rfl⟩) (fun _ => rfl) ((ho.s rfl).s rfl) dX10_init_17 ?_
  refine r_aload_n (pc := 20) 0 dX10_init_20 rfl ?_
  refine r_bipush (pc := 21) (37) dX10_init_21 rfl ?_
  refine b_arr (pc := 23) (N := 37) (n1 := (n + 3)) (Or.inl ⟨rfl, rfl⟩) rfl (by omega) ((((fr.s rfl).r (by omega)).s rfl).r (by omega)) rfl (Nat.le_of_ble_eq_true rfl) (Nat.le_of_ble_eq_true rfl) dX10_init_23 ?_
  refine b_putR (pc := 25) fp_X10_18 (Or.inr ⟨_, rfl⟩) (fun _ => rfl) (((ho.s rfl).s rfl).s rfl) dX10_init_25 ?_
  refine r_aload_n (pc := 28) 0 dX10_init_28 rfl ?_
  refine r_iload_n (pc := 29) 1 dX10_init_29 rfl ?_
  refine b_arr (pc := 30) (N := 400) (n1 := (n + 4)) (Or.inl ⟨rfl, rfl⟩) rfl (by omega) ((((((fr.s rfl).r (by omega)).s rfl).r (by omega)).s rfl).r (by omega)) rfl (Nat.le_of_ble_eq_true rfl) (Nat.le_of_ble_eq_true rfl) dX10_init_30 ?_
  refine b_putR (pc := 32) fp_X10_21 (Or.inr ⟨_, rfl⟩) (fun _ => rfl) ((((ho.s rfl).s rfl).s rfl).s rfl) dX10_init_32 ?_
  refine r_aload_n (pc := 35) 0 dX10_init_35 rfl ?_
  refine r_iload_n (pc := 36) 1 dX10_init_36 rfl ?_
  refine b_arr (pc := 37) (N := 400) (n1 := (n + 5)) (Or.inl ⟨rfl, rfl⟩) rfl (by omega) ((((((((fr.s rfl).r (by omega)).s rfl).r (by omega)).s rfl).r (by omega)).s rfl).r (by omega)) rfl (Nat.le_of_ble_eq_true rfl) (Nat.le_of_ble_eq_true rfl) dX10_init_37 ?_
  refine b_putR (pc := 39) fp_X10_24 (Or.inr ⟨_, rfl⟩) (fun _ => rfl) (((((ho.s rfl).s rfl).s rfl).s rfl).s rfl) dX10_init_39 ?_
  refine r_vret (pc := 42) rfl ?_ (Nat.le_of_ble_eq_true rfl) (Nat.le_of_ble_eq_true rfl) dX10_init_42
  exact ⟨rfl, rfl⟩
theorem c_X0_init {n o a1 : Nat} {LK : LkT} {LI : LiT} {LJ : LjT} {LR : LrT} (ho : Oj LK n o 0) (fr : Fre n LI LJ LR) : Ct E 1 1 8 mX0_init [.ref (eZ E + o), .ref (eZ E + a1)] (bL (eZ E) n LK LI LJ LR) (po none (bL (eZ E) (n + 1) ((n, 13, 8) :: LK) (LI) (LJ) ((o, 1, some n) :: (o, 0, some a1) :: LR))) := by
  have h0 := ho.1
  refine Ct.of (by decide +kernel) (Nat.le_of_ble_eq_true rfl) ?_
  refine r_aload_n (pc := 0) 0 dX0_init_0 rfl ?_
  refine r_objInit (pc := 1) ml_X0_3 oi_2 oi_3 (Nat.le_of_ble_eq_true rfl) (Nat.le_of_ble_eq_true rfl) dX0_init_1 ?_
  refine r_aload_n (pc := 4) 0 dX0_init_4 rfl ?_
  refine r_aload_n (pc := 5) 1 dX0_init_5 rfl ?_
  refine b_putR (pc := 6) fp_X0_9 (Or.inl ⟨_, rfl⟩) (fun _ => rfl) ho dX0_init_6 ?_
  refine r_aload_n (pc := 9) 0 dX0_init_9 rfl ?_
  refine r_bipush (pc := 10) (8) dX0_init_10 rfl ?_
  refine b_arr (pc := 12) (N := 8) (n1 := (n + 1)) (Or.inl ⟨rfl, rfl⟩) rfl (by omega) (fr.r (by omega)) rfl (Nat.le_of_ble_eq_true rfl) (Nat.le_of_ble_eq_true rfl) dX0_init_12 ?_
  refine b_putR (pc := 14) fp_X0_15 (Or.inr ⟨_, rfl⟩) (fun _ => rfl) (ho.s rfl) dX0_init_14 ?_
  refine r_vret (pc := 17) rfl ?_ (Nat.le_of_ble_eq_true rfl) (Nat.le_of_ble_eq_true rfl) dX0_init_17
  exact ⟨rfl, rfl⟩
theorem c_X3_init {n o a1 a2 : Nat} {LK : LkT} {LI : LiT} {LJ : LjT} {LR : LrT} (ho : Oj LK n o 3) (fr : Fre n LI LJ LR) : Ct E 1 1 19 mX3_init [.ref (eZ E + o), .ref (eZ E + a1), .ref (eZ E + a2)] (bL (eZ E) n LK LI LJ LR) (po none (bL (eZ E) (n + 1) ((n, 13, 19) :: LK) ((o, 5, (-1)) :: LI) (LJ) ((o, 2, some n) :: (o, 1, some a2) :: (o, 0, some a1) :: LR))) := by
  have h0 := ho.1
  refine Ct.of (by decide +kernel) (Nat.le_of_ble_eq_true rfl) ?_
  refine r_aload_n (pc := 0) 0 dX3_init_0 rfl ?_
  refine r_objInit (pc := 1) ml_X3_3 oi_2 oi_3 (Nat.le_of_ble_eq_true rfl) (Nat.le_of_ble_eq_true rfl) dX3_init_1 ?_
  refine r_aload_n (pc := 4) 0 dX3_init_4 rfl ?_
  refine r_aload_n (pc := 5) 1 dX3_init_5 rfl ?_
  refine b_putR (pc := 6) fp_X3_9 (Or.inl ⟨_, rfl⟩) (fun _ => rfl) ho dX3_init_6 ?_
  refine r_aload_n (pc := 9) 0 dX3_init_9 rfl ?_
  refine r_aload_n (pc := 10) 2 dX3_init_10 rfl ?_
  refine b_putR (pc := 11) fp_X3_15 (Or.inl ⟨_, rfl⟩) (fun _ => rfl) ho dX3_init_11 ?_
  refine r_aload_n (pc := 14) 0 dX3_init_14 rfl ?_
  refine r_bipush (pc := 15) (19) dX3_init_15 rfl ?_
  refine b_arr (pc := 17) (N := 19) (n1 := (n + 1)) (Or.inl ⟨rfl, rfl⟩) rfl (by omega) ((fr.r (by omega)).r (by omega)) rfl (Nat.le_of_ble_eq_true rfl) (Nat.le_of_ble_eq_true rfl) dX3_init_17 ?_
  refine b_putR (pc := 19) fp_X3_19 (Or.inr ⟨_, rfl⟩) (fun _ => rfl) (ho.s rfl) dX3_init_19 ?_
  refine r_aload_n (pc := 22) 0 dX3_init_22 rfl ?_
  refine r_iconst (pc := 23) (-1) dX3_init_23 rfl ?_
  refine b_putI (pc := 24) fp_X3_23 (ho.s rfl) dX3_init_24 ?_
  refine r_vret (pc := 27) rfl ?_ (Nat.le_of_ble_eq_true rfl) (Nat.le_of_ble_eq_true rfl) dX3_init_27
  exact ⟨rfl, rfl⟩
theorem c_X2_init {n o a1 : Nat} {LK : LkT} {LI : LiT} {LJ : LjT} {LR : LrT} (ho : Oj LK n o 2) (fr : Fre n LI LJ LR) : Ct E 1 5 4789 mX2_init [.ref (eZ E + o), .ref (eZ E + a1)] (bL (eZ E) n LK LI LJ LR) (po none (bL (eZ E) (n + 5) (((n + 4), 14, 10) :: ((n + 3), 13, 9) :: ((n + 2), 13, 81) :: ((n + 1), 13, 81) :: (n, 14, 4608) :: LK) (LI) (LJ) ((o, 5, some (n + 4)) :: (o, 4, some (n + 3)) :: (o, 3, some (n + 2)) :: (o, 2, some (n + 1)) :: (o, 1, some n) :: (o, 0, some a1) :: LR))) := by
  have h0 := ho.1
  refine Ct.of (by decide +kernel) (Nat.le_of_ble_eq_true rfl) ?_
  refine r_aload_n (pc := 0) 0 dX2_init_0 rfl ?_
  refine r_objInit (pc := 1) ml_X2_3 oi_2 oi_3 (Nat.le_of_ble_eq_true rfl) (Nat.le_of_ble_eq_true rfl) dX2_init_1 ?_
  refine r_aload_n (pc := 4) 0 dX2_init_4 rfl ?_
  refine r_aload_n (pc := 5) 1 dX2_init_5 rfl ?_
  refine b_putR (pc := 6) fp_X2_9 (Or.inl ⟨_, rfl⟩) (fun _ => rfl) ho dX2_init_6 ?_
  refine r_aload_n (pc := 9) 0 dX2_init_9 rfl ?_
  refine r_sipush (pc := 10) (4608) dX2_init_10 rfl ?_
  refine b_arr (pc := 13) (N := 4608) (n1 := (n + 1)) (Or.inr (Or.inl ⟨rfl, rfl⟩)) rfl (by omega) (fr.r (by omega)) rfl (Nat.le_of_ble_eq_true rfl) (Nat.le_of_ble_eq_true rfl) dX2_init_13 ?_
  refine b_putR (pc := 15) fp_X2_15 (Or.inr ⟨_, rfl⟩) (fun _ => rfl) (ho.s rfl) dX2_init_15 ?_
  refine r_aload_n (pc := 18) 0 dX2_init_18 rfl ?_
  refine r_bipush (pc := 19) (81) dX2_init_19 rfl ?_
  refine b_arr (pc := 21) (N := 81) (n1 := (n + 2)) (Or.inl ⟨rfl, rfl⟩) rfl (by omega) (((fr.r (by omega)).s rfl).r (by omega)) rfl (Nat.le_of_ble_eq_true rfl) (Nat.le_of_ble_eq_true rfl) dX2_init_21 ?_
  refine b_putR (pc := 23) fp_X2_19 (Or.inr ⟨_, rfl⟩) (fun _ => rfl) ((ho.s rfl).s rfl) dX2_init_23 ?_
  refine r_aload_n (pc := 26) 0 dX2_init_26 rfl ?_
  refine r_bipush (pc := 27) (81) dX2_init_27 rfl ?_
  refine b_arr (pc := 29) (N := 81) (n1 := (n + 3)) (Or.inl ⟨rfl, rfl⟩) rfl (by omega) (((((fr.r (by omega)).s rfl).r (by omega)).s rfl).r (by omega)) rfl (Nat.le_of_ble_eq_true rfl) (Nat.le_of_ble_eq_true rfl) dX2_init_29 ?_
  refine b_putR (pc := 31) fp_X2_23 (Or.inr ⟨_, rfl⟩) (fun _ => rfl) (((ho.s rfl).s rfl).s rfl) dX2_init_31 ?_
  refine r_aload_n (pc := 34) 0 dX2_init_34 rfl ?_
  refine r_bipush (pc := 35) (9) dX2_init_35 rfl ?_
  refine b_arr (pc := 37) (N := 9) (n1 := (n + 4)) (Or.inl ⟨rfl, rfl⟩) rfl (by omega) (((((((fr.r (by omega)).s rfl).r (by omega)).s rfl).r (by omega)).s rfl).r (by omega)) rfl (Nat.le_of_ble_eq_true rfl) (Nat.le_of_ble_eq_true rfl) dX2_init_37 ?_
  refine b_putR (pc := 39) fp_X2_26 (Or.inr ⟨_, rfl⟩) (fun _ => rfl) ((((ho.s rfl).s rfl).s rfl).s rfl) dX2_init_39 ?_
  refine r_aload_n (pc := 42) 0 dX2_init_42 rfl ?_
  refine r_bipush (pc := 43) (10) dX2_init_43 rfl ?_
  refine b_arr (pc := 45) (N := 10) (n1 := (n + 5)) (Or.inr (Or.inl ⟨rfl, rfl⟩)) rfl (by omega) (((((((((fr.r (by omega)).s rfl).r (by omega)).s rfl).r (by omega)).s rfl).r (by omega)).s rfl).r (by omega)) rfl (Nat.le_of_ble_eq_true rfl) (Nat.le_of_ble_eq_true rfl) dX2_init_45 ?_
  refine b_putR (pc := 47) fp_X2_29 (Or.inr ⟨_, rfl⟩) (fun _ => rfl) (((((ho.s rfl).s rfl).s rfl).s rfl).s rfl) dX2_init_47 ?_
  refine r_vret (pc := 50) rfl ?_ (Nat.le_of_ble_eq_true rfl) (Nat.le_of_ble_eq_true rfl) dX2_init_50
  exact ⟨rfl, rfl⟩
theorem c_X8_init {n o a1 : Nat} {LK : LkT} {LI : LiT} {LJ : LjT} {LR : LrT} (ho : Oj LK n o 8) (fr : Fre n LI LJ LR) : Ct E 1 4 654 mX8_init [.ref (eZ E + o), .ref (eZ E + a1)] (bL (eZ E) n LK LI LJ LR) (po none (bL (eZ E) (n + 4) (((n + 3), 13, 512) :: ((n + 2), 13, 72) :: ((n + 1), 13, 10) :: (n, 13, 60) :: LK) (LI) (LJ) ((o, 4, some (n + 3)) :: (o, 3, some (n + 2)) :: (o, 2, some (n + 1)) :: (o, 1, some n) :: (o, 0, some a1) :: LR))) := by
  have h0 := ho.1
  refine Ct.of (by decide +kernel) (Nat.le_of_ble_eq_true rfl) ?_
  refine r_aload_n (pc := 0) 0 dX8_init_0 rfl ?_
  refine r_objInit (pc := 1) ml_X8_3 oi_2 oi_3 (Nat.le_of_ble_eq_true rfl) (Nat.le_of_ble_eq_true rfl) dX8_init_1 ?_
  refine r_aload_n (pc := 4) 0 dX8_init_4 rfl ?_
  refine r_aload_n (pc := 5) 1 dX8_init_5 rfl ?_
  refine b_putR (pc := 6) fp_X8_9 (Or.inl ⟨_, rfl⟩) (fun _ => rfl) ho dX8_init_6 ?_
  refine r_aload_n (pc := 9) 0 dX8_init_9 rfl ?_
  refine r_bipush (pc := 10) (60) dX8_init_10 rfl ?_
  refine b_arr (pc := 12) (N := 60) (n1 := (n + 1)) (Or.inl ⟨rfl, rfl⟩) rfl (by omega) (fr.r (by omega)) rfl (Nat.le_of_ble_eq_true rfl) (Nat.le_of_ble_eq_true rfl) dX8_init_12 ?_
  refine b_putR (pc := 14) fp_X8_15 (Or.inr ⟨_, rfl⟩) (fun _ => rfl) (ho.s rfl) dX8_init_14 ?_
  refine r_aload_n (pc := 17) 0 dX8_init_17 rfl ?_
  refine r_bipush (pc := 18) (10) dX8_init_18 rfl ?_
  refine b_arr (pc := 20) (N := 10) (n1 := (n + 2)) (Or.inl ⟨rfl, rfl⟩) rfl (by omega) (((fr.r (by omega)).s rfl).r (by omega)) rfl (Nat.le_of_ble_eq_true rfl) (Nat.le_of_ble_eq_true rfl) dX8_init_20 ?_
  refine b_putR (pc := 22) fp_X8_19 (Or.inr ⟨_, rfl⟩) (fun _ => rfl) ((ho.s rfl).s rfl) dX8_init_22 ?_
  refine r_aload_n (pc := 25) 0 dX8_init_25 rfl ?_
  refine r_bipush (pc := 26) (72) dX8_init_26 rfl ?_
  refine b_arr (pc := 28) (N := 72) (n1 := (n + 3)) (Or.inl ⟨rfl, rfl⟩) rfl (by omega) (((((fr.r (by omega)).s rfl).r (by omega)).s rfl).r (by omega)) rfl (Nat.le_of_ble_eq_true rfl) (Nat.le_of_ble_eq_true rfl) dX8_init_28 ?_
  refine b_putR (pc := 30) fp_X8_22 (Or.inr ⟨_, rfl⟩) (fun _ => rfl) (((ho.s rfl).s rfl).s rfl) dX8_init_30 ?_
  refine r_aload_n (pc := 33) 0 dX8_init_33 rfl ?_
  refine r_sipush (pc := 34) (512) dX8_init_34 rfl ?_
  refine b_arr (pc := 37) (N := 512) (n1 := (n + 4)) (Or.inl ⟨rfl, rfl⟩) rfl (by omega) (((((((fr.r (by omega)).s rfl).r (by omega)).s rfl).r (by omega)).s rfl).r (by omega)) rfl (Nat.le_of_ble_eq_true rfl) (Nat.le_of_ble_eq_true rfl) dX8_init_37 ?_
  refine b_putR (pc := 39) fp_X8_25 (Or.inr ⟨_, rfl⟩) (fun _ => rfl) ((((ho.s rfl).s rfl).s rfl).s rfl) dX8_init_39 ?_
  refine r_vret (pc := 42) rfl ?_ (Nat.le_of_ble_eq_true rfl) (Nat.le_of_ble_eq_true rfl) dX8_init_42
  exact ⟨rfl, rfl⟩
theorem c_X5_init {n o : Nat} {LK : LkT} {LI : LiT} {LJ : LjT} {LR : LrT} (ho : Oj LK n o 5) (fr : Fre n LI LJ LR) (haT : AoK E "NineLives$Text") : Ct E 1 9 50 mX5_init [.ref (eZ E + o)] (bL (eZ E) n LK LI LJ LR) (po none (bL (eZ E) (n + 9) (((n + 8), 17, 6) :: ((n + 7), 13, 3) :: ((n + 6), 13, 8) :: ((n + 5), 13, 3) :: ((n + 4), 13, 6) :: ((n + 3), 13, 6) :: ((n + 2), 13, 6) :: ((n + 1), 13, 6) :: (n, 13, 6) :: LK) ((o, 13, (-1)) :: ((n + 7), 1, 1) :: LI) (LJ) ((o, 12, some (n + 8)) :: (o, 10, some (n + 7)) :: (o, 9, some (n + 6)) :: (o, 7, some (n + 5)) :: (o, 5, some (n + 4)) :: (o, 4, some (n + 3)) :: (o, 3, some (n + 2)) :: (o, 2, some (n + 1)) :: (o, 1, some n) :: LR))) := by
  have h0 := ho.1
  refine Ct.of (by decide +kernel) (Nat.le_of_ble_eq_true rfl) ?_
  refine r_aload_n (pc := 0) 0 dX5_init_0 rfl ?_
  refine r_objInit (pc := 1) ml_X5_3 oi_2 oi_3 (Nat.le_of_ble_eq_true rfl) (Nat.le_of_ble_eq_true rfl) dX5_init_1 ?_
  refine r_aload_n (pc := 4) 0 dX5_init_4 rfl ?_
  refine r_bipush (pc := 5) (6) dX5_init_5 rfl ?_
  refine b_arr (pc := 7) (N := 6) (n1 := (n + 1)) (Or.inl ⟨rfl, rfl⟩) rfl (by omega) fr rfl (Nat.le_of_ble_eq_true rfl) (Nat.le_of_ble_eq_true rfl) dX5_init_7 ?_
  refine b_putR (pc := 9) fp_X5_9 (Or.inr ⟨_, rfl⟩) (fun _ => rfl) (ho.s rfl) dX5_init_9 ?_
  refine r_aload_n (pc := 12) 0 dX5_init_12 rfl ?_
  refine r_bipush (pc := 13) (6) dX5_init_13 rfl ?_
  refine b_arr (pc := 15) (N := 6) (n1 := (n + 2)) (Or.inl ⟨rfl, rfl⟩) rfl (by omega) ((fr.s rfl).r (by omega)) rfl (Nat.le_of_ble_eq_true rfl) (Nat.le_of_ble_eq_true rfl) dX5_init_15 ?_
  refine b_putR (pc := 17) fp_X5_15 (Or.inr ⟨_, rfl⟩) (fun _ => rfl) ((ho.s rfl).s rfl) dX5_init_17 ?_
  refine r_aload_n (pc := 20) 0 dX5_init_20 rfl ?_
  refine r_bipush (pc := 21) (6) dX5_init_21 rfl ?_
  refine b_arr (pc := 23) (N := 6) (n1 := (n + 3)) (Or.inl ⟨rfl, rfl⟩) rfl (by omega) ((((fr.s rfl).r (by omega)).s rfl).r (by omega)) rfl (Nat.le_of_ble_eq_true rfl) (Nat.le_of_ble_eq_true rfl) dX5_init_23 ?_
  refine b_putR (pc := 25) fp_X5_18 (Or.inr ⟨_, rfl⟩) (fun _ => rfl) (((ho.s rfl).s rfl).s rfl) dX5_init_25 ?_
  refine r_aload_n (pc := 28) 0 dX5_init_28 rfl ?_
  refine r_bipush (pc := 29) (6) dX5_init_29 rfl ?_
  refine b_arr (pc := 31) (N := 6) (n1 := (n + 4)) (Or.inl ⟨rfl, rfl⟩) rfl (by omega) ((((((fr.s rfl).r (by omega)).s rfl).r (by omega)).s rfl).r (by omega)) rfl (Nat.le_of_ble_eq_true rfl) (Nat.le_of_ble_eq_true rfl) dX5_init_31 ?_
  refine b_putR (pc := 33) fp_X5_21 (Or.inr ⟨_, rfl⟩) (fun _ => rfl) ((((ho.s rfl).s rfl).s rfl).s rfl) dX5_init_33 ?_
  refine r_aload_n (pc := 36) 0 dX5_init_36 rfl ?_
  refine r_bipush (pc := 37) (6) dX5_init_37 rfl ?_
  refine b_arr (pc := 39) (N := 6) (n1 := (n + 5)) (Or.inl ⟨rfl, rfl⟩) rfl (by omega) ((((((((fr.s rfl).r (by omega)).s rfl).r (by omega)).s rfl).r (by omega)).s rfl).r (by omega)) rfl (Nat.le_of_ble_eq_true rfl) (Nat.le_of_ble_eq_true rfl) dX5_init_39 ?_
  refine b_putR (pc := 41) fp_X5_24 (Or.inr ⟨_, rfl⟩) (fun _ => rfl) (((((ho.s rfl).s rfl).s rfl).s rfl).s rfl) dX5_init_41 ?_
  refine r_aload_n (pc := 44) 0 dX5_init_44 rfl ?_
  refine r_iconst (pc := 45) (3) dX5_init_45 rfl ?_
  refine b_arr (pc := 46) (N := 3) (n1 := (n + 6)) (Or.inl ⟨rfl, rfl⟩) rfl (by omega) ((((((((((fr.s rfl).r (by omega)).s rfl).r (by omega)).s rfl).r (by omega)).s rfl).r (by omega)).s rfl).r (by omega)) rfl (Nat.le_of_ble_eq_true rfl) (Nat.le_of_ble_eq_true rfl) dX5_init_46 ?_
  refine b_putR (pc := 48) fp_X5_27 (Or.inr ⟨_, rfl⟩) (fun _ => rfl) ((((((ho.s rfl).s rfl).s rfl).s rfl).s rfl).s rfl) dX5_init_48 ?_
  refine r_aload_n (pc := 51) 0 dX5_init_51 rfl ?_
  refine r_bipush (pc := 52) (8) dX5_init_52 rfl ?_
  refine b_arr (pc := 54) (N := 8) (n1 := (n + 7)) (Or.inl ⟨rfl, rfl⟩) rfl (by omega) ((((((((((((fr.s rfl).r (by omega)).s rfl).r (by omega)).s rfl).r (by omega)).s rfl).r (by omega)).s rfl).r (by omega)).s rfl).r (by omega)) rfl (Nat.le_of_ble_eq_true rfl) (Nat.le_of_ble_eq_true rfl) dX5_init_54 ?_
  refine b_putR (pc := 56) fp_X5_30 (Or.inr ⟨_, rfl⟩) (fun _ => rfl) (((((((ho.s rfl).s rfl).s rfl).s rfl).s rfl).s rfl).s rfl) dX5_init_56 ?_
  refine r_aload_n (pc := 59) 0 dX5_init_59 rfl ?_
  refine r_iconst (pc := 60) (3) dX5_init_60 rfl ?_
  refine b_arr (pc := 61) (N := 3) (n1 := (n + 8)) (Or.inl ⟨rfl, rfl⟩) rfl (by omega) ((((((((((((((fr.s rfl).r (by omega)).s rfl).r (by omega)).s rfl).r (by omega)).s rfl).r (by omega)).s rfl).r (by omega)).s rfl).r (by omega)).s rfl).r (by omega)) rfl (Nat.le_of_ble_eq_true rfl) (Nat.le_of_ble_eq_true rfl) dX5_init_61 ?_
  refine b_putR (pc := 63) fp_X5_33 (Or.inr ⟨_, rfl⟩) (fun _ => rfl) ((((((((ho.s rfl).s rfl).s rfl).s rfl).s rfl).s rfl).s rfl).s rfl) dX5_init_63 ?_
  refine r_aload_n (pc := 66) 0 dX5_init_66 rfl ?_
  refine b_getR (pc := 67) (t := (n + 7)) fl_X5_33 ((((((((ho.s rfl).s rfl).s rfl).s rfl).s rfl).s rfl).s rfl).s rfl) lkV_at dX5_init_67 ?_
  refine r_iconst (pc := 70) (1) dX5_init_70 rfl ?_
  refine r_iconst (pc := 71) (1) dX5_init_71 rfl ?_
  refine b_iast (pc := 72) (j := 1) (Ar.new rfl) rfl (by decide) (by decide) dX5_init_72 ?_
  refine r_aload_n (pc := 73) 0 dX5_init_73 rfl ?_
  refine r_bipush (pc := 74) (6) dX5_init_74 rfl ?_
  refine b_anw (pc := 76) (N := 6) (n1 := (n + 9)) (Or.inr ⟨rfl, rfl⟩) haT ck_X5_36 rfl (by omega) (((((((((((((((((fr.s rfl).r (by omega)).s rfl).r (by omega)).s rfl).r (by omega)).s rfl).r (by omega)).s rfl).r (by omega)).s rfl).r (by omega)).s rfl).r (by omega)).s rfl).r (by omega)).i (by omega)) rfl (Nat.le_of_ble_eq_true rfl) (Nat.le_of_ble_eq_true rfl) dX5_init_76 ?_
  refine b_putR (pc := 79) fp_X5_38 (Or.inr ⟨_, rfl⟩) (fun _ => rfl) (((((((((ho.s rfl).s rfl).s rfl).s rfl).s rfl).s rfl).s rfl).s rfl).s rfl) dX5_init_79 ?_
  refine r_aload_n (pc := 82) 0 dX5_init_82 rfl ?_
  refine r_iconst (pc := 83) (-1) dX5_init_83 rfl ?_
  refine b_putI (pc := 84) fp_X5_42 (((((((((ho.s rfl).s rfl).s rfl).s rfl).s rfl).s rfl).s rfl).s rfl).s rfl) dX5_init_84 ?_
  refine r_vret (pc := 87) rfl ?_ (Nat.le_of_ble_eq_true rfl) (Nat.le_of_ble_eq_true rfl) dX5_init_87
  exact ⟨rfl, rfl⟩
end CONS1
