/-! constructors: the class whole, the reference -/
section CONS3
variable {E : En}
theorem ck_X11_12 : Cond.classLink RX11 12 "NineLives$Port" ∈ gws := gi1 44 (by decide +kernel) (by decide +kernel)
def lnE (o : Nat) : LiT := [(o, 0, nI (vocN 0)), (o, 1, nI (vocN 1)), (o, 2, nI (vocN 2)), (o, 3, nI (vocN 3)), (o, 4, nI (vocN 4)), (o, 5, nI (vocN 5)), (o, 6, nI (vocN 6)), (o, 7, nI (vocN 7)), (o, 8, nI (vocN 8)), (o, 9, nI (vocN 9)), (o, 10, nI (vocN 10)), (o, 11, nI (vocN 11)), (o, 12, nI (vocN 12)), (o, 13, nI (vocN 13)), (o, 14, nI (vocN 14)), (o, 15, nI (vocN 15)), (o, 16, nI (vocN 16)), (o, 17, nI (vocN 17)), (o, 18, nI (vocN 18)), (o, 19, nI (vocN 19)), (o, 20, nI (vocN 20)), (o, 21, nI (vocN 21)), (o, 22, nI (vocN 22)), (o, 23, nI (vocN 23)), (o, 24, nI (vocN 24)), (o, 25, nI (vocN 25)), (o, 26, nI (vocN 26))]
theorem lnR_hi : ∀ (l : List Nat) (k : Nat) (f : Nat → Nat), lnK l k = true → ∀ j, 27 ≤ j → lnR l k f j = f j
  | [], _, _, _, _, _ => rfl
  | c0 :: l, k, f, hk, j, hj => by
    unfold lnK at hk
    rw [Bool.and_eq_true, decide_eq_true_eq] at hk
    unfold lnR
    by_cases z : c0 = 32
    · rw [if_pos z] at hk
      rw [if_pos z]
      exact lnR_hi l (k + 1) f hk.2 j hj
    · rw [if_neg z, Bool.and_eq_true] at hk
      rw [if_neg z, lnR_hi l k _ hk.2.2 j hj, va_up_ne _ _ (by omega)]
theorem lnE_at {o j : Nat} {LI : LiT} (hj : j < 27) : lkV 0 (lnE o ++ LI) o j = nI (vocN j) := by
  match j, hj with
  | 0, _ => simp [lnE, lkV]
  | 1, _ => simp [lnE, lkV]
  | 2, _ => simp [lnE, lkV]
  | 3, _ => simp [lnE, lkV]
  | 4, _ => simp [lnE, lkV]
  | 5, _ => simp [lnE, lkV]
  | 6, _ => simp [lnE, lkV]
  | 7, _ => simp [lnE, lkV]
  | 8, _ => simp [lnE, lkV]
  | 9, _ => simp [lnE, lkV]
  | 10, _ => simp [lnE, lkV]
  | 11, _ => simp [lnE, lkV]
  | 12, _ => simp [lnE, lkV]
  | 13, _ => simp [lnE, lkV]
  | 14, _ => simp [lnE, lkV]
  | 15, _ => simp [lnE, lkV]
  | 16, _ => simp [lnE, lkV]
  | 17, _ => simp [lnE, lkV]
  | 18, _ => simp [lnE, lkV]
  | 19, _ => simp [lnE, lkV]
  | 20, _ => simp [lnE, lkV]
  | 21, _ => simp [lnE, lkV]
  | 22, _ => simp [lnE, lkV]
  | 23, _ => simp [lnE, lkV]
  | 24, _ => simp [lnE, lkV]
  | 25, _ => simp [lnE, lkV]
  | 26, _ => simp [lnE, lkV]
  | j + 27, hj => omega
theorem lnE_hi {o j : Nat} {LI : LiT} (hj : 27 ≤ j) : lkV 0 (lnE o ++ LI) o j = lkV 0 LI o j := by
  have hh : ∀ (L : LiT), (∀ t ∈ L, t.2.1 < 27) → lkV 0 (L ++ LI) o j = lkV 0 LI o j := fun L => by
    induction L with
    | nil => intro _; rfl
    | cons t r ih =>
      intro hL
      show (if t.1 = o ∧ t.2.1 = j then _ else lkV 0 (r ++ LI) o j) = _
      rw [if_neg (fun z => by have := hL t List.mem_cons_self; omega)]
      exact ih (fun t' ht => hL t' (List.mem_cons_of_mem _ ht))
  refine hh (lnE o) (fun t ht => ?_)
  simp only [lnE, List.mem_cons, List.not_mem_nil, or_false] at ht
  rcases ht with rfl | rfl | rfl | rfl | rfl | rfl | rfl | rfl | rfl | rfl | rfl | rfl | rfl | rfl | rfl | rfl | rfl | rfl | rfl | rfl | rfl | rfl | rfl | rfl | rfl | rfl | rfl <;> exact Nat.le_of_ble_eq_true rfl
theorem lnE_ne {o o2 j : Nat} {LI : LiT} (hne : ¬ o = o2) : lkV 0 (lnE o ++ LI) o2 j = lkV 0 LI o2 j := by
  have hh : ∀ (L : LiT), (∀ t ∈ L, t.1 = o) → lkV 0 (L ++ LI) o2 j = lkV 0 LI o2 j := fun L => by
    induction L with
    | nil => intro _; rfl
    | cons t r ih =>
      intro hL
      show (if t.1 = o2 ∧ t.2.1 = j then _ else lkV 0 (r ++ LI) o2 j) = _
      rw [if_neg (fun z => hne ((hL t List.mem_cons_self).symm.trans z.1))]
      exact ih (fun t' ht => hL t' (List.mem_cons_of_mem _ ht))
  refine hh (lnE o) (fun t ht => ?_)
  simp only [lnE, List.mem_cons, List.not_mem_nil, or_false] at ht
  rcases ht with rfl | rfl | rfl | rfl | rfl | rfl | rfl | rfl | rfl | rfl | rfl | rfl | rfl | rfl | rfl | rfl | rfl | rfl | rfl | rfl | rfl | rfl | rfl | rfl | rfl | rfl | rfl <;> rfl
theorem bL_learn {z n o : Nat} {LK : LkT} {LI : LiT} {LJ : LjT} {LR : LrT} (hno : ∀ t ∈ LI, t.1 ≠ o) : wRow (bL z n LK LI LJ LR) (z + o) (fun j => nI (lnR txL 0 (fun _ => 0) j)) = bL z n LK (lnE o ++ LI) LJ LR := by
  have e : va_up (fun a j => if z ≤ a then lkV 0 LI (a - z) j else 0) (z + o) (fun j => nI (lnR txL 0 (fun _ => 0) j)) = fun a j => if z ≤ a then lkV 0 (lnE o ++ LI) (a - z) j else 0 := by
    funext a
    by_cases hq : a = z + o
    · subst hq
      rw [va_up_self]
      funext j
      rw [if_pos (Nat.le_add_right _ _), Nat.add_sub_cancel_left]
      rcases Nat.lt_or_ge j 27 with w | w
      · rw [lnE_at w, learned j w]
      · rw [lnE_hi w, lkV_out hno, lnR_hi txL 0 _ (by decide +kernel) j w]; rfl
    · rw [va_up_ne _ _ hq]
      funext j
      by_cases ha : z ≤ a
      · rw [if_pos ha, if_pos ha, lnE_ne (by omega)]
      · rw [if_neg ha, if_neg ha]
  unfold wRow bL
  rw [e]
theorem c_X6_init {q w : Nat} {v : Value} (hTx : TxK E q w) (hCo : CoK E) (hFo : FoK E v) : Ct E 5 10 2099 mX6_init [.ref (eZ E + 26)] (bL (eZ E) 27 [(26, 6, 0), (25, 13, 400), (24, 9, 0), (23, 17, 6), (22, 13, 3), (21, 13, 8), (20, 13, 3), (19, 13, 6), (18, 13, 6), (17, 13, 6), (16, 13, 6), (15, 13, 6), (14, 5, 0), (13, 16, 2), (12, 17, 6), (11, 13, 3), (10, 13, 8), (9, 13, 3), (8, 13, 6), (7, 13, 6), (6, 13, 6), (5, 13, 6), (4, 13, 6), (3, 5, 0), (2, 14, 50), (1, 7, 0), (0, 11, 0)] [(14, 13, (-1)), (22, 1, 1), (3, 13, (-1)), (11, 1, 1)] [] [(0, 3, some 24), (24, 0, some 25), (0, 2, some 14), (14, 12, some 23), (14, 10, some 22), (14, 9, some 21), (14, 7, some 20), (14, 5, some 19), (14, 4, some 18), (14, 3, some 17), (14, 2, some 16), (14, 1, some 15), (0, 1, some 13), (0, 0, some 3), (3, 12, some 12), (3, 10, some 11), (3, 9, some 10), (3, 7, some 9), (3, 5, some 8), (3, 4, some 7), (3, 3, some 6), (3, 2, some 5), (3, 1, some 4), (1, 0, some 2)]) (po none (bL (eZ E) 37 [(36, 13, 401), (35, 13, 401), (34, 13, 401), (33, 13, 27), (32, 13, 400), (31, 13, 400), (30, 13, 37), (29, 13, 12), (28, 13, 12), (27, 10, 0), (26, 6, 0), (25, 13, 400), (24, 9, 0), (23, 17, 6), (22, 13, 3), (21, 13, 8), (20, 13, 3), (19, 13, 6), (18, 13, 6), (17, 13, 6), (16, 13, 6), (15, 13, 6), (14, 5, 0), (13, 16, 2), (12, 17, 6), (11, 13, 3), (10, 13, 8), (9, 13, 3), (8, 13, 6), (7, 13, 6), (6, 13, 6), (5, 13, 6), (4, 13, 6), (3, 5, 0), (2, 14, 50), (1, 7, 0), (0, 11, 0)] [(33, 0, nI (vocN 0)), (33, 1, nI (vocN 1)), (33, 2, nI (vocN 2)), (33, 3, nI (vocN 3)), (33, 4, nI (vocN 4)), (33, 5, nI (vocN 5)), (33, 6, nI (vocN 6)), (33, 7, nI (vocN 7)), (33, 8, nI (vocN 8)), (33, 9, nI (vocN 9)), (33, 10, nI (vocN 10)), (33, 11, nI (vocN 11)), (33, 12, nI (vocN 12)), (33, 13, nI (vocN 13)), (33, 14, nI (vocN 14)), (33, 15, nI (vocN 15)), (33, 16, nI (vocN 16)), (33, 17, nI (vocN 17)), (33, 18, nI (vocN 18)), (33, 19, nI (vocN 19)), (33, 20, nI (vocN 20)), (33, 21, nI (vocN 21)), (33, 22, nI (vocN 22)), (33, 23, nI (vocN 23)), (33, 24, nI (vocN 24)), (33, 25, nI (vocN 25)), (33, 26, nI (vocN 26)), (14, 13, (-1)), (22, 1, 1), (3, 13, (-1)), (11, 1, 1)] [] [(26, 4, some 36), (26, 3, some 35), (26, 2, some 34), (26, 1, some 33), (26, 0, some 27), (27, 5, some 32), (27, 4, some 31), (27, 3, some 30), (27, 2, some 29), (27, 1, some 28), (0, 3, some 24), (24, 0, some 25), (0, 2, some 14), (14, 12, some 23), (14, 10, some 22), (14, 9, some 21), (14, 7, some 20), (14, 5, some 19), (14, 4, some 18), (14, 3, some 17), (14, 2, some 16), (14, 1, some 15), (0, 1, some 13), (0, 0, some 3), (3, 12, some 12), (3, 10, some 11), (3, 9, some 10), (3, 7, some 9), (3, 5, some 8), (3, 4, some 7), (3, 3, some 6), (3, 2, some 5), (3, 1, some 4), (1, 0, some 2)])) := by
  refine Ct.of (by decide +kernel) (Nat.le_of_ble_eq_true rfl) ?_
  refine r_aload_n (pc := 0) 0 dX6_init_0 rfl ?_
  refine r_objInit (pc := 1) ml_X6_3 oi_2 oi_3 (Nat.le_of_ble_eq_true rfl) (Nat.le_of_ble_eq_true rfl) dX6_init_1 ?_
  refine r_aload_n (pc := 4) 0 dX6_init_4 rfl ?_
  refine b_new (pc := 5) (n1 := 28) nl_X6_9 ⟨by decide +kernel, by decide +kernel, by decide +kernel⟩ rfl (Nat.le_of_ble_eq_true rfl) (Nat.le_of_ble_eq_true rfl) dX6_init_5 ?_
  refine r_dup (pc := 8) dX6_init_8 rfl ?_
  refine r_sipush (pc := 9) (400) dX6_init_9 rfl ?_
  refine r_callI (pc := 12) (As := [_]) mn_X10_init ml_X6_11 (c_X10_init (o := 27) ⟨by decide +kernel, by decide +kernel⟩ ⟨by decide +kernel, by decide +kernel, by decide +kernel⟩) rfl rfl (Nat.le_of_ble_eq_true rfl) (Nat.le_of_ble_eq_true rfl) (Nat.le_of_ble_eq_true rfl) (Nat.le_of_ble_eq_true rfl) (Nat.le_of_ble_eq_true rfl) dX6_init_12 (fun r g hp => ?_)
  obtain ⟨rfl, rfl⟩ := hp
  show Wp E mX6_init _ _ _ _ [.ref (eZ E + 27), .ref (eZ E + 26)] (bL (eZ E) 33 [(32, 13, 400), (31, 13, 400), (30, 13, 37), (29, 13, 12), (28, 13, 12), (27, 10, 0), (26, 6, 0), (25, 13, 400), (24, 9, 0), (23, 17, 6), (22, 13, 3), (21, 13, 8), (20, 13, 3), (19, 13, 6), (18, 13, 6), (17, 13, 6), (16, 13, 6), (15, 13, 6), (14, 5, 0), (13, 16, 2), (12, 17, 6), (11, 13, 3), (10, 13, 8), (9, 13, 3), (8, 13, 6), (7, 13, 6), (6, 13, 6), (5, 13, 6), (4, 13, 6), (3, 5, 0), (2, 14, 50), (1, 7, 0), (0, 11, 0)] [(14, 13, (-1)), (22, 1, 1), (3, 13, (-1)), (11, 1, 1)] [] [(27, 5, some 32), (27, 4, some 31), (27, 3, some 30), (27, 2, some 29), (27, 1, some 28), (0, 3, some 24), (24, 0, some 25), (0, 2, some 14), (14, 12, some 23), (14, 10, some 22), (14, 9, some 21), (14, 7, some 20), (14, 5, some 19), (14, 4, some 18), (14, 3, some 17), (14, 2, some 16), (14, 1, some 15), (0, 1, some 13), (0, 0, some 3), (3, 12, some 12), (3, 10, some 11), (3, 9, some 10), (3, 7, some 9), (3, 5, some 8), (3, 4, some 7), (3, 3, some 6), (3, 2, some 5), (3, 1, some 4), (1, 0, some 2)]) _ _
  refine b_putR (pc := 15) fp_X6_14 (Or.inl ⟨_, rfl⟩) (fun _ => rfl) ⟨by decide +kernel, by decide +kernel⟩ dX6_init_15 ?_
  refine r_aload_n (pc := 18) 0 dX6_init_18 rfl ?_
  refine r_bipush (pc := 19) (27) dX6_init_19 rfl ?_
  refine b_arr (pc := 21) (N := 27) (n1 := 34) (Or.inl ⟨rfl, rfl⟩) rfl (by omega) ⟨by decide +kernel, by decide +kernel, by decide +kernel⟩ rfl (Nat.le_of_ble_eq_true rfl) (Nat.le_of_ble_eq_true rfl) dX6_init_21 ?_
  refine b_putR (pc := 23) fp_X6_20 (Or.inr ⟨_, rfl⟩) (fun _ => rfl) ⟨by decide +kernel, by decide +kernel⟩ dX6_init_23 ?_
  refine r_aload_n (pc := 26) 0 dX6_init_26 rfl ?_
  refine r_sipush (pc := 27) (401) dX6_init_27 rfl ?_
  refine b_arr (pc := 30) (N := 401) (n1 := 35) (Or.inl ⟨rfl, rfl⟩) rfl (by omega) ⟨by decide +kernel, by decide +kernel, by decide +kernel⟩ rfl (Nat.le_of_ble_eq_true rfl) (Nat.le_of_ble_eq_true rfl) dX6_init_30 ?_
  refine b_putR (pc := 32) fp_X6_24 (Or.inr ⟨_, rfl⟩) (fun _ => rfl) ⟨by decide +kernel, by decide +kernel⟩ dX6_init_32 ?_
  refine r_aload_n (pc := 35) 0 dX6_init_35 rfl ?_
  refine r_sipush (pc := 36) (401) dX6_init_36 rfl ?_
  refine b_arr (pc := 39) (N := 401) (n1 := 36) (Or.inl ⟨rfl, rfl⟩) rfl (by omega) ⟨by decide +kernel, by decide +kernel, by decide +kernel⟩ rfl (Nat.le_of_ble_eq_true rfl) (Nat.le_of_ble_eq_true rfl) dX6_init_39 ?_
  refine b_putR (pc := 41) fp_X6_27 (Or.inr ⟨_, rfl⟩) (fun _ => rfl) ⟨by decide +kernel, by decide +kernel⟩ dX6_init_41 ?_
  refine r_aload_n (pc := 44) 0 dX6_init_44 rfl ?_
  refine r_sipush (pc := 45) (401) dX6_init_45 rfl ?_
  refine b_arr (pc := 48) (N := 401) (n1 := 37) (Or.inl ⟨rfl, rfl⟩) rfl (by omega) ⟨by decide +kernel, by decide +kernel, by decide +kernel⟩ rfl (Nat.le_of_ble_eq_true rfl) (Nat.le_of_ble_eq_true rfl) dX6_init_48 ?_
  refine b_putR (pc := 50) fp_X6_30 (Or.inr ⟨_, rfl⟩) (fun _ => rfl) ⟨by decide +kernel, by decide +kernel⟩ dX6_init_50 ?_
  refine r_aload_n (pc := 53) 0 dX6_init_53 rfl ?_
  refine r_callV (pc := 54) (As := []) mv_X6_learnWords ml_X6_33 (c_learnWords (b := eZ E + 33) (Oj.A ⟨by decide +kernel, by decide +kernel⟩) (by rw [bL_R]; rfl) (Ar.A ⟨by decide +kernel, by decide +kernel⟩) (by funext j; rw [bL_I, lkV_out (by decide +kernel)]) hTx hCo hFo) (Oj.A ⟨by decide +kernel, by decide +kernel⟩) rfl rfl (Nat.le_of_ble_eq_true rfl) (Nat.le_of_ble_eq_true rfl) (Nat.le_of_ble_eq_true rfl) (Nat.le_of_ble_eq_true rfl) (Nat.le_of_ble_eq_true rfl) dX6_init_54 (fun r g hp => ?_)
  obtain ⟨rfl, rfl⟩ := hp
  rw [bL_learn (by decide +kernel)]
  show Wp E mX6_init _ _ _ _ [] (bL (eZ E) 37 [(36, 13, 401), (35, 13, 401), (34, 13, 401), (33, 13, 27), (32, 13, 400), (31, 13, 400), (30, 13, 37), (29, 13, 12), (28, 13, 12), (27, 10, 0), (26, 6, 0), (25, 13, 400), (24, 9, 0), (23, 17, 6), (22, 13, 3), (21, 13, 8), (20, 13, 3), (19, 13, 6), (18, 13, 6), (17, 13, 6), (16, 13, 6), (15, 13, 6), (14, 5, 0), (13, 16, 2), (12, 17, 6), (11, 13, 3), (10, 13, 8), (9, 13, 3), (8, 13, 6), (7, 13, 6), (6, 13, 6), (5, 13, 6), (4, 13, 6), (3, 5, 0), (2, 14, 50), (1, 7, 0), (0, 11, 0)] [(33, 0, nI (vocN 0)), (33, 1, nI (vocN 1)), (33, 2, nI (vocN 2)), (33, 3, nI (vocN 3)), (33, 4, nI (vocN 4)), (33, 5, nI (vocN 5)), (33, 6, nI (vocN 6)), (33, 7, nI (vocN 7)), (33, 8, nI (vocN 8)), (33, 9, nI (vocN 9)), (33, 10, nI (vocN 10)), (33, 11, nI (vocN 11)), (33, 12, nI (vocN 12)), (33, 13, nI (vocN 13)), (33, 14, nI (vocN 14)), (33, 15, nI (vocN 15)), (33, 16, nI (vocN 16)), (33, 17, nI (vocN 17)), (33, 18, nI (vocN 18)), (33, 19, nI (vocN 19)), (33, 20, nI (vocN 20)), (33, 21, nI (vocN 21)), (33, 22, nI (vocN 22)), (33, 23, nI (vocN 23)), (33, 24, nI (vocN 24)), (33, 25, nI (vocN 25)), (33, 26, nI (vocN 26)), (14, 13, (-1)), (22, 1, 1), (3, 13, (-1)), (11, 1, 1)] [] [(26, 4, some 36), (26, 3, some 35), (26, 2, some 34), (26, 1, some 33), (26, 0, some 27), (27, 5, some 32), (27, 4, some 31), (27, 3, some 30), (27, 2, some 29), (27, 1, some 28), (0, 3, some 24), (24, 0, some 25), (0, 2, some 14), (14, 12, some 23), (14, 10, some 22), (14, 9, some 21), (14, 7, some 20), (14, 5, some 19), (14, 4, some 18), (14, 3, some 17), (14, 2, some 16), (14, 1, some 15), (0, 1, some 13), (0, 0, some 3), (3, 12, some 12), (3, 10, some 11), (3, 9, some 10), (3, 7, some 9), (3, 5, some 8), (3, 4, some 7), (3, 3, some 6), (3, 2, some 5), (3, 1, some 4), (1, 0, some 2)]) _ _
  refine r_vret (pc := 57) rfl ?_ (Nat.le_of_ble_eq_true rfl) (Nat.le_of_ble_eq_true rfl) dX6_init_57
  exact ⟨rfl, rfl⟩
theorem c_X1_init (haT : AoK E "NineLives$Text") (haI : AoI E) : Ct E 2 48 1128 mX1_init [.ref (eZ E + 39), .ref (eZ E + 3), .ref (eZ E + 37)] (bL (eZ E) 40 [(39, 1, 0), (38, 13, 8), (37, 0, 0), (36, 13, 401), (35, 13, 401), (34, 13, 401), (33, 13, 27), (32, 13, 400), (31, 13, 400), (30, 13, 37), (29, 13, 12), (28, 13, 12), (27, 10, 0), (26, 6, 0), (25, 13, 400), (24, 9, 0), (23, 17, 6), (22, 13, 3), (21, 13, 8), (20, 13, 3), (19, 13, 6), (18, 13, 6), (17, 13, 6), (16, 13, 6), (15, 13, 6), (14, 5, 0), (13, 16, 2), (12, 17, 6), (11, 13, 3), (10, 13, 8), (9, 13, 3), (8, 13, 6), (7, 13, 6), (6, 13, 6), (5, 13, 6), (4, 13, 6), (3, 5, 0), (2, 14, 50), (1, 7, 0), (0, 11, 0)] [(33, 0, nI (vocN 0)), (33, 1, nI (vocN 1)), (33, 2, nI (vocN 2)), (33, 3, nI (vocN 3)), (33, 4, nI (vocN 4)), (33, 5, nI (vocN 5)), (33, 6, nI (vocN 6)), (33, 7, nI (vocN 7)), (33, 8, nI (vocN 8)), (33, 9, nI (vocN 9)), (33, 10, nI (vocN 10)), (33, 11, nI (vocN 11)), (33, 12, nI (vocN 12)), (33, 13, nI (vocN 13)), (33, 14, nI (vocN 14)), (33, 15, nI (vocN 15)), (33, 16, nI (vocN 16)), (33, 17, nI (vocN 17)), (33, 18, nI (vocN 18)), (33, 19, nI (vocN 19)), (33, 20, nI (vocN 20)), (33, 21, nI (vocN 21)), (33, 22, nI (vocN 22)), (33, 23, nI (vocN 23)), (33, 24, nI (vocN 24)), (33, 25, nI (vocN 25)), (33, 26, nI (vocN 26)), (14, 13, (-1)), (22, 1, 1), (3, 13, (-1)), (11, 1, 1)] [] [(0, 5, some 37), (37, 1, some 38), (37, 0, some 1), (0, 4, some 26), (26, 4, some 36), (26, 3, some 35), (26, 2, some 34), (26, 1, some 33), (26, 0, some 27), (27, 5, some 32), (27, 4, some 31), (27, 3, some 30), (27, 2, some 29), (27, 1, some 28), (0, 3, some 24), (24, 0, some 25), (0, 2, some 14), (14, 12, some 23), (14, 10, some 22), (14, 9, some 21), (14, 7, some 20), (14, 5, some 19), (14, 4, some 18), (14, 3, some 17), (14, 2, some 16), (14, 1, some 15), (0, 1, some 13), (0, 0, some 3), (3, 12, some 12), (3, 10, some 11), (3, 9, some 10), (3, 7, some 9), (3, 5, some 8), (3, 4, some 7), (3, 3, some 6), (3, 2, some 5), (3, 1, some 4), (1, 0, some 2)]) (po none (bL (eZ E) 88 [(87, 13, 16), (86, 13, 31), (85, 13, 31), (84, 13, 31), (83, 13, 31), (82, 13, 31), (81, 13, 31), (80, 13, 31), (79, 13, 31), (78, 13, 31), (77, 13, 31), (76, 13, 31), (75, 13, 31), (74, 13, 31), (73, 13, 31), (72, 13, 31), (71, 13, 31), (70, 18, 16), (69, 4, 0), (68, 17, 6), (67, 13, 3), (66, 13, 8), (65, 13, 3), (64, 13, 6), (63, 13, 6), (62, 13, 6), (61, 13, 6), (60, 13, 6), (59, 5, 0), (58, 13, 16), (57, 13, 31), (56, 13, 31), (55, 13, 31), (54, 13, 31), (53, 13, 31), (52, 13, 31), (51, 13, 31), (50, 13, 31), (49, 13, 31), (48, 13, 31), (47, 13, 31), (46, 13, 31), (45, 13, 31), (44, 13, 31), (43, 13, 31), (42, 13, 31), (41, 18, 16), (40, 4, 0), (39, 1, 0), (38, 13, 8), (37, 0, 0), (36, 13, 401), (35, 13, 401), (34, 13, 401), (33, 13, 27), (32, 13, 400), (31, 13, 400), (30, 13, 37), (29, 13, 12), (28, 13, 12), (27, 10, 0), (26, 6, 0), (25, 13, 400), (24, 9, 0), (23, 17, 6), (22, 13, 3), (21, 13, 8), (20, 13, 3), (19, 13, 6), (18, 13, 6), (17, 13, 6), (16, 13, 6), (15, 13, 6), (14, 5, 0), (13, 16, 2), (12, 17, 6), (11, 13, 3), (10, 13, 8), (9, 13, 3), (8, 13, 6), (7, 13, 6), (6, 13, 6), (5, 13, 6), (4, 13, 6), (3, 5, 0), (2, 14, 50), (1, 7, 0), (0, 11, 0)] [(59, 13, (-1)), (67, 1, 1), (33, 0, nI (vocN 0)), (33, 1, nI (vocN 1)), (33, 2, nI (vocN 2)), (33, 3, nI (vocN 3)), (33, 4, nI (vocN 4)), (33, 5, nI (vocN 5)), (33, 6, nI (vocN 6)), (33, 7, nI (vocN 7)), (33, 8, nI (vocN 8)), (33, 9, nI (vocN 9)), (33, 10, nI (vocN 10)), (33, 11, nI (vocN 11)), (33, 12, nI (vocN 12)), (33, 13, nI (vocN 13)), (33, 14, nI (vocN 14)), (33, 15, nI (vocN 15)), (33, 16, nI (vocN 16)), (33, 17, nI (vocN 17)), (33, 18, nI (vocN 18)), (33, 19, nI (vocN 19)), (33, 20, nI (vocN 20)), (33, 21, nI (vocN 21)), (33, 22, nI (vocN 22)), (33, 23, nI (vocN 23)), (33, 24, nI (vocN 24)), (33, 25, nI (vocN 25)), (33, 26, nI (vocN 26)), (14, 13, (-1)), (22, 1, 1), (3, 13, (-1)), (11, 1, 1)] [] [(39, 4, some 69), (69, 1, some 87), (69, 0, some 70), (70, 15, some 86), (70, 14, some 85), (70, 13, some 84), (70, 12, some 83), (70, 11, some 82), (70, 10, some 81), (70, 9, some 80), (70, 8, some 79), (70, 7, some 78), (70, 6, some 77), (70, 5, some 76), (70, 4, some 75), (70, 3, some 74), (70, 2, some 73), (70, 1, some 72), (70, 0, some 71), (39, 3, some 59), (59, 12, some 68), (59, 10, some 67), (59, 9, some 66), (59, 7, some 65), (59, 5, some 64), (59, 4, some 63), (59, 3, some 62), (59, 2, some 61), (59, 1, some 60), (39, 2, some 40), (40, 1, some 58), (40, 0, some 41), (41, 15, some 57), (41, 14, some 56), (41, 13, some 55), (41, 12, some 54), (41, 11, some 53), (41, 10, some 52), (41, 9, some 51), (41, 8, some 50), (41, 7, some 49), (41, 6, some 48), (41, 5, some 47), (41, 4, some 46), (41, 3, some 45), (41, 2, some 44), (41, 1, some 43), (41, 0, some 42), (39, 1, some 37), (39, 0, some 3), (0, 5, some 37), (37, 1, some 38), (37, 0, some 1), (0, 4, some 26), (26, 4, some 36), (26, 3, some 35), (26, 2, some 34), (26, 1, some 33), (26, 0, some 27), (27, 5, some 32), (27, 4, some 31), (27, 3, some 30), (27, 2, some 29), (27, 1, some 28), (0, 3, some 24), (24, 0, some 25), (0, 2, some 14), (14, 12, some 23), (14, 10, some 22), (14, 9, some 21), (14, 7, some 20), (14, 5, some 19), (14, 4, some 18), (14, 3, some 17), (14, 2, some 16), (14, 1, some 15), (0, 1, some 13), (0, 0, some 3), (3, 12, some 12), (3, 10, some 11), (3, 9, some 10), (3, 7, some 9), (3, 5, some 8), (3, 4, some 7), (3, 3, some 6), (3, 2, some 5), (3, 1, some 4), (1, 0, some 2)])) := by
  refine Ct.of (by decide +kernel) (Nat.le_of_ble_eq_true rfl) ?_
  refine r_aload_n (pc := 0) 0 dX1_init_0 rfl ?_
  refine r_objInit (pc := 1) ml_X1_3 oi_2 oi_3 (Nat.le_of_ble_eq_true rfl) (Nat.le_of_ble_eq_true rfl) dX1_init_1 ?_
  refine r_aload_n (pc := 4) 0 dX1_init_4 rfl ?_
  refine r_aload_n (pc := 5) 1 dX1_init_5 rfl ?_
  refine b_putR (pc := 6) fp_X1_9 (Or.inl ⟨_, rfl⟩) (fun _ => rfl) ⟨by decide +kernel, by decide +kernel⟩ dX1_init_6 ?_
  refine r_aload_n (pc := 9) 0 dX1_init_9 rfl ?_
  refine r_aload_n (pc := 10) 2 dX1_init_10 rfl ?_
  refine b_putR (pc := 11) fp_X1_15 (Or.inl ⟨_, rfl⟩) (fun _ => rfl) ⟨by decide +kernel, by decide +kernel⟩ dX1_init_11 ?_
  refine r_aload_n (pc := 14) 0 dX1_init_14 rfl ?_
  refine b_new (pc := 15) (n1 := 41) nl_X1_19 ⟨by decide +kernel, by decide +kernel, by decide +kernel⟩ rfl (Nat.le_of_ble_eq_true rfl) (Nat.le_of_ble_eq_true rfl) dX1_init_15 ?_
  refine r_dup (pc := 18) dX1_init_18 rfl ?_
  refine r_callI (pc := 19) (As := []) mn_X4_init ml_X1_21 (c_X4_init (o := 40) ⟨by decide +kernel, by decide +kernel⟩ ⟨by decide +kernel, by decide +kernel, by decide +kernel⟩ haI) rfl rfl (Nat.le_of_ble_eq_true rfl) (Nat.le_of_ble_eq_true rfl) (Nat.le_of_ble_eq_true rfl) (Nat.le_of_ble_eq_true rfl) (Nat.le_of_ble_eq_true rfl) dX1_init_19 (fun r g hp => ?_)
  obtain ⟨rfl, rfl⟩ := hp
  show Wp E mX1_init _ _ _ _ [.ref (eZ E + 40), .ref (eZ E + 39)] (bL (eZ E) 59 [(58, 13, 16), (57, 13, 31), (56, 13, 31), (55, 13, 31), (54, 13, 31), (53, 13, 31), (52, 13, 31), (51, 13, 31), (50, 13, 31), (49, 13, 31), (48, 13, 31), (47, 13, 31), (46, 13, 31), (45, 13, 31), (44, 13, 31), (43, 13, 31), (42, 13, 31), (41, 18, 16), (40, 4, 0), (39, 1, 0), (38, 13, 8), (37, 0, 0), (36, 13, 401), (35, 13, 401), (34, 13, 401), (33, 13, 27), (32, 13, 400), (31, 13, 400), (30, 13, 37), (29, 13, 12), (28, 13, 12), (27, 10, 0), (26, 6, 0), (25, 13, 400), (24, 9, 0), (23, 17, 6), (22, 13, 3), (21, 13, 8), (20, 13, 3), (19, 13, 6), (18, 13, 6), (17, 13, 6), (16, 13, 6), (15, 13, 6), (14, 5, 0), (13, 16, 2), (12, 17, 6), (11, 13, 3), (10, 13, 8), (9, 13, 3), (8, 13, 6), (7, 13, 6), (6, 13, 6), (5, 13, 6), (4, 13, 6), (3, 5, 0), (2, 14, 50), (1, 7, 0), (0, 11, 0)] [(33, 0, nI (vocN 0)), (33, 1, nI (vocN 1)), (33, 2, nI (vocN 2)), (33, 3, nI (vocN 3)), (33, 4, nI (vocN 4)), (33, 5, nI (vocN 5)), (33, 6, nI (vocN 6)), (33, 7, nI (vocN 7)), (33, 8, nI (vocN 8)), (33, 9, nI (vocN 9)), (33, 10, nI (vocN 10)), (33, 11, nI (vocN 11)), (33, 12, nI (vocN 12)), (33, 13, nI (vocN 13)), (33, 14, nI (vocN 14)), (33, 15, nI (vocN 15)), (33, 16, nI (vocN 16)), (33, 17, nI (vocN 17)), (33, 18, nI (vocN 18)), (33, 19, nI (vocN 19)), (33, 20, nI (vocN 20)), (33, 21, nI (vocN 21)), (33, 22, nI (vocN 22)), (33, 23, nI (vocN 23)), (33, 24, nI (vocN 24)), (33, 25, nI (vocN 25)), (33, 26, nI (vocN 26)), (14, 13, (-1)), (22, 1, 1), (3, 13, (-1)), (11, 1, 1)] [] [(40, 1, some 58), (40, 0, some 41), (41, 15, some 57), (41, 14, some 56), (41, 13, some 55), (41, 12, some 54), (41, 11, some 53), (41, 10, some 52), (41, 9, some 51), (41, 8, some 50), (41, 7, some 49), (41, 6, some 48), (41, 5, some 47), (41, 4, some 46), (41, 3, some 45), (41, 2, some 44), (41, 1, some 43), (41, 0, some 42), (39, 1, some 37), (39, 0, some 3), (0, 5, some 37), (37, 1, some 38), (37, 0, some 1), (0, 4, some 26), (26, 4, some 36), (26, 3, some 35), (26, 2, some 34), (26, 1, some 33), (26, 0, some 27), (27, 5, some 32), (27, 4, some 31), (27, 3, some 30), (27, 2, some 29), (27, 1, some 28), (0, 3, some 24), (24, 0, some 25), (0, 2, some 14), (14, 12, some 23), (14, 10, some 22), (14, 9, some 21), (14, 7, some 20), (14, 5, some 19), (14, 4, some 18), (14, 3, some 17), (14, 2, some 16), (14, 1, some 15), (0, 1, some 13), (0, 0, some 3), (3, 12, some 12), (3, 10, some 11), (3, 9, some 10), (3, 7, some 9), (3, 5, some 8), (3, 4, some 7), (3, 3, some 6), (3, 2, some 5), (3, 1, some 4), (1, 0, some 2)]) _ _
  refine b_putR (pc := 22) fp_X1_22 (Or.inl ⟨_, rfl⟩) (fun _ => rfl) ⟨by decide +kernel, by decide +kernel⟩ dX1_init_22 ?_
  refine r_aload_n (pc := 25) 0 dX1_init_25 rfl ?_
  refine b_new (pc := 26) (n1 := 60) nl_X1_26 ⟨by decide +kernel, by decide +kernel, by decide +kernel⟩ rfl (Nat.le_of_ble_eq_true rfl) (Nat.le_of_ble_eq_true rfl) dX1_init_26 ?_
  refine r_dup (pc := 29) dX1_init_29 rfl ?_
  refine r_callI (pc := 30) (As := []) mn_X5_init ml_X1_28 (c_X5_init (o := 59) ⟨by decide +kernel, by decide +kernel⟩ ⟨by decide +kernel, by decide +kernel, by decide +kernel⟩ haT) rfl rfl (Nat.le_of_ble_eq_true rfl) (Nat.le_of_ble_eq_true rfl) (Nat.le_of_ble_eq_true rfl) (Nat.le_of_ble_eq_true rfl) (Nat.le_of_ble_eq_true rfl) dX1_init_30 (fun r g hp => ?_)
  obtain ⟨rfl, rfl⟩ := hp
  show Wp E mX1_init _ _ _ _ [.ref (eZ E + 59), .ref (eZ E + 39)] (bL (eZ E) 69 [(68, 17, 6), (67, 13, 3), (66, 13, 8), (65, 13, 3), (64, 13, 6), (63, 13, 6), (62, 13, 6), (61, 13, 6), (60, 13, 6), (59, 5, 0), (58, 13, 16), (57, 13, 31), (56, 13, 31), (55, 13, 31), (54, 13, 31), (53, 13, 31), (52, 13, 31), (51, 13, 31), (50, 13, 31), (49, 13, 31), (48, 13, 31), (47, 13, 31), (46, 13, 31), (45, 13, 31), (44, 13, 31), (43, 13, 31), (42, 13, 31), (41, 18, 16), (40, 4, 0), (39, 1, 0), (38, 13, 8), (37, 0, 0), (36, 13, 401), (35, 13, 401), (34, 13, 401), (33, 13, 27), (32, 13, 400), (31, 13, 400), (30, 13, 37), (29, 13, 12), (28, 13, 12), (27, 10, 0), (26, 6, 0), (25, 13, 400), (24, 9, 0), (23, 17, 6), (22, 13, 3), (21, 13, 8), (20, 13, 3), (19, 13, 6), (18, 13, 6), (17, 13, 6), (16, 13, 6), (15, 13, 6), (14, 5, 0), (13, 16, 2), (12, 17, 6), (11, 13, 3), (10, 13, 8), (9, 13, 3), (8, 13, 6), (7, 13, 6), (6, 13, 6), (5, 13, 6), (4, 13, 6), (3, 5, 0), (2, 14, 50), (1, 7, 0), (0, 11, 0)] [(59, 13, (-1)), (67, 1, 1), (33, 0, nI (vocN 0)), (33, 1, nI (vocN 1)), (33, 2, nI (vocN 2)), (33, 3, nI (vocN 3)), (33, 4, nI (vocN 4)), (33, 5, nI (vocN 5)), (33, 6, nI (vocN 6)), (33, 7, nI (vocN 7)), (33, 8, nI (vocN 8)), (33, 9, nI (vocN 9)), (33, 10, nI (vocN 10)), (33, 11, nI (vocN 11)), (33, 12, nI (vocN 12)), (33, 13, nI (vocN 13)), (33, 14, nI (vocN 14)), (33, 15, nI (vocN 15)), (33, 16, nI (vocN 16)), (33, 17, nI (vocN 17)), (33, 18, nI (vocN 18)), (33, 19, nI (vocN 19)), (33, 20, nI (vocN 20)), (33, 21, nI (vocN 21)), (33, 22, nI (vocN 22)), (33, 23, nI (vocN 23)), (33, 24, nI (vocN 24)), (33, 25, nI (vocN 25)), (33, 26, nI (vocN 26)), (14, 13, (-1)), (22, 1, 1), (3, 13, (-1)), (11, 1, 1)] [] [(59, 12, some 68), (59, 10, some 67), (59, 9, some 66), (59, 7, some 65), (59, 5, some 64), (59, 4, some 63), (59, 3, some 62), (59, 2, some 61), (59, 1, some 60), (39, 2, some 40), (40, 1, some 58), (40, 0, some 41), (41, 15, some 57), (41, 14, some 56), (41, 13, some 55), (41, 12, some 54), (41, 11, some 53), (41, 10, some 52), (41, 9, some 51), (41, 8, some 50), (41, 7, some 49), (41, 6, some 48), (41, 5, some 47), (41, 4, some 46), (41, 3, some 45), (41, 2, some 44), (41, 1, some 43), (41, 0, some 42), (39, 1, some 37), (39, 0, some 3), (0, 5, some 37), (37, 1, some 38), (37, 0, some 1), (0, 4, some 26), (26, 4, some 36), (26, 3, some 35), (26, 2, some 34), (26, 1, some 33), (26, 0, some 27), (27, 5, some 32), (27, 4, some 31), (27, 3, some 30), (27, 2, some 29), (27, 1, some 28), (0, 3, some 24), (24, 0, some 25), (0, 2, some 14), (14, 12, some 23), (14, 10, some 22), (14, 9, some 21), (14, 7, some 20), (14, 5, some 19), (14, 4, some 18), (14, 3, some 17), (14, 2, some 16), (14, 1, some 15), (0, 1, some 13), (0, 0, some 3), (3, 12, some 12), (3, 10, some 11), (3, 9, some 10), (3, 7, some 9), (3, 5, some 8), (3, 4, some 7), (3, 3, some 6), (3, 2, some 5), (3, 1, some 4), (1, 0, some 2)]) _ _
  refine b_putR (pc := 33) fp_X1_29 (Or.inl ⟨_, rfl⟩) (fun _ => rfl) ⟨by decide +kernel, by decide +kernel⟩ dX1_init_33 ?_
  refine r_aload_n (pc := 36) 0 dX1_init_36 rfl ?_
  refine b_new (pc := 37) (n1 := 70) nl_X1_19 ⟨by decide +kernel, by decide +kernel, by decide +kernel⟩ rfl (Nat.le_of_ble_eq_true rfl) (Nat.le_of_ble_eq_true rfl) dX1_init_37 ?_
  refine r_dup (pc := 40) dX1_init_40 rfl ?_
  refine r_callI (pc := 41) (As := []) mn_X4_init ml_X1_21 (c_X4_init (o := 69) ⟨by decide +kernel, by decide +kernel⟩ ⟨by decide +kernel, by decide +kernel, by decide +kernel⟩ haI) rfl rfl (Nat.le_of_ble_eq_true rfl) (Nat.le_of_ble_eq_true rfl) (Nat.le_of_ble_eq_true rfl) (Nat.le_of_ble_eq_true rfl) (Nat.le_of_ble_eq_true rfl) dX1_init_41 (fun r g hp => ?_)
  obtain ⟨rfl, rfl⟩ := hp
  show Wp E mX1_init _ _ _ _ [.ref (eZ E + 69), .ref (eZ E + 39)] (bL (eZ E) 88 [(87, 13, 16), (86, 13, 31), (85, 13, 31), (84, 13, 31), (83, 13, 31), (82, 13, 31), (81, 13, 31), (80, 13, 31), (79, 13, 31), (78, 13, 31), (77, 13, 31), (76, 13, 31), (75, 13, 31), (74, 13, 31), (73, 13, 31), (72, 13, 31), (71, 13, 31), (70, 18, 16), (69, 4, 0), (68, 17, 6), (67, 13, 3), (66, 13, 8), (65, 13, 3), (64, 13, 6), (63, 13, 6), (62, 13, 6), (61, 13, 6), (60, 13, 6), (59, 5, 0), (58, 13, 16), (57, 13, 31), (56, 13, 31), (55, 13, 31), (54, 13, 31), (53, 13, 31), (52, 13, 31), (51, 13, 31), (50, 13, 31), (49, 13, 31), (48, 13, 31), (47, 13, 31), (46, 13, 31), (45, 13, 31), (44, 13, 31), (43, 13, 31), (42, 13, 31), (41, 18, 16), (40, 4, 0), (39, 1, 0), (38, 13, 8), (37, 0, 0), (36, 13, 401), (35, 13, 401), (34, 13, 401), (33, 13, 27), (32, 13, 400), (31, 13, 400), (30, 13, 37), (29, 13, 12), (28, 13, 12), (27, 10, 0), (26, 6, 0), (25, 13, 400), (24, 9, 0), (23, 17, 6), (22, 13, 3), (21, 13, 8), (20, 13, 3), (19, 13, 6), (18, 13, 6), (17, 13, 6), (16, 13, 6), (15, 13, 6), (14, 5, 0), (13, 16, 2), (12, 17, 6), (11, 13, 3), (10, 13, 8), (9, 13, 3), (8, 13, 6), (7, 13, 6), (6, 13, 6), (5, 13, 6), (4, 13, 6), (3, 5, 0), (2, 14, 50), (1, 7, 0), (0, 11, 0)] [(59, 13, (-1)), (67, 1, 1), (33, 0, nI (vocN 0)), (33, 1, nI (vocN 1)), (33, 2, nI (vocN 2)), (33, 3, nI (vocN 3)), (33, 4, nI (vocN 4)), (33, 5, nI (vocN 5)), (33, 6, nI (vocN 6)), (33, 7, nI (vocN 7)), (33, 8, nI (vocN 8)), (33, 9, nI (vocN 9)), (33, 10, nI (vocN 10)), (33, 11, nI (vocN 11)), (33, 12, nI (vocN 12)), (33, 13, nI (vocN 13)), (33, 14, nI (vocN 14)), (33, 15, nI (vocN 15)), (33, 16, nI (vocN 16)), (33, 17, nI (vocN 17)), (33, 18, nI (vocN 18)), (33, 19, nI (vocN 19)), (33, 20, nI (vocN 20)), (33, 21, nI (vocN 21)), (33, 22, nI (vocN 22)), (33, 23, nI (vocN 23)), (33, 24, nI (vocN 24)), (33, 25, nI (vocN 25)), (33, 26, nI (vocN 26)), (14, 13, (-1)), (22, 1, 1), (3, 13, (-1)), (11, 1, 1)] [] [(69, 1, some 87), (69, 0, some 70), (70, 15, some 86), (70, 14, some 85), (70, 13, some 84), (70, 12, some 83), (70, 11, some 82), (70, 10, some 81), (70, 9, some 80), (70, 8, some 79), (70, 7, some 78), (70, 6, some 77), (70, 5, some 76), (70, 4, some 75), (70, 3, some 74), (70, 2, some 73), (70, 1, some 72), (70, 0, some 71), (39, 3, some 59), (59, 12, some 68), (59, 10, some 67), (59, 9, some 66), (59, 7, some 65), (59, 5, some 64), (59, 4, some 63), (59, 3, some 62), (59, 2, some 61), (59, 1, some 60), (39, 2, some 40), (40, 1, some 58), (40, 0, some 41), (41, 15, some 57), (41, 14, some 56), (41, 13, some 55), (41, 12, some 54), (41, 11, some 53), (41, 10, some 52), (41, 9, some 51), (41, 8, some 50), (41, 7, some 49), (41, 6, some 48), (41, 5, some 47), (41, 4, some 46), (41, 3, some 45), (41, 2, some 44), (41, 1, some 43), (41, 0, some 42), (39, 1, some 37), (39, 0, some 3), (0, 5, some 37), (37, 1, some 38), (37, 0, some 1), (0, 4, some 26), (26, 4, some 36), (26, 3, some 35), (26, 2, some 34), (26, 1, some 33), (26, 0, some 27), (27, 5, some 32), (27, 4, some 31), (27, 3, some 30), (27, 2, some 29), (27, 1, some 28), (0, 3, some 24), (24, 0, some 25), (0, 2, some 14), (14, 12, some 23), (14, 10, some 22), (14, 9, some 21), (14, 7, some 20), (14, 5, some 19), (14, 4, some 18), (14, 3, some 17), (14, 2, some 16), (14, 1, some 15), (0, 1, some 13), (0, 0, some 3), (3, 12, some 12), (3, 10, some 11), (3, 9, some 10), (3, 7, some 9), (3, 5, some 8), (3, 4, some 7), (3, 3, some 6), (3, 2, some 5), (3, 1, some 4), (1, 0, some 2)]) _ _
  refine b_putR (pc := 44) fp_X1_32 (Or.inl ⟨_, rfl⟩) (fun _ => rfl) ⟨by decide +kernel, by decide +kernel⟩ dX1_init_44 ?_
  refine r_vret (pc := 47) rfl ?_ (Nat.le_of_ble_eq_true rfl) (Nat.le_of_ble_eq_true rfl) dX1_init_47
  exact ⟨rfl, rfl⟩
theorem c_X11_init {q w : Nat} {v : Value} (haT : AoK E "NineLives$Text") (haP : AoK E "NineLives$Port") (haI : AoI E) (hTx : TxK E q w) (hCo : CoK E) (hFo : FoK E v) : Ct E 6 101 9326 mX11_init [.ref (eZ E + 0)] (bL (eZ E) 1 [(0, 11, 0)] [] [] []) (po none (bL (eZ E) 102 [(101, 13, 7), (100, 13, 512), (99, 13, 72), (98, 13, 10), (97, 13, 60), (96, 8, 0), (95, 14, 10), (94, 13, 9), (93, 13, 81), (92, 13, 81), (91, 14, 4608), (90, 2, 0), (89, 13, 19), (88, 3, 0), (87, 13, 16), (86, 13, 31), (85, 13, 31), (84, 13, 31), (83, 13, 31), (82, 13, 31), (81, 13, 31), (80, 13, 31), (79, 13, 31), (78, 13, 31), (77, 13, 31), (76, 13, 31), (75, 13, 31), (74, 13, 31), (73, 13, 31), (72, 13, 31), (71, 13, 31), (70, 18, 16), (69, 4, 0), (68, 17, 6), (67, 13, 3), (66, 13, 8), (65, 13, 3), (64, 13, 6), (63, 13, 6), (62, 13, 6), (61, 13, 6), (60, 13, 6), (59, 5, 0), (58, 13, 16), (57, 13, 31), (56, 13, 31), (55, 13, 31), (54, 13, 31), (53, 13, 31), (52, 13, 31), (51, 13, 31), (50, 13, 31), (49, 13, 31), (48, 13, 31), (47, 13, 31), (46, 13, 31), (45, 13, 31), (44, 13, 31), (43, 13, 31), (42, 13, 31), (41, 18, 16), (40, 4, 0), (39, 1, 0), (38, 13, 8), (37, 0, 0), (36, 13, 401), (35, 13, 401), (34, 13, 401), (33, 13, 27), (32, 13, 400), (31, 13, 400), (30, 13, 37), (29, 13, 12), (28, 13, 12), (27, 10, 0), (26, 6, 0), (25, 13, 400), (24, 9, 0), (23, 17, 6), (22, 13, 3), (21, 13, 8), (20, 13, 3), (19, 13, 6), (18, 13, 6), (17, 13, 6), (16, 13, 6), (15, 13, 6), (14, 5, 0), (13, 16, 2), (12, 17, 6), (11, 13, 3), (10, 13, 8), (9, 13, 3), (8, 13, 6), (7, 13, 6), (6, 13, 6), (5, 13, 6), (4, 13, 6), (3, 5, 0), (2, 14, 50), (1, 7, 0), (0, 11, 0)] [(0, 14, 0), (0, 13, (-1)), (0, 12, (-1)), (0, 11, 0), (88, 5, (-1)), (59, 13, (-1)), (67, 1, 1), (33, 0, nI (vocN 0)), (33, 1, nI (vocN 1)), (33, 2, nI (vocN 2)), (33, 3, nI (vocN 3)), (33, 4, nI (vocN 4)), (33, 5, nI (vocN 5)), (33, 6, nI (vocN 6)), (33, 7, nI (vocN 7)), (33, 8, nI (vocN 8)), (33, 9, nI (vocN 9)), (33, 10, nI (vocN 10)), (33, 11, nI (vocN 11)), (33, 12, nI (vocN 12)), (33, 13, nI (vocN 13)), (33, 14, nI (vocN 14)), (33, 15, nI (vocN 15)), (33, 16, nI (vocN 16)), (33, 17, nI (vocN 17)), (33, 18, nI (vocN 18)), (33, 19, nI (vocN 19)), (33, 20, nI (vocN 20)), (33, 21, nI (vocN 21)), (33, 22, nI (vocN 22)), (33, 23, nI (vocN 23)), (33, 24, nI (vocN 24)), (33, 25, nI (vocN 25)), (33, 26, nI (vocN 26)), (14, 13, (-1)), (22, 1, 1), (3, 13, (-1)), (11, 1, 1)] [] [(0, 10, some 101), (0, 9, some 96), (96, 4, some 100), (96, 3, some 99), (96, 2, some 98), (96, 1, some 97), (96, 0, some 37), (0, 8, some 90), (90, 5, some 95), (90, 4, some 94), (90, 3, some 93), (90, 2, some 92), (90, 1, some 91), (90, 0, some 37), (0, 7, some 88), (88, 2, some 89), (88, 1, some 1), (88, 0, some 39), (0, 6, some 39), (39, 4, some 69), (69, 1, some 87), (69, 0, some 70), (70, 15, some 86), (70, 14, some 85), (70, 13, some 84), (70, 12, some 83), (70, 11, some 82), (70, 10, some 81), (70, 9, some 80), (70, 8, some 79), (70, 7, some 78), (70, 6, some 77), (70, 5, some 76), (70, 4, some 75), (70, 3, some 74), (70, 2, some 73), (70, 1, some 72), (70, 0, some 71), (39, 3, some 59), (59, 12, some 68), (59, 10, some 67), (59, 9, some 66), (59, 7, some 65), (59, 5, some 64), (59, 4, some 63), (59, 3, some 62), (59, 2, some 61), (59, 1, some 60), (39, 2, some 40), (40, 1, some 58), (40, 0, some 41), (41, 15, some 57), (41, 14, some 56), (41, 13, some 55), (41, 12, some 54), (41, 11, some 53), (41, 10, some 52), (41, 9, some 51), (41, 8, some 50), (41, 7, some 49), (41, 6, some 48), (41, 5, some 47), (41, 4, some 46), (41, 3, some 45), (41, 2, some 44), (41, 1, some 43), (41, 0, some 42), (39, 1, some 37), (39, 0, some 3), (0, 5, some 37), (37, 1, some 38), (37, 0, some 1), (0, 4, some 26), (26, 4, some 36), (26, 3, some 35), (26, 2, some 34), (26, 1, some 33), (26, 0, some 27), (27, 5, some 32), (27, 4, some 31), (27, 3, some 30), (27, 2, some 29), (27, 1, some 28), (0, 3, some 24), (24, 0, some 25), (0, 2, some 14), (14, 12, some 23), (14, 10, some 22), (14, 9, some 21), (14, 7, some 20), (14, 5, some 19), (14, 4, some 18), (14, 3, some 17), (14, 2, some 16), (14, 1, some 15), (0, 1, some 13), (0, 0, some 3), (3, 12, some 12), (3, 10, some 11), (3, 9, some 10), (3, 7, some 9), (3, 5, some 8), (3, 4, some 7), (3, 3, some 6), (3, 2, some 5), (3, 1, some 4), (1, 0, some 2)])) := by
  refine Ct.of (by decide +kernel) (Nat.le_of_ble_eq_true rfl) ?_
  refine r_aload_n (pc := 0) 0 dX11_init_0 rfl ?_
  refine r_objInit (pc := 1) ml_X11_3 oi_2 oi_3 (Nat.le_of_ble_eq_true rfl) (Nat.le_of_ble_eq_true rfl) dX11_init_1 ?_
  refine b_new (pc := 4) (n1 := 2) nl_X11_9 ⟨by decide +kernel, by decide +kernel, by decide +kernel⟩ rfl (Nat.le_of_ble_eq_true rfl) (Nat.le_of_ble_eq_true rfl) dX11_init_4 ?_
  refine r_dup (pc := 7) dX11_init_7 rfl ?_
  refine r_callI (pc := 8) (As := []) mn_X7_init ml_X11_11 (c_X7_init (o := 1) ⟨by decide +kernel, by decide +kernel⟩ ⟨by decide +kernel, by decide +kernel, by decide +kernel⟩) rfl rfl (Nat.le_of_ble_eq_true rfl) (Nat.le_of_ble_eq_true rfl) (Nat.le_of_ble_eq_true rfl) (Nat.le_of_ble_eq_true rfl) (Nat.le_of_ble_eq_true rfl) dX11_init_8 (fun r g hp => ?_)
  obtain ⟨rfl, rfl⟩ := hp
  show Wp E mX11_init _ _ _ _ [.ref (eZ E + 1)] (bL (eZ E) 3 [(2, 14, 50), (1, 7, 0), (0, 11, 0)] [] [] [(1, 0, some 2)]) _ _
  refine r_astore_n (pc := 11) (lv' := [(0, _), (1, _)]) dX11_init_11 (Nat.le_of_ble_eq_true rfl) rfl ?_
  refine r_aload_n (pc := 12) 0 dX11_init_12 rfl ?_
  refine b_new (pc := 13) (n1 := 4) nl_X11_12 ⟨by decide +kernel, by decide +kernel, by decide +kernel⟩ rfl (Nat.le_of_ble_eq_true rfl) (Nat.le_of_ble_eq_true rfl) dX11_init_13 ?_
  refine r_dup (pc := 16) dX11_init_16 rfl ?_
  refine r_callI (pc := 17) (As := []) mn_X5_init ml_X11_14 (c_X5_init (o := 3) ⟨by decide +kernel, by decide +kernel⟩ ⟨by decide +kernel, by decide +kernel, by decide +kernel⟩ haT) rfl rfl (Nat.le_of_ble_eq_true rfl) (Nat.le_of_ble_eq_true rfl) (Nat.le_of_ble_eq_true rfl) (Nat.le_of_ble_eq_true rfl) (Nat.le_of_ble_eq_true rfl) dX11_init_17 (fun r g hp => ?_)
  obtain ⟨rfl, rfl⟩ := hp
  show Wp E mX11_init _ _ _ _ [.ref (eZ E + 3), .ref (eZ E + 0)] (bL (eZ E) 13 [(12, 17, 6), (11, 13, 3), (10, 13, 8), (9, 13, 3), (8, 13, 6), (7, 13, 6), (6, 13, 6), (5, 13, 6), (4, 13, 6), (3, 5, 0), (2, 14, 50), (1, 7, 0), (0, 11, 0)] [(3, 13, (-1)), (11, 1, 1)] [] [(3, 12, some 12), (3, 10, some 11), (3, 9, some 10), (3, 7, some 9), (3, 5, some 8), (3, 4, some 7), (3, 3, some 6), (3, 2, some 5), (3, 1, some 4), (1, 0, some 2)]) _ _
  refine b_putR (pc := 20) fp_X11_15 (Or.inl ⟨_, rfl⟩) (fun _ => rfl) ⟨by decide +kernel, by decide +kernel⟩ dX11_init_20 ?_
  refine r_aload_n (pc := 23) 0 dX11_init_23 rfl ?_
  refine r_iconst (pc := 24) (2) dX11_init_24 rfl ?_
  refine b_anw (pc := 25) (N := 2) (n1 := 14) (Or.inl ⟨rfl, rfl⟩) haP ck_X11_12 rfl (by omega) ⟨by decide +kernel, by decide +kernel, by decide +kernel⟩ rfl (Nat.le_of_ble_eq_true rfl) (Nat.le_of_ble_eq_true rfl) dX11_init_25 ?_
  refine b_putR (pc := 28) fp_X11_21 (Or.inr ⟨_, rfl⟩) (fun _ => rfl) ⟨by decide +kernel, by decide +kernel⟩ dX11_init_28 ?_
  refine r_aload_n (pc := 31) 0 dX11_init_31 rfl ?_
  refine b_new (pc := 32) (n1 := 15) nl_X11_12 ⟨by decide +kernel, by decide +kernel, by decide +kernel⟩ rfl (Nat.le_of_ble_eq_true rfl) (Nat.le_of_ble_eq_true rfl) dX11_init_32 ?_
  refine r_dup (pc := 35) dX11_init_35 rfl ?_
  refine r_callI (pc := 36) (As := []) mn_X5_init ml_X11_14 (c_X5_init (o := 14) ⟨by decide +kernel, by decide +kernel⟩ ⟨by decide +kernel, by decide +kernel, by decide +kernel⟩ haT) rfl rfl (Nat.le_of_ble_eq_true rfl) (Nat.le_of_ble_eq_true rfl) (Nat.le_of_ble_eq_true rfl) (Nat.le_of_ble_eq_true rfl) (Nat.le_of_ble_eq_true rfl) dX11_init_36 (fun r g hp => ?_)
  obtain ⟨rfl, rfl⟩ := hp
  show Wp E mX11_init _ _ _ _ [.ref (eZ E + 14), .ref (eZ E + 0)] (bL (eZ E) 24 [(23, 17, 6), (22, 13, 3), (21, 13, 8), (20, 13, 3), (19, 13, 6), (18, 13, 6), (17, 13, 6), (16, 13, 6), (15, 13, 6), (14, 5, 0), (13, 16, 2), (12, 17, 6), (11, 13, 3), (10, 13, 8), (9, 13, 3), (8, 13, 6), (7, 13, 6), (6, 13, 6), (5, 13, 6), (4, 13, 6), (3, 5, 0), (2, 14, 50), (1, 7, 0), (0, 11, 0)] [(14, 13, (-1)), (22, 1, 1), (3, 13, (-1)), (11, 1, 1)] [] [(14, 12, some 23), (14, 10, some 22), (14, 9, some 21), (14, 7, some 20), (14, 5, some 19), (14, 4, some 18), (14, 3, some 17), (14, 2, some 16), (14, 1, some 15), (0, 1, some 13), (0, 0, some 3), (3, 12, some 12), (3, 10, some 11), (3, 9, some 10), (3, 7, some 9), (3, 5, some 8), (3, 4, some 7), (3, 3, some 6), (3, 2, some 5), (3, 1, some 4), (1, 0, some 2)]) _ _
  refine b_putR (pc := 39) fp_X11_25 (Or.inl ⟨_, rfl⟩) (fun _ => rfl) ⟨by decide +kernel, by decide +kernel⟩ dX11_init_39 ?_
  refine r_aload_n (pc := 42) 0 dX11_init_42 rfl ?_
  refine b_new (pc := 43) (n1 := 25) nl_X11_28 ⟨by decide +kernel, by decide +kernel, by decide +kernel⟩ rfl (Nat.le_of_ble_eq_true rfl) (Nat.le_of_ble_eq_true rfl) dX11_init_43 ?_
  refine r_dup (pc := 46) dX11_init_46 rfl ?_
  refine r_callI (pc := 47) (As := []) mn_X9_init ml_X11_30 (c_X9_init (o := 24) ⟨by decide +kernel, by decide +kernel⟩ ⟨by decide +kernel, by decide +kernel, by decide +kernel⟩) rfl rfl (Nat.le_of_ble_eq_true rfl) (Nat.le_of_ble_eq_true rfl) (Nat.le_of_ble_eq_true rfl) (Nat.le_of_ble_eq_true rfl) (Nat.le_of_ble_eq_true rfl) dX11_init_47 (fun r g hp => ?_)
  obtain ⟨rfl, rfl⟩ := hp
  show Wp E mX11_init _ _ _ _ [.ref (eZ E + 24), .ref (eZ E + 0)] (bL (eZ E) 26 [(25, 13, 400), (24, 9, 0), (23, 17, 6), (22, 13, 3), (21, 13, 8), (20, 13, 3), (19, 13, 6), (18, 13, 6), (17, 13, 6), (16, 13, 6), (15, 13, 6), (14, 5, 0), (13, 16, 2), (12, 17, 6), (11, 13, 3), (10, 13, 8), (9, 13, 3), (8, 13, 6), (7, 13, 6), (6, 13, 6), (5, 13, 6), (4, 13, 6), (3, 5, 0), (2, 14, 50), (1, 7, 0), (0, 11, 0)] [(14, 13, (-1)), (22, 1, 1), (3, 13, (-1)), (11, 1, 1)] [] [(24, 0, some 25), (0, 2, some 14), (14, 12, some 23), (14, 10, some 22), (14, 9, some 21), (14, 7, some 20), (14, 5, some 19), (14, 4, some 18), (14, 3, some 17), (14, 2, some 16), (14, 1, some 15), (0, 1, some 13), (0, 0, some 3), (3, 12, some 12), (3, 10, some 11), (3, 9, some 10), (3, 7, some 9), (3, 5, some 8), (3, 4, some 7), (3, 3, some 6), (3, 2, some 5), (3, 1, some 4), (1, 0, some 2)]) _ _
  refine b_putR (pc := 50) fp_X11_31 (Or.inl ⟨_, rfl⟩) (fun _ => rfl) ⟨by decide +kernel, by decide +kernel⟩ dX11_init_50 ?_
  refine r_aload_n (pc := 53) 0 dX11_init_53 rfl ?_
  refine b_new (pc := 54) (n1 := 27) nl_X11_35 ⟨by decide +kernel, by decide +kernel, by decide +kernel⟩ rfl (Nat.le_of_ble_eq_true rfl) (Nat.le_of_ble_eq_true rfl) dX11_init_54 ?_
  refine r_dup (pc := 57) dX11_init_57 rfl ?_
  refine r_callI (pc := 58) (As := []) mn_X6_init ml_X11_37 (c_X6_init hTx hCo hFo) rfl rfl (Nat.le_of_ble_eq_true rfl) (Nat.le_of_ble_eq_true rfl) (Nat.le_of_ble_eq_true rfl) (Nat.le_of_ble_eq_true rfl) (Nat.le_of_ble_eq_true rfl) dX11_init_58 (fun r g hp => ?_)
  obtain ⟨rfl, rfl⟩ := hp
  show Wp E mX11_init _ _ _ _ [.ref (eZ E + 26), .ref (eZ E + 0)] (bL (eZ E) 37 [(36, 13, 401), (35, 13, 401), (34, 13, 401), (33, 13, 27), (32, 13, 400), (31, 13, 400), (30, 13, 37), (29, 13, 12), (28, 13, 12), (27, 10, 0), (26, 6, 0), (25, 13, 400), (24, 9, 0), (23, 17, 6), (22, 13, 3), (21, 13, 8), (20, 13, 3), (19, 13, 6), (18, 13, 6), (17, 13, 6), (16, 13, 6), (15, 13, 6), (14, 5, 0), (13, 16, 2), (12, 17, 6), (11, 13, 3), (10, 13, 8), (9, 13, 3), (8, 13, 6), (7, 13, 6), (6, 13, 6), (5, 13, 6), (4, 13, 6), (3, 5, 0), (2, 14, 50), (1, 7, 0), (0, 11, 0)] [(33, 0, nI (vocN 0)), (33, 1, nI (vocN 1)), (33, 2, nI (vocN 2)), (33, 3, nI (vocN 3)), (33, 4, nI (vocN 4)), (33, 5, nI (vocN 5)), (33, 6, nI (vocN 6)), (33, 7, nI (vocN 7)), (33, 8, nI (vocN 8)), (33, 9, nI (vocN 9)), (33, 10, nI (vocN 10)), (33, 11, nI (vocN 11)), (33, 12, nI (vocN 12)), (33, 13, nI (vocN 13)), (33, 14, nI (vocN 14)), (33, 15, nI (vocN 15)), (33, 16, nI (vocN 16)), (33, 17, nI (vocN 17)), (33, 18, nI (vocN 18)), (33, 19, nI (vocN 19)), (33, 20, nI (vocN 20)), (33, 21, nI (vocN 21)), (33, 22, nI (vocN 22)), (33, 23, nI (vocN 23)), (33, 24, nI (vocN 24)), (33, 25, nI (vocN 25)), (33, 26, nI (vocN 26)), (14, 13, (-1)), (22, 1, 1), (3, 13, (-1)), (11, 1, 1)] [] [(26, 4, some 36), (26, 3, some 35), (26, 2, some 34), (26, 1, some 33), (26, 0, some 27), (27, 5, some 32), (27, 4, some 31), (27, 3, some 30), (27, 2, some 29), (27, 1, some 28), (0, 3, some 24), (24, 0, some 25), (0, 2, some 14), (14, 12, some 23), (14, 10, some 22), (14, 9, some 21), (14, 7, some 20), (14, 5, some 19), (14, 4, some 18), (14, 3, some 17), (14, 2, some 16), (14, 1, some 15), (0, 1, some 13), (0, 0, some 3), (3, 12, some 12), (3, 10, some 11), (3, 9, some 10), (3, 7, some 9), (3, 5, some 8), (3, 4, some 7), (3, 3, some 6), (3, 2, some 5), (3, 1, some 4), (1, 0, some 2)]) _ _
  refine b_putR (pc := 61) fp_X11_38 (Or.inl ⟨_, rfl⟩) (fun _ => rfl) ⟨by decide +kernel, by decide +kernel⟩ dX11_init_61 ?_
  refine r_aload_n (pc := 64) 0 dX11_init_64 rfl ?_
  refine b_new (pc := 65) (n1 := 38) nl_X11_42 ⟨by decide +kernel, by decide +kernel, by decide +kernel⟩ rfl (Nat.le_of_ble_eq_true rfl) (Nat.le_of_ble_eq_true rfl) dX11_init_65 ?_
  refine r_dup (pc := 68) dX11_init_68 rfl ?_
  refine r_aload_n (pc := 69) 1 dX11_init_69 rfl ?_
  refine r_callI (pc := 70) (As := [_]) mn_X0_init ml_X11_44 (c_X0_init (o := 37) ⟨by decide +kernel, by decide +kernel⟩ ⟨by decide +kernel, by decide +kernel, by decide +kernel⟩) rfl rfl (Nat.le_of_ble_eq_true rfl) (Nat.le_of_ble_eq_true rfl) (Nat.le_of_ble_eq_true rfl) (Nat.le_of_ble_eq_true rfl) (Nat.le_of_ble_eq_true rfl) dX11_init_70 (fun r g hp => ?_)
  obtain ⟨rfl, rfl⟩ := hp
  show Wp E mX11_init _ _ _ _ [.ref (eZ E + 37), .ref (eZ E + 0)] (bL (eZ E) 39 [(38, 13, 8), (37, 0, 0), (36, 13, 401), (35, 13, 401), (34, 13, 401), (33, 13, 27), (32, 13, 400), (31, 13, 400), (30, 13, 37), (29, 13, 12), (28, 13, 12), (27, 10, 0), (26, 6, 0), (25, 13, 400), (24, 9, 0), (23, 17, 6), (22, 13, 3), (21, 13, 8), (20, 13, 3), (19, 13, 6), (18, 13, 6), (17, 13, 6), (16, 13, 6), (15, 13, 6), (14, 5, 0), (13, 16, 2), (12, 17, 6), (11, 13, 3), (10, 13, 8), (9, 13, 3), (8, 13, 6), (7, 13, 6), (6, 13, 6), (5, 13, 6), (4, 13, 6), (3, 5, 0), (2, 14, 50), (1, 7, 0), (0, 11, 0)] [(33, 0, nI (vocN 0)), (33, 1, nI (vocN 1)), (33, 2, nI (vocN 2)), (33, 3, nI (vocN 3)), (33, 4, nI (vocN 4)), (33, 5, nI (vocN 5)), (33, 6, nI (vocN 6)), (33, 7, nI (vocN 7)), (33, 8, nI (vocN 8)), (33, 9, nI (vocN 9)), (33, 10, nI (vocN 10)), (33, 11, nI (vocN 11)), (33, 12, nI (vocN 12)), (33, 13, nI (vocN 13)), (33, 14, nI (vocN 14)), (33, 15, nI (vocN 15)), (33, 16, nI (vocN 16)), (33, 17, nI (vocN 17)), (33, 18, nI (vocN 18)), (33, 19, nI (vocN 19)), (33, 20, nI (vocN 20)), (33, 21, nI (vocN 21)), (33, 22, nI (vocN 22)), (33, 23, nI (vocN 23)), (33, 24, nI (vocN 24)), (33, 25, nI (vocN 25)), (33, 26, nI (vocN 26)), (14, 13, (-1)), (22, 1, 1), (3, 13, (-1)), (11, 1, 1)] [] [(37, 1, some 38), (37, 0, some 1), (0, 4, some 26), (26, 4, some 36), (26, 3, some 35), (26, 2, some 34), (26, 1, some 33), (26, 0, some 27), (27, 5, some 32), (27, 4, some 31), (27, 3, some 30), (27, 2, some 29), (27, 1, some 28), (0, 3, some 24), (24, 0, some 25), (0, 2, some 14), (14, 12, some 23), (14, 10, some 22), (14, 9, some 21), (14, 7, some 20), (14, 5, some 19), (14, 4, some 18), (14, 3, some 17), (14, 2, some 16), (14, 1, some 15), (0, 1, some 13), (0, 0, some 3), (3, 12, some 12), (3, 10, some 11), (3, 9, some 10), (3, 7, some 9), (3, 5, some 8), (3, 4, some 7), (3, 3, some 6), (3, 2, some 5), (3, 1, some 4), (1, 0, some 2)]) _ _
  refine b_putR (pc := 73) fp_X11_47 (Or.inl ⟨_, rfl⟩) (fun _ => rfl) ⟨by decide +kernel, by decide +kernel⟩ dX11_init_73 ?_
  refine r_aload_n (pc := 76) 0 dX11_init_76 rfl ?_
  refine b_new (pc := 77) (n1 := 40) nl_X11_51 ⟨by decide +kernel, by decide +kernel, by decide +kernel⟩ rfl (Nat.le_of_ble_eq_true rfl) (Nat.le_of_ble_eq_true rfl) dX11_init_77 ?_
  refine r_dup (pc := 80) dX11_init_80 rfl ?_
  refine r_aload_n (pc := 81) 0 dX11_init_81 rfl ?_
  refine b_getR (pc := 82) (t := 3) fl_X11_15 ⟨by decide +kernel, by decide +kernel⟩ (by decide +kernel) dX11_init_82 ?_
  refine r_aload_n (pc := 85) 0 dX11_init_85 rfl ?_
  refine b_getR (pc := 86) (t := 37) fl_X11_47 ⟨by decide +kernel, by decide +kernel⟩ (by decide +kernel) dX11_init_86 ?_
  refine r_callI (pc := 89) (As := [_, _]) mn_X1_init ml_X11_53 (c_X1_init haT haI) rfl rfl (Nat.le_of_ble_eq_true rfl) (Nat.le_of_ble_eq_true rfl) (Nat.le_of_ble_eq_true rfl) (Nat.le_of_ble_eq_true rfl) (Nat.le_of_ble_eq_true rfl) dX11_init_89 (fun r g hp => ?_)
  obtain ⟨rfl, rfl⟩ := hp
  show Wp E mX11_init _ _ _ _ [.ref (eZ E + 39), .ref (eZ E + 0)] (bL (eZ E) 88 [(87, 13, 16), (86, 13, 31), (85, 13, 31), (84, 13, 31), (83, 13, 31), (82, 13, 31), (81, 13, 31), (80, 13, 31), (79, 13, 31), (78, 13, 31), (77, 13, 31), (76, 13, 31), (75, 13, 31), (74, 13, 31), (73, 13, 31), (72, 13, 31), (71, 13, 31), (70, 18, 16), (69, 4, 0), (68, 17, 6), (67, 13, 3), (66, 13, 8), (65, 13, 3), (64, 13, 6), (63, 13, 6), (62, 13, 6), (61, 13, 6), (60, 13, 6), (59, 5, 0), (58, 13, 16), (57, 13, 31), (56, 13, 31), (55, 13, 31), (54, 13, 31), (53, 13, 31), (52, 13, 31), (51, 13, 31), (50, 13, 31), (49, 13, 31), (48, 13, 31), (47, 13, 31), (46, 13, 31), (45, 13, 31), (44, 13, 31), (43, 13, 31), (42, 13, 31), (41, 18, 16), (40, 4, 0), (39, 1, 0), (38, 13, 8), (37, 0, 0), (36, 13, 401), (35, 13, 401), (34, 13, 401), (33, 13, 27), (32, 13, 400), (31, 13, 400), (30, 13, 37), (29, 13, 12), (28, 13, 12), (27, 10, 0), (26, 6, 0), (25, 13, 400), (24, 9, 0), (23, 17, 6), (22, 13, 3), (21, 13, 8), (20, 13, 3), (19, 13, 6), (18, 13, 6), (17, 13, 6), (16, 13, 6), (15, 13, 6), (14, 5, 0), (13, 16, 2), (12, 17, 6), (11, 13, 3), (10, 13, 8), (9, 13, 3), (8, 13, 6), (7, 13, 6), (6, 13, 6), (5, 13, 6), (4, 13, 6), (3, 5, 0), (2, 14, 50), (1, 7, 0), (0, 11, 0)] [(59, 13, (-1)), (67, 1, 1), (33, 0, nI (vocN 0)), (33, 1, nI (vocN 1)), (33, 2, nI (vocN 2)), (33, 3, nI (vocN 3)), (33, 4, nI (vocN 4)), (33, 5, nI (vocN 5)), (33, 6, nI (vocN 6)), (33, 7, nI (vocN 7)), (33, 8, nI (vocN 8)), (33, 9, nI (vocN 9)), (33, 10, nI (vocN 10)), (33, 11, nI (vocN 11)), (33, 12, nI (vocN 12)), (33, 13, nI (vocN 13)), (33, 14, nI (vocN 14)), (33, 15, nI (vocN 15)), (33, 16, nI (vocN 16)), (33, 17, nI (vocN 17)), (33, 18, nI (vocN 18)), (33, 19, nI (vocN 19)), (33, 20, nI (vocN 20)), (33, 21, nI (vocN 21)), (33, 22, nI (vocN 22)), (33, 23, nI (vocN 23)), (33, 24, nI (vocN 24)), (33, 25, nI (vocN 25)), (33, 26, nI (vocN 26)), (14, 13, (-1)), (22, 1, 1), (3, 13, (-1)), (11, 1, 1)] [] [(39, 4, some 69), (69, 1, some 87), (69, 0, some 70), (70, 15, some 86), (70, 14, some 85), (70, 13, some 84), (70, 12, some 83), (70, 11, some 82), (70, 10, some 81), (70, 9, some 80), (70, 8, some 79), (70, 7, some 78), (70, 6, some 77), (70, 5, some 76), (70, 4, some 75), (70, 3, some 74), (70, 2, some 73), (70, 1, some 72), (70, 0, some 71), (39, 3, some 59), (59, 12, some 68), (59, 10, some 67), (59, 9, some 66), (59, 7, some 65), (59, 5, some 64), (59, 4, some 63), (59, 3, some 62), (59, 2, some 61), (59, 1, some 60), (39, 2, some 40), (40, 1, some 58), (40, 0, some 41), (41, 15, some 57), (41, 14, some 56), (41, 13, some 55), (41, 12, some 54), (41, 11, some 53), (41, 10, some 52), (41, 9, some 51), (41, 8, some 50), (41, 7, some 49), (41, 6, some 48), (41, 5, some 47), (41, 4, some 46), (41, 3, some 45), (41, 2, some 44), (41, 1, some 43), (41, 0, some 42), (39, 1, some 37), (39, 0, some 3), (0, 5, some 37), (37, 1, some 38), (37, 0, some 1), (0, 4, some 26), (26, 4, some 36), (26, 3, some 35), (26, 2, some 34), (26, 1, some 33), (26, 0, some 27), (27, 5, some 32), (27, 4, some 31), (27, 3, some 30), (27, 2, some 29), (27, 1, some 28), (0, 3, some 24), (24, 0, some 25), (0, 2, some 14), (14, 12, some 23), (14, 10, some 22), (14, 9, some 21), (14, 7, some 20), (14, 5, some 19), (14, 4, some 18), (14, 3, some 17), (14, 2, some 16), (14, 1, some 15), (0, 1, some 13), (0, 0, some 3), (3, 12, some 12), (3, 10, some 11), (3, 9, some 10), (3, 7, some 9), (3, 5, some 8), (3, 4, some 7), (3, 3, some 6), (3, 2, some 5), (3, 1, some 4), (1, 0, some 2)]) _ _
  refine b_putR (pc := 92) fp_X11_56 (Or.inl ⟨_, rfl⟩) (fun _ => rfl) ⟨by decide +kernel, by decide +kernel⟩ dX11_init_92 ?_
  refine r_aload_n (pc := 95) 0 dX11_init_95 rfl ?_
  refine b_new (pc := 96) (n1 := 89) nl_X11_60 ⟨by decide +kernel, by decide +kernel, by decide +kernel⟩ rfl (Nat.le_of_ble_eq_true rfl) (Nat.le_of_ble_eq_true rfl) dX11_init_96 ?_
  refine r_dup (pc := 99) dX11_init_99 rfl ?_
  refine r_aload_n (pc := 100) 0 dX11_init_100 rfl ?_
  refine b_getR (pc := 101) (t := 39) fl_X11_56 ⟨by decide +kernel, by decide +kernel⟩ (by decide +kernel) dX11_init_101 ?_
  refine r_aload_n (pc := 104) 1 dX11_init_104 rfl ?_
  refine r_callI (pc := 105) (As := [_, _]) mn_X3_init ml_X11_62 (c_X3_init (o := 88) ⟨by decide +kernel, by decide +kernel⟩ ⟨by decide +kernel, by decide +kernel, by decide +kernel⟩) rfl rfl (Nat.le_of_ble_eq_true rfl) (Nat.le_of_ble_eq_true rfl) (Nat.le_of_ble_eq_true rfl) (Nat.le_of_ble_eq_true rfl) (Nat.le_of_ble_eq_true rfl) dX11_init_105 (fun r g hp => ?_)
  obtain ⟨rfl, rfl⟩ := hp
  show Wp E mX11_init _ _ _ _ [.ref (eZ E + 88), .ref (eZ E + 0)] (bL (eZ E) 90 [(89, 13, 19), (88, 3, 0), (87, 13, 16), (86, 13, 31), (85, 13, 31), (84, 13, 31), (83, 13, 31), (82, 13, 31), (81, 13, 31), (80, 13, 31), (79, 13, 31), (78, 13, 31), (77, 13, 31), (76, 13, 31), (75, 13, 31), (74, 13, 31), (73, 13, 31), (72, 13, 31), (71, 13, 31), (70, 18, 16), (69, 4, 0), (68, 17, 6), (67, 13, 3), (66, 13, 8), (65, 13, 3), (64, 13, 6), (63, 13, 6), (62, 13, 6), (61, 13, 6), (60, 13, 6), (59, 5, 0), (58, 13, 16), (57, 13, 31), (56, 13, 31), (55, 13, 31), (54, 13, 31), (53, 13, 31), (52, 13, 31), (51, 13, 31), (50, 13, 31), (49, 13, 31), (48, 13, 31), (47, 13, 31), (46, 13, 31), (45, 13, 31), (44, 13, 31), (43, 13, 31), (42, 13, 31), (41, 18, 16), (40, 4, 0), (39, 1, 0), (38, 13, 8), (37, 0, 0), (36, 13, 401), (35, 13, 401), (34, 13, 401), (33, 13, 27), (32, 13, 400), (31, 13, 400), (30, 13, 37), (29, 13, 12), (28, 13, 12), (27, 10, 0), (26, 6, 0), (25, 13, 400), (24, 9, 0), (23, 17, 6), (22, 13, 3), (21, 13, 8), (20, 13, 3), (19, 13, 6), (18, 13, 6), (17, 13, 6), (16, 13, 6), (15, 13, 6), (14, 5, 0), (13, 16, 2), (12, 17, 6), (11, 13, 3), (10, 13, 8), (9, 13, 3), (8, 13, 6), (7, 13, 6), (6, 13, 6), (5, 13, 6), (4, 13, 6), (3, 5, 0), (2, 14, 50), (1, 7, 0), (0, 11, 0)] [(88, 5, (-1)), (59, 13, (-1)), (67, 1, 1), (33, 0, nI (vocN 0)), (33, 1, nI (vocN 1)), (33, 2, nI (vocN 2)), (33, 3, nI (vocN 3)), (33, 4, nI (vocN 4)), (33, 5, nI (vocN 5)), (33, 6, nI (vocN 6)), (33, 7, nI (vocN 7)), (33, 8, nI (vocN 8)), (33, 9, nI (vocN 9)), (33, 10, nI (vocN 10)), (33, 11, nI (vocN 11)), (33, 12, nI (vocN 12)), (33, 13, nI (vocN 13)), (33, 14, nI (vocN 14)), (33, 15, nI (vocN 15)), (33, 16, nI (vocN 16)), (33, 17, nI (vocN 17)), (33, 18, nI (vocN 18)), (33, 19, nI (vocN 19)), (33, 20, nI (vocN 20)), (33, 21, nI (vocN 21)), (33, 22, nI (vocN 22)), (33, 23, nI (vocN 23)), (33, 24, nI (vocN 24)), (33, 25, nI (vocN 25)), (33, 26, nI (vocN 26)), (14, 13, (-1)), (22, 1, 1), (3, 13, (-1)), (11, 1, 1)] [] [(88, 2, some 89), (88, 1, some 1), (88, 0, some 39), (0, 6, some 39), (39, 4, some 69), (69, 1, some 87), (69, 0, some 70), (70, 15, some 86), (70, 14, some 85), (70, 13, some 84), (70, 12, some 83), (70, 11, some 82), (70, 10, some 81), (70, 9, some 80), (70, 8, some 79), (70, 7, some 78), (70, 6, some 77), (70, 5, some 76), (70, 4, some 75), (70, 3, some 74), (70, 2, some 73), (70, 1, some 72), (70, 0, some 71), (39, 3, some 59), (59, 12, some 68), (59, 10, some 67), (59, 9, some 66), (59, 7, some 65), (59, 5, some 64), (59, 4, some 63), (59, 3, some 62), (59, 2, some 61), (59, 1, some 60), (39, 2, some 40), (40, 1, some 58), (40, 0, some 41), (41, 15, some 57), (41, 14, some 56), (41, 13, some 55), (41, 12, some 54), (41, 11, some 53), (41, 10, some 52), (41, 9, some 51), (41, 8, some 50), (41, 7, some 49), (41, 6, some 48), (41, 5, some 47), (41, 4, some 46), (41, 3, some 45), (41, 2, some 44), (41, 1, some 43), (41, 0, some 42), (39, 1, some 37), (39, 0, some 3), (0, 5, some 37), (37, 1, some 38), (37, 0, some 1), (0, 4, some 26), (26, 4, some 36), (26, 3, some 35), (26, 2, some 34), (26, 1, some 33), (26, 0, some 27), (27, 5, some 32), (27, 4, some 31), (27, 3, some 30), (27, 2, some 29), (27, 1, some 28), (0, 3, some 24), (24, 0, some 25), (0, 2, some 14), (14, 12, some 23), (14, 10, some 22), (14, 9, some 21), (14, 7, some 20), (14, 5, some 19), (14, 4, some 18), (14, 3, some 17), (14, 2, some 16), (14, 1, some 15), (0, 1, some 13), (0, 0, some 3), (3, 12, some 12), (3, 10, some 11), (3, 9, some 10), (3, 7, some 9), (3, 5, some 8), (3, 4, some 7), (3, 3, some 6), (3, 2, some 5), (3, 1, some 4), (1, 0, some 2)]) _ _
  refine b_putR (pc := 108) fp_X11_65 (Or.inl ⟨_, rfl⟩) (fun _ => rfl) ⟨by decide +kernel, by decide +kernel⟩ dX11_init_108 ?_
  refine r_aload_n (pc := 111) 0 dX11_init_111 rfl ?_
  refine b_new (pc := 112) (n1 := 91) nl_X11_69 ⟨by decide +kernel, by decide +kernel, by decide +kernel⟩ rfl (Nat.le_of_ble_eq_true rfl) (Nat.le_of_ble_eq_true rfl) dX11_init_112 ?_
  refine r_dup (pc := 115) dX11_init_115 rfl ?_
  refine r_aload_n (pc := 116) 0 dX11_init_116 rfl ?_
  refine b_getR (pc := 117) (t := 37) fl_X11_47 ⟨by decide +kernel, by decide +kernel⟩ (by decide +kernel) dX11_init_117 ?_
  refine r_callI (pc := 120) (As := [_]) mn_X2_init ml_X11_71 (c_X2_init (o := 90) ⟨by decide +kernel, by decide +kernel⟩ ⟨by decide +kernel, by decide +kernel, by decide +kernel⟩) rfl rfl (Nat.le_of_ble_eq_true rfl) (Nat.le_of_ble_eq_true rfl) (Nat.le_of_ble_eq_true rfl) (Nat.le_of_ble_eq_true rfl) (Nat.le_of_ble_eq_true rfl) dX11_init_120 (fun r g hp => ?_)
  obtain ⟨rfl, rfl⟩ := hp
  show Wp E mX11_init _ _ _ _ [.ref (eZ E + 90), .ref (eZ E + 0)] (bL (eZ E) 96 [(95, 14, 10), (94, 13, 9), (93, 13, 81), (92, 13, 81), (91, 14, 4608), (90, 2, 0), (89, 13, 19), (88, 3, 0), (87, 13, 16), (86, 13, 31), (85, 13, 31), (84, 13, 31), (83, 13, 31), (82, 13, 31), (81, 13, 31), (80, 13, 31), (79, 13, 31), (78, 13, 31), (77, 13, 31), (76, 13, 31), (75, 13, 31), (74, 13, 31), (73, 13, 31), (72, 13, 31), (71, 13, 31), (70, 18, 16), (69, 4, 0), (68, 17, 6), (67, 13, 3), (66, 13, 8), (65, 13, 3), (64, 13, 6), (63, 13, 6), (62, 13, 6), (61, 13, 6), (60, 13, 6), (59, 5, 0), (58, 13, 16), (57, 13, 31), (56, 13, 31), (55, 13, 31), (54, 13, 31), (53, 13, 31), (52, 13, 31), (51, 13, 31), (50, 13, 31), (49, 13, 31), (48, 13, 31), (47, 13, 31), (46, 13, 31), (45, 13, 31), (44, 13, 31), (43, 13, 31), (42, 13, 31), (41, 18, 16), (40, 4, 0), (39, 1, 0), (38, 13, 8), (37, 0, 0), (36, 13, 401), (35, 13, 401), (34, 13, 401), (33, 13, 27), (32, 13, 400), (31, 13, 400), (30, 13, 37), (29, 13, 12), (28, 13, 12), (27, 10, 0), (26, 6, 0), (25, 13, 400), (24, 9, 0), (23, 17, 6), (22, 13, 3), (21, 13, 8), (20, 13, 3), (19, 13, 6), (18, 13, 6), (17, 13, 6), (16, 13, 6), (15, 13, 6), (14, 5, 0), (13, 16, 2), (12, 17, 6), (11, 13, 3), (10, 13, 8), (9, 13, 3), (8, 13, 6), (7, 13, 6), (6, 13, 6), (5, 13, 6), (4, 13, 6), (3, 5, 0), (2, 14, 50), (1, 7, 0), (0, 11, 0)] [(88, 5, (-1)), (59, 13, (-1)), (67, 1, 1), (33, 0, nI (vocN 0)), (33, 1, nI (vocN 1)), (33, 2, nI (vocN 2)), (33, 3, nI (vocN 3)), (33, 4, nI (vocN 4)), (33, 5, nI (vocN 5)), (33, 6, nI (vocN 6)), (33, 7, nI (vocN 7)), (33, 8, nI (vocN 8)), (33, 9, nI (vocN 9)), (33, 10, nI (vocN 10)), (33, 11, nI (vocN 11)), (33, 12, nI (vocN 12)), (33, 13, nI (vocN 13)), (33, 14, nI (vocN 14)), (33, 15, nI (vocN 15)), (33, 16, nI (vocN 16)), (33, 17, nI (vocN 17)), (33, 18, nI (vocN 18)), (33, 19, nI (vocN 19)), (33, 20, nI (vocN 20)), (33, 21, nI (vocN 21)), (33, 22, nI (vocN 22)), (33, 23, nI (vocN 23)), (33, 24, nI (vocN 24)), (33, 25, nI (vocN 25)), (33, 26, nI (vocN 26)), (14, 13, (-1)), (22, 1, 1), (3, 13, (-1)), (11, 1, 1)] [] [(90, 5, some 95), (90, 4, some 94), (90, 3, some 93), (90, 2, some 92), (90, 1, some 91), (90, 0, some 37), (0, 7, some 88), (88, 2, some 89), (88, 1, some 1), (88, 0, some 39), (0, 6, some 39), (39, 4, some 69), (69, 1, some 87), (69, 0, some 70), (70, 15, some 86), (70, 14, some 85), (70, 13, some 84), (70, 12, some 83), (70, 11, some 82), (70, 10, some 81), (70, 9, some 80), (70, 8, some 79), (70, 7, some 78), (70, 6, some 77), (70, 5, some 76), (70, 4, some 75), (70, 3, some 74), (70, 2, some 73), (70, 1, some 72), (70, 0, some 71), (39, 3, some 59), (59, 12, some 68), (59, 10, some 67), (59, 9, some 66), (59, 7, some 65), (59, 5, some 64), (59, 4, some 63), (59, 3, some 62), (59, 2, some 61), (59, 1, some 60), (39, 2, some 40), (40, 1, some 58), (40, 0, some 41), (41, 15, some 57), (41, 14, some 56), (41, 13, some 55), (41, 12, some 54), (41, 11, some 53), (41, 10, some 52), (41, 9, some 51), (41, 8, some 50), (41, 7, some 49), (41, 6, some 48), (41, 5, some 47), (41, 4, some 46), (41, 3, some 45), (41, 2, some 44), (41, 1, some 43), (41, 0, some 42), (39, 1, some 37), (39, 0, some 3), (0, 5, some 37), (37, 1, some 38), (37, 0, some 1), (0, 4, some 26), (26, 4, some 36), (26, 3, some 35), (26, 2, some 34), (26, 1, some 33), (26, 0, some 27), (27, 5, some 32), (27, 4, some 31), (27, 3, some 30), (27, 2, some 29), (27, 1, some 28), (0, 3, some 24), (24, 0, some 25), (0, 2, some 14), (14, 12, some 23), (14, 10, some 22), (14, 9, some 21), (14, 7, some 20), (14, 5, some 19), (14, 4, some 18), (14, 3, some 17), (14, 2, some 16), (14, 1, some 15), (0, 1, some 13), (0, 0, some 3), (3, 12, some 12), (3, 10, some 11), (3, 9, some 10), (3, 7, some 9), (3, 5, some 8), (3, 4, some 7), (3, 3, some 6), (3, 2, some 5), (3, 1, some 4), (1, 0, some 2)]) _ _
  refine b_putR (pc := 123) fp_X11_74 (Or.inl ⟨_, rfl⟩) (fun _ => rfl) ⟨by decide +kernel, by decide +kernel⟩ dX11_init_123 ?_
  refine r_aload_n (pc := 126) 0 dX11_init_126 rfl ?_
  refine b_new (pc := 127) (n1 := 97) nl_X11_78 ⟨by decide +kernel, by decide +kernel, by decide +kernel⟩ rfl (Nat.le_of_ble_eq_true rfl) (Nat.le_of_ble_eq_true rfl) dX11_init_127 ?_
  refine r_dup (pc := 130) dX11_init_130 rfl ?_
  refine r_aload_n (pc := 131) 0 dX11_init_131 rfl ?_
  refine b_getR (pc := 132) (t := 37) fl_X11_47 ⟨by decide +kernel, by decide +kernel⟩ (by decide +kernel) dX11_init_132 ?_
  refine r_callI (pc := 135) (As := [_]) mn_X8_init ml_X11_80 (c_X8_init (o := 96) ⟨by decide +kernel, by decide +kernel⟩ ⟨by decide +kernel, by decide +kernel, by decide +kernel⟩) rfl rfl (Nat.le_of_ble_eq_true rfl) (Nat.le_of_ble_eq_true rfl) (Nat.le_of_ble_eq_true rfl) (Nat.le_of_ble_eq_true rfl) (Nat.le_of_ble_eq_true rfl) dX11_init_135 (fun r g hp => ?_)
  obtain ⟨rfl, rfl⟩ := hp
  show Wp E mX11_init _ _ _ _ [.ref (eZ E + 96), .ref (eZ E + 0)] (bL (eZ E) 101 [(100, 13, 512), (99, 13, 72), (98, 13, 10), (97, 13, 60), (96, 8, 0), (95, 14, 10), (94, 13, 9), (93, 13, 81), (92, 13, 81), (91, 14, 4608), (90, 2, 0), (89, 13, 19), (88, 3, 0), (87, 13, 16), (86, 13, 31), (85, 13, 31), (84, 13, 31), (83, 13, 31), (82, 13, 31), (81, 13, 31), (80, 13, 31), (79, 13, 31), (78, 13, 31), (77, 13, 31), (76, 13, 31), (75, 13, 31), (74, 13, 31), (73, 13, 31), (72, 13, 31), (71, 13, 31), (70, 18, 16), (69, 4, 0), (68, 17, 6), (67, 13, 3), (66, 13, 8), (65, 13, 3), (64, 13, 6), (63, 13, 6), (62, 13, 6), (61, 13, 6), (60, 13, 6), (59, 5, 0), (58, 13, 16), (57, 13, 31), (56, 13, 31), (55, 13, 31), (54, 13, 31), (53, 13, 31), (52, 13, 31), (51, 13, 31), (50, 13, 31), (49, 13, 31), (48, 13, 31), (47, 13, 31), (46, 13, 31), (45, 13, 31), (44, 13, 31), (43, 13, 31), (42, 13, 31), (41, 18, 16), (40, 4, 0), (39, 1, 0), (38, 13, 8), (37, 0, 0), (36, 13, 401), (35, 13, 401), (34, 13, 401), (33, 13, 27), (32, 13, 400), (31, 13, 400), (30, 13, 37), (29, 13, 12), (28, 13, 12), (27, 10, 0), (26, 6, 0), (25, 13, 400), (24, 9, 0), (23, 17, 6), (22, 13, 3), (21, 13, 8), (20, 13, 3), (19, 13, 6), (18, 13, 6), (17, 13, 6), (16, 13, 6), (15, 13, 6), (14, 5, 0), (13, 16, 2), (12, 17, 6), (11, 13, 3), (10, 13, 8), (9, 13, 3), (8, 13, 6), (7, 13, 6), (6, 13, 6), (5, 13, 6), (4, 13, 6), (3, 5, 0), (2, 14, 50), (1, 7, 0), (0, 11, 0)] [(88, 5, (-1)), (59, 13, (-1)), (67, 1, 1), (33, 0, nI (vocN 0)), (33, 1, nI (vocN 1)), (33, 2, nI (vocN 2)), (33, 3, nI (vocN 3)), (33, 4, nI (vocN 4)), (33, 5, nI (vocN 5)), (33, 6, nI (vocN 6)), (33, 7, nI (vocN 7)), (33, 8, nI (vocN 8)), (33, 9, nI (vocN 9)), (33, 10, nI (vocN 10)), (33, 11, nI (vocN 11)), (33, 12, nI (vocN 12)), (33, 13, nI (vocN 13)), (33, 14, nI (vocN 14)), (33, 15, nI (vocN 15)), (33, 16, nI (vocN 16)), (33, 17, nI (vocN 17)), (33, 18, nI (vocN 18)), (33, 19, nI (vocN 19)), (33, 20, nI (vocN 20)), (33, 21, nI (vocN 21)), (33, 22, nI (vocN 22)), (33, 23, nI (vocN 23)), (33, 24, nI (vocN 24)), (33, 25, nI (vocN 25)), (33, 26, nI (vocN 26)), (14, 13, (-1)), (22, 1, 1), (3, 13, (-1)), (11, 1, 1)] [] [(96, 4, some 100), (96, 3, some 99), (96, 2, some 98), (96, 1, some 97), (96, 0, some 37), (0, 8, some 90), (90, 5, some 95), (90, 4, some 94), (90, 3, some 93), (90, 2, some 92), (90, 1, some 91), (90, 0, some 37), (0, 7, some 88), (88, 2, some 89), (88, 1, some 1), (88, 0, some 39), (0, 6, some 39), (39, 4, some 69), (69, 1, some 87), (69, 0, some 70), (70, 15, some 86), (70, 14, some 85), (70, 13, some 84), (70, 12, some 83), (70, 11, some 82), (70, 10, some 81), (70, 9, some 80), (70, 8, some 79), (70, 7, some 78), (70, 6, some 77), (70, 5, some 76), (70, 4, some 75), (70, 3, some 74), (70, 2, some 73), (70, 1, some 72), (70, 0, some 71), (39, 3, some 59), (59, 12, some 68), (59, 10, some 67), (59, 9, some 66), (59, 7, some 65), (59, 5, some 64), (59, 4, some 63), (59, 3, some 62), (59, 2, some 61), (59, 1, some 60), (39, 2, some 40), (40, 1, some 58), (40, 0, some 41), (41, 15, some 57), (41, 14, some 56), (41, 13, some 55), (41, 12, some 54), (41, 11, some 53), (41, 10, some 52), (41, 9, some 51), (41, 8, some 50), (41, 7, some 49), (41, 6, some 48), (41, 5, some 47), (41, 4, some 46), (41, 3, some 45), (41, 2, some 44), (41, 1, some 43), (41, 0, some 42), (39, 1, some 37), (39, 0, some 3), (0, 5, some 37), (37, 1, some 38), (37, 0, some 1), (0, 4, some 26), (26, 4, some 36), (26, 3, some 35), (26, 2, some 34), (26, 1, some 33), (26, 0, some 27), (27, 5, some 32), (27, 4, some 31), (27, 3, some 30), (27, 2, some 29), (27, 1, some 28), (0, 3, some 24), (24, 0, some 25), (0, 2, some 14), (14, 12, some 23), (14, 10, some 22), (14, 9, some 21), (14, 7, some 20), (14, 5, some 19), (14, 4, some 18), (14, 3, some 17), (14, 2, some 16), (14, 1, some 15), (0, 1, some 13), (0, 0, some 3), (3, 12, some 12), (3, 10, some 11), (3, 9, some 10), (3, 7, some 9), (3, 5, some 8), (3, 4, some 7), (3, 3, some 6), (3, 2, some 5), (3, 1, some 4), (1, 0, some 2)]) _ _
  refine b_putR (pc := 138) fp_X11_81 (Or.inl ⟨_, rfl⟩) (fun _ => rfl) ⟨by decide +kernel, by decide +kernel⟩ dX11_init_138 ?_
  refine r_aload_n (pc := 141) 0 dX11_init_141 rfl ?_
  refine r_bipush (pc := 142) (7) dX11_init_142 rfl ?_
  refine b_arr (pc := 144) (N := 7) (n1 := 102) (Or.inl ⟨rfl, rfl⟩) rfl (by omega) ⟨by decide +kernel, by decide +kernel, by decide +kernel⟩ rfl (Nat.le_of_ble_eq_true rfl) (Nat.le_of_ble_eq_true rfl) dX11_init_144 ?_
  refine b_putR (pc := 146) fp_X11_85 (Or.inr ⟨_, rfl⟩) (fun _ => rfl) ⟨by decide +kernel, by decide +kernel⟩ dX11_init_146 ?_
  refine r_aload_n (pc := 149) 0 dX11_init_149 rfl ?_
  refine r_iconst (pc := 150) (0) dX11_init_150 rfl ?_
  refine b_putI (pc := 151) fp_X11_89 ⟨by decide +kernel, by decide +kernel⟩ dX11_init_151 ?_
  refine r_aload_n (pc := 154) 0 dX11_init_154 rfl ?_
  refine r_iconst (pc := 155) (-1) dX11_init_155 rfl ?_
  refine b_putI (pc := 156) fp_X11_93 ⟨by decide +kernel, by decide +kernel⟩ dX11_init_156 ?_
  refine r_aload_n (pc := 159) 0 dX11_init_159 rfl ?_
  refine r_iconst (pc := 160) (-1) dX11_init_160 rfl ?_
  refine b_putI (pc := 161) fp_X11_96 ⟨by decide +kernel, by decide +kernel⟩ dX11_init_161 ?_
  refine r_aload_n (pc := 164) 0 dX11_init_164 rfl ?_
  refine r_iconst (pc := 165) (0) dX11_init_165 rfl ?_
  refine b_putI (pc := 166) fp_X11_99 ⟨by decide +kernel, by decide +kernel⟩ dX11_init_166 ?_
  refine r_vret (pc := 169) rfl ?_ (Nat.le_of_ble_eq_true rfl) (Nat.le_of_ble_eq_true rfl) dX11_init_169
  exact ⟨rfl, rfl⟩
theorem c_X12_init : Ct E 1 33 38801 mX12_init [.ref (eZ E + 102)] (bL (eZ E) 103 [(102, 12, 0), (101, 13, 7), (100, 13, 512), (99, 13, 72), (98, 13, 10), (97, 13, 60), (96, 8, 0), (95, 14, 10), (94, 13, 9), (93, 13, 81), (92, 13, 81), (91, 14, 4608), (90, 2, 0), (89, 13, 19), (88, 3, 0), (87, 13, 16), (86, 13, 31), (85, 13, 31), (84, 13, 31), (83, 13, 31), (82, 13, 31), (81, 13, 31), (80, 13, 31), (79, 13, 31), (78, 13, 31), (77, 13, 31), (76, 13, 31), (75, 13, 31), (74, 13, 31), (73, 13, 31), (72, 13, 31), (71, 13, 31), (70, 18, 16), (69, 4, 0), (68, 17, 6), (67, 13, 3), (66, 13, 8), (65, 13, 3), (64, 13, 6), (63, 13, 6), (62, 13, 6), (61, 13, 6), (60, 13, 6), (59, 5, 0), (58, 13, 16), (57, 13, 31), (56, 13, 31), (55, 13, 31), (54, 13, 31), (53, 13, 31), (52, 13, 31), (51, 13, 31), (50, 13, 31), (49, 13, 31), (48, 13, 31), (47, 13, 31), (46, 13, 31), (45, 13, 31), (44, 13, 31), (43, 13, 31), (42, 13, 31), (41, 18, 16), (40, 4, 0), (39, 1, 0), (38, 13, 8), (37, 0, 0), (36, 13, 401), (35, 13, 401), (34, 13, 401), (33, 13, 27), (32, 13, 400), (31, 13, 400), (30, 13, 37), (29, 13, 12), (28, 13, 12), (27, 10, 0), (26, 6, 0), (25, 13, 400), (24, 9, 0), (23, 17, 6), (22, 13, 3), (21, 13, 8), (20, 13, 3), (19, 13, 6), (18, 13, 6), (17, 13, 6), (16, 13, 6), (15, 13, 6), (14, 5, 0), (13, 16, 2), (12, 17, 6), (11, 13, 3), (10, 13, 8), (9, 13, 3), (8, 13, 6), (7, 13, 6), (6, 13, 6), (5, 13, 6), (4, 13, 6), (3, 5, 0), (2, 14, 50), (1, 7, 0), (0, 11, 0)] [(0, 14, 0), (0, 13, (-1)), (0, 12, (-1)), (0, 11, 0), (88, 5, (-1)), (59, 13, (-1)), (67, 1, 1), (33, 0, nI (vocN 0)), (33, 1, nI (vocN 1)), (33, 2, nI (vocN 2)), (33, 3, nI (vocN 3)), (33, 4, nI (vocN 4)), (33, 5, nI (vocN 5)), (33, 6, nI (vocN 6)), (33, 7, nI (vocN 7)), (33, 8, nI (vocN 8)), (33, 9, nI (vocN 9)), (33, 10, nI (vocN 10)), (33, 11, nI (vocN 11)), (33, 12, nI (vocN 12)), (33, 13, nI (vocN 13)), (33, 14, nI (vocN 14)), (33, 15, nI (vocN 15)), (33, 16, nI (vocN 16)), (33, 17, nI (vocN 17)), (33, 18, nI (vocN 18)), (33, 19, nI (vocN 19)), (33, 20, nI (vocN 20)), (33, 21, nI (vocN 21)), (33, 22, nI (vocN 22)), (33, 23, nI (vocN 23)), (33, 24, nI (vocN 24)), (33, 25, nI (vocN 25)), (33, 26, nI (vocN 26)), (14, 13, (-1)), (22, 1, 1), (3, 13, (-1)), (11, 1, 1)] [] [(0, 10, some 101), (0, 9, some 96), (96, 4, some 100), (96, 3, some 99), (96, 2, some 98), (96, 1, some 97), (96, 0, some 37), (0, 8, some 90), (90, 5, some 95), (90, 4, some 94), (90, 3, some 93), (90, 2, some 92), (90, 1, some 91), (90, 0, some 37), (0, 7, some 88), (88, 2, some 89), (88, 1, some 1), (88, 0, some 39), (0, 6, some 39), (39, 4, some 69), (69, 1, some 87), (69, 0, some 70), (70, 15, some 86), (70, 14, some 85), (70, 13, some 84), (70, 12, some 83), (70, 11, some 82), (70, 10, some 81), (70, 9, some 80), (70, 8, some 79), (70, 7, some 78), (70, 6, some 77), (70, 5, some 76), (70, 4, some 75), (70, 3, some 74), (70, 2, some 73), (70, 1, some 72), (70, 0, some 71), (39, 3, some 59), (59, 12, some 68), (59, 10, some 67), (59, 9, some 66), (59, 7, some 65), (59, 5, some 64), (59, 4, some 63), (59, 3, some 62), (59, 2, some 61), (59, 1, some 60), (39, 2, some 40), (40, 1, some 58), (40, 0, some 41), (41, 15, some 57), (41, 14, some 56), (41, 13, some 55), (41, 12, some 54), (41, 11, some 53), (41, 10, some 52), (41, 9, some 51), (41, 8, some 50), (41, 7, some 49), (41, 6, some 48), (41, 5, some 47), (41, 4, some 46), (41, 3, some 45), (41, 2, some 44), (41, 1, some 43), (41, 0, some 42), (39, 1, some 37), (39, 0, some 3), (0, 5, some 37), (37, 1, some 38), (37, 0, some 1), (0, 4, some 26), (26, 4, some 36), (26, 3, some 35), (26, 2, some 34), (26, 1, some 33), (26, 0, some 27), (27, 5, some 32), (27, 4, some 31), (27, 3, some 30), (27, 2, some 29), (27, 1, some 28), (0, 3, some 24), (24, 0, some 25), (0, 2, some 14), (14, 12, some 23), (14, 10, some 22), (14, 9, some 21), (14, 7, some 20), (14, 5, some 19), (14, 4, some 18), (14, 3, some 17), (14, 2, some 16), (14, 1, some 15), (0, 1, some 13), (0, 0, some 3), (3, 12, some 12), (3, 10, some 11), (3, 9, some 10), (3, 7, some 9), (3, 5, some 8), (3, 4, some 7), (3, 3, some 6), (3, 2, some 5), (3, 1, some 4), (1, 0, some 2)]) (po none (bL (eZ E) 136 [(135, 13, 18), (134, 13, 96), (133, 14, 4), (132, 15, 4608), (131, 15, 4608), (130, 13, 10), (129, 13, 9), (128, 14, 10), (127, 14, 4608), (126, 14, 4608), (125, 13, 81), (124, 13, 81), (123, 13, 6), (122, 14, 400), (121, 14, 13), (120, 14, 13), (119, 14, 4), (118, 14, 7), (117, 14, 8), (116, 13, 400), (115, 13, 400), (114, 13, 400), (113, 13, 400), (112, 13, 96), (111, 13, 400), (110, 13, 16), (109, 13, 528), (108, 13, 16), (107, 13, 594), (106, 15, 2), (105, 13, 10900), (104, 13, 5450), (103, 13, 7), (102, 12, 0), (101, 13, 7), (100, 13, 512), (99, 13, 72), (98, 13, 10), (97, 13, 60), (96, 8, 0), (95, 14, 10), (94, 13, 9), (93, 13, 81), (92, 13, 81), (91, 14, 4608), (90, 2, 0), (89, 13, 19), (88, 3, 0), (87, 13, 16), (86, 13, 31), (85, 13, 31), (84, 13, 31), (83, 13, 31), (82, 13, 31), (81, 13, 31), (80, 13, 31), (79, 13, 31), (78, 13, 31), (77, 13, 31), (76, 13, 31), (75, 13, 31), (74, 13, 31), (73, 13, 31), (72, 13, 31), (71, 13, 31), (70, 18, 16), (69, 4, 0), (68, 17, 6), (67, 13, 3), (66, 13, 8), (65, 13, 3), (64, 13, 6), (63, 13, 6), (62, 13, 6), (61, 13, 6), (60, 13, 6), (59, 5, 0), (58, 13, 16), (57, 13, 31), (56, 13, 31), (55, 13, 31), (54, 13, 31), (53, 13, 31), (52, 13, 31), (51, 13, 31), (50, 13, 31), (49, 13, 31), (48, 13, 31), (47, 13, 31), (46, 13, 31), (45, 13, 31), (44, 13, 31), (43, 13, 31), (42, 13, 31), (41, 18, 16), (40, 4, 0), (39, 1, 0), (38, 13, 8), (37, 0, 0), (36, 13, 401), (35, 13, 401), (34, 13, 401), (33, 13, 27), (32, 13, 400), (31, 13, 400), (30, 13, 37), (29, 13, 12), (28, 13, 12), (27, 10, 0), (26, 6, 0), (25, 13, 400), (24, 9, 0), (23, 17, 6), (22, 13, 3), (21, 13, 8), (20, 13, 3), (19, 13, 6), (18, 13, 6), (17, 13, 6), (16, 13, 6), (15, 13, 6), (14, 5, 0), (13, 16, 2), (12, 17, 6), (11, 13, 3), (10, 13, 8), (9, 13, 3), (8, 13, 6), (7, 13, 6), (6, 13, 6), (5, 13, 6), (4, 13, 6), (3, 5, 0), (2, 14, 50), (1, 7, 0), (0, 11, 0)] [(104, 6, 1), (104, 4, (-1)), (102, 59, (-1)), (102, 55, (-1)), (102, 18, (-1)), (0, 14, 0), (0, 13, (-1)), (0, 12, (-1)), (0, 11, 0), (88, 5, (-1)), (59, 13, (-1)), (67, 1, 1), (33, 0, nI (vocN 0)), (33, 1, nI (vocN 1)), (33, 2, nI (vocN 2)), (33, 3, nI (vocN 3)), (33, 4, nI (vocN 4)), (33, 5, nI (vocN 5)), (33, 6, nI (vocN 6)), (33, 7, nI (vocN 7)), (33, 8, nI (vocN 8)), (33, 9, nI (vocN 9)), (33, 10, nI (vocN 10)), (33, 11, nI (vocN 11)), (33, 12, nI (vocN 12)), (33, 13, nI (vocN 13)), (33, 14, nI (vocN 14)), (33, 15, nI (vocN 15)), (33, 16, nI (vocN 16)), (33, 17, nI (vocN 17)), (33, 18, nI (vocN 18)), (33, 19, nI (vocN 19)), (33, 20, nI (vocN 20)), (33, 21, nI (vocN 21)), (33, 22, nI (vocN 22)), (33, 23, nI (vocN 23)), (33, 24, nI (vocN 24)), (33, 25, nI (vocN 25)), (33, 26, nI (vocN 26)), (14, 13, (-1)), (22, 1, 1), (3, 13, (-1)), (11, 1, 1)] [(133, 3, 525939), (133, 2, 110896), (133, 1, 4389), (133, 0, 632046), (119, 3, 67155), (119, 2, 20201203), (119, 1, 4245683), (119, 0, 5294547), (118, 6, 116919), (118, 5, 245124), (118, 4, 402629), (118, 3, 1451717), (118, 2, 404362868), (118, 1, 146885), (118, 0, 824370), (117, 7, 441828), (117, 6, 824370), (117, 5, 631088), (117, 4, 245124), (117, 3, 5170), (117, 2, 20452820), (117, 1, 402629), (117, 0, 3124)] [(102, 58, some 135), (102, 52, some 134), (102, 51, some 133), (102, 50, some 132), (102, 49, some 131), (102, 48, some 130), (102, 47, some 129), (102, 46, some 128), (102, 45, some 127), (102, 44, some 126), (102, 43, some 125), (102, 42, some 124), (102, 41, some 123), (102, 37, some 122), (102, 36, some 121), (102, 35, some 120), (102, 33, some 119), (102, 32, some 118), (102, 31, some 117), (102, 28, some 116), (102, 27, some 115), (102, 25, some 114), (102, 24, some 113), (102, 22, some 112), (102, 12, some 111), (102, 10, some 110), (102, 9, some 109), (102, 7, some 108), (102, 6, some 107), (102, 5, some 106), (102, 4, some 105), (102, 3, some 104), (102, 2, some 103), (0, 10, some 101), (0, 9, some 96), (96, 4, some 100), (96, 3, some 99), (96, 2, some 98), (96, 1, some 97), (96, 0, some 37), (0, 8, some 90), (90, 5, some 95), (90, 4, some 94), (90, 3, some 93), (90, 2, some 92), (90, 1, some 91), (90, 0, some 37), (0, 7, some 88), (88, 2, some 89), (88, 1, some 1), (88, 0, some 39), (0, 6, some 39), (39, 4, some 69), (69, 1, some 87), (69, 0, some 70), (70, 15, some 86), (70, 14, some 85), (70, 13, some 84), (70, 12, some 83), (70, 11, some 82), (70, 10, some 81), (70, 9, some 80), (70, 8, some 79), (70, 7, some 78), (70, 6, some 77), (70, 5, some 76), (70, 4, some 75), (70, 3, some 74), (70, 2, some 73), (70, 1, some 72), (70, 0, some 71), (39, 3, some 59), (59, 12, some 68), (59, 10, some 67), (59, 9, some 66), (59, 7, some 65), (59, 5, some 64), (59, 4, some 63), (59, 3, some 62), (59, 2, some 61), (59, 1, some 60), (39, 2, some 40), (40, 1, some 58), (40, 0, some 41), (41, 15, some 57), (41, 14, some 56), (41, 13, some 55), (41, 12, some 54), (41, 11, some 53), (41, 10, some 52), (41, 9, some 51), (41, 8, some 50), (41, 7, some 49), (41, 6, some 48), (41, 5, some 47), (41, 4, some 46), (41, 3, some 45), (41, 2, some 44), (41, 1, some 43), (41, 0, some 42), (39, 1, some 37), (39, 0, some 3), (0, 5, some 37), (37, 1, some 38), (37, 0, some 1), (0, 4, some 26), (26, 4, some 36), (26, 3, some 35), (26, 2, some 34), (26, 1, some 33), (26, 0, some 27), (27, 5, some 32), (27, 4, some 31), (27, 3, some 30), (27, 2, some 29), (27, 1, some 28), (0, 3, some 24), (24, 0, some 25), (0, 2, some 14), (14, 12, some 23), (14, 10, some 22), (14, 9, some 21), (14, 7, some 20), (14, 5, some 19), (14, 4, some 18), (14, 3, some 17), (14, 2, some 16), (14, 1, some 15), (0, 1, some 13), (0, 0, some 3), (3, 12, some 12), (3, 10, some 11), (3, 9, some 10), (3, 7, some 9), (3, 5, some 8), (3, 4, some 7), (3, 3, some 6), (3, 2, some 5), (3, 1, some 4), (1, 0, some 2)])) := by
  refine Ct.of (by decide +kernel) (Nat.le_of_ble_eq_true rfl) ?_
  refine r_aload_n (pc := 0) 0 dX12_init_0 rfl ?_
  refine r_objInit (pc := 1) ml_X12_1 oi_2 oi_3 (Nat.le_of_ble_eq_true rfl) (Nat.le_of_ble_eq_true rfl) dX12_init_1 ?_
  refine r_aload_n (pc := 4) 0 dX12_init_4 rfl ?_
  refine r_bipush (pc := 5) (7) dX12_init_5 rfl ?_
  refine b_arr (pc := 7) (N := 7) (n1 := 104) (Or.inl ⟨rfl, rfl⟩) rfl (by omega) ⟨by decide +kernel, by decide +kernel, by decide +kernel⟩ rfl (Nat.le_of_ble_eq_true rfl) (Nat.le_of_ble_eq_true rfl) dX12_init_7 ?_
  refine b_putR (pc := 9) fp_X12_7 (Or.inr ⟨_, rfl⟩) (fun _ => rfl) ⟨by decide +kernel, by decide +kernel⟩ dX12_init_9 ?_
  refine r_aload_n (pc := 12) 0 dX12_init_12 rfl ?_
  refine r_sipush (pc := 13) (5450) dX12_init_13 rfl ?_
  refine b_arr (pc := 16) (N := 5450) (n1 := 105) (Or.inl ⟨rfl, rfl⟩) rfl (by omega) ⟨by decide +kernel, by decide +kernel, by decide +kernel⟩ rfl (Nat.le_of_ble_eq_true rfl) (Nat.le_of_ble_eq_true rfl) dX12_init_16 ?_
  refine b_putR (pc := 18) fp_X12_13 (Or.inr ⟨_, rfl⟩) (fun _ => rfl) ⟨by decide +kernel, by decide +kernel⟩ dX12_init_18 ?_
  refine r_aload_n (pc := 21) 0 dX12_init_21 rfl ?_
  refine r_sipush (pc := 22) (10900) dX12_init_22 rfl ?_
  refine b_arr (pc := 25) (N := 10900) (n1 := 106) (Or.inl ⟨rfl, rfl⟩) rfl (by omega) ⟨by decide +kernel, by decide +kernel, by decide +kernel⟩ rfl (Nat.le_of_ble_eq_true rfl) (Nat.le_of_ble_eq_true rfl) dX12_init_25 ?_
  refine b_putR (pc := 27) fp_X12_16 (Or.inr ⟨_, rfl⟩) (fun _ => rfl) ⟨by decide +kernel, by decide +kernel⟩ dX12_init_27 ?_
  refine r_aload_n (pc := 30) 0 dX12_init_30 rfl ?_
  refine r_iconst (pc := 31) (2) dX12_init_31 rfl ?_
  refine b_arr (pc := 32) (N := 2) (n1 := 107) (Or.inr (Or.inr ⟨rfl, rfl⟩)) rfl (by omega) ⟨by decide +kernel, by decide +kernel, by decide +kernel⟩ rfl (Nat.le_of_ble_eq_true rfl) (Nat.le_of_ble_eq_true rfl) dX12_init_32 ?_
  refine b_putR (pc := 34) fp_X12_19 (Or.inr ⟨_, rfl⟩) (fun _ => rfl) ⟨by decide +kernel, by decide +kernel⟩ dX12_init_34 ?_
  refine r_aload_n (pc := 37) 0 dX12_init_37 rfl ?_
  refine r_sipush (pc := 38) (594) dX12_init_38 rfl ?_
  refine b_arr (pc := 41) (N := 594) (n1 := 108) (Or.inl ⟨rfl, rfl⟩) rfl (by omega) ⟨by decide +kernel, by decide +kernel, by decide +kernel⟩ rfl (Nat.le_of_ble_eq_true rfl) (Nat.le_of_ble_eq_true rfl) dX12_init_41 ?_
  refine b_putR (pc := 43) fp_X12_23 (Or.inr ⟨_, rfl⟩) (fun _ => rfl) ⟨by decide +kernel, by decide +kernel⟩ dX12_init_43 ?_
  refine r_aload_n (pc := 46) 0 dX12_init_46 rfl ?_
  refine r_bipush (pc := 47) (16) dX12_init_47 rfl ?_
  refine b_arr (pc := 49) (N := 16) (n1 := 109) (Or.inl ⟨rfl, rfl⟩) rfl (by omega) ⟨by decide +kernel, by decide +kernel, by decide +kernel⟩ rfl (Nat.le_of_ble_eq_true rfl) (Nat.le_of_ble_eq_true rfl) dX12_init_49 ?_
  refine b_putR (pc := 51) fp_X12_26 (Or.inr ⟨_, rfl⟩) (fun _ => rfl) ⟨by decide +kernel, by decide +kernel⟩ dX12_init_51 ?_
  refine r_aload_n (pc := 54) 0 dX12_init_54 rfl ?_
  refine r_sipush (pc := 55) (528) dX12_init_55 rfl ?_
  refine b_arr (pc := 58) (N := 528) (n1 := 110) (Or.inl ⟨rfl, rfl⟩) rfl (by omega) ⟨by decide +kernel, by decide +kernel, by decide +kernel⟩ rfl (Nat.le_of_ble_eq_true rfl) (Nat.le_of_ble_eq_true rfl) dX12_init_58 ?_
  refine b_putR (pc := 60) fp_X12_29 (Or.inr ⟨_, rfl⟩) (fun _ => rfl) ⟨by decide +kernel, by decide +kernel⟩ dX12_init_60 ?_
  refine r_aload_n (pc := 63) 0 dX12_init_63 rfl ?_
  refine r_bipush (pc := 64) (16) dX12_init_64 rfl ?_
  refine b_arr (pc := 66) (N := 16) (n1 := 111) (Or.inl ⟨rfl, rfl⟩) rfl (by omega) ⟨by decide +kernel, by decide +kernel, by decide +kernel⟩ rfl (Nat.le_of_ble_eq_true rfl) (Nat.le_of_ble_eq_true rfl) dX12_init_66 ?_
  refine b_putR (pc := 68) fp_X12_32 (Or.inr ⟨_, rfl⟩) (fun _ => rfl) ⟨by decide +kernel, by decide +kernel⟩ dX12_init_68 ?_
  refine r_aload_n (pc := 71) 0 dX12_init_71 rfl ?_
  refine r_sipush (pc := 72) (400) dX12_init_72 rfl ?_
  refine b_arr (pc := 75) (N := 400) (n1 := 112) (Or.inl ⟨rfl, rfl⟩) rfl (by omega) ⟨by decide +kernel, by decide +kernel, by decide +kernel⟩ rfl (Nat.le_of_ble_eq_true rfl) (Nat.le_of_ble_eq_true rfl) dX12_init_75 ?_
  refine b_putR (pc := 77) fp_X12_35 (Or.inr ⟨_, rfl⟩) (fun _ => rfl) ⟨by decide +kernel, by decide +kernel⟩ dX12_init_77 ?_
  refine r_aload_n (pc := 80) 0 dX12_init_80 rfl ?_
  refine r_iconst (pc := 81) (-1) dX12_init_81 rfl ?_
  refine b_putI (pc := 82) fp_X12_38 ⟨by decide +kernel, by decide +kernel⟩ dX12_init_82 ?_
  refine r_aload_n (pc := 85) 0 dX12_init_85 rfl ?_
  refine r_bipush (pc := 86) (96) dX12_init_86 rfl ?_
  refine b_arr (pc := 88) (N := 96) (n1 := 113) (Or.inl ⟨rfl, rfl⟩) rfl (by omega) ⟨by decide +kernel, by decide +kernel, by decide +kernel⟩ rfl (Nat.le_of_ble_eq_true rfl) (Nat.le_of_ble_eq_true rfl) dX12_init_88 ?_
  refine b_putR (pc := 90) fp_X12_42 (Or.inr ⟨_, rfl⟩) (fun _ => rfl) ⟨by decide +kernel, by decide +kernel⟩ dX12_init_90 ?_
  refine r_aload_n (pc := 93) 0 dX12_init_93 rfl ?_
  refine r_sipush (pc := 94) (400) dX12_init_94 rfl ?_
  refine b_arr (pc := 97) (N := 400) (n1 := 114) (Or.inl ⟨rfl, rfl⟩) rfl (by omega) ⟨by decide +kernel, by decide +kernel, by decide +kernel⟩ rfl (Nat.le_of_ble_eq_true rfl) (Nat.le_of_ble_eq_true rfl) dX12_init_97 ?_
  refine b_putR (pc := 99) fp_X12_45 (Or.inr ⟨_, rfl⟩) (fun _ => rfl) ⟨by decide +kernel, by decide +kernel⟩ dX12_init_99 ?_
  refine r_aload_n (pc := 102) 0 dX12_init_102 rfl ?_
  refine r_sipush (pc := 103) (400) dX12_init_103 rfl ?_
  refine b_arr (pc := 106) (N := 400) (n1 := 115) (Or.inl ⟨rfl, rfl⟩) rfl (by omega) ⟨by decide +kernel, by decide +kernel, by decide +kernel⟩ rfl (Nat.le_of_ble_eq_true rfl) (Nat.le_of_ble_eq_true rfl) dX12_init_106 ?_
  refine b_putR (pc := 108) fp_X12_48 (Or.inr ⟨_, rfl⟩) (fun _ => rfl) ⟨by decide +kernel, by decide +kernel⟩ dX12_init_108 ?_
  refine r_aload_n (pc := 111) 0 dX12_init_111 rfl ?_
  refine r_sipush (pc := 112) (400) dX12_init_112 rfl ?_
  refine b_arr (pc := 115) (N := 400) (n1 := 116) (Or.inl ⟨rfl, rfl⟩) rfl (by omega) ⟨by decide +kernel, by decide +kernel, by decide +kernel⟩ rfl (Nat.le_of_ble_eq_true rfl) (Nat.le_of_ble_eq_true rfl) dX12_init_115 ?_
  refine b_putR (pc := 117) fp_X12_51 (Or.inr ⟨_, rfl⟩) (fun _ => rfl) ⟨by decide +kernel, by decide +kernel⟩ dX12_init_117 ?_
  refine r_aload_n (pc := 120) 0 dX12_init_120 rfl ?_
  refine r_sipush (pc := 121) (400) dX12_init_121 rfl ?_
  refine b_arr (pc := 124) (N := 400) (n1 := 117) (Or.inl ⟨rfl, rfl⟩) rfl (by omega) ⟨by decide +kernel, by decide +kernel, by decide +kernel⟩ rfl (Nat.le_of_ble_eq_true rfl) (Nat.le_of_ble_eq_true rfl) dX12_init_124 ?_
  refine b_putR (pc := 126) fp_X12_54 (Or.inr ⟨_, rfl⟩) (fun _ => rfl) ⟨by decide +kernel, by decide +kernel⟩ dX12_init_126 ?_
  refine r_aload_n (pc := 129) 0 dX12_init_129 rfl ?_
  refine r_bipush (pc := 130) (8) dX12_init_130 rfl ?_
  refine b_arr (pc := 132) (N := 8) (n1 := 118) (Or.inr (Or.inl ⟨rfl, rfl⟩)) rfl (by omega) ⟨by decide +kernel, by decide +kernel, by decide +kernel⟩ rfl (Nat.le_of_ble_eq_true rfl) (Nat.le_of_ble_eq_true rfl) dX12_init_132 ?_
  refine r_dup (pc := 134) dX12_init_134 rfl ?_
  refine r_iconst (pc := 135) (0) dX12_init_135 rfl ?_
  refine r_ldc2_w (pc := 136) cs_X12_57 dX12_init_136 ?_
  refine b_last (pc := 139) (j := 0) (len := 8) ⟨by decide +kernel, by decide +kernel⟩ rfl (by decide) (by decide) dX12_init_139 ?_
  refine r_dup (pc := 140) dX12_init_140 rfl ?_
  refine r_iconst (pc := 141) (1) dX12_init_141 rfl ?_
  refine r_ldc2_w (pc := 142) cs_X12_59 dX12_init_142 ?_
  refine b_last (pc := 145) (j := 1) (len := 8) ⟨by decide +kernel, by decide +kernel⟩ rfl (by decide) (by decide) dX12_init_145 ?_
  refine r_dup (pc := 146) dX12_init_146 rfl ?_
  refine r_iconst (pc := 147) (2) dX12_init_147 rfl ?_
  refine r_ldc2_w (pc := 148) cs_X12_61 dX12_init_148 ?_
  refine b_last (pc := 151) (j := 2) (len := 8) ⟨by decide +kernel, by decide +kernel⟩ rfl (by decide) (by decide) dX12_init_151 ?_
  refine r_dup (pc := 152) dX12_init_152 rfl ?_
  refine r_iconst (pc := 153) (3) dX12_init_153 rfl ?_
  refine r_ldc2_w (pc := 154) cs_X12_63 dX12_init_154 ?_
  refine b_last (pc := 157) (j := 3) (len := 8) ⟨by decide +kernel, by decide +kernel⟩ rfl (by decide) (by decide) dX12_init_157 ?_
  refine r_dup (pc := 158) dX12_init_158 rfl ?_
  refine r_iconst (pc := 159) (4) dX12_init_159 rfl ?_
  refine r_ldc2_w (pc := 160) cs_X12_65 dX12_init_160 ?_
  refine b_last (pc := 163) (j := 4) (len := 8) ⟨by decide +kernel, by decide +kernel⟩ rfl (by decide) (by decide) dX12_init_163 ?_
  refine r_dup (pc := 164) dX12_init_164 rfl ?_
  refine r_iconst (pc := 165) (5) dX12_init_165 rfl ?_
  refine r_ldc2_w (pc := 166) cs_X12_67 dX12_init_166 ?_
  refine b_last (pc := 169) (j := 5) (len := 8) ⟨by decide +kernel, by decide +kernel⟩ rfl (by decide) (by decide) dX12_init_169 ?_
  refine r_dup (pc := 170) dX12_init_170 rfl ?_
  refine r_bipush (pc := 171) (6) dX12_init_171 rfl ?_
  refine r_ldc2_w (pc := 173) cs_X12_69 dX12_init_173 ?_
  refine b_last (pc := 176) (j := 6) (len := 8) ⟨by decide +kernel, by decide +kernel⟩ rfl (by decide) (by decide) dX12_init_176 ?_
  refine r_dup (pc := 177) dX12_init_177 rfl ?_
  refine r_bipush (pc := 178) (7) dX12_init_178 rfl ?_
  refine r_ldc2_w (pc := 180) cs_X12_71 dX12_init_180 ?_
  refine b_last (pc := 183) (j := 7) (len := 8) ⟨by decide +kernel, by decide +kernel⟩ rfl (by decide) (by decide) dX12_init_183 ?_
  refine b_putR (pc := 184) fp_X12_73 (Or.inr ⟨_, rfl⟩) (fun _ => rfl) ⟨by decide +kernel, by decide +kernel⟩ dX12_init_184 ?_
  refine r_aload_n (pc := 187) 0 dX12_init_187 rfl ?_
  refine r_bipush (pc := 188) (7) dX12_init_188 rfl ?_
  refine b_arr (pc := 190) (N := 7) (n1 := 119) (Or.inr (Or.inl ⟨rfl, rfl⟩)) rfl (by omega) ⟨by decide +kernel, by decide +kernel, by decide +kernel⟩ rfl (Nat.le_of_ble_eq_true rfl) (Nat.le_of_ble_eq_true rfl) dX12_init_190 ?_
  refine r_dup (pc := 192) dX12_init_192 rfl ?_
  refine r_iconst (pc := 193) (0) dX12_init_193 rfl ?_
  refine r_ldc2_w (pc := 194) cs_X12_69 dX12_init_194 ?_
  refine b_last (pc := 197) (j := 0) (len := 7) ⟨by decide +kernel, by decide +kernel⟩ rfl (by decide) (by decide) dX12_init_197 ?_
  refine r_dup (pc := 198) dX12_init_198 rfl ?_
  refine r_iconst (pc := 199) (1) dX12_init_199 rfl ?_
  refine r_ldc2_w (pc := 200) cs_X12_77 dX12_init_200 ?_
  refine b_last (pc := 203) (j := 1) (len := 7) ⟨by decide +kernel, by decide +kernel⟩ rfl (by decide) (by decide) dX12_init_203 ?_
  refine r_dup (pc := 204) dX12_init_204 rfl ?_
  refine r_iconst (pc := 205) (2) dX12_init_205 rfl ?_
  refine r_ldc2_w (pc := 206) cs_X12_79 dX12_init_206 ?_
  refine b_last (pc := 209) (j := 2) (len := 7) ⟨by decide +kernel, by decide +kernel⟩ rfl (by decide) (by decide) dX12_init_209 ?_
  refine r_dup (pc := 210) dX12_init_210 rfl ?_
  refine r_iconst (pc := 211) (3) dX12_init_211 rfl ?_
  refine r_ldc2_w (pc := 212) cs_X12_81 dX12_init_212 ?_
  refine b_last (pc := 215) (j := 3) (len := 7) ⟨by decide +kernel, by decide +kernel⟩ rfl (by decide) (by decide) dX12_init_215 ?_
  refine r_dup (pc := 216) dX12_init_216 rfl ?_
  refine r_iconst (pc := 217) (4) dX12_init_217 rfl ?_
  refine r_ldc2_w (pc := 218) cs_X12_59 dX12_init_218 ?_
  refine b_last (pc := 221) (j := 4) (len := 7) ⟨by decide +kernel, by decide +kernel⟩ rfl (by decide) (by decide) dX12_init_221 ?_
  refine r_dup (pc := 222) dX12_init_222 rfl ?_
  refine r_iconst (pc := 223) (5) dX12_init_223 rfl ?_
  refine r_ldc2_w (pc := 224) cs_X12_65 dX12_init_224 ?_
  refine b_last (pc := 227) (j := 5) (len := 7) ⟨by decide +kernel, by decide +kernel⟩ rfl (by decide) (by decide) dX12_init_227 ?_
  refine r_dup (pc := 228) dX12_init_228 rfl ?_
  refine r_bipush (pc := 229) (6) dX12_init_229 rfl ?_
  refine r_ldc2_w (pc := 231) cs_X12_83 dX12_init_231 ?_
  refine b_last (pc := 234) (j := 6) (len := 7) ⟨by decide +kernel, by decide +kernel⟩ rfl (by decide) (by decide) dX12_init_234 ?_
  refine b_putR (pc := 235) fp_X12_85 (Or.inr ⟨_, rfl⟩) (fun _ => rfl) ⟨by decide +kernel, by decide +kernel⟩ dX12_init_235 ?_
  refine r_aload_n (pc := 238) 0 dX12_init_238 rfl ?_
  refine r_iconst (pc := 239) (4) dX12_init_239 rfl ?_
  refine b_arr (pc := 240) (N := 4) (n1 := 120) (Or.inr (Or.inl ⟨rfl, rfl⟩)) rfl (by omega) ⟨by decide +kernel, by decide +kernel, by decide +kernel⟩ rfl (Nat.le_of_ble_eq_true rfl) (Nat.le_of_ble_eq_true rfl) dX12_init_240 ?_
  refine r_dup (pc := 242) dX12_init_242 rfl ?_
  refine r_iconst (pc := 243) (0) dX12_init_243 rfl ?_
  refine r_ldc2_w (pc := 244) cs_X12_88 dX12_init_244 ?_
  refine b_last (pc := 247) (j := 0) (len := 4) ⟨by decide +kernel, by decide +kernel⟩ rfl (by decide) (by decide) dX12_init_247 ?_
  refine r_dup (pc := 248) dX12_init_248 rfl ?_
  refine r_iconst (pc := 249) (1) dX12_init_249 rfl ?_
  refine r_ldc2_w (pc := 250) cs_X12_90 dX12_init_250 ?_
  refine b_last (pc := 253) (j := 1) (len := 4) ⟨by decide +kernel, by decide +kernel⟩ rfl (by decide) (by decide) dX12_init_253 ?_
  refine r_dup (pc := 254) dX12_init_254 rfl ?_
  refine r_iconst (pc := 255) (2) dX12_init_255 rfl ?_
  refine r_ldc2_w (pc := 256) cs_X12_92 dX12_init_256 ?_
  refine b_last (pc := 259) (j := 2) (len := 4) ⟨by decide +kernel, by decide +kernel⟩ rfl (by decide) (by decide) dX12_init_259 ?_
  refine r_dup (pc := 260) dX12_init_260 rfl ?_
  refine r_iconst (pc := 261) (3) dX12_init_261 rfl ?_
  refine r_ldc2_w (pc := 262) cs_X12_94 dX12_init_262 ?_
  refine b_last (pc := 265) (j := 3) (len := 4) ⟨by decide +kernel, by decide +kernel⟩ rfl (by decide) (by decide) dX12_init_265 ?_
  refine b_putR (pc := 266) fp_X12_96 (Or.inr ⟨_, rfl⟩) (fun _ => rfl) ⟨by decide +kernel, by decide +kernel⟩ dX12_init_266 ?_
  refine r_aload_n (pc := 269) 0 dX12_init_269 rfl ?_
  refine r_bipush (pc := 270) (13) dX12_init_270 rfl ?_
  refine b_arr (pc := 272) (N := 13) (n1 := 121) (Or.inr (Or.inl ⟨rfl, rfl⟩)) rfl (by omega) ⟨by decide +kernel, by decide +kernel, by decide +kernel⟩ rfl (Nat.le_of_ble_eq_true rfl) (Nat.le_of_ble_eq_true rfl) dX12_init_272 ?_
  refine b_putR (pc := 274) fp_X12_99 (Or.inr ⟨_, rfl⟩) (fun _ => rfl) ⟨by decide +kernel, by decide +kernel⟩ dX12_init_274 ?_
  refine r_aload_n (pc := 277) 0 dX12_init_277 rfl ?_
  refine r_bipush (pc := 278) (13) dX12_init_278 rfl ?_
  refine b_arr (pc := 280) (N := 13) (n1 := 122) (Or.inr (Or.inl ⟨rfl, rfl⟩)) rfl (by omega) ⟨by decide +kernel, by decide +kernel, by decide +kernel⟩ rfl (Nat.le_of_ble_eq_true rfl) (Nat.le_of_ble_eq_true rfl) dX12_init_280 ?_
  refine b_putR (pc := 282) fp_X12_102 (Or.inr ⟨_, rfl⟩) (fun _ => rfl) ⟨by decide +kernel, by decide +kernel⟩ dX12_init_282 ?_
  refine r_aload_n (pc := 285) 0 dX12_init_285 rfl ?_
  refine r_sipush (pc := 286) (400) dX12_init_286 rfl ?_
  refine b_arr (pc := 289) (N := 400) (n1 := 123) (Or.inr (Or.inl ⟨rfl, rfl⟩)) rfl (by omega) ⟨by decide +kernel, by decide +kernel, by decide +kernel⟩ rfl (Nat.le_of_ble_eq_true rfl) (Nat.le_of_ble_eq_true rfl) dX12_init_289 ?_
  refine b_putR (pc := 291) fp_X12_105 (Or.inr ⟨_, rfl⟩) (fun _ => rfl) ⟨by decide +kernel, by decide +kernel⟩ dX12_init_291 ?_
  refine r_aload_n (pc := 294) 0 dX12_init_294 rfl ?_
  refine r_bipush (pc := 295) (6) dX12_init_295 rfl ?_
  refine b_arr (pc := 297) (N := 6) (n1 := 124) (Or.inl ⟨rfl, rfl⟩) rfl (by omega) ⟨by decide +kernel, by decide +kernel, by decide +kernel⟩ rfl (Nat.le_of_ble_eq_true rfl) (Nat.le_of_ble_eq_true rfl) dX12_init_297 ?_
  refine b_putR (pc := 299) fp_X12_108 (Or.inr ⟨_, rfl⟩) (fun _ => rfl) ⟨by decide +kernel, by decide +kernel⟩ dX12_init_299 ?_
  refine r_aload_n (pc := 302) 0 dX12_init_302 rfl ?_
  refine r_bipush (pc := 303) (81) dX12_init_303 rfl ?_
  refine b_arr (pc := 305) (N := 81) (n1 := 125) (Or.inl ⟨rfl, rfl⟩) rfl (by omega) ⟨by decide +kernel, by decide +kernel, by decide +kernel⟩ rfl (Nat.le_of_ble_eq_true rfl) (Nat.le_of_ble_eq_true rfl) dX12_init_305 ?_
  refine b_putR (pc := 307) fp_X12_111 (Or.inr ⟨_, rfl⟩) (fun _ => rfl) ⟨by decide +kernel, by decide +kernel⟩ dX12_init_307 ?_
  refine r_aload_n (pc := 310) 0 dX12_init_310 rfl ?_
  refine r_bipush (pc := 311) (81) dX12_init_311 rfl ?_
  refine b_arr (pc := 313) (N := 81) (n1 := 126) (Or.inl ⟨rfl, rfl⟩) rfl (by omega) ⟨by decide +kernel, by decide +kernel, by decide +kernel⟩ rfl (Nat.le_of_ble_eq_true rfl) (Nat.le_of_ble_eq_true rfl) dX12_init_313 ?_
  refine b_putR (pc := 315) fp_X12_114 (Or.inr ⟨_, rfl⟩) (fun _ => rfl) ⟨by decide +kernel, by decide +kernel⟩ dX12_init_315 ?_
  refine r_aload_n (pc := 318) 0 dX12_init_318 rfl ?_
  refine r_sipush (pc := 319) (4608) dX12_init_319 rfl ?_
  refine b_arr (pc := 322) (N := 4608) (n1 := 127) (Or.inr (Or.inl ⟨rfl, rfl⟩)) rfl (by omega) ⟨by decide +kernel, by decide +kernel, by decide +kernel⟩ rfl (Nat.le_of_ble_eq_true rfl) (Nat.le_of_ble_eq_true rfl) dX12_init_322 ?_
  refine b_putR (pc := 324) fp_X12_117 (Or.inr ⟨_, rfl⟩) (fun _ => rfl) ⟨by decide +kernel, by decide +kernel⟩ dX12_init_324 ?_
  refine r_aload_n (pc := 327) 0 dX12_init_327 rfl ?_
  refine r_sipush (pc := 328) (4608) dX12_init_328 rfl ?_
  refine b_arr (pc := 331) (N := 4608) (n1 := 128) (Or.inr (Or.inl ⟨rfl, rfl⟩)) rfl (by omega) ⟨by decide +kernel, by decide +kernel, by decide +kernel⟩ rfl (Nat.le_of_ble_eq_true rfl) (Nat.le_of_ble_eq_true rfl) dX12_init_331 ?_
  refine b_putR (pc := 333) fp_X12_120 (Or.inr ⟨_, rfl⟩) (fun _ => rfl) ⟨by decide +kernel, by decide +kernel⟩ dX12_init_333 ?_
  refine r_aload_n (pc := 336) 0 dX12_init_336 rfl ?_
  refine r_bipush (pc := 337) (10) dX12_init_337 rfl ?_
  refine b_arr (pc := 339) (N := 10) (n1 := 129) (Or.inr (Or.inl ⟨rfl, rfl⟩)) rfl (by omega) ⟨by decide +kernel, by decide +kernel, by decide +kernel⟩ rfl (Nat.le_of_ble_eq_true rfl) (Nat.le_of_ble_eq_true rfl) dX12_init_339 ?_
  refine b_putR (pc := 341) fp_X12_123 (Or.inr ⟨_, rfl⟩) (fun _ => rfl) ⟨by decide +kernel, by decide +kernel⟩ dX12_init_341 ?_
  refine r_aload_n (pc := 344) 0 dX12_init_344 rfl ?_
  refine r_bipush (pc := 345) (9) dX12_init_345 rfl ?_
  refine b_arr (pc := 347) (N := 9) (n1 := 130) (Or.inl ⟨rfl, rfl⟩) rfl (by omega) ⟨by decide +kernel, by decide +kernel, by decide +kernel⟩ rfl (Nat.le_of_ble_eq_true rfl) (Nat.le_of_ble_eq_true rfl) dX12_init_347 ?_
  refine b_putR (pc := 349) fp_X12_126 (Or.inr ⟨_, rfl⟩) (fun _ => rfl) ⟨by decide +kernel, by decide +kernel⟩ dX12_init_349 ?_
  refine r_aload_n (pc := 352) 0 dX12_init_352 rfl ?_
  refine r_bipush (pc := 353) (10) dX12_init_353 rfl ?_
  refine b_arr (pc := 355) (N := 10) (n1 := 131) (Or.inl ⟨rfl, rfl⟩) rfl (by omega) ⟨by decide +kernel, by decide +kernel, by decide +kernel⟩ rfl (Nat.le_of_ble_eq_true rfl) (Nat.le_of_ble_eq_true rfl) dX12_init_355 ?_
  refine b_putR (pc := 357) fp_X12_129 (Or.inr ⟨_, rfl⟩) (fun _ => rfl) ⟨by decide +kernel, by decide +kernel⟩ dX12_init_357 ?_
  refine r_aload_n (pc := 360) 0 dX12_init_360 rfl ?_
  refine r_sipush (pc := 361) (4608) dX12_init_361 rfl ?_
  refine b_arr (pc := 364) (N := 4608) (n1 := 132) (Or.inr (Or.inr ⟨rfl, rfl⟩)) rfl (by omega) ⟨by decide +kernel, by decide +kernel, by decide +kernel⟩ rfl (Nat.le_of_ble_eq_true rfl) (Nat.le_of_ble_eq_true rfl) dX12_init_364 ?_
  refine b_putR (pc := 366) fp_X12_132 (Or.inr ⟨_, rfl⟩) (fun _ => rfl) ⟨by decide +kernel, by decide +kernel⟩ dX12_init_366 ?_
  refine r_aload_n (pc := 369) 0 dX12_init_369 rfl ?_
  refine r_sipush (pc := 370) (4608) dX12_init_370 rfl ?_
  refine b_arr (pc := 373) (N := 4608) (n1 := 133) (Or.inr (Or.inr ⟨rfl, rfl⟩)) rfl (by omega) ⟨by decide +kernel, by decide +kernel, by decide +kernel⟩ rfl (Nat.le_of_ble_eq_true rfl) (Nat.le_of_ble_eq_true rfl) dX12_init_373 ?_
  refine b_putR (pc := 375) fp_X12_135 (Or.inr ⟨_, rfl⟩) (fun _ => rfl) ⟨by decide +kernel, by decide +kernel⟩ dX12_init_375 ?_
  refine r_aload_n (pc := 378) 0 dX12_init_378 rfl ?_
  refine r_iconst (pc := 379) (4) dX12_init_379 rfl ?_
  refine b_arr (pc := 380) (N := 4) (n1 := 134) (Or.inr (Or.inl ⟨rfl, rfl⟩)) rfl (by omega) ⟨by decide +kernel, by decide +kernel, by decide +kernel⟩ rfl (Nat.le_of_ble_eq_true rfl) (Nat.le_of_ble_eq_true rfl) dX12_init_380 ?_
  refine r_dup (pc := 382) dX12_init_382 rfl ?_
  refine r_iconst (pc := 383) (0) dX12_init_383 rfl ?_
  refine r_ldc2_w (pc := 384) cs_X12_138 dX12_init_384 ?_
  refine b_last (pc := 387) (j := 0) (len := 4) ⟨by decide +kernel, by decide +kernel⟩ rfl (by decide) (by decide) dX12_init_387 ?_
  refine r_dup (pc := 388) dX12_init_388 rfl ?_
  refine r_iconst (pc := 389) (1) dX12_init_389 rfl ?_
  refine r_ldc2_w (pc := 390) cs_X12_140 dX12_init_390 ?_
  refine b_last (pc := 393) (j := 1) (len := 4) ⟨by decide +kernel, by decide +kernel⟩ rfl (by decide) (by decide) dX12_init_393 ?_
  refine r_dup (pc := 394) dX12_init_394 rfl ?_
  refine r_iconst (pc := 395) (2) dX12_init_395 rfl ?_
  refine r_ldc2_w (pc := 396) cs_X12_142 dX12_init_396 ?_
  refine b_last (pc := 399) (j := 2) (len := 4) ⟨by decide +kernel, by decide +kernel⟩ rfl (by decide) (by decide) dX12_init_399 ?_
  refine r_dup (pc := 400) dX12_init_400 rfl ?_
  refine r_iconst (pc := 401) (3) dX12_init_401 rfl ?_
  refine r_ldc2_w (pc := 402) cs_X12_144 dX12_init_402 ?_
  refine b_last (pc := 405) (j := 3) (len := 4) ⟨by decide +kernel, by decide +kernel⟩ rfl (by decide) (by decide) dX12_init_405 ?_
  refine b_putR (pc := 406) fp_X12_146 (Or.inr ⟨_, rfl⟩) (fun _ => rfl) ⟨by decide +kernel, by decide +kernel⟩ dX12_init_406 ?_
  refine r_aload_n (pc := 409) 0 dX12_init_409 rfl ?_
  refine r_bipush (pc := 410) (96) dX12_init_410 rfl ?_
  refine b_arr (pc := 412) (N := 96) (n1 := 135) (Or.inl ⟨rfl, rfl⟩) rfl (by omega) ⟨by decide +kernel, by decide +kernel, by decide +kernel⟩ rfl (Nat.le_of_ble_eq_true rfl) (Nat.le_of_ble_eq_true rfl) dX12_init_412 ?_
  refine b_putR (pc := 414) fp_X12_149 (Or.inr ⟨_, rfl⟩) (fun _ => rfl) ⟨by decide +kernel, by decide +kernel⟩ dX12_init_414 ?_
  refine r_aload_n (pc := 417) 0 dX12_init_417 rfl ?_
  refine r_iconst (pc := 418) (-1) dX12_init_418 rfl ?_
  refine b_putI (pc := 419) fp_X12_152 ⟨by decide +kernel, by decide +kernel⟩ dX12_init_419 ?_
  refine r_aload_n (pc := 422) 0 dX12_init_422 rfl ?_
  refine r_bipush (pc := 423) (18) dX12_init_423 rfl ?_
  refine b_arr (pc := 425) (N := 18) (n1 := 136) (Or.inl ⟨rfl, rfl⟩) rfl (by omega) ⟨by decide +kernel, by decide +kernel, by decide +kernel⟩ rfl (Nat.le_of_ble_eq_true rfl) (Nat.le_of_ble_eq_true rfl) dX12_init_425 ?_
  refine b_putR (pc := 427) fp_X12_155 (Or.inr ⟨_, rfl⟩) (fun _ => rfl) ⟨by decide +kernel, by decide +kernel⟩ dX12_init_427 ?_
  refine r_aload_n (pc := 430) 0 dX12_init_430 rfl ?_
  refine r_iconst (pc := 431) (-1) dX12_init_431 rfl ?_
  refine b_putI (pc := 432) fp_X12_158 ⟨by decide +kernel, by decide +kernel⟩ dX12_init_432 ?_
  refine r_aload_n (pc := 435) 0 dX12_init_435 rfl ?_
  refine b_getR (pc := 436) (t := 104) fl_X12_13 ⟨by decide +kernel, by decide +kernel⟩ (by decide +kernel) dX12_init_436 ?_
  refine r_iconst (pc := 439) (4) dX12_init_439 rfl ?_
  refine r_iconst (pc := 440) (-1) dX12_init_440 rfl ?_
  refine b_iast (pc := 441) (j := 4) (len := 5450) ⟨by decide +kernel, by decide +kernel⟩ rfl (by decide) (by decide) dX12_init_441 ?_
  refine r_aload_n (pc := 442) 0 dX12_init_442 rfl ?_
  refine b_getR (pc := 443) (t := 104) fl_X12_13 ⟨by decide +kernel, by decide +kernel⟩ (by decide +kernel) dX12_init_443 ?_
  refine r_bipush (pc := 446) (6) dX12_init_446 rfl ?_
  refine r_iconst (pc := 448) (1) dX12_init_448 rfl ?_
  refine b_iast (pc := 449) (j := 6) (len := 5450) ⟨by decide +kernel, by decide +kernel⟩ rfl (by decide) (by decide) dX12_init_449 ?_
  refine r_vret (pc := 450) rfl ?_ (Nat.le_of_ble_eq_true rfl) (Nat.le_of_ble_eq_true rfl) dX12_init_450
  exact ⟨rfl, rfl⟩
end CONS3
