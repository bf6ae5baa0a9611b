/-! the class: the words that it learns -/
section LEARN
variable {E : En} {h : Hp} {a b q w : Nat}
def lnR : List Nat → Nat → (Nat → Nat) → Nat → Nat
  | [], _, f => f
  | c0 :: l, w, f => if c0 = 32 then lnR l (w + 1) f else lnR l w (va_up f w (f w * 32 + (c0 - 96)))
def lnK : List Nat → Nat → Bool
  | [], _ => true
  | c0 :: l, w => decide (w < 27) && (if c0 = 32 then lnK l (w + 1) else decide (97 ≤ c0) && lnK l w)
theorem wRow_II {g : Nat → Int32} : hI (wRow h b g) b = g := by show va_up h.2.1 b g b = g; rw [va_up_self]
theorem wRow_ww {g : Nat → Int32} {j : Nat} {v : Int32} : wI (wRow h b g) b j v = wRow h b (va_up g j v) := by
  unfold wI wRow
  have e : up2 (va_up h.2.1 b g) b j v = va_up h.2.1 b (va_up g j v) := by
    funext y
    by_cases z : y = b
    · subst z; rw [up2_same, va_up_self, va_up_self]
    · rw [up2_other z, va_up_ne _ _ z, va_up_ne _ _ z]
  show (h.1, up2 (va_up h.2.1 b g) b j v, h.2.2) = _
  rw [e]
theorem wRow_00 (h0 : hI h b = fun _ => 0) : wRow h b (fun _ => nI 0) = h := by
  have e : va_up h.2.1 b (fun _ => nI 0) = h.2.1 := by
    funext y
    by_cases z : y = b
    · subst z; rw [va_up_self]; exact h0.symm
    · rw [va_up_ne _ _ z]
  unfold wRow
  rw [e]
theorem c_learnWords {v : Value} (ha : isA E h a 6) (hr : hR h a 1 = some b) (hb : isR E h b 13 27) (h0 : hI h b = fun _ => 0) (hK : TxK E q w) (hc : CoK E) (hf : FoK E v) : Ct E 4 0 0 mX6_learnWords [.ref a] h (po none (wRow h b (fun j => nI (lnR txL 0 (fun _ => 0) j)))) := by
  refine Ct.of (by decide +kernel) (Nat.le_of_ble_eq_true rfl) ?_
  have loop : ∀ (l : List Nat) (i k : Nat) (f : Nat → Nat), txL.drop i = l → i + l.length = 130 → lnK l k = true → k < 1000 → (∀ j, lnR l k f j = lnR txL 0 (fun _ => 0) j) → Wp E mX6_learnWords (Rm 4 0 0) (Qm E (po none (wRow h b (fun j => nI (lnR txL 0 (fun _ => 0) j)))) 0 0) 4 [(0, .ref a), (1, .int (nI k)), (2, .int (nI i))] [] (wRow h b (fun j => nI (f j))) 0 0 := by
    intro l
    induction l with
    | nil =>
      intro i k f hd0 hi hk hk1 hR0
      have hi : i = 130 := hi
      subst hi
      refine r_iload_n (pc := 4) 2 dX6_learnWords_4 rfl ?_
      refine r_ldcS (pc := 5) hK rfl dX6_learnWords_5 ?_
      refine r_dT (pc := 7) (As := []) hK mt_J0_length_8abf5 rfl ml_X6_38 (c_length hK hc) rfl rfl (Nat.le_of_ble_eq_true rfl) (Nat.le_of_ble_eq_true rfl) (Nat.le_of_ble_eq_true rfl) (Nat.le_of_ble_eq_true rfl) (Nat.le_of_ble_eq_true rfl) dX6_learnWords_7 ?_
      refine r_icmp_ge (pc := 10) (tgt := 60) dX6_learnWords_10 (by decide) (fun _ => ?_) (fun z => absurd (by decide) z)
      refine r_vret (pc := 60) rfl ?_ (Nat.le_of_ble_eq_true rfl) (Nat.le_of_ble_eq_true rfl) dX6_learnWords_60
      refine ⟨rfl, ?_⟩
      rw [show (fun j => nI (f j)) = fun j => nI (lnR txL 0 (fun _ => 0) j) from funext fun j => by rw [← hR0 j]; rfl]
    | cons c0 l ih =>
      intro i k f hd0 hi hk hk1 hR0
      have hi : i + (l.length + 1) = 130 := hi
      have hlt : i < 130 := by omega
      have hat : txL.getD i 0 = c0 := by
        have e := congrArg (fun z => z.head?) hd0
        rw [List.head?_drop] at e
        rw [List.getD_eq_getElem?_getD, e]; rfl
      have hdr : txL.drop (i + 1) = l := by
        rw [← List.tail_drop, hd0]; rfl
      have hkk : k < 27 ∧ (if c0 = 32 then lnK l (k + 1) else decide (97 ≤ c0) && lnK l k) = true := by
        unfold lnK at hk
        rw [Bool.and_eq_true, decide_eq_true_eq] at hk
        exact hk
      obtain ⟨hk27, hk2⟩ := hkk
      refine r_iload_n (pc := 4) 2 dX6_learnWords_4 rfl ?_
      refine r_ldcS (pc := 5) hK rfl dX6_learnWords_5 ?_
      refine r_dT (pc := 7) (As := []) hK mt_J0_length_8abf5 rfl ml_X6_38 (c_length hK hc) rfl rfl (Nat.le_of_ble_eq_true rfl) (Nat.le_of_ble_eq_true rfl) (Nat.le_of_ble_eq_true rfl) (Nat.le_of_ble_eq_true rfl) (Nat.le_of_ble_eq_true rfl) dX6_learnWords_7 ?_
      refine r_icmp_ge (pc := 10) (tgt := 60) dX6_learnWords_10 (by decide) (fun z => absurd (nI_lt hlt (by decide)) (Int32.not_lt.mpr z)) (fun _ => ?_)
      refine r_iload_n (pc := 13) 1 dX6_learnWords_13 rfl ?_
      refine r_bipush (pc := 14) (27) dX6_learnWords_14 rfl ?_
      refine r_icmp_ge (pc := 16) (tgt := 60) dX6_learnWords_16 (by decide) (fun z => absurd (nI_lt (b := 27) hk27 (by decide)) (Int32.not_lt.mpr z)) (fun _ => ?_)
      refine r_ldcS (pc := 19) hK rfl dX6_learnWords_19 ?_
      refine r_iload_n (pc := 21) 2 dX6_learnWords_21 rfl ?_
      refine r_dT (pc := 22) (As := [_]) hK mt_J0_charAt_5068e rfl ml_X6_44 (c_charAt0 hK hc hf hlt) rfl rfl (Nat.le_of_ble_eq_true rfl) (Nat.le_of_ble_eq_true rfl) (Nat.le_of_ble_eq_true rfl) (Nat.le_of_ble_eq_true rfl) (Nat.le_of_ble_eq_true rfl) dX6_learnWords_22 ?_
      rw [hat]
      have hc128 : c0 < 128 := by rw [← hat]; exact (tx_byte i hlt).2.2
      refine r_istore_n (pc := 25) (lv' := [(0, _), (1, _), (2, _), (3, _)]) dX6_learnWords_25 (Nat.le_of_ble_eq_true rfl) rfl ?_
      refine r_iload_n (pc := 26) 3 dX6_learnWords_26 rfl ?_
      refine r_bipush (pc := 27) (32) dX6_learnWords_27 rfl ?_
      have ew : ∀ y : Nat, nI y + 1 = nI (y + 1) := fun y => nI_add y 1
      refine r_icmp_ne (pc := 29) (tgt := 38) dX6_learnWords_29 (by decide) (fun hne => ?_) (fun heq => ?_)
      · have hn32 : ¬ c0 = 32 := fun z => hne (by rw [z]; rfl)
        rw [if_neg hn32, Bool.and_eq_true, decide_eq_true_eq] at hk2
        refine r_aload_n (pc := 38) 0 dX6_learnWords_38 rfl ?_
        refine r_getR (pc := 39) fl_X6_20 (show isA E (wRow h b _) a 6 from ha) (show hR (wRow h b _) a 1 = some b from hr) dX6_learnWords_39 ?_
        refine r_iload_n (pc := 42) 1 dX6_learnWords_42 rfl ?_
        refine r_aload_n (pc := 43) 0 dX6_learnWords_43 rfl ?_
        refine r_getR (pc := 44) fl_X6_20 (show isA E (wRow h b _) a 6 from ha) (show hR (wRow h b _) a 1 = some b from hr) dX6_learnWords_44 ?_
        refine r_iload_n (pc := 47) 1 dX6_learnWords_47 rfl ?_
        refine r_iald (pc := 48) (j := k) (show isR E (wRow h b _) b 13 27 from hb) rfl hk27 (by decide) dX6_learnWords_48 ?_
        rw [wRow_II]
        refine r_iload_n (pc := 49) 3 dX6_learnWords_49 rfl ?_
        refine r_dS (pc := 50) (As := [_, _]) ms_X6_withLetter ml_X6_48 (ct_withLetter hk2.1) rfl rfl (Nat.le_of_ble_eq_true rfl) (Nat.le_of_ble_eq_true rfl) (Nat.le_of_ble_eq_true rfl) (Nat.le_of_ble_eq_true rfl) (Nat.le_of_ble_eq_true rfl) dX6_learnWords_50 ?_
        refine r_iast (pc := 53) (j := k) (show isR E (wRow h b _) b 13 27 from hb) rfl hk27 (by decide) dX6_learnWords_53 ?_
        rw [wRow_ww]
        have ef : va_up (fun j => nI (f j)) k (nI (f k * 32 + (c0 - 96))) = fun j => nI (va_up f k (f k * 32 + (c0 - 96)) j) := by
          funext j
          by_cases z : j = k
          · subst z; rw [va_up_self, va_up_self]
          · rw [va_up_ne _ _ z, va_up_ne _ _ z]
        rw [ef]
        refine r_iinc (pc := 54) (v := _ + (1)) (lv' := [(0, _), (1, _), (2, _), (3, _)]) 2 dX6_learnWords_54 rfl rfl (Nat.le_of_ble_eq_true rfl) rfl ?_
        refine r_goto (pc := 57) (tgt := 4) dX6_learnWords_57 (by decide) ?_
        rw [ew]
        refine r_sub [0, 1, 2] rfl ?_
        refine ih (i + 1) k (va_up f k (f k * 32 + (c0 - 96))) hdr (by omega) hk2.2 hk1 (fun j => ?_)
        rw [← hR0 j]
        show _ = (if c0 = 32 then lnR l (k + 1) f else lnR l k (va_up f k (f k * 32 + (c0 - 96)))) j
        rw [if_neg hn32]
      · have h32 : c0 = 32 := nI_inj (by omega) (by omega) heq
        rw [if_pos h32] at hk2
        refine r_iinc (pc := 32) (v := _ + (1)) (lv' := [(0, _), (1, _), (2, _), (3, _)]) 1 dX6_learnWords_32 rfl rfl (Nat.le_of_ble_eq_true rfl) rfl ?_
        refine r_goto (pc := 35) (tgt := 54) dX6_learnWords_35 (by decide) ?_
        refine r_iinc (pc := 54) (v := _ + (1)) (lv' := [(0, _), (1, _), (2, _), (3, _)]) 2 dX6_learnWords_54 rfl rfl (Nat.le_of_ble_eq_true rfl) rfl ?_
        refine r_goto (pc := 57) (tgt := 4) dX6_learnWords_57 (by decide) ?_
        rw [ew, ew]
        refine r_sub [0, 1, 2] rfl ?_
        refine ih (i + 1) (k + 1) f hdr (by omega) hk2 (by omega) (fun j => ?_)
        rw [← hR0 j]
        show _ = (if c0 = 32 then lnR l (k + 1) f else lnR l k (va_up f k (f k * 32 + (c0 - 96)))) j
        rw [if_pos h32]
  refine r_iconst (pc := 0) (0) dX6_learnWords_0 rfl ?_
  refine r_istore_n (pc := 1) (lv' := [(0, _), (1, _)]) dX6_learnWords_1 (Nat.le_of_ble_eq_true rfl) rfl ?_
  refine r_iconst (pc := 2) (0) dX6_learnWords_2 rfl ?_
  refine r_istore_n (pc := 3) (lv' := [(0, _), (1, _), (2, _)]) dX6_learnWords_3 (Nat.le_of_ble_eq_true rfl) rfl ?_
  have go := loop txL 0 0 (fun _ => 0) rfl (by decide +kernel) (by decide +kernel) (by omega) (fun _ => rfl)
  rw [wRow_00 h0] at go
  exact go
/-- what was learned, as it lies there -/
theorem learned : ∀ j, j < 27 → lnR txL 0 (fun _ => 0) j = vocN j := by decide +kernel
end LEARN
