/-! the reference: what is undone, images, counts; cats and ships -/
section MODEL2
variable {E : En} {h : Hp} {m : Nat} {μ : Mu} {l : La}
theorem up2_up2 {α : Type} (f : Nat → Nat → α) (a k : Nat) (v w : α) : up2 (up2 f a k v) a k w = up2 f a k w := by
  funext b j; unfold up2; split <;> rfl
theorem up2_ne {α : Type} {f : Nat → Nat → α} {a k b j : Nat} {v : α} (hne : ¬ (b = a ∧ j = k)) : up2 f a k v b j = f b j := by
  unfold up2; rw [if_neg hne]
def shN (μ : Mu) (i : Nat) : Mu := fun o j => if o = 5 ∧ j < i then μ 5 (j + 33) else μ o j
def shK (μ : Mu) (i : Nat) : Mu := fun o j => if o = 6 ∧ j < i then μ 6 (j + 1) else μ o j
theorem shN_0 (μ : Mu) : shN μ 0 = μ := by funext o j; unfold shN; rw [if_neg (by omega)]
theorem shK_0 (μ : Mu) : shK μ 0 = μ := by funext o j; unfold shK; rw [if_neg (by omega)]
theorem shN_s (μ : Mu) (i : Nat) : up2 (shN μ i) 5 i (shN μ i 5 (i + 33)) = shN μ (i + 1) := by
  have e : shN μ i 5 (i + 33) = μ 5 (i + 33) := by unfold shN; rw [if_neg (by omega)]
  rw [e]; funext o j; unfold up2 shN
  by_cases h1 : o = 5 ∧ j = i
  · obtain ⟨rfl, rfl⟩ := h1; rw [if_pos ⟨rfl, rfl⟩, if_pos ⟨rfl, by omega⟩]
  · rw [if_neg h1]
    by_cases h2 : o = 5 ∧ j < i
    · rw [if_pos h2, if_pos ⟨h2.1, by omega⟩]
    · rw [if_neg h2, if_neg (by omega)]
theorem shK_s (μ : Mu) (i : Nat) : up2 (shK μ i) 6 i (shK μ i 6 (i + 1)) = shK μ (i + 1) := by
  have e : shK μ i 6 (i + 1) = μ 6 (i + 1) := by unfold shK; rw [if_neg (by omega)]
  rw [e]; funext o j; unfold up2 shK
  by_cases h1 : o = 6 ∧ j = i
  · obtain ⟨rfl, rfl⟩ := h1; rw [if_pos ⟨rfl, rfl⟩, if_pos ⟨rfl, by omega⟩]
  · rw [if_neg h1]
    by_cases h2 : o = 6 ∧ j < i
    · rw [if_pos h2, if_pos ⟨h2.1, by omega⟩]
    · rw [if_neg h2, if_neg (by omega)]
/-- room for one more: the oldest goes -/
def remA (μ : Mu) (u : Nat) : Mu := if u = 16 then up2 (shK (shN μ 495) 15) 0 8 (nI 15) else μ
def remU (u : Nat) : Nat := if u = 16 then 15 else u
def remM (μ : Mu) (u : Nat) (s : Int32) : Mu := up2 (up2 (keepN (remA μ u) (remU u) 33) 6 (remU u) s) 0 8 (nI (remU u + 1))
theorem ct_remember (hm : Md E h m) (s : Int32) {u : Nat} (hu : μ 0 8 = nI u) (h16 : u ≤ 16) : Ct E 1 0 0 mX12_remember [.ref m, .int s] (mH h m μ l) (po none (mH h m (remM μ u s) l)) := by
  refine Ct.of (by decide +kernel) (Nat.le_of_ble_eq_true rfl) ?_
  have fin : ∀ (ν : Mu) (w : Nat) (lv : List (Nat × Value)), w < 16 → ν 0 8 = nI w → ν = remA μ u → w = remU u → lv[0]? = some (0, .ref m) → lv[1]? = some (1, .int s) → Wp E mX12_remember (Rm 1 0 0) (Qm E (po none (mH h m (remM μ u s) l)) 0 0) 77 lv [] (mH h m ν l) 0 0 := by
    intro ν w lv hw hv e1 e2 hl0 hl1
    refine r_aload_n (pc := 77) 0 dX12_remember_77 hl0 ?_
    refine r_aload_n (pc := 78) 0 dX12_remember_78 hl0 ?_
    refine q_getI (pc := 79) fl_X12_167 hm dX12_remember_79 ?_
    rw [hv]
    refine r_dV0 (pc := 82) (As := [_]) mv_X12_keepAll ml_X12_174 (ct_keepAll hm w (by omega)) (q_is hm) rfl rfl (Nat.le_of_ble_eq_true rfl) (Nat.le_of_ble_eq_true rfl) (Nat.le_of_ble_eq_true rfl) (Nat.le_of_ble_eq_true rfl) (Nat.le_of_ble_eq_true rfl) dX12_remember_82 ?_
    have e3 : keepN ν w 33 0 8 = nI w := by unfold keepN; rw [if_neg (by omega)]; exact hv
    refine r_aload_n (pc := 85) 0 dX12_remember_85 hl0 ?_
    refine q_getR (pc := 86) fl_X12_26 hm (md_f7 hm) dX12_remember_86 ?_
    refine r_aload_n (pc := 89) 0 dX12_remember_89 hl0 ?_
    refine q_getI (pc := 90) fl_X12_167 hm dX12_remember_90 ?_
    refine r_iload_n (pc := 93) 1 dX12_remember_93 hl1 ?_
    refine q_iast (pc := 94) (j := w) (md_r7 hm) (by decide) e3 (by omega) (by decide) dX12_remember_94 ?_
    refine r_aload_n (pc := 95) 0 dX12_remember_95 hl0 ?_
    refine r_dup (pc := 96) dX12_remember_96 rfl ?_
    refine q_getI (pc := 97) fl_X12_167 hm dX12_remember_97 ?_
    refine r_iconst (pc := 100) (1) dX12_remember_100 rfl ?_
    refine r_iadd (pc := 101) dX12_remember_101 ?_
    refine q_putI (pc := 102) fp_X12_167 hm dX12_remember_102 ?_
    refine r_vret (pc := 105) rfl ?_ (Nat.le_of_ble_eq_true rfl) (Nat.le_of_ble_eq_true rfl) dX12_remember_105
    refine ⟨rfl, ?_⟩
    rw [up2_ne (by omega), e3, nI_1, remM, ← e1, ← e2]
  refine r_aload_n (pc := 0) 0 dX12_remember_0 rfl ?_
  refine q_getI (pc := 1) fl_X12_167 hm dX12_remember_1 ?_
  refine r_bipush (pc := 4) (16) dX12_remember_4 rfl ?_
  refine r_icmp_ne (pc := 6) (tgt := 77) dX12_remember_6 (by decide) (fun c_6 => ?_) (fun c_6 => ?_)
  · refine fin μ u _ (by rcases Nat.lt_or_ge u 16 with q | q
                         · exact q
                         · exact absurd (by rw [hu, show u = 16 by omega]; decide) c_6) hu ?_ ?_ rfl rfl
    · rw [remA, if_neg (fun q => c_6 (by rw [hu, q]; decide))]
    · rw [remU, if_neg (fun q => c_6 (by rw [hu, q]; decide))]
  · have hu16 : u = 16 := (nI_eq (by omega) (by decide)).mp (hu.symm.trans c_6)
    subst hu16
    refine r_iconst (pc := 9) (0) dX12_remember_9 rfl ?_
    refine r_istore_n (pc := 10) (lv' := [(0, _), (1, _), (2, _)]) dX12_remember_10 (Nat.le_of_ble_eq_true rfl) rfl ?_
    have loop1 : ∀ k, k ≤ 495 → Wp E mX12_remember (Rm 1 0 0) (Qm E (po none (mH h m (remM μ 16 s) l)) 0 0) 11 [(0, .ref m), (1, .int s), (2, .int (nI k))] [] (mH h m (shN μ k) l) 0 0 := by
      refine upTo (fun k hk ih => ?_) ?_
      · refine r_iload_n (pc := 11) 2 dX12_remember_11 rfl ?_
        refine r_sipush (pc := 12) (495) dX12_remember_12 rfl ?_
        refine r_icmp_ge (pc := 15) (tgt := 39) dX12_remember_15 (by decide) (fun c_15 => ?_) (fun c_15 => ?_)
        · exact absurd c_15 (nI_ge (b := 495) hk (by decide))
        · refine r_aload_n (pc := 18) 0 dX12_remember_18 rfl ?_
          refine q_getR (pc := 19) fl_X12_23 hm (md_f6 hm) dX12_remember_19 ?_
          refine r_iload_n (pc := 22) 2 dX12_remember_22 rfl ?_
          refine r_aload_n (pc := 23) 0 dX12_remember_23 rfl ?_
          refine q_getR (pc := 24) fl_X12_23 hm (md_f6 hm) dX12_remember_24 ?_
          refine r_iload_n (pc := 27) 2 dX12_remember_27 rfl ?_
          refine r_bipush (pc := 28) (33) dX12_remember_28 rfl ?_
          refine r_iadd (pc := 30) dX12_remember_30 ?_
          refine q_iald (pc := 31) (j := k + 33) (md_r6 hm) (by decide) (by simp only [fa_lit, nI_add, nI_mul]) (by omega) (by decide) dX12_remember_31 ?_
          refine q_iast (pc := 32) (j := k) (md_r6 hm) (by decide) rfl (by omega) (by decide) dX12_remember_32 ?_
          refine r_iinc (pc := 33) (v := _ + (1)) (lv' := [(0, _), (1, _), (2, _)]) 2 dX12_remember_33 rfl rfl (Nat.le_of_ble_eq_true rfl) rfl ?_
          refine r_goto (pc := 36) (tgt := 11) dX12_remember_36 (by decide) ?_
          rw [nI_1, shN_s]; exact ih
      · refine r_iload_n (pc := 11) 2 dX12_remember_11 rfl ?_
        refine r_sipush (pc := 12) (495) dX12_remember_12 rfl ?_
        refine r_icmp_ge (pc := 15) (tgt := 39) dX12_remember_15 (by decide) (fun c_15 => ?_) (fun c_15 => ?_)
        · refine r_iconst (pc := 39) (0) dX12_remember_39 rfl ?_
          refine r_istore_n (pc := 40) (lv' := [(0, _), (1, _), (2, _)]) dX12_remember_40 (Nat.le_of_ble_eq_true rfl) rfl ?_
          have loop2 : ∀ k, k ≤ 15 → Wp E mX12_remember (Rm 1 0 0) (Qm E (po none (mH h m (remM μ 16 s) l)) 0 0) 41 [(0, .ref m), (1, .int s), (2, .int (nI k))] [] (mH h m (shK (shN μ 495) k) l) 0 0 := by
            refine upTo (fun k hk ih => ?_) ?_
            · refine r_iload_n (pc := 41) 2 dX12_remember_41 rfl ?_
              refine r_bipush (pc := 42) (15) dX12_remember_42 rfl ?_
              refine r_icmp_ge (pc := 44) (tgt := 67) dX12_remember_44 (by decide) (fun c_44 => ?_) (fun c_44 => ?_)
              · exact absurd c_44 (nI_ge (b := 15) hk (by decide))
              · refine r_aload_n (pc := 47) 0 dX12_remember_47 rfl ?_
                refine q_getR (pc := 48) fl_X12_26 hm (md_f7 hm) dX12_remember_48 ?_
                refine r_iload_n (pc := 51) 2 dX12_remember_51 rfl ?_
                refine r_aload_n (pc := 52) 0 dX12_remember_52 rfl ?_
                refine q_getR (pc := 53) fl_X12_26 hm (md_f7 hm) dX12_remember_53 ?_
                refine r_iload_n (pc := 56) 2 dX12_remember_56 rfl ?_
                refine r_iconst (pc := 57) (1) dX12_remember_57 rfl ?_
                refine r_iadd (pc := 58) dX12_remember_58 ?_
                refine q_iald (pc := 59) (j := k + 1) (md_r7 hm) (by decide) (by simp only [fa_lit, nI_add, nI_mul]) (by omega) (by decide) dX12_remember_59 ?_
                refine q_iast (pc := 60) (j := k) (md_r7 hm) (by decide) rfl (by omega) (by decide) dX12_remember_60 ?_
                refine r_iinc (pc := 61) (v := _ + (1)) (lv' := [(0, _), (1, _), (2, _)]) 2 dX12_remember_61 rfl rfl (Nat.le_of_ble_eq_true rfl) rfl ?_
                refine r_goto (pc := 64) (tgt := 41) dX12_remember_64 (by decide) ?_
                rw [nI_1, shK_s]; exact ih
            · refine r_iload_n (pc := 41) 2 dX12_remember_41 rfl ?_
              refine r_bipush (pc := 42) (15) dX12_remember_42 rfl ?_
              refine r_icmp_ge (pc := 44) (tgt := 67) dX12_remember_44 (by decide) (fun c_44 => ?_) (fun c_44 => ?_)
              · refine r_aload_n (pc := 67) 0 dX12_remember_67 rfl ?_
                refine r_dup (pc := 68) dX12_remember_68 rfl ?_
                refine q_getI (pc := 69) fl_X12_167 hm dX12_remember_69 ?_
                refine r_iconst (pc := 72) (1) dX12_remember_72 rfl ?_
                refine r_isub (pc := 73) dX12_remember_73 ?_
                refine q_putI (pc := 74) fp_X12_167 hm dX12_remember_74 ?_
                have e4 : shK (shN μ 495) 15 0 8 = nI 16 := by unfold shK shN; rw [if_neg (by omega), if_neg (by omega)]; exact hu
                rw [e4, show nI 16 - 1 = nI 15 by decide]
                exact fin _ 15 _ (by decide) up2_at (by rw [remA, if_pos rfl]) (by rw [remU, if_pos rfl]) rfl rfl
              · exact absurd (show (15 : Int32) ≤ nI 15 by decide) c_44
          have h0 := loop2 0 (by omega)
          rw [shK_0] at h0
          exact h0
        · exact absurd (show (495 : Int32) ≤ nI 495 by decide) c_15
    have h0 := loop1 0 (by omega)
    rw [shN_0] at h0
    exact h0
theorem t_3 : (-3 : Int32) < 0 → ∃ j, j < 7 ∧ -(-3 : Int32) = nI j := fun _ => ⟨3, by decide, by decide⟩
theorem t_1 : (-1 : Int32) < 0 → ∃ j, j < 7 ∧ -(-1 : Int32) = nI j := fun _ => ⟨1, by decide, by decide⟩
theorem t_2 : (-2 : Int32) < 0 → ∃ j, j < 7 ∧ -(-2 : Int32) = nI j := fun _ => ⟨2, by decide, by decide⟩
theorem t_5 : (-5 : Int32) < 0 → ∃ j, j < 7 ∧ -(-5 : Int32) = nI j := fun _ => ⟨5, by decide, by decide⟩
theorem t_6 : (-6 : Int32) < 0 → ∃ j, j < 7 ∧ -(-6 : Int32) = nI j := fun _ => ⟨6, by decide, by decide⟩
theorem t_p {v : Int32} (hv : 0 ≤ v) : v < 0 → ∃ j, j < 7 ∧ -v = nI j := fun q => absurd hv (Int32.not_le.mpr q)
/-- undo: the answer, and the memory behind it -/
def undoM (μ : Mu) (u : Nat) : Int32 × Mu := if u = 0 then (-3, tellM (up2 μ 0 0 0) (-3)) else (μ 6 (u - 1), tellM (backN (up2 (up2 μ 0 0 0) 0 8 (nI (u - 1))) (u - 1) 33) (μ 6 (u - 1)))
theorem ct_undo (hm : Md E h m) {u : Nat} (hu : μ 0 8 = nI u) (h16 : u ≤ 16) (hs : ∀ j, j < u → 0 ≤ μ 6 j) : Ct E 1 0 0 mX12_undo [.ref m] (mH h m μ l) (po (some (.int (undoM μ u).1)) (mH h m (undoM μ u).2 l)) := by
  refine Ct.of (by decide +kernel) (Nat.le_of_ble_eq_true rfl) ?_
  refine r_aload_n (pc := 0) 0 dX12_undo_0 rfl ?_
  refine r_iconst (pc := 1) (0) dX12_undo_1 rfl ?_
  refine q_putI (pc := 2) fp_X12_161 hm dX12_undo_2 ?_
  refine r_aload_n (pc := 5) 0 dX12_undo_5 rfl ?_
  refine q_getI (pc := 6) fl_X12_167 hm dX12_undo_6 ?_
  refine r_if_ne (pc := 9) (tgt := 19) dX12_undo_9 (by decide) (fun c_9 => ?_) (fun c_9 => ?_)
  · have hu0 : ¬ u = 0 := fun q => c_9 (by rw [up2_ne (by omega), hu, q]; rfl)
    have e1 : up2 μ 0 0 0 0 8 = nI u := by rw [up2_ne (by omega)]; exact hu
    refine r_aload_n (pc := 19) 0 dX12_undo_19 rfl ?_
    refine r_dup (pc := 20) dX12_undo_20 rfl ?_
    refine q_getI (pc := 21) fl_X12_167 hm dX12_undo_21 ?_
    refine r_iconst (pc := 24) (1) dX12_undo_24 rfl ?_
    refine r_isub (pc := 25) dX12_undo_25 ?_
    refine q_putI (pc := 26) fp_X12_167 hm dX12_undo_26 ?_
    rw [e1, show nI u - 1 = nI (u - 1) from nI_sub (a := u) (b := 1) (by omega)]
    have e2 : up2 (up2 μ 0 0 0) 0 8 (nI (u - 1)) 0 8 = nI (u - 1) := up2_at
    refine r_aload_n (pc := 29) 0 dX12_undo_29 rfl ?_
    refine r_aload_n (pc := 30) 0 dX12_undo_30 rfl ?_
    refine q_getI (pc := 31) fl_X12_167 hm dX12_undo_31 ?_
    rw [e2]
    refine r_dV0 (pc := 34) (As := [_]) mv_X12_putBack ml_X12_178 (ct_putBack hm (u - 1) (by omega)) (q_is hm) rfl rfl (Nat.le_of_ble_eq_true rfl) (Nat.le_of_ble_eq_true rfl) (Nat.le_of_ble_eq_true rfl) (Nat.le_of_ble_eq_true rfl) (Nat.le_of_ble_eq_true rfl) dX12_undo_34 ?_
    refine r_aload_n (pc := 37) 0 dX12_undo_37 rfl ?_
    refine r_aload_n (pc := 38) 0 dX12_undo_38 rfl ?_
    refine q_getR (pc := 39) fl_X12_26 hm (md_f7 hm) dX12_undo_39 ?_
    refine r_aload_n (pc := 42) 0 dX12_undo_42 rfl ?_
    refine q_getI (pc := 43) fl_X12_167 hm dX12_undo_43 ?_
    have e3 : backN (up2 (up2 μ 0 0 0) 0 8 (nI (u - 1))) (u - 1) 33 0 8 = nI (u - 1) := by unfold backN; rw [if_neg (by omega)]; exact e2
    have e4 : backN (up2 (up2 μ 0 0 0) 0 8 (nI (u - 1))) (u - 1) 33 6 (u - 1) = μ 6 (u - 1) := by unfold backN; rw [if_neg (by omega), up2_ne (by omega), up2_ne (by omega)]
    refine q_iald (pc := 46) (j := u - 1) (md_r7 hm) (by decide) e3 (by omega) (by decide) dX12_undo_46 ?_
    refine r_dV (pc := 47) (As := [_]) mv_X12_tell ml_X12_170 (ct_tell hm _ (t_p (by rw [e4]; exact hs _ (by omega)))) (q_is hm) rfl rfl (Nat.le_of_ble_eq_true rfl) (Nat.le_of_ble_eq_true rfl) (Nat.le_of_ble_eq_true rfl) (Nat.le_of_ble_eq_true rfl) (Nat.le_of_ble_eq_true rfl) dX12_undo_47 ?_
    refine r_iret (pc := 50) rfl ?_ (Nat.le_of_ble_eq_true rfl) (Nat.le_of_ble_eq_true rfl) dX12_undo_50
    rw [e4, undoM, if_neg hu0]
    exact ⟨rfl, rfl⟩
  · have hu0 : u = 0 := by
      rw [up2_ne (by omega), hu] at c_9
      exact (nI_eq (by omega) (by decide)).mp (c_9.trans nI_0.symm)
    refine r_aload_n (pc := 12) 0 dX12_undo_12 rfl ?_
    refine r_bipush (pc := 13) (-3) dX12_undo_13 rfl ?_
    refine r_dV (pc := 15) (As := [_]) mv_X12_tell ml_X12_170 (ct_tell hm _ t_3) (q_is hm) rfl rfl (Nat.le_of_ble_eq_true rfl) (Nat.le_of_ble_eq_true rfl) (Nat.le_of_ble_eq_true rfl) (Nat.le_of_ble_eq_true rfl) (Nat.le_of_ble_eq_true rfl) dX12_undo_15 ?_
    refine r_iret (pc := 18) rfl ?_ (Nat.le_of_ble_eq_true rfl) (Nat.le_of_ble_eq_true rfl) dX12_undo_18
    rw [undoM, if_pos hu0]
    exact ⟨rfl, rfl⟩
end MODEL2
