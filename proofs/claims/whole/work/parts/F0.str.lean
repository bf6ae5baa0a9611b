/-! texts: rows, length, charAt -/
section STRROWS
variable {E : En} {M : Mi} {R : Room} {Q : Qg} {pc : Nat} {lv lv' : List (Nat × Value)} {st : List Value} {h : Hp} {cl sl : Nat}
variable {d n idx b : Nat} {M' : Mi} {As : List Value} {st0 : List Value} {v : Value}
/-- what is known of the one text: it lies at q, its bytes at w -/
def TxK (E : En) (q w : Nat) : Prop := ∀ (U : State) (H : Heap), eK E U H → vk_R RX6 36 "or and not if times on as earns dares shows bars sign die clip pass cat life spent ear gold ship year mood done latest alive crew " q U ∧ va_O RJ0 q (eA E) U H ∧ va_OF RJ0 "coder" "B" (.int 0) q (eA E) U H ∧ va_OF RJ0 "value" "[B" (.ref w) q (eA E) U H ∧ va_T .byte w 130 (fun j => .int (nI (txL.getD j 0))) (eA E) U H
theorem r_ldcS {q w : Nat} (hK : TxK E q w) (hM : M.1.cls = RX6) (hd : decode M.2.1 pc = .ok (.ldc 36, 2)) (kk : Wp E M R Q (pc + 2) lv (.ref q :: st) h cl sl) : Wp E M R Q pc lv st h cl sl := by
  intro p e s m ar bl me c C H lo ls hH hS hl
  obtain ⟨hx, hb, -, -, -, -, hown, hts, hKw, hz⟩ := id C
  rw [hM] at hown
  exact va_ldcS hx hb hown (hK _ _ hKw.2.2.1).1 hd (kk p e s m ar bl me c C H lo ls hH hS hl)
theorem r_getC {q w : Nat} (hK : TxK E q w) (hM : M.1.cls = RJ0) (hd : decode M.2.1 pc = .ok (.getfield 15, 3)) (kk : Wp E M R Q (pc + 3) lv (.int 0 :: st) h cl sl) : Wp E M R Q pc lv (.ref q :: st) h cl sl := by
  intro p e s m ar bl me c C H lo ls hH hS hl
  obtain ⟨hx, hb, -, -, -, -, hown, hts, hKw, hz⟩ := id C
  rw [hM] at hown
  exact vk_getf hx hb (hK _ _ hKw.2.2.1).2.2.1 hS hown (hts _ fk_J0_15) (fun _ z => z) hd (kk p e s m ar bl me c C H lo ls hH hS hl)
theorem r_getV {q w : Nat} (hK : TxK E q w) (hM : M.1.cls = RJ0) (hd : decode M.2.1 pc = .ok (.getfield 9, 3)) (kk : Wp E M R Q (pc + 3) lv (.ref w :: st) h cl sl) : Wp E M R Q pc lv (.ref q :: st) h cl sl := by
  intro p e s m ar bl me c C H lo ls hH hS hl
  obtain ⟨hx, hb, -, -, -, -, hown, hts, hKw, hz⟩ := id C
  rw [hM] at hown
  exact vk_getf hx hb (hK _ _ hKw.2.2.1).2.2.2.1 hS hown (hts _ fk_J0_9) (fun _ z => z) hd (kk p e s m ar bl me c C H lo ls hH hS hl)
theorem r_tlen {q w : Nat} (hK : TxK E q w) (hd : decode M.2.1 pc = .ok (.arraylength, 1)) (kk : Wp E M R Q (pc + 1) lv (.int (nI 130) :: st) h cl sl) : Wp E M R Q pc lv (.ref w :: st) h cl sl := by
  intro p e s m ar bl me c C H lo ls hH hS hl
  obtain ⟨hx, hb, -, -, -, -, hown, hts, hKw, hz⟩ := id C
  exact va_tlen hx hb (hK _ _ hKw.2.2.1).2.2.2.2 hS rfl hd (kk p e s m ar bl me c C H lo ls hH hS hl)
theorem r_tb {q w j : Nat} (hK : TxK E q w) (hj : j < 130) (hd : decode M.2.1 pc = .ok (.baload, 1)) (kk : Wp E M R Q (pc + 1) lv (.int (nI (txL.getD j 0)) :: st) h cl sl) : Wp E M R Q pc lv (.int (nI j) :: .ref w :: st) h cl sl := by
  intro p e s m ar bl me c C H lo ls hH hS hl
  obtain ⟨hx, hb, -, -, -, -, hown, hts, hKw, hz⟩ := id C
  exact va_tb hx hb (hK _ _ hKw.2.2.1).2.2.2.2 hS (vp_in_nI hj (by decide)) (by rw [nI_clamp (by omega)]) hd (kk p e s m ar bl me c C H lo ls hH hS hl)
theorem r_i2c {y v0 : Int32} (hv : (y.toUInt32 % 65536).toInt32 = v0) (hd : decode M.2.1 pc = .ok (.i2c, 1)) (kk : Wp E M R Q (pc + 1) lv (.int v0 :: st) h cl sl) : Wp E M R Q pc lv (.int y :: st) h cl sl := by
  intro p e s m ar bl me c C H lo ls hH hS hl
  exact lv_i2c C.1 C.2.1 hd hv (kk p e s m ar bl me c C H lo ls hH hS hl)
theorem r_nret {post : Option Value → Hp → Prop} {mc ms : Nat} {v0 : Int32} {ty : FieldType} (hr : M.2.2.2 = some ty) (hv : narrow ty (.int v0) = .int v0) (hq : post (some (.int v0)) h) (hc1 : cl ≤ mc) (hs1 : sl ≤ ms) (hd : decode M.2.1 pc = .ok (.ireturn, 1)) : Wp E M R (Qm E post mc ms) pc lv [.int v0] h cl sl := by
  intro p e s m ar bl me c C H lo ls hH hS hl
  obtain ⟨hx, hbb, -, hret, hlk, -, -, -, -, -⟩ := id C
  exact W.widen hc1 hs1 (W.zret hx hbb (hret.trans hr) hv (fun t ht _ => ⟨⟨_, h, rfl, hq, by rw [ht]; exact hH⟩, hS.F ht⟩) (fun q hq => hS.2.2 q hq) hd hlk)
theorem r_dT {q w : Nat} (hK : TxK E q w) (hm : Mc M' n ∧ Cond.instanceMethod M'.1 ∈ gws ∧ Cond.selects RJ0 M'.1 M'.1 ∈ gws) (hM : M'.1.cls = RJ0) (hlk : Cond.methodLink M.1.cls idx M'.1 ∈ gws) (hct : Ct E d 0 0 M' (.ref q :: As) h (po (some v) h)) (hst : st0 = As.reverse ++ .ref q :: st) (hn : As.length = n) (hW : (st.map fun v => v.category).sum ≤ 8) (hF : d + 1 ≤ R.frames) (hL : 8 + (M'.2.2.1 + 11) + 40 * d ≤ R.locals) (hc1 : cl ≤ R.cells) (hs1 : sl ≤ R.slots) (hd : decode M.2.1 pc = .ok (.invokevirtual idx, 3)) (kk : Wp E M R Q (pc + 3) lv (v :: st) h cl sl) : Wp E M R Q pc lv st0 h cl sl := by
  intro p e s m ar bl me c C H lo ls hH hS hl
  obtain ⟨hx, hbb, hml, -, -, -, hown, hts, hKw, hz⟩ := id C
  obtain ⟨⟨hcode, hini, hy1, hy2, hpn⟩, hinst, hsel⟩ := hm
  rw [← hM] at hsel
  have hG : GoodIn gws (wsV M.1.cls idx M'.1.cls M'.1 (mW M')) := fun w hw => by
    unfold wsV at hw
    rcases List.mem_append.mp hw with hw | hw
    · simp only [List.mem_cons, List.not_mem_nil, or_false] at hw
      rcases hw with rfl | rfl | rfl | rfl
      · exact ⟨hlk, good_of_word (gws_good hlk)⟩
      · exact ⟨hinst, good_of_word (gws_good hinst)⟩
      · exact ⟨hsel, good_of_word (gws_good hsel)⟩
      · exact ⟨hini, good_of_word (gws_good hini)⟩
    · exact gws_in hcode w hw
  subst hst
  obtain ⟨cell, o1, o2, o3, -⟩ := (hK _ _ hKw.2.2.1).2.1.kept hS.2.1
  have hrec : ∃ cell : Cell, H[q]? = some cell ∧ cell.vm.isStatics = false ∧ s.vm.findClass M'.1.cls = some cell.cls := ⟨cell, o1, o2, by rw [hM]; exact o3⟩
  exact r_goon C hS hl (va_runV (As := As) (rest := st) ⟨hx, hbb, hml, hown, hts⟩ hct (cwV (C := M'.1.cls) n hts hG rfl rfl rfl ⟨rfl, hy1, hy2, hpn⟩ ⟨hF, hL⟩) ⟨Pm.blind E _ h, hrec, Pm.at C hH hS⟩ rfl hn hl.1 rfl (lv_room hW) hd ⟨hc1, hs1⟩) (fun r h' hp => by obtain ⟨rfl, rfl⟩ := hp; exact kk)
end STRROWS
section STRMETHS
variable {E : En} {h : Hp} {q w j : Nat}
/-- String stores bytes where it can -/
abbrev CoK (E : En) : Prop := StK E RJ0 "COMPACT_STRINGS" "Z" (.int 1)
/-- what makes a text for an index that is wrong -/
abbrev FoK (E : En) (v : Value) : Prop := StK E RJ3 "SIOOBE_FORMATTER" "Ljava/util/function/BiFunction;" v ∧ (v = .null ∨ ∃ t, v = .ref t)
theorem c_coder (hK : TxK E q w) (hc : CoK E) : Ct E 0 0 0 mJ0_coder_7d493 [.ref q] h (po (some (.int 0)) h) := by
  refine Ct.of (by decide +kernel) (Nat.le_of_ble_eq_true rfl) ?_
  refine r_gets (pc := 0) hc fk_J0_38 dJ0_coder_7d493_0 ?_
  refine r_if_eq (pc := 3) (tgt := 13) dJ0_coder_7d493_3 (by decide) (fun z => absurd z (by decide)) (fun _ => ?_)
  refine r_aload_n (pc := 6) 0 dJ0_coder_7d493_6 rfl ?_
  refine r_getC (pc := 7) hK rfl dJ0_coder_7d493_7 ?_
  refine r_goto (pc := 10) (tgt := 14) dJ0_coder_7d493_10 (by decide) ?_
  refine r_nret (pc := 14) rfl rfl ?_ (Nat.le_of_ble_eq_true rfl) (Nat.le_of_ble_eq_true rfl) dJ0_coder_7d493_14
  exact ⟨rfl, rfl⟩
theorem c_isLatin1 (hK : TxK E q w) (hc : CoK E) : Ct E 0 0 0 mJ0_isLatin1_aae02 [.ref q] h (po (some (.int 1)) h) := by
  refine Ct.of (by decide +kernel) (Nat.le_of_ble_eq_true rfl) ?_
  refine r_gets (pc := 0) hc fk_J0_38 dJ0_isLatin1_aae02_0 ?_
  refine r_if_eq (pc := 3) (tgt := 17) dJ0_isLatin1_aae02_3 (by decide) (fun z => absurd z (by decide)) (fun _ => ?_)
  refine r_aload_n (pc := 6) 0 dJ0_isLatin1_aae02_6 rfl ?_
  refine r_getC (pc := 7) hK rfl dJ0_isLatin1_aae02_7 ?_
  refine r_if_ne (pc := 10) (tgt := 17) dJ0_isLatin1_aae02_10 (by decide) (fun z => absurd rfl z) (fun _ => ?_)
  refine r_iconst (pc := 13) (1) dJ0_isLatin1_aae02_13 rfl ?_
  refine r_goto (pc := 14) (tgt := 18) dJ0_isLatin1_aae02_14 (by decide) ?_
  refine r_nret (pc := 18) rfl rfl ?_ (Nat.le_of_ble_eq_true rfl) (Nat.le_of_ble_eq_true rfl) dJ0_isLatin1_aae02_18
  exact ⟨rfl, rfl⟩
theorem c_length (hK : TxK E q w) (hc : CoK E) : Ct E 1 0 0 mJ0_length_8abf5 [.ref q] h (po (some (.int (nI 130))) h) := by
  refine Ct.of (by decide +kernel) (Nat.le_of_ble_eq_true rfl) ?_
  refine r_aload_n (pc := 0) 0 dJ0_length_8abf5_0 rfl ?_
  refine r_getV (pc := 1) hK rfl dJ0_length_8abf5_1 ?_
  refine r_tlen (pc := 4) hK dJ0_length_8abf5_4 ?_
  refine r_aload_n (pc := 5) 0 dJ0_length_8abf5_5 rfl ?_
  refine r_dT (pc := 6) (As := []) hK mt_J0_coder_7d493 rfl ml_J0_335 (c_coder hK hc) rfl rfl (Nat.le_of_ble_eq_true rfl) (Nat.le_of_ble_eq_true rfl) (Nat.le_of_ble_eq_true rfl) (Nat.le_of_ble_eq_true rfl) (Nat.le_of_ble_eq_true rfl) dJ0_length_8abf5_6 ?_
  refine r_ishr (pc := 9) dJ0_length_8abf5_9 ?_
  refine r_iret (pc := 10) rfl ?_ (Nat.le_of_ble_eq_true rfl) (Nat.le_of_ble_eq_true rfl) dJ0_length_8abf5_10
  exact ⟨by rw [show nI 130 >>> ((0 : Int32) &&& 31) = nI 130 by decide], rfl⟩
theorem c_check3 {v : Value} (hv : v = .null ∨ ∃ t, v = .ref t) (hj : j < 130) : Ct E 0 0 0 mJ3_checkIndex_8e157 [.int (nI j), .int (nI 130), v] h (po (some (.int (nI j))) h) := by
  have h0 : ¬ nI j < 0 := nI_pos (by omega)
  have go : ∀ lv, lv_pick lv [0, 1] = [(0, .int (nI j)), (1, .int (nI 130))] → Wp E mJ3_checkIndex_8e157 (Rm 0 0 0) (Qm E (po (some (.int (nI j))) h) 0 0) 0 lv [] h 0 0 := fun lv hlv => by
    refine r_sub [0, 1] hlv ?_
    refine r_iload_n (pc := 0) 0 dJ3_checkIndex_8e157_0 rfl ?_
    refine r_if_lt (pc := 1) (tgt := 9) dJ3_checkIndex_8e157_1 (by decide) (fun z => absurd z h0) (fun _ => ?_)
    refine r_iload_n (pc := 4) 0 dJ3_checkIndex_8e157_4 rfl ?_
    refine r_iload_n (pc := 5) 1 dJ3_checkIndex_8e157_5 rfl ?_
    refine r_icmp_lt (pc := 6) (tgt := 16) dJ3_checkIndex_8e157_6 (by decide) (fun _ => ?_) (fun z => absurd (nI_lt hj (by decide)) z)
    refine r_iload_n (pc := 16) 0 dJ3_checkIndex_8e157_16 rfl ?_
    refine r_iret (pc := 17) rfl ?_ (Nat.le_of_ble_eq_true rfl) (Nat.le_of_ble_eq_true rfl) dJ3_checkIndex_8e157_17
    exact ⟨rfl, rfl⟩
  rcases hv with rfl | ⟨t, rfl⟩
  · refine Ct.of (by decide +kernel) (Nat.le_of_ble_eq_true rfl) ?_
    exact go _ rfl
  · refine Ct.of (by decide +kernel) (Nat.le_of_ble_eq_true rfl) ?_
    exact go _ rfl
theorem c_check0 {v : Value} (hf : FoK E v) (hj : j < 130) : Ct E 1 0 0 mJ0_checkIndex_df160 [.int (nI j), .int (nI 130)] h (po none h) := by
  refine Ct.of (by decide +kernel) (Nat.le_of_ble_eq_true rfl) ?_
  refine r_iload_n (pc := 0) 0 dJ0_checkIndex_df160_0 rfl ?_
  refine r_iload_n (pc := 1) 1 dJ0_checkIndex_df160_1 rfl ?_
  refine r_gets (pc := 2) hf.1 fk_J0_1053 dJ0_checkIndex_df160_2 ?_
  refine r_dS (pc := 5) (As := [_, _, _]) ms_J3_checkIndex_8e157 ml_J0_1059 (c_check3 hf.2 hj) rfl rfl (Nat.le_of_ble_eq_true rfl) (Nat.le_of_ble_eq_true rfl) (Nat.le_of_ble_eq_true rfl) (Nat.le_of_ble_eq_true rfl) (Nat.le_of_ble_eq_true rfl) dJ0_checkIndex_df160_5 ?_
  refine r_pop (pc := 8) dJ0_checkIndex_df160_8 rfl ?_
  refine r_vret (pc := 9) rfl ?_ (Nat.le_of_ble_eq_true rfl) (Nat.le_of_ble_eq_true rfl) dJ0_checkIndex_df160_9
  exact ⟨rfl, rfl⟩
theorem tx_byte : ∀ j, j < 130 → (nI (txL.getD j 0) &&& (255 : Int32)) = nI (txL.getD j 0) ∧ ((nI (txL.getD j 0)).toUInt32 % 65536).toInt32 = nI (txL.getD j 0) ∧ txL.getD j 0 < 128 := by decide +kernel
theorem c_charAt1 {v : Value} (hK : TxK E q w) (hf : FoK E v) (hj : j < 130) : Ct E 2 0 0 mJ1_charAt_3b067 [.ref w, .int (nI j)] h (po (some (.int (nI (txL.getD j 0)))) h) := by
  obtain ⟨b1, b2, b3⟩ := tx_byte j hj
  refine Ct.of (by decide +kernel) (Nat.le_of_ble_eq_true rfl) ?_
  refine r_iload_n (pc := 0) 1 dJ1_charAt_3b067_0 rfl ?_
  refine r_aload_n (pc := 1) 0 dJ1_charAt_3b067_1 rfl ?_
  refine r_tlen (pc := 2) hK dJ1_charAt_3b067_2 ?_
  refine r_dS0 (pc := 3) (As := [_, _]) ms_J0_checkIndex_df160 ml_J1_9 (c_check0 hf hj) rfl rfl (Nat.le_of_ble_eq_true rfl) (Nat.le_of_ble_eq_true rfl) (Nat.le_of_ble_eq_true rfl) (Nat.le_of_ble_eq_true rfl) (Nat.le_of_ble_eq_true rfl) dJ1_charAt_3b067_3 ?_
  refine r_aload_n (pc := 6) 0 dJ1_charAt_3b067_6 rfl ?_
  refine r_iload_n (pc := 7) 1 dJ1_charAt_3b067_7 rfl ?_
  refine r_tb (pc := 8) hK hj dJ1_charAt_3b067_8 ?_
  refine r_sipush (pc := 9) (255) dJ1_charAt_3b067_9 rfl ?_
  refine r_iand (pc := 12) dJ1_charAt_3b067_12 ?_
  rw [b1]
  refine r_i2c (pc := 13) b2 dJ1_charAt_3b067_13 ?_
  refine r_nret (pc := 14) rfl ?_ ?_ (Nat.le_of_ble_eq_true rfl) (Nat.le_of_ble_eq_true rfl) dJ1_charAt_3b067_14
  · have key : ∀ k, k < 128 → narrow .char (.int (nI k)) = .int (nI k) := by decide +kernel
    exact key _ b3
  · exact ⟨rfl, rfl⟩
theorem c_charAt0 {v : Value} (hK : TxK E q w) (hc : CoK E) (hf : FoK E v) (hj : j < 130) : Ct E 3 0 0 mJ0_charAt_5068e [.ref q, .int (nI j)] h (po (some (.int (nI (txL.getD j 0)))) h) := by
  obtain ⟨b1, b2, b3⟩ := tx_byte j hj
  refine Ct.of (by decide +kernel) (Nat.le_of_ble_eq_true rfl) ?_
  refine r_aload_n (pc := 0) 0 dJ0_charAt_5068e_0 rfl ?_
  refine r_dT (pc := 1) (As := []) hK mt_J0_isLatin1_aae02 rfl ml_J0_492 (c_isLatin1 hK hc) rfl rfl (Nat.le_of_ble_eq_true rfl) (Nat.le_of_ble_eq_true rfl) (Nat.le_of_ble_eq_true rfl) (Nat.le_of_ble_eq_true rfl) (Nat.le_of_ble_eq_true rfl) dJ0_charAt_5068e_1 ?_
  refine r_if_eq (pc := 4) (tgt := 16) dJ0_charAt_5068e_4 (by decide) (fun z => absurd z (by decide)) (fun _ => ?_)
  refine r_aload_n (pc := 7) 0 dJ0_charAt_5068e_7 rfl ?_
  refine r_getV (pc := 8) hK rfl dJ0_charAt_5068e_8 ?_
  refine r_iload_n (pc := 11) 1 dJ0_charAt_5068e_11 rfl ?_
  refine r_dS (pc := 12) (As := [_, _]) ms_J1_charAt_3b067 ml_J0_495 (c_charAt1 hK hf hj) rfl rfl (Nat.le_of_ble_eq_true rfl) (Nat.le_of_ble_eq_true rfl) (Nat.le_of_ble_eq_true rfl) (Nat.le_of_ble_eq_true rfl) (Nat.le_of_ble_eq_true rfl) dJ0_charAt_5068e_12 ?_
  refine r_nret (pc := 15) rfl ?_ ?_ (Nat.le_of_ble_eq_true rfl) (Nat.le_of_ble_eq_true rfl) dJ0_charAt_5068e_15
  · have key : ∀ k, k < 128 → narrow .char (.int (nI k)) = .int (nI k) := by decide +kernel
    exact key _ b3
  · exact ⟨rfl, rfl⟩
end STRMETHS
