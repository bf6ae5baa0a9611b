/-! the claim out of one walk of the law's body -/
theorem whole_start {p : Program} {e : Env} {s : State} {m : MethodId} {below : List Frame} {meth : Method} {c : Code} (l : Launch) (hflags : l.flags = flags0) {b L : Nat} {xs : Nat → Int32} (hL : L ≤ 3072) (C0 : lw_At p s m meth c b L xs) : W p l e room_1 s m #[Value.ref b] below meth c s.heap [] 0 0 (lw_Z below #[Value.ref b] s) (entryFrame m ([Value.ref b] : List Value).toArray 4) := by
  obtain ⟨hx, hb, hr, hml, hown, hts, hX, hbl, hlocks, hgv⟩ := id C0
  have htg : ∀ w ∈ gws, w.before #[Value.ref b] s = true := fun w hw => hts w (gws_tbl hw)
  have hA : ∀ a : Nat, a < s.heap.size → ¬ (fun a => s.heap.size ≤ a) a := fun a ha => Nat.not_le.mpr ha
  have hfl := flat_of_before _ hgv
  have fl : ∀ (i : Nat) (w : Cond), (flatC (Jvm.Cond.and given_1 narrow_1))[i]? = some w → w.before #[Value.ref b] s = true := fun i w z => hfl w (List.mem_of_getElem? z)
  obtain ⟨c0, i0, k0⟩ := u_known (C := RX0) (T := TX0) (N := 4) (n := 4) htg in_X0 (htg (.instantiable RX0 4) (gi2 42 (by decide +kernel) (by decide +kernel)))
  obtain ⟨c1, i1, k1⟩ := u_known (C := RX1) (T := TX1) (N := 5) (n := 5) htg in_X1 (htg (.instantiable RX1 5) (gi2 62 (by decide +kernel) (by decide +kernel)))
  obtain ⟨c2, i2, k2⟩ := u_known (C := RX2) (T := TX2) (N := 7) (n := 7) htg in_X2 (htg (.instantiable RX2 7) (gi2 134 (by decide +kernel) (by decide +kernel)))
  obtain ⟨c3, i3, k3⟩ := u_known (C := RX3) (T := TX3) (N := 6) (n := 6) htg in_X3 (htg (.instantiable RX3 6) (gi2 108 (by decide +kernel) (by decide +kernel)))
  obtain ⟨c4, i4, k4⟩ := u_known (C := RX4) (T := TX4) (N := 4) (n := 4) htg in_X4 (htg (.instantiable RX4 4) (gi2 68 (by decide +kernel) (by decide +kernel)))
  obtain ⟨c5, i5, k5⟩ := u_known (C := RX5) (T := TX5) (N := 14) (n := 14) htg in_X5 (htg (.instantiable RX5 14) (gi1 45 (by decide +kernel) (by decide +kernel)))
  obtain ⟨c6, i6, k6⟩ := u_known (C := RX6) (T := TX6) (N := 9) (n := 9) htg in_X6 (htg (.instantiable RX6 9) (gi1 150 (by decide +kernel) (by decide +kernel)))
  obtain ⟨c7, i7, k7⟩ := u_known (C := RX7) (T := TX7) (N := 2) (n := 2) htg in_X7 (htg (.instantiable RX7 2) (gi1 31 (by decide +kernel) (by decide +kernel)))
  obtain ⟨c8, i8, k8⟩ := u_known (C := RX8) (T := TX8) (N := 7) (n := 7) htg in_X8 (htg (.instantiable RX8 7) (gi2 162 (by decide +kernel) (by decide +kernel)))
  obtain ⟨c9, i9, k9⟩ := u_known (C := RX9) (T := TX9) (N := 2) (n := 2) htg in_X9 (htg (.instantiable RX9 2) (gi1 135 (by decide +kernel) (by decide +kernel)))
  obtain ⟨c10, i10, k10⟩ := u_known (C := RX10) (T := TX10) (N := 8) (n := 8) htg in_X10 (htg (.instantiable RX10 8) (gi1 156 (by decide +kernel) (by decide +kernel)))
  obtain ⟨c11, i11, k11⟩ := u_known (C := RX11) (T := TX11) (N := 15) (n := 15) htg in_X11 (htg (.instantiable RX11 15) (gi1 23 (by decide +kernel) (by decide +kernel)))
  obtain ⟨c12, i12, k12⟩ := u_known (C := RX12) (T := TX12) (N := 60) (n := 60) htg in_X12 (htg (.instantiable RX12 60) (gi5 215 (by decide +kernel) (by decide +kernel)))
  obtain ⟨dC, dI, hKc⟩ : ∃ (dC : Nat → ClassId) (dI : Nat → Nat → Nat), ∀ (k : Nat) (q : vw_C), vwCl[k]? = some q → u_Kn s q.1 q.2.1 q.2.2 (dC k) (dI k) := by
    refine ⟨fun k => if k = 0 then c0 else if k = 1 then c1 else if k = 2 then c2 else if k = 3 then c3 else if k = 4 then c4 else if k = 5 then c5 else if k = 6 then c6 else if k = 7 then c7 else if k = 8 then c8 else if k = 9 then c9 else if k = 10 then c10 else if k = 11 then c11 else c12, fun k => if k = 0 then i0 else if k = 1 then i1 else if k = 2 then i2 else if k = 3 then i3 else if k = 4 then i4 else if k = 5 then i5 else if k = 6 then i6 else if k = 7 then i7 else if k = 8 then i8 else if k = 9 then i9 else if k = 10 then i10 else if k = 11 then i11 else i12, ?_⟩
    intro k q hq
    match k, hq with
    | 0, hq => cases hq; exact k0
    | 1, hq => cases hq; exact k1
    | 2, hq => cases hq; exact k2
    | 3, hq => cases hq; exact k3
    | 4, hq => cases hq; exact k4
    | 5, hq => cases hq; exact k5
    | 6, hq => cases hq; exact k6
    | 7, hq => cases hq; exact k7
    | 8, hq => cases hq; exact k8
    | 9, hq => cases hq; exact k9
    | 10, hq => cases hq; exact k10
    | 11, hq => cases hq; exact k11
    | 12, hq => cases hq; exact k12
    | k + 13, hq => simp [vwCl] at hq
  obtain ⟨a13, y13, z13, e13, f13, g13⟩ := Cond.arrayClass_spec (htg (.arrayClass .int) (gi1 132 (by decide +kernel) rfl))
  obtain ⟨a14, y14, z14, e14, f14, g14⟩ := Cond.arrayClass_spec (htg (.arrayClass .long) (gi1 43 (by decide +kernel) rfl))
  obtain ⟨a15, y15, z15, e15, f15, g15⟩ := Cond.arrayClass_spec (htg (.arrayClass .boolean) (gi6 181 (by decide +kernel) rfl))
  have o16 := hts (.arrayOver (.object "NineLives$Port")) (ti1 133 (by decide +kernel))
  have o17 := hts (.arrayOver (.object "NineLives$Text")) (ti1 51 (by decide +kernel))
  have o18 := hts (.arrayOver (.array .int)) (ti2 74 (by decide +kernel))
  obtain ⟨z16, a16, y16, d16, -, f16, g16, e16⟩ := Cond.arrayOver_spec o16
  obtain ⟨z17, a17, y17, d17, -, f17, g17, e17⟩ := Cond.arrayOver_spec o17
  obtain ⟨z18, a18, y18, d18, -, f18, g18, e18⟩ := arrayOverA_spec o18
  obtain ⟨cy, hcy⟩ : ∃ cy : Nat → ClassId, cy 13 = a13 ∧ cy 14 = a14 ∧ cy 15 = a15 ∧ cy 16 = a16 ∧ cy 17 = a17 ∧ cy 18 = a18 := ⟨fun k => if k = 13 then a13 else if k = 14 then a14 else if k = 15 then a15 else if k = 16 then a16 else if k = 17 then a17 else a18, rfl, rfl, rfl, rfl, rfl, rfl⟩
  obtain ⟨q13, q14, q15, q16, q17, q18⟩ := hcy
  have hTy : ∀ (k : Nat) (q : ClassId × FieldType), (tyl cy)[k]? = some q → ArrOfT s q.1 q.2 ∧ va_RA s q.1 q.2 := by
    intro k q hq
    unfold tyl at hq
    rw [q13, q14, q15, q16, q17, q18] at hq
    match k, hq with
    | 0, hq => cases hq; exact ⟨arr_of f13 g13, e13⟩
    | 1, hq => cases hq; exact ⟨arr_of f14 g14, e14⟩
    | 2, hq => cases hq; exact ⟨arr_of f15 g15, e15⟩
    | 3, hq => cases hq; exact ⟨arr_of f16 g16, y16, z16, f16, g16, d16, e16⟩
    | 4, hq => cases hq; exact ⟨arr_of f17 g17, y17, z17, f17, g17, d17, e17⟩
    | 5, hq => cases hq; exact ⟨arr_of f18 g18, e18⟩
    | k + 6, hq => simp at hq
  have hNw : ∀ w ∈ nws, va_Nw w s := by
    intro w hw
    simp only [nws, List.mem_cons, List.not_mem_nil, or_false] at hw
    rcases hw with rfl | rfl | rfl | rfl | rfl | rfl
    · exact va_Nw.of rfl (hts _ (ti3 131 (by decide +kernel)))
    · exact va_Nw.of rfl (hts _ (ti4 150 (by decide +kernel)))
    · exact va_Nw.of rfl (hts _ (ti4 151 (by decide +kernel)))
    · exact va_Nw.of rfl (hts _ (ti5 3 (by decide +kernel)))
    · exact va_Nw.of rfl (hts _ (ti5 76 (by decide +kernel)))
    · exact va_Nw.of rfl (hts _ (ti5 175 (by decide +kernel)))
  obtain ⟨T, hTe, hT⟩ := va_Tof (args := #[Value.ref b]) (s := s) (tm := .static "NineLives" "MOST_OF_TERM" "[I") (ty := .int) (N := 3) (f := fun j => .int (mostF j)) (A := fun a => s.heap.size ≤ a) (by decide) (fl 10 _ (by decide +kernel)) (va_eqt (fl 11 (.eq (.length (.static "NineLives" "MOST_OF_TERM" "[I")) (.int 3)) (by decide +kernel))) (fun j hj => by
    have key : ∀ j, j < 3 → (flatC (Jvm.Cond.and given_1 narrow_1))[12 + j]? = some (.eq (.elem (.static "NineLives" "MOST_OF_TERM" "[I") (.int (Int32.ofNat j))) (.int (mostF j))) := by decide +kernel
    exact va_eqt (fl _ _ (key j hj))) hA
  have hZT := va_Zref (A := fun a => s.heap.size ≤ a) (hts _ (ti3 149 (by decide +kernel))) (hts _ (ti1 1 (by decide +kernel))) hTe hA
  have hZC := va_Zof (A := fun a => s.heap.size ≤ a) (hts _ (ti1 209 (by decide +kernel))) (hts _ (ti1 7 (by decide +kernel))) (va_eqi (fl 4 (.eq (.static RJ0 "COMPACT_STRINGS" "Z") (.int 1)) (by decide +kernel))) hA
  have hZF := va_Zqof (A := fun a => s.heap.size ≤ a) (hts _ (ti1 225 (by decide +kernel))) (hts _ (ti1 9 (by decide +kernel))) (fl 5 (.isRef (.static RJ3 "SIOOBE_FORMATTER" "Ljava/util/function/BiFunction;")) (by decide +kernel)) hA
  obtain ⟨v, hv, hZF⟩ : ∃ v : Value, (v = .null ∨ ∃ t, v = .ref t) ∧ va_Z RJ3 "SIOOBE_FORMATTER" "Ljava/util/function/BiFunction;" v (fun a => s.heap.size ≤ a) s s.heap := by
    rcases hZF with z | ⟨t, z⟩
    · exact ⟨.null, Or.inl rfl, z⟩
    · exact ⟨.ref t, Or.inr ⟨t, rfl⟩, z⟩
  obtain ⟨adK, adV, hS, hSe⟩ := vk_Sof (args := #[Value.ref b]) (s := s) (N := 1) (tm := fun _ => .string RX6 36) (len := [130]) (byt := [txL.map nI]) (A := fun a => s.heap.size ≤ a) (fun i hi => by rw [show i = 0 by omega]; decide) (fun i hi => fl 41 _ (by decide +kernel)) (fun i hi => fl 42 _ (by decide +kernel)) (fun i hi => fl 43 _ (by decide +kernel)) (fun i hi => by rw [show i = 0 by omega]; exact fl 44 _ (by decide +kernel)) (fun i hi j hj => by
    have hi0 : i = 0 := by omega
    subst hi0
    have key : ∀ j, j < 130 → (flatC (Jvm.Cond.and given_1 narrow_1))[45 + j]? = some (.eq (.elem (.field (.string RX6 36) "java/lang/String" "value" "[B") (.int (Int32.ofNat j))) (.int (([txL.map nI].getD 0 []).getD j 0))) := by decide +kernel
    exact fl _ _ (key j hj)) (fun i j hi hj hne => by omega) hA
  obtain ⟨s1, s2, s3, s4⟩ := hS.1 0 (by omega)
  have s4 : va_T .byte (adV 0) 130 (fun j => .int (nI (txL.getD j 0))) (fun a => s.heap.size ≤ a) s s.heap := by
    have e1 : (fun j => Value.int (nI (txL.getD j 0))) = fun j => Value.int (([txL.map nI].getD 0 []).getD j 0) := funext fun j => by
      show _ = Value.int ((txL.map nI).getD j 0)
      rw [tx_map]
    rw [e1]; exact s4
  have s0 := vk_R.of (hts (.stringRef RX6 36 "or and not if times on as earns dares shows bars sign die clip pass cat life spent ear gold ship year mood done latest alive crew ") (ti1 199 (by decide +kernel))) (hSe 0 (by omega))
  have hEK : eKp s.heap.size b L xs T (adK 0) (adV 0) v s s.heap := ⟨⟨ao_mv (Vm.Alike.refl _) o16, ao_mv (Vm.Alike.refl _) o17, ai_mv (Vm.Alike.refl _) o18⟩, hZT, hT, hX, ⟨s0, s1, s2, s3, s4⟩, hZC, hZF⟩
  obtain ⟨E, hE⟩ : ∃ E : En, E = (l, (dC, dI), cy, s.heap.size, eKp s.heap.size b L xs T (adK 0) (adV 0) v) := ⟨_, rfl⟩
  have hClo : Clo E := by
    subst hE
    intro s1 U H H1 z hW hq
    exact eKp.mv hbl z hW hq
  have hKw : Kw E s s.heap := by
    subst hE
    exact ⟨⟨hKc, hTy⟩, hNw, hEK, hClo⟩
  have hZ : eZ E = s.heap.size := by rw [hE]
  have hEl : E.1 = l := by rw [hE]
  have toK : ∀ (U : State) (H : Heap), eK E U H → eKp (eZ E) b L xs T (adK 0) (adV 0) v U H := by
    subst hE
    exact fun U H z => z
  have hC : Cx E (mL meth.name) p s m #[Value.ref b] meth c := ⟨hx, hb, hml, hr, hlocks, rfl, hown, htg, hKw, Nat.le_of_eq hZ⟩
  have hl := lv_entry ([.ref b]) (n := 4) (Nat.le_of_ble_eq_true rfl)
  rw [lg_entry_eq]
  have hp0 : hpOK E (bL (eZ E) 0 [] [] [] []) s.heap := ⟨fun k q hk => absurd (hW_get hk).1 (Nat.not_lt_zero _), hZ.symm⟩
  have K := law_all (E := E) (nm := meth.name) (Q := Qw E b) (b := b) (L := L) (xs := xs) (T := T) (q := adK 0) (w := adV 0) (v := v) ⟨by rw [hZ]; exact hbl, fun U H z => (toK U H z).2.2.2.1⟩ hL (fun U H z => (toK U H z).2.1) (fun U H z => (toK U H z).2.2.1) (fun U H ar z => ao_mv (Vm.Alike.refl _) (toK U H z).1.2.1) (fun U H ar z => ao_mv (Vm.Alike.refl _) (toK U H z).1.1) (fun U H ar z => ai_mv (Vm.Alike.refl _) (toK U H z).1.2.2) (fun U H z => (toK U H z).2.2.2.2.1) (fun U H z => (toK U H z).2.2.2.2.2.1) ⟨fun U H z => (toK U H z).2.2.2.2.2.2, hv⟩ (fun i g cl sl h1 h2 => law_fin i g cl sl h1 h2) p e s m #[Value.ref b] below meth c hC s.heap [] _ hp0 va_S.rf hl
  rw [hEl] at K
  intro Tt hTt X
  obtain ⟨t, a1, b1⟩ := K Tt hTt X
  exact ⟨t, a1, b1 rfl hZ.symm⟩
