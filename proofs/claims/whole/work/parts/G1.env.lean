/-! what is fixed in a run: what lies outside stands -/
section ENV
theorem ti1 {w : Cond} (i : Nat) (h : tables_1_1[i]? = some w) : w ∈ lw_tbl := List.mem_append_right _ (by unfold tables_1; exact List.mem_append_left _ (List.mem_of_getElem? h))
theorem ti2 {w : Cond} (i : Nat) (h : tables_1_2[i]? = some w) : w ∈ lw_tbl := List.mem_append_right _ (by unfold tables_1; exact List.mem_append_right _ (List.mem_append_left _ (List.mem_of_getElem? h)))
theorem ti3 {w : Cond} (i : Nat) (h : tables_1_3[i]? = some w) : w ∈ lw_tbl := List.mem_append_right _ (by unfold tables_1; exact List.mem_append_right _ (List.mem_append_right _ (List.mem_append_left _ (List.mem_of_getElem? h))))
theorem ti4 {w : Cond} (i : Nat) (h : tables_1_4[i]? = some w) : w ∈ lw_tbl := List.mem_append_right _ (by unfold tables_1; exact List.mem_append_right _ (List.mem_append_right _ (List.mem_append_right _ (List.mem_append_left _ (List.mem_of_getElem? h)))))
theorem ti5 {w : Cond} (i : Nat) (h : tables_1_5[i]? = some w) : w ∈ lw_tbl := List.mem_append_right _ (by unfold tables_1; exact List.mem_append_right _ (List.mem_append_right _ (List.mem_append_right _ (List.mem_append_right _ (List.mem_append_left _ (List.mem_of_getElem? h))))))
theorem ti6 {w : Cond} (i : Nat) (h : tables_1_6[i]? = some w) : w ∈ lw_tbl := List.mem_append_right _ (by unfold tables_1; exact List.mem_append_right _ (List.mem_append_right _ (List.mem_append_right _ (List.mem_append_right _ (List.mem_append_right _ (List.mem_append_left _ (List.mem_of_getElem? h)))))))
theorem ti7 {w : Cond} (i : Nat) (h : tables_1_7[i]? = some w) : w ∈ lw_tbl := List.mem_append_right _ (by unfold tables_1; exact List.mem_append_right _ (List.mem_append_right _ (List.mem_append_right _ (List.mem_append_right _ (List.mem_append_right _ (List.mem_append_right _ (List.mem_append_left _ (List.mem_of_getElem? h))))))))
theorem ti8 {w : Cond} (i : Nat) (h : tables_1_8[i]? = some w) : w ∈ lw_tbl := List.mem_append_right _ (by unfold tables_1; exact List.mem_append_right _ (List.mem_append_right _ (List.mem_append_right _ (List.mem_append_right _ (List.mem_append_right _ (List.mem_append_right _ (List.mem_append_right _ (List.mem_of_getElem? h))))))))
theorem ao_mv {n : String} {args args2 : Array Value} {s U : State} (hal : s.vm.Alike U.vm) (h : (Cond.arrayOver (.object n)).before args s = true) : (Cond.arrayOver (.object n)).before args2 U = true := by
  obtain ⟨comp, c0, k, h1, h2, h3, h4, h5⟩ := Cond.arrayOver_spec h
  obtain ⟨k2, g3, ek⟩ := hal.2.2 _ _ h3
  have g1 : U.vm.findClass n = some comp := (hal.findClass n none).trans h1
  have g2 : (U.vm.classes.findIdx? fun x => match x.kind with | .array component _ => component == comp | _ => false) = some c0 := by
    rw [hal.findIdx?_eq _ (fun _ => rfl)]; exact h2
  have g4 : k2.kind = .array comp (.object n) := by rw [ek]; exact h4
  have g5 : U.vm.findClass ("[" ++ (FieldType.object n).toString) = some c0 := (hal.findClass _ none).trans h5
  simp only [Cond.before, Cond.holds, Cond.value, beq_iff_eq, g1, Option.bind_some]
  refine (congrArg (fun z => Option.bind z _) g2).trans ?_
  simp only [Option.bind_some, g3, Option.map_some, g4, g5, decide_true, Bool.and_self]
theorem ai_mv {args args2 : Array Value} {s U : State} (hal : s.vm.Alike U.vm) (h : (Cond.arrayOver (.array .int)).before args s = true) : (Cond.arrayOver (.array .int)).before args2 U = true := by
  obtain ⟨comp, c0, k, h1, h2, h3, h4, h5⟩ := arrayOverA_spec h
  obtain ⟨k2, g3, ek⟩ := hal.2.2 _ _ h3
  have g1 : U.vm.findClass (FieldType.array .int).toString = some comp := (hal.findClass _ none).trans h1
  have g2 : (U.vm.classes.findIdx? fun x => match x.kind with | .array component _ => component == comp | _ => false) = some c0 := by
    rw [hal.findIdx?_eq _ (fun _ => rfl)]; exact h2
  have g4 : k2.kind = .array comp (.array .int) := by rw [ek]; exact h4
  have g5 : U.vm.findClass ("[" ++ (FieldType.array .int).toString) = some c0 := (hal.findClass _ none).trans h5
  simp only [Cond.before, Cond.holds, Cond.value, beq_iff_eq, g1, Option.bind_some]
  refine (congrArg (fun z => Option.bind z _) g2).trans ?_
  simp only [Option.bind_some, g3, Option.map_some, g4, g5, decide_true, Bool.and_self]
def eKp (Z b L : Nat) (xs : Nat → Int32) (T q w : Nat) (v : Value) (U : State) (H : Heap) : Prop := ((Cond.arrayOver (.object "NineLives$Port")).before #[] U = true ∧ (Cond.arrayOver (.object "NineLives$Text")).before #[] U = true ∧ (Cond.arrayOver (.array .int)).before #[] U = true) ∧ va_Z "NineLives" "MOST_OF_TERM" "[I" (.ref T) (fun a => Z ≤ a) U H ∧ va_T .int T 3 (fun j => .int (mostF j)) (fun a => Z ≤ a) U H ∧ va_X b L xs U H ∧ (vk_R RX6 36 "or and not if times on as earns dares shows bars sign die clip pass cat life spent ear gold ship year mood done latest alive crew " q U ∧ va_O RJ0 q (fun a => Z ≤ a) U H ∧ va_OF RJ0 "coder" "B" (.int 0) q (fun a => Z ≤ a) U H ∧ va_OF RJ0 "value" "[B" (.ref w) q (fun a => Z ≤ a) U H ∧ va_T .byte w 130 (fun j => .int (nI (txL.getD j 0))) (fun a => Z ≤ a) U H) ∧ va_Z RJ0 "COMPACT_STRINGS" "Z" (.int 1) (fun a => Z ≤ a) U H ∧ va_Z RJ3 "SIOOBE_FORMATTER" "Ljava/util/function/BiFunction;" v (fun a => Z ≤ a) U H
theorem eKp.mv {Z b L : Nat} {xs : Nat → Int32} {T q w : Nat} {v : Value} (hb : b < Z) {s U : State} {H H1 : Heap} (h : eKp Z b L xs T q w v s H) (hW : s.WarmedH U.vm) (hq : ∀ a, a < Z → H1[a]? = H[a]?) : eKp Z b L xs T q w v U H1 := by
  have hal := hW.alike
  have k0 : ∀ a : Nat, a < H.size → ¬ Z ≤ a → H1[a]? = H[a]? := fun a _ ha => hq a (Nat.not_le.mp ha)
  obtain ⟨⟨a1, a2, a3⟩, b1, b2, b3, ⟨d1, d2, d3, d4, d5⟩, e1, e2⟩ := h
  exact ⟨⟨ao_mv hal a1, ao_mv hal a2, ai_mv hal a3⟩, (b1.moved hal).kept k0, (b2.moved hal).kept k0, (b3.moved hal).kept (hq b hb), ⟨d1.warm hW, (d2.moved hal).kept k0, (d3.moved hal).kept k0, (d4.moved hal).kept k0, (d5.moved hal).kept k0⟩, (e1.moved hal).kept k0, (e2.moved hal).kept k0⟩
/-- the end of the law -/
def Qw (E : En) (b : Nat) : Qg := fun bl ar s t => ar = #[Value.ref b] → s.heap.size = eZ E → lw_Z bl #[Value.ref b] s t
theorem law_fin {E : En} {b : Nat} {nm : String} (i : Nat) (g : Hp) (cl sl : Nat) (h1 : cl ≤ 6000) (h2 : sl ≤ 500000) : Wp E (mL nm) room_1 (Qw E b) 1160 (lvL E b i) [] g cl sl := by
  refine r_iconst (pc := 1160) (1) dL_law_1160 rfl ?_
  intro p e s m ar bl me c C H lo ls hH hS hl
  by_cases har : ar = #[Value.ref b] ∧ s.heap.size = eZ E
  · obtain ⟨har, hz⟩ := har
    subst har
    obtain ⟨hx, hbb, hml, hret, hlk, -, -, -, -, -⟩ := id C
    have k : W p E.1 e room_1 s m #[Value.ref b] bl me c H [] 600000 7302250 (lw_Z bl #[Value.ref b] s) (F0 m 1161 ls [.int 1]) := lw_ret hx hbb hret hlk dL_law_1161
    refine va_forget (fun q hq => by rw [hz]; exact hS.2.2 q hq) (W.widen (k := 600000) (n := 7302250) (Nat.le_trans h1 (Nat.le_of_ble_eq_true rfl)) (Nat.le_trans h2 (Nat.le_of_ble_eq_true rfl)) ?_)
    intro T hT X
    obtain ⟨t, a1, b1⟩ := k T hT X
    exact ⟨t, a1, fun _ _ => b1⟩
  · intro T hT X
    exact ⟨_, Steps.refl _, fun z1 z2 => absurd ⟨z1, z2⟩ har⟩
theorem tx_map : ∀ (L : List Nat) (j : Nat), (L.map nI).getD j 0 = nI (L.getD j 0)
  | [], _ => rfl
  | _ :: _, 0 => rfl
  | _ :: L, j + 1 => tx_map L j
theorem arr_of {s : State} {cA comp : ClassId} {k : Class} {ty : FieldType} (hk : s.vm.classes[cA]? = some k) (hkind : k.kind = .array comp ty) : ArrOfT s cA ty := fun n z => ⟨fun _ y => by (cases y), k, hk, comp, hkind⟩
end ENV
