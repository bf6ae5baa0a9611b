/-! rows of rows: multianewarray of 16 rows of 31 ints -/
section MULTI
def mO (a i j : Nat) : Value := if j < i then .ref (a + 1 + j) else .null
theorem mO_s {a i : Nat} : updV (mO a i) i (.ref (a + 1 + i)) = mO a (i + 1) := by
  funext j
  show (if j = i then Value.ref (a + 1 + i) else if j < i then Value.ref (a + 1 + j) else .null) = if j < i + 1 then Value.ref (a + 1 + j) else .null
  by_cases h1 : j = i
  · rw [if_pos h1, if_pos (by omega), h1]
  · rw [if_neg h1]
    by_cases h2 : j < i
    · rw [if_pos h2, if_pos (by omega)]
    · rw [if_neg h2, if_neg (by omega)]
def mR (cI : ClassId) : Cell := arrV cI 31 (fun _ => .int 0)
/-- the states that the loop goes through -/
def mS (T : State) (cA cI : ClassId) : Nat → State
  | 0 => T.pushCell (arrV cA 16 (mO T.heap.size 0))
  | i + 1 => ((mS T cA cI i).pushCell (mR cI)).setCell T.heap.size (arrV cA 16 (mO T.heap.size (i + 1)))
theorem mS_facts (T : State) (cA cI : ClassId) : ∀ i, (mS T cA cI i).heap.size = T.heap.size + 1 + i ∧ (mS T cA cI i).heap[T.heap.size]? = some (arrV cA 16 (mO T.heap.size i)) ∧ (mS T cA cI i).vm = T.vm ∧ (mS T cA cI i).slotsUsed = T.slotsUsed + 16 + i * 31 ∧ (∀ a, a < T.heap.size → (mS T cA cI i).heap[a]? = T.heap[a]?) ∧ ∀ j, j < i → (mS T cA cI i).heap[T.heap.size + 1 + j]? = some (mR cI)
  | 0 => by
    have hsz : (arrV cA 16 (mO T.heap.size 0)).slots.size = 16 := arrV_size _ _ _
    exact ⟨by show (T.heap.push _).size = _; rw [Array.size_push], by show (T.heap.push _)[T.heap.size]? = _; rw [Array.getElem?_push_size], rfl, by show T.slotsUsed + (arrV cA 16 (mO T.heap.size 0)).slots.size = _; rw [hsz], fun a ha => by show (T.heap.push _)[a]? = _; rw [Array.getElem?_push, if_neg (Nat.ne_of_lt ha)], fun j hj => absurd hj (Nat.not_lt_zero _)⟩
  | i + 1 => by
    obtain ⟨f1, f2, f3, f4, f5, f6⟩ := mS_facts T cA cI i
    have hsz : (mR cI).slots.size = 31 := arrV_size _ _ _
    have p1 : ((mS T cA cI i).pushCell (mR cI)).heap.size = T.heap.size + 1 + (i + 1) := by
      show ((mS T cA cI i).heap.push _).size = _
      rw [Array.size_push, f1]; omega
    have hlt0 : T.heap.size < ((mS T cA cI i).pushCell (mR cI)).heap.size := by rw [p1]; omega
    have old : ∀ a, a < T.heap.size + 1 + i → ((mS T cA cI i).pushCell (mR cI)).heap[a]? = (mS T cA cI i).heap[a]? := fun a ha => by
      show ((mS T cA cI i).heap.push _)[a]? = _
      rw [Array.getElem?_push, if_neg (by omega)]
    have new : ((mS T cA cI i).pushCell (mR cI)).heap[T.heap.size + 1 + i]? = some (mR cI) := by
      show ((mS T cA cI i).heap.push _)[T.heap.size + 1 + i]? = _
      rw [← f1, Array.getElem?_push_size]
    have ne : ∀ a, a ≠ T.heap.size → (mS T cA cI (i + 1)).heap[a]? = ((mS T cA cI i).pushCell (mR cI)).heap[a]? := fun a ha => heapAt_setCell_ne _ (Ne.symm ha)
    refine ⟨?_, ?_, ?_, ?_, fun a ha => ?_, fun j hj => ?_⟩
    · show (((mS T cA cI i).pushCell (mR cI)).setCell T.heap.size _).heap.size = _
      rw [size_setCell, p1]
    · exact heapAt_setCell_self _ hlt0
    · exact f3
    · show (mS T cA cI i).slotsUsed + (mR cI).slots.size = _
      rw [f4, hsz]; omega
    · rw [ne a (Nat.ne_of_lt ha), old a (by omega), f5 a ha]
    · rw [ne _ (by omega)]
      by_cases h1 : j = i
      · subst h1; exact new
      · rw [old _ (by omega)]; exact f6 j (by omega)
theorem mS_top (T : State) (f : JFrame) (cA cI : ClassId) : ∀ i, mS (T.setTop f) cA cI i = (mS T cA cI i).setTop f
  | 0 => rfl
  | i + 1 => by simp only [mS, mS_top T f cA cI i, State.heap_setTop, State.pushCell_setTop, State.setCell_setTop]
section
variable {p : Program} {l : Launch} {e : Env} {R : Room} {s : State} {m : MethodId} {args : Array Value} {below : List Frame} {meth : Method} {c : Code} {T : State} {locs : List Loc} {cells slots : Nat}
theorem mS_stand (X : Stand p l e R s m args below meth c T locs cells slots) (cA cI : ClassId) : ∀ i, Stand p l e R s m args below meth c (mS T cA cI i) (locs ++ (List.range i).map fun j => ⟨T.heap.size, j⟩) (cells + 1 + i) (slots + 16 + i * 31)
  | 0 => by
    have hx := X.pushed (arrV cA 16 (mO T.heap.size 0))
    rw [arrV_size] at hx
    have e1 : (locs ++ (List.range 0).map fun j => (⟨T.heap.size, j⟩ : Loc)) = locs := by simp
    rw [e1, show slots + 16 + 0 * 31 = slots + 16 by omega, show cells + 1 + 0 = cells + 1 from rfl]
    exact hx
  | i + 1 => by
    have hi := mS_stand X cA cI i
    obtain ⟨f1, f2, -, -, -, -⟩ := mS_facts T cA cI i
    have hcell : ((mS T cA cI i).pushCell (mR cI)).heap[T.heap.size]? = some (arrV cA 16 (mO T.heap.size i)) := by
      show ((mS T cA cI i).heap.push _)[T.heap.size]? = _
      rw [Array.getElem?_push, if_neg (by omega)]; exact f2
    have hx := (hi.pushed (mR cI)).stored hcell i (.ref (T.heap.size + 1 + i))
    rw [show (mR cI).slots.size = 31 from arrV_size _ _ _, arrV_store, mO_s] at hx
    have e2 : (locs ++ (List.range (i + 1)).map fun j => (⟨T.heap.size, j⟩ : Loc)) = (locs ++ (List.range i).map fun j => (⟨T.heap.size, j⟩ : Loc)) ++ [⟨T.heap.size, i⟩] := by simp [List.range_succ, List.append_assoc]
    rw [e2, show slots + 16 + (i + 1) * 31 = slots + 16 + i * 31 + 31 by omega]
    exact hx
end
section
variable {X : CtlPost} {e : Env} {d : Bool} {acts : List Action} {s : State}
theorem mw_new {cA comp : ClassId} {k : Class} {ty : FieldType} {len : Nat} {init : Value} (hk : s.vm.classes[cA]? = some k) (hkind : k.kind = .array comp ty) (hlim : ¬ len > e.platform.arrayLengthLimit) (hheap : ¬ len * componentBytes ty > e.platform.maxHeapBytes) (hfit : fits ty init = true) (hdef : init.isDefault = true) {Q : Addr → Pre} (h1 : s.heap.size < e.platform.maxCells) (h2 : s.slotsUsed + len ≤ e.platform.maxSlots) (hq : Q s.heap.size d acts (s.pushCell (arrV cA len (fun _ => init)))) : wp (Jvm.newArray cA len init) Q X e d acts s := by
  have hfits : ∀ i v, (Array.replicate len init)[i]? = some v → s.fitsSlot cA .none i v = true := fun i v hv => by
    rw [Array.getElem?_replicate] at hv
    split at hv
    · cases hv; simp [State.fitsSlot, State.slotType?, hk, hkind, hfit]
    · cases hv
  have hda : allocActs (Array.replicate len init) s.heap.size acts = acts := by
    unfold allocActs
    rw [if_pos (by rw [Array.all_replicate]; split <;> simp [hdef])]
  rw [← arrV_new] at hq
  simp only [Jvm.newArray, Jvm.arrayFits, wp_bind', W.ask, W.ite, hlim, if_false, wp_pure', W.theClass, hk, hkind, hheap, W.alloc, W.stop, Option.some.injEq, exists_eq_left', Array.size_replicate, hda]
  rw [if_neg (by omega)]
  exact ⟨h1, h2, hfits, hq⟩
theorem mw_fits {ty : FieldType} (hr : ty.isReference = true) {v : Value} (hv : v = .null ∨ ∃ a, v = .ref a) : fits ty v = true := by
  rcases hv with rfl | ⟨a, rfl⟩ <;> cases ty <;> first | rfl | (simp [FieldType.isReference] at hr)
/-- a row of 31 -/
theorem mw_row {cI cc : ClassId} {kI : Class} (hkI : s.vm.classes[cI]? = some kI) (hI0 : kI.kind = .array cc .int) (hlim : ¬ 31 > e.platform.arrayLengthLimit) (hheap : ¬ 31 * componentBytes .int > e.platform.maxHeapBytes) (h1 : s.heap.size < e.platform.maxCells) (h2 : s.slotsUsed + 31 ≤ e.platform.maxSlots) {Q : Addr → Pre} (hq : Q s.heap.size d acts (s.pushCell (mR cI))) : wp (multianewarray.make cI [31]) Q X e d acts s := by
  rw [multianewarray.make]
  simp only [wp_bind', W.ite, show ¬ (31 : Int32) < 0 by decide, if_false, wp_pure', W.theClass, hkI, hI0, Option.some.injEq, exists_eq_left']
  exact mw_new (len := 31) (init := .int 0) hkI hI0 hlim hheap rfl rfl h1 h2 hq
/-- 16 of them -/
theorem mw_rows {cA cI cc : ClassId} {kA kI : Class} (hkA : s.vm.classes[cA]? = some kA) (hA0 : kA.kind = .array cI (.array .int)) (hkI : s.vm.classes[cI]? = some kI) (hI0 : kI.kind = .array cc .int) (hl1 : ¬ 16 > e.platform.arrayLengthLimit) (hh1 : ¬ 16 * componentBytes (.array .int) > e.platform.maxHeapBytes) (hl2 : ¬ 31 > e.platform.arrayLengthLimit) (hh2 : ¬ 31 * componentBytes .int > e.platform.maxHeapBytes) (h1 : s.heap.size + 17 ≤ e.platform.maxCells) (h2 : s.slotsUsed + 512 ≤ e.platform.maxSlots) {Q : Addr → Pre} (hq : ∀ d' acts', Q s.heap.size d' acts' (mS s cA cI 16)) : wp (multianewarray.make cA [16, 31]) Q X e d acts s := by
  have hfind : (([31] : List Int32).find? (· < 0)) = none := by decide
  rw [multianewarray.make]
  simp only [wp_bind', W.ite, show ¬ (16 : Int32) < 0 by decide, if_false, wp_pure', W.theClass, hkA, hA0, Option.some.injEq, exists_eq_left']
  refine mw_new (len := 16) (init := .null) hkA hA0 hl1 hh1 rfl rfl (by omega) (by omega) ?_
  simp only [hfind]
  rw [ite_self, wp_bind', Std.Legacy.Range.forIn_eq_forIn_range']
  have hsz : ([:(16 : Int32).toNatClampNeg] : Std.Legacy.Range).size = 16 := by decide
  rw [hsz]
  show wp (forIn (List.range' 0 16 1) PUnit.unit _) _ X e d acts _
  refine wp_forIn_inv (fun rest s' => ∃ i, i ≤ 16 ∧ rest = List.range' i (16 - i) ∧ s' = mS s cA cI i) _ _ ⟨0, by omega, rfl, rfl⟩ ?_ ?_
  · rintro x rest s' d' acts' Q' ⟨i, hi, hl, rfl⟩ hnext
    have hlt : i < 16 := by
      rcases Nat.lt_or_ge i 16 with z | z
      · exact z
      · rw [show 16 - i = 0 by omega] at hl; cases hl
    rw [show 16 - i = (16 - (i + 1)) + 1 by omega, List.range'_succ] at hl
    have hx : x = i := (List.cons.inj hl).1
    have hrest := (List.cons.inj hl).2
    subst hx
    obtain ⟨f1, f2, f3, f4, f5, f6⟩ := mS_facts s cA cI x
    simp only [wp_bind']
    refine mw_row (by rw [f3]; exact hkI) hI0 hl2 hh2 (by rw [f1]; omega) (by rw [f4]; omega) ?_
    have hcell : ((mS s cA cI x).pushCell (mR cI)).heap[s.heap.size]? = some (arrV cA 16 (mO s.heap.size x)) := by
      show ((mS s cA cI x).heap.push _)[s.heap.size]? = _
      rw [Array.getElem?_push, if_neg (by omega)]; exact f2
    simp only [wp_bind', W.writeLoc, wp_pure']
    refine ⟨_, hcell, by (simp [arrV]), by (rw [arrV_size]; exact hlt), ?_, hnext _ _ _ ⟨x + 1, hlt, hrest, ?_⟩⟩
    · show State.fitsSlot _ cA .none x _ = true
      simp [State.fitsSlot, State.slotType?, f3, hkA, hA0, mw_fits (ty := .array .int) rfl (Or.inr ⟨_, rfl⟩)]
    · rw [f1, arrV_store, mO_s]; rfl
  · rintro s' d' acts' ⟨i, hi, hl, rfl⟩
    have h16 : i = 16 := by
      rcases Nat.lt_or_ge i 16 with z | z
      · rw [show 16 - i = (16 - (i + 1)) + 1 by omega, List.range'_succ] at hl; cases hl
      · omega
    subst h16
    simp only [wp_pure']
    exact hq _ _
end
section
variable {p : Program} {l : Launch} {e : Env} {R : Room} {s : State} {m : MethodId} {args : Array Value} {below : List Frame} {meth : Method} {c : Code} {H : Heap} {locs : List Loc} {cells slots : Nat} {Q : State → Prop}
theorem mw_W {cc : ByteArray} (hexec : p.tables.exec = Jvm.exec) (hb : c.code = cc) {own : String} {index : Nat} (hown : s.vm.findClass own = some m.cls) (hlink : (Cond.classLink own index ("[" ++ (FieldType.array .int).toString)).before args s = true) (hover : (Cond.arrayOver (.array .int)).before args s = true) (harr : (Cond.arrayClass .int).before args s = true) {g : JFrame} (hg : g.method = m) (hdg : decode cc g.pc = .ok (.multianewarray index 2, 4)) {rest : List Value} (hst : g.stack = .int 31 :: .int 16 :: rest) (hc1 : cells + 17 ≤ R.cells) (hs1 : slots + 512 ≤ R.slots)
    (kk : ∀ (cA cI : ClassId) (H1 : Heap), s.vm.findClass ("[" ++ (FieldType.array .int).toString) = some cA → s.vm.findClass (FieldType.array .int).toString = some cI → H1.size = H.size + 17 → (∀ q, q < H.size → H1[q]? = H[q]?) → H1[H.size]? = some (arrV cA 16 (mO H.size 16)) → (∀ j, j < 16 → H1[H.size + 1 + j]? = some (mR cI)) → W p l e R s m args below meth c H1 (locs ++ (List.range 16).map fun j => ⟨H.size, j⟩) (cells + 17) (slots + 512) Q { g with pc := g.pc + 4, stack := .ref H.size :: rest }) : W p l e R s m args below meth c H locs cells slots Q g := by
  intro T hT X
  subst hT; subst hb; subst hg
  have hpl : e.platform.magicAccessors = ({} : Platform).magicAccessors := by rw [X.admits.platform]
  obtain ⟨cI, cA, kA, hcI, -, hkA, hkindA, hnameA⟩ := arrayOverA_spec hover
  obtain ⟨cI2, kI, cc2, hcI2, hkI, hkindI⟩ := Cond.arrayClass_spec harr
  have eI : cI2 = cI := Option.some.inj (hcI2.symm.trans hcI)
  subst eI
  obtain ⟨c0, hfc0, hcl⟩ := Cond.classLink_spec hown hlink e.platform hpl
  cases hnameA.symm.trans hfc0
  obtain ⟨hg1, hw1, hr1⟩ := State.classEntry (e := e) X.warmed hcl
  generalize T.vm.noted g.method.cls index (.cls cA) = vm1 at hg1 hw1 hr1
  have hal : s.vm.Alike vm1 := hw1.alike
  obtain ⟨kA1, hkA1, heA⟩ := hal.2.2 _ _ hkA
  obtain ⟨kI1, hkI1, heI⟩ := hal.2.2 _ _ hkI
  have hA1 : kA1.kind = .array cI2 (.array .int) := by rw [heA]; exact hkindA
  have hI1 : kI1.kind = .array cc2 .int := by rw [heI]; exact hkindI
  have X1 := X.noted hw1
  obtain ⟨q1, q2⟩ := X.roomAbove hc1 hs1
  have XF := mS_stand X1 cA cI2 16
  obtain ⟨f1, f2, f3, f4, f5, f6⟩ := mS_facts (T.setVm vm1) cA cI2 16
  obtain ⟨t', a1, b1⟩ := kk cA cI2 (mS (T.setVm vm1) cA cI2 16).heap hnameA hcI f1 f5 f2 f6 (mS (T.setVm vm1) cA cI2 16) rfl XF
  refine ⟨t', ?_, b1⟩
  have hl1 : ¬ 16 > e.platform.arrayLengthLimit := by rw [Launch.admits_arrayLengthLimit X.admits]; omega
  have hl2 : ¬ 31 > e.platform.arrayLengthLimit := by rw [Launch.admits_arrayLengthLimit X.admits]; omega
  have hh1 : ¬ 16 * componentBytes (.array .int) > e.platform.maxHeapBytes := by
    rw [Launch.admits_maxHeapBytes X.admits]; show ¬ 16 * 4 > 536870912; omega
  have hh2 : ¬ 31 * componentBytes .int > e.platform.maxHeapBytes := by
    rw [Launch.admits_maxHeapBytes X.admits]; show ¬ 31 * 4 > 536870912; omega
  jvm_step X.here [hexec, hdg]
  simp only [multianewarray.sem, wp_bind', W.resolveClassAt_links (State.method?_setTop g X.here.top) hg1]
  rw [W.popN, if_neg (by decide)]
  refine ⟨g, State.topJava?_setTop' (s := T.setVm vm1) g X.here.top, [.int 16, .int 31], rest, rfl, hst, ?_⟩
  simp only [List.mapM_cons, List.mapM_nil, wp_bind', wp_pure']
  refine mw_rows (kA := kA1) (kI := kI1) (cI := cI2) (cc := cc2) hkA1 hA1 hkI1 hI1 hl1 hh1 hl2 hh2 (by show T.heap.size + 17 ≤ _; exact q1) (by show T.slotsUsed + 512 ≤ _; exact q2) (fun d' acts' => ?_)
  have eS : ((T.setTop g).setVm vm1).setTop { g with stack := rest } = (T.setVm vm1).setTop { g with stack := rest } := by
    show ((T.setVm vm1).setTop g).setTop _ = _
    rw [State.setTop_setTop]
  rw [eS, mS_top]
  simp only [wp_bind', W.mark, W.pushRef, State.topJava?_setTop' _ XF.here.top, Option.some.injEq, exists_eq_left', State.setTop_setTop, State.heap_setTop]
  intro acts
  simp [jvm, XF.here.top]
  exact a1
end
end MULTI
