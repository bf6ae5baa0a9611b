/-! THE LAYER: a heap of plain functions, and a walk over it (Wp); one contract a method (Ct) -/
/-- what a heap is here: how many cells, the kind of each, the length of each array; ints, longs and references by address and place -/
abbrev Hp : Type := (Nat × (Nat → Nat) × (Nat → Nat)) × (Nat → Nat → Int32) × (Nat → Nat → Int64) × (Nat → Nat → Option Nat)
def hN (h : Hp) : Nat := h.1.1
def hK (h : Hp) : Nat → Nat := h.1.2.1
def hL (h : Hp) : Nat → Nat := h.1.2.2
def hI (h : Hp) : Nat → Nat → Int32 := h.2.1
def hJ (h : Hp) : Nat → Nat → Int64 := h.2.2.1
def hR (h : Hp) : Nat → Nat → Option Nat := h.2.2.2
def up2 {α : Type} (f : Nat → Nat → α) (a k : Nat) (v : α) : Nat → Nat → α := fun b j => if b = a ∧ j = k then v else f b j
def wI (h : Hp) (a k : Nat) (v : Int32) : Hp := (h.1, up2 h.2.1 a k v, h.2.2)
def wJ (h : Hp) (a k : Nat) (v : Int64) : Hp := (h.1, h.2.1, up2 h.2.2.1 a k v, h.2.2.2)
def wR (h : Hp) (a k : Nat) (v : Option Nat) : Hp := (h.1, h.2.1, h.2.2.1, up2 h.2.2.2 a k v)
/-- a whole row of ints written anew -/
def wRow (h : Hp) (a : Nat) (f : Nat → Int32) : Hp := (h.1, va_up h.2.1 a f, h.2.2)
/-- a new cell at a: its kind, its length; all of it 0 -/
def hNew (h : Hp) (a kd len : Nat) : Hp := ((h.1.1 + 1, va_up h.1.2.1 a kd, va_up h.1.2.2 a len), va_up h.2.1 a (fun _ => 0), va_up h.2.2.1 a (fun _ => 0), va_up h.2.2.2 a (fun _ => none))
/-- the fields' types by the class's number: 0 an int, 1 a long, 2 a reference -/
def ftt (s : String) : Nat := if s = "I" ∨ s = "Z" then 0 else if s = "J" then 1 else 2
def fty (ci : Nat) : List Nat := match vwCl[ci]? with
  | none => []
  | some q => (List.range q.2.2).map (fun k => ftt (q.2.1 k).2.2.1)
def mkV (h : Hp) (a t j : Nat) : Value := match t with
  | 0 => .int (hI h a j)
  | 1 => .long (hJ h a j)
  | _ => va_rf (hR h a j)
def mkF (h : Hp) (a : Nat) : List Nat → Nat → List Value
  | [], _ => []
  | t :: r, j => mkV h a t j :: mkF h a r (j + 1)
def hE (cy : Nat → ClassId) (h : Hp) (a : Nat) : va_E :=
  if hK h a < 13 then .inr (hK h a, mkF h a (fty (hK h a)) 0)
  else if hK h a = 14 then .inl (cy 14, hL h a, .inr (.inl (hJ h a)))
  else if 16 ≤ hK h a then .inl (cy (hK h a), hL h a, .inr (.inr (.inr (.inr (hR h a)))))
  else .inl (cy (hK h a), hL h a, .inl (hI h a))
/-- what doesn't change in a run: launch, classes' numbers, arrays' classes, the first address, what else is known of a state -/
abbrev En : Type := Launch × va_G × (Nat → ClassId) × Nat × (State → Heap → Prop)
abbrev eD (E : En) : va_G := E.2.1
abbrev eC (E : En) : Nat → ClassId := E.2.2.1
abbrev eZ (E : En) : Nat := E.2.2.2.1
abbrev eK (E : En) : State → Heap → Prop := E.2.2.2.2
abbrev eA (E : En) : Nat → Prop := fun q => eZ E ≤ q
def tyl (cy : Nat → ClassId) : List (ClassId × FieldType) := [(cy 13, .int), (cy 14, .long), (cy 15, .boolean), (cy 16, .object "NineLives$Port"), (cy 17, .object "NineLives$Text"), (cy 18, .array .int)]
def hW (E : En) (h : Hp) : va_W := va_pl (List.range' (eZ E) (hN h)) (hE (eC E) h)
def hpOK (E : En) (h : Hp) (H : Heap) : Prop := va_P (eD E) vwCl (hW E h) H ∧ H.size = eZ E + hN h
def nws : List Cond := [.methodLinkNest "NineLives$Port" 65 yX11_hasBit "NineLives", .methodLinkNest "NineLives$Doings" 85 yX11_isLife "NineLives", .methodLinkNest "NineLives$Doings" 91 yX11_hasBit "NineLives", .methodLinkNest "NineLives$Fortune" 46 yX11_hasBit "NineLives", .methodLinkNest "NineLives$Sight" 55 yX11_hasBit "NineLives", .methodLinkNest "NineLives$Fortune" 127 yX11_lowestOf "NineLives"]
def Clo (E : En) : Prop := ∀ (s U : State) (H H1 : Heap), eK E s H → s.WarmedH U.vm → (∀ q, q < eZ E → H1[q]? = H[q]?) → eK E U H1
def Kw (E : En) (U : State) (H : Heap) : Prop := va_K (eD E) vwCl (tyl (eC E)) U ∧ (∀ w ∈ nws, va_Nw w U) ∧ eK E U H ∧ Clo E
theorem Kw.moved {E : En} {s U : State} {H H1 : Heap} (h : Kw E s H) (hW : s.WarmedH U.vm) (hq : ∀ q, q < eZ E → H1[q]? = H[q]?) : Kw E U H1 := by
  obtain ⟨h1, h2, h3, h4⟩ := h
  refine ⟨va_K.moved hW.alike h1, fun w hw => ?_, h4 s U H H1 h3 hW hq, h4⟩
  have h5 := h2 w hw
  simp only [nws, List.mem_cons, List.not_mem_nil, or_false] at hw
  rcases hw with rfl | rfl | rfl | rfl | rfl | rfl <;> exact va_Nw.warmM hW h5
theorem hW_D (E : En) (h : Hp) : va_D (eA E) (hW E h) := by
  have key : ∀ (k : Nat) (q : Nat × va_E), (hW E h)[k]? = some q → q.1 = eZ E + k := by
    intro k q hk
    rw [hW, va_pl, List.getElem?_map] at hk
    cases hc : (List.range' (eZ E) (hN h))[k]? with
    | none => rw [hc] at hk; cases hk
    | some x =>
      rw [hc] at hk
      cases hk
      obtain ⟨h1, h2⟩ := List.getElem?_eq_some_iff.mp hc
      rw [List.getElem_range'] at h2
      show x = _
      omega
  exact ⟨fun i j p q hp hq hpq => by rw [key i p hp, key j q hq] at hpq; omega, fun k q hk => by show eZ E ≤ q.1; rw [key k q hk]; omega⟩
theorem hW_at {E : En} {h : Hp} {a : Nat} (h1 : eZ E ≤ a) (h2 : a < eZ E + hN h) : ∃ k : Nat, (hW E h)[k]? = some (a, hE (eC E) h a) := by
  have hm : a ∈ List.range' (eZ E) (hN h) := by rw [List.mem_range'_1]; exact ⟨h1, h2⟩
  obtain ⟨k, hk⟩ := va_pl_get (X := []) (f := hE (eC E) h) hm
  exact ⟨k, hk⟩
theorem hW_set {E : En} {h h' : Hp} {a k : Nat} (h1 : eZ E ≤ a) (h2 : a < eZ E + hN h) (hk : (hW E h)[k]? = some (a, hE (eC E) h a)) (hn : hN h' = hN h) (hh : ∀ b, b ≠ a → hE (eC E) h' b = hE (eC E) h b) : (hW E h).set k (a, hE (eC E) h' a) = hW E h' := by
  have hm : a ∈ List.range' (eZ E) (hN h) := by rw [List.mem_range'_1]; exact ⟨h1, h2⟩
  have h3 := va_pl_set (X := []) (e := hE (eC E) h' a) (hW_D E h) hm hk
  rw [hW, hW, hn]
  refine h3.trans ?_
  show va_pl _ _ = va_pl _ _
  refine va_pl_congr fun b => ?_
  by_cases hb : b = a
  · subst hb; simp [va_up]
  · simp [va_up, hb, hh b hb]
theorem hW_push {E : En} {h h' : Hp} (hn : hN h' = hN h + 1) (hh : ∀ b, b ≠ eZ E + hN h → hE (eC E) h' b = hE (eC E) h b) : hW E h ++ [(eZ E + hN h, hE (eC E) h' (eZ E + hN h))] = hW E h' := by
  have hm : (eZ E + hN h) ∉ List.range' (eZ E) (hN h) := by rw [List.mem_range'_1]; omega
  have h3 := va_pl_push (f := hE (eC E) h) (e := hE (eC E) h' (eZ E + hN h)) hm
  rw [hW, hW, hn, h3, List.range'_concat, Nat.one_mul]
  refine va_pl_congr fun b => ?_
  by_cases hb : b = eZ E + hN h
  · subst hb; simp [va_up]
  · simp [va_up, hb, hh b hb]
/-- an object of class ci at a; an array of kind kd and length len at a -/
def isA (E : En) (h : Hp) (a ci : Nat) : Prop := eZ E ≤ a ∧ a < eZ E + hN h ∧ hK h a = ci
def isR (E : En) (h : Hp) (a kd len : Nat) : Prop := eZ E ≤ a ∧ a < eZ E + hN h ∧ hK h a = kd ∧ hL h a = len
theorem mkF_len (h : Hp) (a : Nat) : ∀ (l : List Nat) (j : Nat), (mkF h a l j).length = l.length
  | [], _ => rfl
  | t :: r, j => by simp [mkF, mkF_len h a r (j + 1)]
theorem mkF_get (h : Hp) (a : Nat) : ∀ (l : List Nat) (j k t : Nat), l[k]? = some t → (mkF h a l j)[k]? = some (mkV h a t (j + k))
  | [], _, k, t, e => by simp at e
  | x :: r, j, 0, t, e => by simp at e; subst e; rfl
  | x :: r, j, k + 1, t, e => by
    rw [List.getElem?_cons_succ] at e
    show (mkF h a r (j + 1))[k]? = _
    rw [mkF_get h a r (j + 1) k t e, show j + 1 + k = j + (k + 1) by omega]
theorem mkF_set {h h' : Hp} {a : Nat} : ∀ (l : List Nat) (j k t : Nat), l[k]? = some t → (∀ i t', i ≠ j + k → mkV h' a t' i = mkV h a t' i ∨ l[i - j]? ≠ some t' ∨ i < j) → mkF h' a l j = (mkF h a l j).set k (mkV h' a t (j + k))
  | [], _, k, t, e, _ => by simp at e
  | x :: r, j, 0, t, e, hs => by
    simp at e; subst e
    show mkV h' a x j :: mkF h' a r (j + 1) = mkV h' a x (j + 0) :: mkF h a r (j + 1)
    congr 1
    have : ∀ (l : List Nat) (i : Nat), (∀ q t', l[q]? = some t' → mkV h' a t' (i + q) = mkV h a t' (i + q)) → mkF h' a l i = mkF h a l i := by
      intro l
      induction l with
      | nil => intro _ _; rfl
      | cons y l ih =>
        intro i hq
        show mkV h' a y i :: _ = mkV h a y i :: _
        rw [show mkV h' a y i = mkV h a y i from hq 0 y rfl, ih (i + 1) (fun q t' e => by rw [show i + 1 + q = i + (q + 1) by omega]; exact hq (q + 1) t' e)]
    refine this r (j + 1) (fun q t' e => ?_)
    rcases hs (j + 1 + q) t' (by omega) with h1 | h1 | h1
    · exact h1
    · exact absurd (by rw [show j + 1 + q - j = q + 1 by omega]; exact e) h1
    · omega
  | x :: r, j, k + 1, t, e, hs => by
    rw [List.getElem?_cons_succ] at e
    show mkV h' a x j :: mkF h' a r (j + 1) = mkV h a x j :: (mkF h a r (j + 1)).set k (mkV h' a t (j + (k + 1)))
    have e1 : mkV h' a x j = mkV h a x j := by
      rcases hs j x (by omega) with h1 | h1 | h1
      · exact h1
      · exact absurd (by rw [Nat.sub_self]; rfl) h1
      · omega
    rw [e1, mkF_set r (j + 1) k t e (fun i t' hi => by
      rcases hs i t' (by omega) with h1 | h1 | h1
      · exact Or.inl h1
      · by_cases hj : i < j + 1
        · exact Or.inr (Or.inr hj)
        · refine Or.inr (Or.inl ?_)
          rw [show i - j = (i - (j + 1)) + 1 by omega, List.getElem?_cons_succ] at h1
          exact h1
      · exact Or.inr (Or.inr (by omega))), show j + 1 + k = j + (k + 1) by omega]
theorem hE_obj {cy : Nat → ClassId} {h : Hp} {a ci : Nat} (hk : hK h a = ci) (hc : ci < 13) : hE cy h a = .inr (ci, mkF h a (fty ci) 0) := by
  subst hk; unfold hE; rw [if_pos hc]
theorem hE_int {cy : Nat → ClassId} {h : Hp} {a : Nat} (hk : hK h a = 13) : hE cy h a = .inl (cy 13, hL h a, .inl (hI h a)) := by
  unfold hE; rw [hk]; rfl
theorem hE_long {cy : Nat → ClassId} {h : Hp} {a : Nat} (hk : hK h a = 14) : hE cy h a = .inl (cy 14, hL h a, .inr (.inl (hJ h a))) := by
  unfold hE; rw [hk]; rfl
theorem hE_bool {cy : Nat → ClassId} {h : Hp} {a : Nat} (hk : hK h a = 15) : hE cy h a = .inl (cy 15, hL h a, .inl (hI h a)) := by
  unfold hE; rw [hk]; rfl
theorem hE_refs {cy : Nat → ClassId} {h : Hp} {a kd : Nat} (hk : hK h a = kd) (h16 : 16 ≤ kd) : hE cy h a = .inl (cy kd, hL h a, .inr (.inr (.inr (.inr (hR h a))))) := by
  unfold hE; rw [hk, if_neg (by omega), if_neg (by omega), if_pos h16]
theorem mkV_other {h h' : Hp} {a b : Nat} (h1 : hI h' b = hI h b) (h2 : hJ h' b = hJ h b) (h3 : hR h' b = hR h b) (t j : Nat) : mkV h' b t j = mkV h b t j := by
  unfold mkV; rw [h1, h2, h3]
theorem mkF_other {h h' : Hp} {b : Nat} (h1 : hI h' b = hI h b) (h2 : hJ h' b = hJ h b) (h3 : hR h' b = hR h b) : ∀ (l : List Nat) (j : Nat), mkF h' b l j = mkF h b l j
  | [], _ => rfl
  | t :: r, j => by
    show mkV h' b t j :: _ = mkV h b t j :: _
    rw [mkV_other (a := b) h1 h2 h3, mkF_other h1 h2 h3 r (j + 1)]
theorem hE_other {cy : Nat → ClassId} {h h' : Hp} {b : Nat} (hk : hK h' b = hK h b) (hl : hL h' b = hL h b) (h1 : hI h' b = hI h b) (h2 : hJ h' b = hJ h b) (h3 : hR h' b = hR h b) : hE cy h' b = hE cy h b := by
  unfold hE; rw [hk, hl, h1, h2, h3, mkF_other h1 h2 h3]
theorem up2_other {α : Type} {f : Nat → Nat → α} {a k b : Nat} {v : α} (hb : b ≠ a) : up2 f a k v b = f b := by
  funext j; simp [up2, hb]
theorem up2_same {α : Type} {f : Nat → Nat → α} {a k : Nat} {v : α} : up2 f a k v a = va_up (f a) k v := by
  funext j; simp [up2, va_up]
theorem up2_at {α : Type} {f : Nat → Nat → α} {a k : Nat} {v : α} : up2 f a k v a k = v := by simp [up2]
theorem wI_other (cy : Nat → ClassId) (h : Hp) {a k b : Nat} {v : Int32} (hb : b ≠ a) : hE cy (wI h a k v) b = hE cy h b := hE_other rfl rfl (up2_other hb) rfl rfl
theorem wJ_other (cy : Nat → ClassId) (h : Hp) {a k b : Nat} {v : Int64} (hb : b ≠ a) : hE cy (wJ h a k v) b = hE cy h b := hE_other rfl rfl rfl (up2_other hb) rfl
theorem wR_other (cy : Nat → ClassId) (h : Hp) {a k b : Nat} {v : Option Nat} (hb : b ≠ a) : hE cy (wR h a k v) b = hE cy h b := hE_other rfl rfl rfl rfl (up2_other hb)
theorem hNew_other (cy : Nat → ClassId) (h : Hp) {a kd len b : Nat} (hb : b ≠ a) : hE cy (hNew h a kd len) b = hE cy h b := by
  refine hE_other ?_ ?_ ?_ ?_ ?_ <;> simp [hNew, hK, hL, hI, hJ, hR, va_up, hb]
/-! the walk -/
abbrev Mi : Type := MethodName × ByteArray × Nat × Option FieldType
def Cx (E : En) (M : Mi) (p : Program) (s : State) (m : MethodId) (args : Array Value) (meth : Method) (c : Code) : Prop :=
  p.tables.exec = Jvm.exec ∧ c.code = M.2.1 ∧ c.maxLocals = M.2.2.1 ∧ meth.sig.returnType = M.2.2.2 ∧ meth.locks = false ∧ meth.name = M.1.name ∧ s.vm.findClass M.1.cls = some m.cls ∧ (∀ w ∈ gws, w.before args s = true) ∧ Kw E s s.heap ∧ eZ E ≤ s.heap.size
abbrev Qg : Type := List Frame → Array Value → State → State → Prop
def Wp (E : En) (M : Mi) (R : Room) (Q : Qg) (pc : Nat) (lv : List (Nat × Value)) (st : List Value) (h : Hp) (cl sl : Nat) : Prop :=
  ∀ (p : Program) (e : Env) (s : State) (m : MethodId) (args : Array Value) (below : List Frame) (meth : Method) (c : Code), Cx E M p s m args meth c → ∀ (H : Heap) (locs : List Loc) (ls : Array Slot), hpOK E h H → va_S (eA E) s.heap H locs → lv_has ls M.2.2.1 lv →
    W p E.1 e R s m args below meth c H locs cl sl (Q below args s) (F0 m pc ls st)
def Qc (E : En) (post : Option Value → Hp → Prop) : Array Value → State → Outcome → State → Prop := fun _ st oc t => (∃ (r : Option Value) (h' : Hp), oc = .returned r ∧ post r h' ∧ hpOK E h' t.heap) ∧ va_F (eA E) st t
def Qm (E : En) (post : Option Value → Hp → Prop) (mc ms : Nat) : Qg := fun below args s => MQ below (Qc E post) args s mc ms (eA E)
abbrev Rm (d mc ms : Nat) : Room := { frames := d, cells := mc, slots := ms, locals := 40 * d }
abbrev mW (M : Mi) : List Cond := .code M.1 M.2.1 M.2.2.1 M.2.2.2 :: gws
def Pm (E : En) (av : List Value) (h : Hp) : Array Value → State → Prop := va_Pc av (fun U => hpOK E h U.heap ∧ Kw E U U.heap)
/-- a contract: from this heap and these arguments the method returns, and so -/
def Ct (E : En) (d mc ms : Nat) (M : Mi) (av : List Value) (h : Hp) (post : Option Value → Hp → Prop) : Prop :=
  Met E.1 M.1 (mW M) (Rm d mc ms) (Pm E av h) (Qc E post) mc ms (eA E)
theorem Pm.blind (E : En) (av : List Value) (h : Hp) : FrameBlind (Pm E av h) := by
  intro a U g mk hp
  obtain ⟨h1, h2, h3⟩ := hp
  exact ⟨h1, h2, h3.moved (U := U.calling g mk a) (State.WarmedH.refl U) (fun _ _ => rfl)⟩
theorem Ct.of {E : En} {d mc ms : Nat} {M : Mi} {av : List Value} {h : Hp} {post : Option Value → Hp → Prop} (hy : plainName M.1.cls = true) (hn : (lg_sl av).length ≤ M.2.2.1)
    (k : Wp E M (Rm d mc ms) (Qm E post mc ms) 0 (lv_args 0 av) [] h 0 0) : Ct E d mc ms M av h post := by
  refine Met.ofW (cc := M.2.1) (maxL := M.2.2.1) (ret := M.2.2.2) hy rfl ?_
  intro p e s m args below meth c s₁ B hml hv
  obtain ⟨rfl, hP, hKw⟩ := hv
  have hts := atoms_spec (ws := mW M) B.pre
  have hl := lv_entry av (n := M.2.2.1) hn
  rw [lg_entry_eq]
  exact k p e s m _ below meth c ⟨B.exec, B.bytes, hml, B.returns, B.notSynchronized, (name_of_methodNamed B.named B.method).1, findClass_of_methodNamed B.named, fun w hw => hts w (List.mem_cons_of_mem _ hw), hKw, by rw [hP.2]; omega⟩ s.heap [] _ hP va_S.rf hl
