/-! rows that the class alone needs: arrays of references made, rows copied -/
section ROWS2
variable {E : En} {M : Mi} {R : Room} {Q : Qg} {pc : Nat} {lv lv' : List (Nat × Value)} {st : List Value} {h : Hp} {cl sl : Nat}
theorem r_anew {idx kd N : Nat} {n : Int32} {C0 : String} (ht : (kd = 16 ∧ C0 = "NineLives$Port" ∧ Cond.arrayOver (.object C0) ∈ gws) ∨ (kd = 17 ∧ C0 = "NineLives$Text" ∧ Cond.arrayOver (.object C0) ∈ gws)) (hlk : Cond.classLink M.1.cls idx C0 ∈ gws) (hn : n = nI N) (hNm : N < 1000000) (hc1 : cl + 1 ≤ R.cells) (hs1 : sl + N ≤ R.slots) (hd : decode M.2.1 pc = .ok (.anewarray idx, 3)) (kk : Wp E M R Q (pc + 3) lv (.ref (eZ E + hN h) :: st) (hNew h (eZ E + hN h) kd N) (cl + 1) (sl + N)) : Wp E M R Q pc lv (.int n :: st) h cl sl := by
  intro p e s m ar bl me c C H lo ls hH hS hl
  obtain ⟨hx, hb, -, -, -, -, hown, hts, hKw, hz⟩ := id C
  have hk0 : hK (hNew h (eZ E + hN h) kd N) (eZ E + hN h) = kd := by show va_up _ _ _ _ = _; rw [va_up_self]
  have hl0 : hL (hNew h (eZ E + hN h) kd N) (eZ E + hN h) = N := by show va_up _ _ _ _ = _; rw [va_up_self]
  have hr0 : hR (hNew h (eZ E + hN h) kd N) (eZ E + hN h) = fun _ => none := by show va_up _ _ _ _ = _; rw [va_up_self]
  subst hn
  have h16 : 16 ≤ kd := by rcases ht with z | z <;> rw [z.1] <;> decide
  have hov : Cond.arrayOver (.object C0) ∈ gws := by rcases ht with z | z <;> exact z.2.2
  have hcl : s.vm.findClass ("[" ++ (FieldType.object C0).toString) = some (eC E kd) := by
    rcases ht with ⟨rfl, rfl, -⟩ | ⟨rfl, rfl, -⟩
    · obtain ⟨-, kA, comp, f2, f3, f4, f1⟩ := hKw.1.2 3 _ rfl
      exact f1
    · obtain ⟨-, kA, comp, f2, f3, f4, f1⟩ := hKw.1.2 4 _ rfl
      exact f1
  refine W.anew hx hb hown (hts _ hlk) (hts _ hov) rfl hd rfl (nI_pos (by omega)) (by rw [nI_clamp (by omega)]; omega) hc1 (by rw [nI_clamp (by omega)]; exact hs1) fun cA kA comp f1 f2 f3 f4 => ?_
  rw [nI_clamp (by omega)]
  have hcA : cA = eC E kd := Option.some.inj (f1.symm.trans hcl)
  subst hcA
  generalize hH1 : H.push ({ cls := eC E kd, slots := Array.replicate N .null, vm := .none } : Cell) = H1
  have z1 : H1.size = H.size + 1 := by rw [← hH1, Array.size_push]
  have e1 : H1[H.size]? = some (arrV (eC E kd) N (fun _ => .null)) := by rw [← hH1, Array.getElem?_push_size, ← arrV_new]
  have o1 : ∀ q : Nat, q < H.size → H1[q]? = H[q]? := fun q hq => by rw [← hH1, Array.getElem?_push, if_neg (Nat.ne_of_lt hq)]
  rw [show H.size = eZ E + hN h from hH.2] at e1 ⊢
  refine kk p e s m ar bl me c C H1 lo ls (hp_pushed hH rfl (fun b hb => hNew_other _ _ hb) ?_ (by rw [hH.2]; rw [hH.2] at z1; exact z1) (fun q hq => o1 q hq)) ⟨by have := hS.1; have := hH.2; omega, fun q g1 g2 => (o1 q (by have := hS.1; have := hH.2; omega)).trans (hS.2.1 q g1 g2), hS.2.2⟩ hl
  rw [hE_refs hk0 h16, hl0, hr0]
  show H1[eZ E + hN h]? = some (vp_cell _ _)
  rw [vp_cell_q]
  exact e1
theorem wRow_other (cy : Nat → ClassId) (h : Hp) {a b : Nat} {f : Nat → Int32} (hb : b ≠ a) : hE cy (wRow h a f) b = hE cy h b := by
  refine hE_other rfl rfl ?_ rfl rfl
  show va_up h.2.1 a f b = h.2.1 b
  exact va_up_ne _ _ hb
/-- what a copy of n from sp on to dp on is -/
def cpF (f g : Nat → Int32) (sp dp n : Nat) : Nat → Int32 := fun k => if dp ≤ k ∧ k < dp + n then f (sp + (k - dp)) else g k
theorem r_copy {idx a0 a len0 len1 sp dp n : Nat} {i0 i1 i2 : Int32} (ha0 : isR E h a0 13 len0) (ha : isR E h a 13 len1) (hlk : Cond.methodLink M.1.cls idx arraycopyName ∈ gws) (hnat : Cond.native arraycopyName ∈ gws) (hstat : Cond.static arraycopyName ∈ gws) (hini : Cond.initialized "java/lang/System" ∈ gws) (e0 : i0 = nI sp) (e1 : i1 = nI dp) (e2 : i2 = nI n) (h4 : sp + n ≤ len0) (h5 : dp + n ≤ len1) (hs0 : len0 < 2 ^ 31) (hs1 : len1 < 2 ^ 31) (hF : 1 ≤ R.frames) (hW : (st.map fun v => v.category).sum ≤ 8) (hLo : 8 + (nativeFrameWords "java/lang/System" "arraycopy" 5 + 11) ≤ R.locals) (hd : decode M.2.1 pc = .ok (.invokestatic idx, 3)) (kk : Wp E M R Q (pc + 3) lv st (wRow h a (cpF (hI h a0) (hI h a) sp dp n)) cl sl) : Wp E M R Q pc lv (.int i2 :: .int i1 :: .ref a :: .int i0 :: .ref a0 :: st) h cl sl := by
  subst e0; subst e1; subst e2
  intro p e s m ar bl me c C H lo ls hH hS hl
  obtain ⟨hx, hb, hml, -, -, -, hown, hts, hKw, hz⟩ := id C
  obtain ⟨q0, hq0⟩ := hW_at ha0.1 ha0.2.1
  obtain ⟨q1, hq1⟩ := hW_at ha.1 ha.2.1
  have hq1' := hq1
  rw [hE_int ha0.2.2.1, ha0.2.2.2] at hq0
  rw [hE_int ha.2.2.1, ha.2.2.2] at hq1
  have c1 : (nI sp).toNatClampNeg = sp := nI_clamp (by omega)
  have c2 : (nI dp).toNatClampNeg = dp := nI_clamp (by omega)
  have c3 : (nI n).toNatClampNeg = n := nI_clamp (by omega)
  have t1 : (nI sp).toInt = (sp : Int) := nI_toInt (by omega)
  have t2 : (nI dp).toInt = (dp : Int) := nI_toInt (by omega)
  have t3 : (nI n).toInt = (n : Int) := nI_toInt (by omega)
  intro T hT X
  have hc0 : H[a0]? = some (vp_cell (eC E 13) (len0, .inl (hI h a0))) := hH.1 q0 _ hq0
  have hc1 : H[a]? = some (vp_cell (eC E 13) (len1, .inl (hI h a))) := hH.1 q1 _ hq1
  obtain ⟨-, k0, hk0, cm0, hkk0⟩ := (hKw.1.2 0 _ rfl).1 len0 (fun j => .int (hI h a0 j))
  obtain ⟨-, k1, hk1, cm1, hkk1⟩ := (hKw.1.2 0 _ rfl).1 len1 (fun j => .int (hI h a j))
  obtain ⟨vm', X', step⟩ := X.arraycopy hx hown (hts _ hlk) (hts _ hnat) (hts _ hstat) (hts _ hini) (src := a0) (dst := a) (cs := vp_cell (eC E 13) (len0, .inl (hI h a0))) (cd := vp_cell (eC E 13) (len1, .inl (hI h a))) (srcPos := nI sp) (destPos := nI dp) (n := nI n) (by rw [hT]; exact hc0) (by rw [hT]; exact hc1)
    (fun _ h => by cases h) (fun _ h => by cases h) (fun h => by cases h) (fun h => by cases h) hk0 hk1 hkk0 hkk1 rfl (nI_pos (by omega)) (nI_pos (by omega)) (nI_pos (by omega))
    (by rw [t1, t3]; show ¬ _ > ((arrV (eC E 13) len0 (fun j => .int (hI h a0 j))).slots.size : Int); rw [arrV_size]; omega)
    (by rw [t2, t3]; show ¬ _ > ((arrV (eC E 13) len1 (fun j => .int (hI h a j))).slots.size : Int); rw [arrV_size]; omega)
    (fun vm1 _ i hi => by
      rw [c3] at hi
      have e : (vp_cell (eC E 13) (len0, .inl (hI h a0))).slots.getD ((nI sp).toNatClampNeg + i) .null = .int (hI h a0 (sp + i)) := by
        rw [c1]
        show (arrV (eC E 13) len0 (fun j => .int (hI h a0 j))).slots.getD _ _ = _
        rw [Array.getD_eq_getD_getElem?, arrV_read _ _ (by omega)]
        rfl
      refine ⟨?_, ?_⟩
      · rw [e]; rfl
      · rw [e]; exact trivial)
    (g := F0 m pc ls (.int (nI n) :: .int (nI dp) :: .ref a :: .int (nI sp) :: .ref a0 :: st)) rfl (by rw [hml]; exact hl.1) (rest := st) rfl (by rw [hb]; exact hd) hF (by show 2 * 0 + _ + _ ≤ _; omega)
  have ecp : copied (vp_cell (eC E 13) (len0, .inl (hI h a0))) (vp_cell (eC E 13) (len1, .inl (hI h a))) (nI sp) (nI dp) (nI n) = vp_cell (eC E 13) (len1, .inl (va_cpy (hI h a0) (hI h a) (nI sp).toNatClampNeg (nI dp).toNatClampNeg (nI n).toNatClampNeg)) := va_copied (fun z => .int z) _ _ _ _ (by rw [c1, c3]; exact h4)
  have ecf : va_cpy (hI h a0) (hI h a) (nI sp).toNatClampNeg (nI dp).toNatClampNeg (nI n).toNatClampNeg = cpF (hI h a0) (hI h a) sp dp n := by
    rw [c1, c2, c3]; rfl
  rw [ecp, ecf] at X' step
  have hlt : a < H.size := (Array.getElem?_eq_some_iff.mp hc1).1
  have hheap : ((T.setVm vm').setCell a (vp_cell (eC E 13) (len1, .inl (cpF (hI h a0) (hI h a) sp dp n)))).heap = H.setIfInBounds a (vp_cell (eC E 13) (len1, .inl (cpF (hI h a0) (hI h a) sp dp n))) := by rw [← hT]; rfl
  have oq : ∀ q : Nat, q ≠ a → (H.setIfInBounds a (vp_cell (eC E 13) (len1, .inl (cpF (hI h a0) (hI h a) sp dp n))))[q]? = H[q]? := fun q hq => by simp [Array.getElem?_setIfInBounds, Ne.symm hq]
  have hP1 := hH.1.set (hW_D E h) hq1' (e := hE (eC E) (wRow h a (cpF (hI h a0) (hI h a) sp dp n)) a) (H1 := H.setIfInBounds a (vp_cell (eC E 13) (len1, .inl (cpF (hI h a0) (hI h a) sp dp n)))) (by
    rw [hE_int (h := wRow h a (cpF (hI h a0) (hI h a) sp dp n)) ha.2.2.1]
    show (H.setIfInBounds a _)[a]? = some (vp_cell (eC E 13) (hL h a, .inl (va_up h.2.1 a _ a)))
    rw [va_up_self, ha.2.2.2]
    simp [Array.getElem?_setIfInBounds, hlt]) oq
  rw [hW_set (h' := wRow h a (cpF (hI h a0) (hI h a) sp dp n)) ha.1 ha.2.1 hq1' rfl (fun b hb => wRow_other _ _ hb)] at hP1
  obtain ⟨t, a1, b1⟩ := kk p e s m ar bl me c C _ _ ls ⟨hP1, by rw [Array.size_setIfInBounds]; exact hH.2⟩ ⟨by rw [Array.size_setIfInBounds]; exact hS.1, fun q g1 g2 => by
      rw [oq q (fun e => g2 (by rw [e]; exact ha.1))]
      exact hS.2.1 q g1 g2, fun q hq => by
      rcases List.mem_append.mp hq with h | h
      · exact hS.2.2 q h
      · obtain ⟨z, -, hz⟩ := List.mem_map.mp h
        rw [← hz]
        exact ha.1⟩ hl _ hheap X'
  exact ⟨t, step t a1, b1⟩
end ROWS2
