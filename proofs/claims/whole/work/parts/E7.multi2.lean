/-! rows of rows, in the layer -/
section MULTI2
variable {E : En} {h : Hp}
theorem hW_get {k : Nat} {q : Nat × va_E} (hk : (hW E h)[k]? = some q) : k < hN h ∧ q = (eZ E + k, hE (eC E) h (eZ E + k)) := by
  rw [hW, va_pl, List.getElem?_map] at hk
  cases hc : (List.range' (eZ E) (hN h))[k]? with
  | none => rw [hc] at hk; cases hk
  | some y =>
    rw [hc] at hk
    cases hk
    obtain ⟨h1, h2⟩ := List.getElem?_eq_some_iff.mp hc
    rw [List.getElem_range'] at h2
    rw [List.length_range'] at h1
    have e : y = eZ E + k := by omega
    subst e
    exact ⟨h1, rfl⟩
theorem hW_of {k : Nat} (hk : k < hN h) : (hW E h)[k]? = some (eZ E + k, hE (eC E) h (eZ E + k)) := by
  rw [hW, va_pl, List.getElem?_map]
  have e : (List.range' (eZ E) (hN h))[k]? = some (eZ E + k) := by
    rw [List.getElem?_range' (by omega), Nat.one_mul]
  rw [e]; rfl
theorem hp_many {h' : Hp} {H H1 : Heap} {c0 : Nat} (hH : hpOK E h H) (hn : hN h' = hN h + c0) (ho : ∀ k, k < hN h → hE (eC E) h' (eZ E + k) = hE (eC E) h (eZ E + k)) (e1 : ∀ k, hN h ≤ k → k < hN h + c0 → va_at (eD E) vwCl (eZ E + k, hE (eC E) h' (eZ E + k)) H1) (z1 : H1.size = H.size + c0) (oq : ∀ q, q < H.size → H1[q]? = H[q]?) : hpOK E h' H1 := by
  have hP0 : va_P (eD E) vwCl (hW E h) H1 := hH.1.kept (fun k q hk => oq q.1 ((hH.1 k q hk).lt))
  refine ⟨fun k q hk => ?_, by rw [z1, hH.2, hn]; omega⟩
  obtain ⟨h1, rfl⟩ := hW_get hk
  rcases Nat.lt_or_ge k (hN h) with z | z
  · rw [ho k z]; exact hP0 k _ (hW_of z)
  · exact e1 k z (by omega)
/-- the cells of 16 rows -/
def mLK (n : Nat) (LK : LkT) : Nat → LkT
  | 0 => (n, 18, 16) :: LK
  | i + 1 => (n + 1 + i, 13, 31) :: mLK n LK i
def mLR (n : Nat) (LR : LrT) : Nat → LrT
  | 0 => LR
  | i + 1 => (n, i, some (n + 1 + i)) :: mLR n LR i
variable {n o : Nat} {LK : LkT} {LI : LiT} {LJ : LjT} {LR : LrT}
theorem mLK_lo (ho : o < n) : ∀ i, lkK (mLK n LK i) o = lkK LK o
  | 0 => by show (if n = o then _ else _) = _; rw [if_neg (by omega)]
  | i + 1 => by show (if n + 1 + i = o then _ else lkK (mLK n LK i) o) = _; rw [if_neg (by omega)]; exact mLK_lo ho i
theorem mLK_at : ∀ i, lkK (mLK n LK i) n = (18, 16)
  | 0 => by show (if n = n then _ else _) = _; rw [if_pos rfl]
  | i + 1 => by show (if n + 1 + i = n then _ else lkK (mLK n LK i) n) = _; rw [if_neg (by omega)]; exact mLK_at i
theorem mLK_in {j : Nat} : ∀ i, j < i → lkK (mLK n LK i) (n + 1 + j) = (13, 31)
  | 0, hj => absurd hj (Nat.not_lt_zero _)
  | i + 1, hj => by
    show (if n + 1 + i = n + 1 + j then _ else lkK (mLK n LK i) (n + 1 + j)) = _
    by_cases z : j = i
    · rw [if_pos (by omega)]
    · rw [if_neg (by omega)]; exact mLK_in i (by omega)
theorem mLR_ne {k : Nat} (ho : o ≠ n) : ∀ i, lkV none (mLR n LR i) o k = lkV none LR o k
  | 0 => rfl
  | i + 1 => by
    show (if n = o ∧ i = k then _ else lkV none (mLR n LR i) o k) = _
    rw [if_neg (fun z => ho z.1.symm)]; exact mLR_ne ho i
theorem mLR_at {k : Nat} : ∀ i, k < i → lkV none (mLR n LR i) n k = some (n + 1 + k)
  | 0, hk => absurd hk (Nat.not_lt_zero _)
  | i + 1, hk => by
    show (if n = n ∧ i = k then some (n + 1 + i) else lkV none (mLR n LR i) n k) = _
    by_cases z : i = k
    · rw [if_pos ⟨rfl, z⟩, z]
    · rw [if_neg (fun w => z w.2)]; exact mLR_at i (by omega)
theorem arrV_cg {cI : ClassId} {N : Nat} {f g : Nat → Value} (hh : ∀ j, j < N → f j = g j) : arrV cI N f = arrV cI N g := by
  unfold arrV
  rw [show (fun j : Fin N => f j.val) = fun j : Fin N => g j.val from funext fun j => hh j.val j.isLt]
/-- arrays over rows of ints are known to be there -/
def AoI (E : En) : Prop := ∀ (U : State) (H : Heap) (args : Array Value), eK E U H → (Cond.arrayOver (.array .int)).before args U = true
variable {M : Mi} {R : Room} {Q : Qg} {pc : Nat} {lv : List (Nat × Value)} {st : List Value} {cl sl : Nat}
theorem b_multi {idx : Nat} (hov : AoI E) (hlk : Cond.classLink M.1.cls idx "[[I" ∈ gws) (fr : Fre n LI LJ LR) (hc1 : cl + 17 ≤ R.cells) (hs1 : sl + 512 ≤ R.slots) (hd : decode M.2.1 pc = .ok (.multianewarray idx 2, 4)) (kk : Wp E M R Q (pc + 4) lv (.ref (eZ E + n) :: st) (bL (eZ E) (n + 17) (mLK n LK 16) LI LJ (mLR n LR 16)) (cl + 17) (sl + 512)) : Wp E M R Q pc lv (.int 31 :: .int 16 :: st) (bL (eZ E) n LK LI LJ LR) cl sl := by
  intro p e s m ar bl me c C H lo ls hH hS hl
  obtain ⟨hx, hb, -, -, -, -, hown, hts, hKw, hz⟩ := id C
  have hsz : H.size = eZ E + n := hH.2
  have fI : s.vm.findClass (FieldType.array .int).toString = some (eC E 13) := (hKw.1.2 0 _ rfl).2
  have fA : s.vm.findClass ("[" ++ (FieldType.array .int).toString) = some (eC E 18) := (hKw.1.2 5 _ rfl).2
  refine mw_W hx hb hown (hts _ hlk) (hov _ _ _ hKw.2.2.1) (hts _ (gi1 132 (by decide +kernel) rfl)) rfl hd rfl hc1 hs1 (fun cA cI H1 g1 g2 g3 g4 g5 g6 => ?_)
  have ea : cA = eC E 18 := Option.some.inj (g1.symm.trans fA)
  have ei : cI = eC E 13 := Option.some.inj (g2.symm.trans fI)
  subst ea
  subst ei
  rw [hsz] at g5 g6 ⊢
  have hb0 : ∀ k : Nat, eZ E ≤ eZ E + k := fun k => Nat.le_add_right _ _
  refine kk p e s m ar bl me c C H1 _ ls (hp_many (c0 := 17) hH rfl (fun k hk => ?_) (fun k h1 h2 => ?_) g3 g4) ⟨by rw [g3]; have := hS.1; omega, fun q q1 q2 => (g4 q (Nat.lt_of_lt_of_le q1 hS.1)).trans (hS.2.1 q q1 q2), fun q hq => ?_⟩ hl
  · have hk : k < n := hk
    refine hE_other ?_ ?_ rfl rfl ?_
    · show (if eZ E ≤ eZ E + k then (lkK (mLK n LK 16) (eZ E + k - eZ E)).1 else 0) = if eZ E ≤ eZ E + k then (lkK LK (eZ E + k - eZ E)).1 else 0
      rw [Nat.add_sub_cancel_left, mLK_lo hk]
    · show (if eZ E ≤ eZ E + k then (lkK (mLK n LK 16) (eZ E + k - eZ E)).2 else 0) = if eZ E ≤ eZ E + k then (lkK LK (eZ E + k - eZ E)).2 else 0
      rw [Nat.add_sub_cancel_left, mLK_lo hk]
    · funext j
      rw [bL_R, bL_R, mLR_ne (by omega)]
  · have h1 : n ≤ k := h1
    have h2 : k < n + 17 := h2
    have aK : ∀ kd len, lkK (mLK n LK 16) k = (kd, len) → isR E (bL (eZ E) (n + 17) (mLK n LK 16) LI LJ (mLR n LR 16)) (eZ E + k) kd len := fun kd len w => Ar.A ⟨h2, w⟩
    by_cases hkn : k = n
    · subst hkn
      obtain ⟨-, -, w1, w2⟩ := aK 18 16 (mLK_at 16)
      rw [hE_refs w1 (by decide), w2]
      have e1 : arrV (eC E 18) 16 (mO (eZ E + k) 16) = arrV (eC E 18) 16 (fun j => va_rf (hR (bL (eZ E) (k + 17) (mLK k LK 16) LI LJ (mLR k LR 16)) (eZ E + k) j)) := arrV_cg (fun j hj => by
        rw [bL_R, mLR_at 16 hj]
        unfold mO
        rw [if_pos hj]
        show Value.ref (eZ E + k + 1 + j) = Value.ref (eZ E + (k + 1 + j))
        rw [show eZ E + k + 1 + j = eZ E + (k + 1 + j) by omega])
      show H1[eZ E + k]? = some (vp_cell _ _)
      rw [vp_cell_q, g5, e1]
    · obtain ⟨j, rfl⟩ : ∃ j, k = n + 1 + j := ⟨k - (n + 1), by omega⟩
      obtain ⟨-, -, w1, w2⟩ := aK 13 31 (mLK_in 16 (by omega))
      have e0 : hI (bL (eZ E) (n + 17) (mLK n LK 16) LI LJ (mLR n LR 16)) (eZ E + (n + 1 + j)) = fun _ => 0 := by
        funext i
        rw [bL_I, lkV_out (fun t ht => by have := fr.1 t ht; omega)]
      have g7 := g6 j (by omega)
      rw [show eZ E + n + 1 + j = eZ E + (n + 1 + j) by omega] at g7
      have e1 : va_at (eD E) vwCl (eZ E + (n + 1 + j), .inl (eC E 13, 31, .inl (fun _ => 0))) H1 := g7
      rw [hE_int w1, w2, e0]
      exact e1
  · rcases List.mem_append.mp hq with z | z
    · exact hS.2.2 q z
    · obtain ⟨j, -, rfl⟩ := List.mem_map.mp z
      exact Nat.le_add_right _ _
end MULTI2
